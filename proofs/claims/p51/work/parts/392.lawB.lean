theorem ft_tcell {ty : FieldType} {t N : Nat} {f : Nat → Value} {A : Nat → Prop} {s : State} {H : Heap} {locs : List Loc} (hT : va_T ty t N f A s s.heap) (hS : va_S A s.heap H locs) {i : Int32} (hin : vp_in i N) : ∃ cell : Cell, H[t]? = some cell ∧ s.isArrayOf cell ty ∧ cell.vm ≠ .unknown ∧ ¬ (i < 0 ∨ cell.slots.size ≤ i.toNatClampNeg) ∧ cell.slots[i.toNatClampNeg]? = some (f i.toNatClampNeg) := by
  obtain ⟨cell, h1, h2, h3, h4, h5, h6, h7⟩ := hT
  have hlt : i.toNatClampNeg < N := Nat.not_le.mp fun q => hin (Or.inr q)
  refine ⟨cell, by rw [hS.2.1 t (Array.getElem?_eq_some_iff.mp h1).1 h7]; exact h1, h2, h3, ?_, h6 _ hlt⟩
  intro q
  rcases q with q | q
  · exact hin (Or.inl q)
  · omega
theorem ft_y28 (x : Int32) : vp_in ((x &&& 65535) - (x &&& 65535) / 28 * 28) 28 := by
  obtain ⟨j, h1, h2⟩ := pk_andE x (m := 65535) 16 (by decide)
  refine pk_in (j % 28) 28 (Nat.mod_lt _ (by decide)) ?_
  rw [h2]
  exact pk_rem (a := j) (d := 28) (by omega) (by decide) (by decide)
def ft_QJ (J : ft_Sg → Prop) (D : va_G) (k : Nat → ClassId) (Z : Nat → Nat → Nat) (sz : ft_SZ) (a : Nat) (F : Int32 × ft_Sg) : Array Value → State → Outcome → State → Prop := va_Qi (fun (z : Int32) (u : ft_Sg) => (z, u) = F ∧ J u) (fun u t => ft_LW D k Z sz a u t.heap) (ft_AL sz)
def ft_QJr (J : ft_Sg → Prop) (D : va_G) (k : Nat → ClassId) (Z : Nat → Nat → Nat) (sz : ft_SZ) (a : Nat) (F : ft_Sg) : Array Value → State → Outcome → State → Prop := va_Qr (fun (u : ft_Sg) => u = F ∧ J u) (fun u b t => b = a ∧ ft_LW D k Z sz a u t.heap) (ft_AL sz)
theorem ft_scl : ∀ j, j < 28 → ft_scn.getD j 0 ≤ 25 := by decide
theorem ft_tb3 {j : Nat} (hj : j < 28) : ft_scn.getD j 0 < 2 ^ 31 := Nat.lt_of_le_of_lt (ft_scl j hj) (by decide)
theorem ft_tbn {j : Nat} (hj : j < 28) : tn (nI (ft_scn.getD j 0)) = ft_scn.getD j 0 := nI_clamp (ft_tb3 hj)
theorem ft_tb25 {j : Nat} (hj : j < 28) : tn (nI (ft_scn.getD j 0)) ≤ 25 := by rw [ft_tbn hj]; exact ft_scl j hj
theorem ft_tb2 {j i : Nat} {y : Int32} (hj : j < 28) (hi : y = nI i) (h : i + 1 ≤ tn (nI (ft_scn.getD j 0))) : y = nI (tn y) ∧ tn y < ft_scn.getD j 0 := by
  rw [ft_tbn hj] at h
  have h3 := ft_tb3 hj
  have e : tn y = i := by rw [hi]; exact nI_clamp (show i < 2 ^ 31 by omega)
  rw [e]
  exact ⟨hi, by omega⟩
theorem ft_scb : ∀ j, j < 28 → ∀ i, i < ft_scn.getD j 0 → 0 ≤ ft_ch ((ft_scy.getD j []).getD i 0) ∧ ft_ch ((ft_scy.getD j []).getD i 0) < 128 := by decide +kernel
def p_servedWithin (σ : ft_Sg) (x1 : Int32) : Int32 := match (l_servedWithin σ x1).1 with
  | .ok z => z
  | .error _ => 0
def p_renderDay (σ : ft_Sg) (x1 : Int32) : Int32 := match (l_renderDay σ x1).1 with
  | .ok z => z
  | .error _ => 0
def p_renderTruck (σ : ft_Sg) (x1 : Int32) : Int32 := match (l_renderTruck σ x1).1 with
  | .ok z => z
  | .error _ => 0
def p_outputAt (σ : ft_Sg) (x1 : Int32) : Int32 := match l_outputAt σ x1 with
  | .ok z => z
  | .error _ => 0
/-- a state that every changing call keeps, and what is known of it -/
def ft_JJ (J : ft_Sg → Prop) : Prop := (∀ σ, J σ → ∀ i, i < 8 → σ.2.1 i < 8) ∧
  (∀ σ, J σ → ft_ok259 σ.2.2.1 σ.2.2.2 60) ∧
  (∀ σ, J σ → ft_ok261 σ.2.2.1 σ.2.2.2 70) ∧
  (∀ σ, J σ → ∀ n, n < 15 → σ.2.2.2.2.2.1 n < 9) ∧
  (∀ (σ : ft_Sg), J σ → ∀ E, (l_addTruck σ ).1 = .error E → E ∈ ["java/lang/IllegalStateException"]) ∧
  (∀ (σ : ft_Sg), J σ → J (w_addTruck σ ).2) ∧
  (∀ (σ : ft_Sg) (x1 x2 x3 : Int32), J σ → ∀ E, (l_addStock σ x1 x2 x3).1 = .error E → E ∈ ["java/lang/IndexOutOfBoundsException", "java/lang/IllegalArgumentException", "java/lang/IllegalStateException"]) ∧
  (∀ (σ : ft_Sg) (x1 x2 x3 : Int32), J σ → J (w_addStock σ x1 x2 x3).2) ∧
  (∀ (σ : ft_Sg) (x1 x2 : Int32), J σ → ∀ E, (l_setPrice σ x1 x2).1 = .error E → E ∈ ["java/lang/IndexOutOfBoundsException", "java/lang/IllegalArgumentException"]) ∧
  (∀ (σ : ft_Sg) (x1 x2 : Int32), J σ → J (w_setPrice σ x1 x2).2) ∧
  (∀ (σ : ft_Sg) (x1 x2 : Int32), J σ → ∀ E, (l_grantPermit σ x1 x2).1 = .error E → E ∈ ["java/lang/IndexOutOfBoundsException", "java/lang/IllegalArgumentException", "java/lang/IllegalStateException"]) ∧
  (∀ (σ : ft_Sg) (x1 x2 : Int32), J σ → J (w_grantPermit σ x1 x2).2) ∧
  (∀ (σ : ft_Sg) (x1 x2 : Int32), J σ → ∀ E, (l_revokePermit σ x1 x2).1 = .error E → E ∈ ["java/lang/IndexOutOfBoundsException", "java/lang/IllegalArgumentException", "java/lang/IllegalStateException"]) ∧
  (∀ (σ : ft_Sg) (x1 x2 : Int32), J σ → J (w_revokePermit σ x1 x2).2) ∧
  (∀ (σ : ft_Sg) (x1 x2 x3 : Int32), J σ → ∀ E, (l_assign σ x1 x2 x3).1 = .error E → E ∈ ["java/lang/IndexOutOfBoundsException", "java/lang/IllegalArgumentException", "java/lang/UnsupportedOperationException", "java/lang/IllegalStateException"]) ∧
  (∀ (σ : ft_Sg) (x1 x2 x3 : Int32), J σ → J (w_assign σ x1 x2 x3).2) ∧
  (∀ (σ : ft_Sg) (x1 x2 : Int32), J σ → ∀ E, (l_release σ x1 x2).1 = .error E → E ∈ ["java/lang/IndexOutOfBoundsException", "java/lang/IllegalArgumentException", "java/util/NoSuchElementException"]) ∧
  (∀ (σ : ft_Sg) (x1 x2 : Int32), J σ → J (w_release σ x1 x2).2) ∧
  (∀ (σ : ft_Sg) (x1 : Int32), J σ → ∀ E, (l_setWeather σ x1).1 = .error E → E ∈ ["java/lang/IllegalArgumentException"]) ∧
  (∀ (σ : ft_Sg) (x1 : Int32), J σ → J (w_setWeather σ x1).2) ∧
  (∀ (σ : ft_Sg) (x1 : Int32), J σ → ∀ E, (l_advance σ x1).1 = .error E → E ∈ ["java/lang/IllegalArgumentException"]) ∧
  (∀ (σ : ft_Sg) (x1 : Int32), J σ → J (w_advance σ x1).2) ∧
  (∀ (σ : ft_Sg), J σ → ∀ E, (l_runScript σ ).1 = .error E → E ∈ ["java/lang/IllegalArgumentException", "java/lang/IllegalStateException"]) ∧
  (∀ (σ : ft_Sg), J σ → J (w_runScript σ ).2) ∧
  (∀ (σ : ft_Sg), J σ → ∀ E, (l_undo σ ).1 = .error E → E ∈ ["java/util/NoSuchElementException"]) ∧
  (∀ (σ : ft_Sg), J σ → J (w_undo σ ).2) ∧
  (∀ (σ : ft_Sg), J σ → ∀ E, (l_restore σ ).1 = .error E → E ∈ ["java/lang/IllegalStateException"]) ∧
  (∀ (σ : ft_Sg), J σ → J (w_restore σ ).2) ∧
  (∀ (σ : ft_Sg) (x1 : Int32), J σ → ∀ E, (l_type σ x1).1 = .error E → E ∈ ["java/lang/IllegalStateException"]) ∧
  (∀ (σ : ft_Sg) (x1 : Int32), 0 ≤ x1 → x1 < 128 → J σ → J (w_put σ x1).2) ∧
  (∀ (σ : ft_Sg), J σ → J (l_save σ ).2) ∧
  (∀ (σ : ft_Sg) (x1 : Int32), J σ → J (l_servedWithin σ x1).2) ∧
  (∀ (σ : ft_Sg) (x1 : Int32), J σ → J (l_renderDay σ x1).2) ∧
  (∀ (σ : ft_Sg) (x1 : Int32), J σ → J (l_renderTruck σ x1).2) ∧
  (∀ σ, J σ → tn (l_truckCount σ) ≤ 6) ∧
  (∀ σ, J σ → ∀ (y : Int32) (i : Nat), y = nI i → i + 1 ≤ tn (l_truckCount σ) → ¬ s_X4_isTruck (σ.1 0) y = 0) ∧
  (∀ σ, J σ → ∀ (y : Int32) (i : Nat), y = nI i → i + 1 ≤ tn (l_truckCount σ) → tn (p_queueLength σ y) ≤ 9) ∧
  (∀ σ, J σ → ∀ (y z : Int32) (i j : Nat), y = nI i → i + 1 ≤ tn (l_truckCount σ) → z = nI j → j + 1 ≤ tn (p_queueLength σ y) → ¬ s_X6_wishAt (σ.1 0) (51 + 17 * tn y) z = -1) ∧
  (∀ (σ : ft_Sg) (y x : Int32), J σ → s_X4_holderOf (σ.1 0) y x = -1 ∨ (¬ s_X4_holderOf (σ.1 0) y x < 0 ∧ tn (s_X4_holderOf (σ.1 0) y x) < 10)) ∧
  (∀ (σ : ft_Sg) (x : Int32), J σ → ¬ s_X7_isWeekday x = 0 → (l_renderDay σ x).1 = .ok (p_renderDay σ x)) ∧
  (∀ (σ : ft_Sg) (x y : Int32) (i : Nat), J σ → ¬ s_X7_isWeekday x = 0 → p_renderDay σ x = 5 → y = nI i → i + 1 ≤ 5 → l_outputAt (l_renderDay σ x).2 y = .ok (p_outputAt (l_renderDay σ x).2 y)) ∧
  (∀ (σ : ft_Sg) (y x : Int32), J σ → ¬ w_truckAt σ y x = -1000 → ¬ s_X4_isTruck (σ.1 0) (w_truckAt σ y x) = 0) ∧
  (∀ (σ : ft_Sg) (y x : Int32), J σ → ¬ w_truckAt σ y x = -1000 → l_pitchOf σ (w_truckAt σ y x) x = .ok (p_pitchOf σ (w_truckAt σ y x) x)) ∧
  (∀ (σ : ft_Sg) (y : Int32) (i : Nat), J σ → y = nI i → i + 1 ≤ tn (l_truckCount σ) → ¬ s_X4_isTruck (σ.1 0) (w_truckByCoins σ y) = 0)
theorem ft_JJ.pm {J : ft_Sg → Prop} (h : ft_JJ J) : ∀ σ, J σ → ∀ i, i < 8 → σ.2.1 i < 8 := h.1
theorem ft_JJ.ok9 {J : ft_Sg → Prop} (h : ft_JJ J) : ∀ σ, J σ → ft_ok259 σ.2.2.1 σ.2.2.2 60 := h.2.1
theorem ft_JJ.ok1 {J : ft_Sg → Prop} (h : ft_JJ J) : ∀ σ, J σ → ft_ok261 σ.2.2.1 σ.2.2.2 70 := h.2.2.1
theorem ft_JJ.g9 {J : ft_Sg → Prop} (h : ft_JJ J) : ∀ σ, J σ → ∀ n, n < 15 → σ.2.2.2.2.2.1 n < 9 := h.2.2.2.1
theorem ft_JJ.ex_addTruck {J : ft_Sg → Prop} (h : ft_JJ J) : ∀ (σ : ft_Sg), J σ → ∀ E, (l_addTruck σ ).1 = .error E → E ∈ ["java/lang/IllegalStateException"] := h.2.2.2.2.1
theorem ft_JJ.k_addTruck {J : ft_Sg → Prop} (h : ft_JJ J) : ∀ (σ : ft_Sg), J σ → J (w_addTruck σ ).2 := h.2.2.2.2.2.1
theorem ft_JJ.ex_addStock {J : ft_Sg → Prop} (h : ft_JJ J) : ∀ (σ : ft_Sg) (x1 x2 x3 : Int32), J σ → ∀ E, (l_addStock σ x1 x2 x3).1 = .error E → E ∈ ["java/lang/IndexOutOfBoundsException", "java/lang/IllegalArgumentException", "java/lang/IllegalStateException"] := h.2.2.2.2.2.2.1
theorem ft_JJ.k_addStock {J : ft_Sg → Prop} (h : ft_JJ J) : ∀ (σ : ft_Sg) (x1 x2 x3 : Int32), J σ → J (w_addStock σ x1 x2 x3).2 := h.2.2.2.2.2.2.2.1
theorem ft_JJ.ex_setPrice {J : ft_Sg → Prop} (h : ft_JJ J) : ∀ (σ : ft_Sg) (x1 x2 : Int32), J σ → ∀ E, (l_setPrice σ x1 x2).1 = .error E → E ∈ ["java/lang/IndexOutOfBoundsException", "java/lang/IllegalArgumentException"] := h.2.2.2.2.2.2.2.2.1
theorem ft_JJ.k_setPrice {J : ft_Sg → Prop} (h : ft_JJ J) : ∀ (σ : ft_Sg) (x1 x2 : Int32), J σ → J (w_setPrice σ x1 x2).2 := h.2.2.2.2.2.2.2.2.2.1
theorem ft_JJ.ex_grantPermit {J : ft_Sg → Prop} (h : ft_JJ J) : ∀ (σ : ft_Sg) (x1 x2 : Int32), J σ → ∀ E, (l_grantPermit σ x1 x2).1 = .error E → E ∈ ["java/lang/IndexOutOfBoundsException", "java/lang/IllegalArgumentException", "java/lang/IllegalStateException"] := h.2.2.2.2.2.2.2.2.2.2.1
theorem ft_JJ.k_grantPermit {J : ft_Sg → Prop} (h : ft_JJ J) : ∀ (σ : ft_Sg) (x1 x2 : Int32), J σ → J (w_grantPermit σ x1 x2).2 := h.2.2.2.2.2.2.2.2.2.2.2.1
theorem ft_JJ.ex_revokePermit {J : ft_Sg → Prop} (h : ft_JJ J) : ∀ (σ : ft_Sg) (x1 x2 : Int32), J σ → ∀ E, (l_revokePermit σ x1 x2).1 = .error E → E ∈ ["java/lang/IndexOutOfBoundsException", "java/lang/IllegalArgumentException", "java/lang/IllegalStateException"] := h.2.2.2.2.2.2.2.2.2.2.2.2.1
theorem ft_JJ.k_revokePermit {J : ft_Sg → Prop} (h : ft_JJ J) : ∀ (σ : ft_Sg) (x1 x2 : Int32), J σ → J (w_revokePermit σ x1 x2).2 := h.2.2.2.2.2.2.2.2.2.2.2.2.2.1
theorem ft_JJ.ex_assign {J : ft_Sg → Prop} (h : ft_JJ J) : ∀ (σ : ft_Sg) (x1 x2 x3 : Int32), J σ → ∀ E, (l_assign σ x1 x2 x3).1 = .error E → E ∈ ["java/lang/IndexOutOfBoundsException", "java/lang/IllegalArgumentException", "java/lang/UnsupportedOperationException", "java/lang/IllegalStateException"] := h.2.2.2.2.2.2.2.2.2.2.2.2.2.2.1
theorem ft_JJ.k_assign {J : ft_Sg → Prop} (h : ft_JJ J) : ∀ (σ : ft_Sg) (x1 x2 x3 : Int32), J σ → J (w_assign σ x1 x2 x3).2 := h.2.2.2.2.2.2.2.2.2.2.2.2.2.2.2.1
theorem ft_JJ.ex_release {J : ft_Sg → Prop} (h : ft_JJ J) : ∀ (σ : ft_Sg) (x1 x2 : Int32), J σ → ∀ E, (l_release σ x1 x2).1 = .error E → E ∈ ["java/lang/IndexOutOfBoundsException", "java/lang/IllegalArgumentException", "java/util/NoSuchElementException"] := h.2.2.2.2.2.2.2.2.2.2.2.2.2.2.2.2.1
theorem ft_JJ.k_release {J : ft_Sg → Prop} (h : ft_JJ J) : ∀ (σ : ft_Sg) (x1 x2 : Int32), J σ → J (w_release σ x1 x2).2 := h.2.2.2.2.2.2.2.2.2.2.2.2.2.2.2.2.2.1
theorem ft_JJ.ex_setWeather {J : ft_Sg → Prop} (h : ft_JJ J) : ∀ (σ : ft_Sg) (x1 : Int32), J σ → ∀ E, (l_setWeather σ x1).1 = .error E → E ∈ ["java/lang/IllegalArgumentException"] := h.2.2.2.2.2.2.2.2.2.2.2.2.2.2.2.2.2.2.1
theorem ft_JJ.k_setWeather {J : ft_Sg → Prop} (h : ft_JJ J) : ∀ (σ : ft_Sg) (x1 : Int32), J σ → J (w_setWeather σ x1).2 := h.2.2.2.2.2.2.2.2.2.2.2.2.2.2.2.2.2.2.2.1
theorem ft_JJ.ex_advance {J : ft_Sg → Prop} (h : ft_JJ J) : ∀ (σ : ft_Sg) (x1 : Int32), J σ → ∀ E, (l_advance σ x1).1 = .error E → E ∈ ["java/lang/IllegalArgumentException"] := h.2.2.2.2.2.2.2.2.2.2.2.2.2.2.2.2.2.2.2.2.1
theorem ft_JJ.k_advance {J : ft_Sg → Prop} (h : ft_JJ J) : ∀ (σ : ft_Sg) (x1 : Int32), J σ → J (w_advance σ x1).2 := h.2.2.2.2.2.2.2.2.2.2.2.2.2.2.2.2.2.2.2.2.2.1
theorem ft_JJ.ex_runScript {J : ft_Sg → Prop} (h : ft_JJ J) : ∀ (σ : ft_Sg), J σ → ∀ E, (l_runScript σ ).1 = .error E → E ∈ ["java/lang/IllegalArgumentException", "java/lang/IllegalStateException"] := h.2.2.2.2.2.2.2.2.2.2.2.2.2.2.2.2.2.2.2.2.2.2.1
theorem ft_JJ.k_runScript {J : ft_Sg → Prop} (h : ft_JJ J) : ∀ (σ : ft_Sg), J σ → J (w_runScript σ ).2 := h.2.2.2.2.2.2.2.2.2.2.2.2.2.2.2.2.2.2.2.2.2.2.2.1
theorem ft_JJ.ex_undo {J : ft_Sg → Prop} (h : ft_JJ J) : ∀ (σ : ft_Sg), J σ → ∀ E, (l_undo σ ).1 = .error E → E ∈ ["java/util/NoSuchElementException"] := h.2.2.2.2.2.2.2.2.2.2.2.2.2.2.2.2.2.2.2.2.2.2.2.2.1
theorem ft_JJ.k_undo {J : ft_Sg → Prop} (h : ft_JJ J) : ∀ (σ : ft_Sg), J σ → J (w_undo σ ).2 := h.2.2.2.2.2.2.2.2.2.2.2.2.2.2.2.2.2.2.2.2.2.2.2.2.2.1
theorem ft_JJ.ex_restore {J : ft_Sg → Prop} (h : ft_JJ J) : ∀ (σ : ft_Sg), J σ → ∀ E, (l_restore σ ).1 = .error E → E ∈ ["java/lang/IllegalStateException"] := h.2.2.2.2.2.2.2.2.2.2.2.2.2.2.2.2.2.2.2.2.2.2.2.2.2.2.1
theorem ft_JJ.k_restore {J : ft_Sg → Prop} (h : ft_JJ J) : ∀ (σ : ft_Sg), J σ → J (w_restore σ ).2 := h.2.2.2.2.2.2.2.2.2.2.2.2.2.2.2.2.2.2.2.2.2.2.2.2.2.2.2.1
theorem ft_JJ.ex_put {J : ft_Sg → Prop} (h : ft_JJ J) : ∀ (σ : ft_Sg) (x1 : Int32), J σ → ∀ E, (l_type σ x1).1 = .error E → E ∈ ["java/lang/IllegalStateException"] := h.2.2.2.2.2.2.2.2.2.2.2.2.2.2.2.2.2.2.2.2.2.2.2.2.2.2.2.2.1
theorem ft_JJ.k_put {J : ft_Sg → Prop} (h : ft_JJ J) : ∀ (σ : ft_Sg) (x1 : Int32), 0 ≤ x1 → x1 < 128 → J σ → J (w_put σ x1).2 := h.2.2.2.2.2.2.2.2.2.2.2.2.2.2.2.2.2.2.2.2.2.2.2.2.2.2.2.2.2.1
theorem ft_JJ.k_save {J : ft_Sg → Prop} (h : ft_JJ J) : ∀ (σ : ft_Sg), J σ → J (l_save σ ).2 := h.2.2.2.2.2.2.2.2.2.2.2.2.2.2.2.2.2.2.2.2.2.2.2.2.2.2.2.2.2.2.1
theorem ft_JJ.k_servedWithin {J : ft_Sg → Prop} (h : ft_JJ J) : ∀ (σ : ft_Sg) (x1 : Int32), J σ → J (l_servedWithin σ x1).2 := h.2.2.2.2.2.2.2.2.2.2.2.2.2.2.2.2.2.2.2.2.2.2.2.2.2.2.2.2.2.2.2.1
theorem ft_JJ.k_renderDay {J : ft_Sg → Prop} (h : ft_JJ J) : ∀ (σ : ft_Sg) (x1 : Int32), J σ → J (l_renderDay σ x1).2 := h.2.2.2.2.2.2.2.2.2.2.2.2.2.2.2.2.2.2.2.2.2.2.2.2.2.2.2.2.2.2.2.2.1
theorem ft_JJ.k_renderTruck {J : ft_Sg → Prop} (h : ft_JJ J) : ∀ (σ : ft_Sg) (x1 : Int32), J σ → J (l_renderTruck σ x1).2 := h.2.2.2.2.2.2.2.2.2.2.2.2.2.2.2.2.2.2.2.2.2.2.2.2.2.2.2.2.2.2.2.2.2.1
theorem ft_JJ.dN {J : ft_Sg → Prop} (h : ft_JJ J) : ∀ σ, J σ → tn (l_truckCount σ) ≤ 6 := h.2.2.2.2.2.2.2.2.2.2.2.2.2.2.2.2.2.2.2.2.2.2.2.2.2.2.2.2.2.2.2.2.2.2.1
theorem ft_JJ.dT {J : ft_Sg → Prop} (h : ft_JJ J) : ∀ σ, J σ → ∀ (y : Int32) (i : Nat), y = nI i → i + 1 ≤ tn (l_truckCount σ) → ¬ s_X4_isTruck (σ.1 0) y = 0 := h.2.2.2.2.2.2.2.2.2.2.2.2.2.2.2.2.2.2.2.2.2.2.2.2.2.2.2.2.2.2.2.2.2.2.2.1
theorem ft_JJ.dQ {J : ft_Sg → Prop} (h : ft_JJ J) : ∀ σ, J σ → ∀ (y : Int32) (i : Nat), y = nI i → i + 1 ≤ tn (l_truckCount σ) → tn (p_queueLength σ y) ≤ 9 := h.2.2.2.2.2.2.2.2.2.2.2.2.2.2.2.2.2.2.2.2.2.2.2.2.2.2.2.2.2.2.2.2.2.2.2.2.1
theorem ft_JJ.dW {J : ft_Sg → Prop} (h : ft_JJ J) : ∀ σ, J σ → ∀ (y z : Int32) (i j : Nat), y = nI i → i + 1 ≤ tn (l_truckCount σ) → z = nI j → j + 1 ≤ tn (p_queueLength σ y) → ¬ s_X6_wishAt (σ.1 0) (51 + 17 * tn y) z = -1 := h.2.2.2.2.2.2.2.2.2.2.2.2.2.2.2.2.2.2.2.2.2.2.2.2.2.2.2.2.2.2.2.2.2.2.2.2.2.1
theorem ft_JJ.hH {J : ft_Sg → Prop} (h : ft_JJ J) : ∀ (σ : ft_Sg) (y x : Int32), J σ → s_X4_holderOf (σ.1 0) y x = -1 ∨ (¬ s_X4_holderOf (σ.1 0) y x < 0 ∧ tn (s_X4_holderOf (σ.1 0) y x) < 10) := h.2.2.2.2.2.2.2.2.2.2.2.2.2.2.2.2.2.2.2.2.2.2.2.2.2.2.2.2.2.2.2.2.2.2.2.2.2.2.1
theorem ft_JJ.o_renderDay {J : ft_Sg → Prop} (h : ft_JJ J) : ∀ (σ : ft_Sg) (x : Int32), J σ → ¬ s_X7_isWeekday x = 0 → (l_renderDay σ x).1 = .ok (p_renderDay σ x) := h.2.2.2.2.2.2.2.2.2.2.2.2.2.2.2.2.2.2.2.2.2.2.2.2.2.2.2.2.2.2.2.2.2.2.2.2.2.2.2.1
theorem ft_JJ.o_outputAt {J : ft_Sg → Prop} (h : ft_JJ J) : ∀ (σ : ft_Sg) (x y : Int32) (i : Nat), J σ → ¬ s_X7_isWeekday x = 0 → p_renderDay σ x = 5 → y = nI i → i + 1 ≤ 5 → l_outputAt (l_renderDay σ x).2 y = .ok (p_outputAt (l_renderDay σ x).2 y) := h.2.2.2.2.2.2.2.2.2.2.2.2.2.2.2.2.2.2.2.2.2.2.2.2.2.2.2.2.2.2.2.2.2.2.2.2.2.2.2.2.1
theorem ft_JJ.o_tA {J : ft_Sg → Prop} (h : ft_JJ J) : ∀ (σ : ft_Sg) (y x : Int32), J σ → ¬ w_truckAt σ y x = -1000 → ¬ s_X4_isTruck (σ.1 0) (w_truckAt σ y x) = 0 := h.2.2.2.2.2.2.2.2.2.2.2.2.2.2.2.2.2.2.2.2.2.2.2.2.2.2.2.2.2.2.2.2.2.2.2.2.2.2.2.2.2.1
theorem ft_JJ.o_pitchOf {J : ft_Sg → Prop} (h : ft_JJ J) : ∀ (σ : ft_Sg) (y x : Int32), J σ → ¬ w_truckAt σ y x = -1000 → l_pitchOf σ (w_truckAt σ y x) x = .ok (p_pitchOf σ (w_truckAt σ y x) x) := h.2.2.2.2.2.2.2.2.2.2.2.2.2.2.2.2.2.2.2.2.2.2.2.2.2.2.2.2.2.2.2.2.2.2.2.2.2.2.2.2.2.2.1
theorem ft_JJ.o_tB {J : ft_Sg → Prop} (h : ft_JJ J) : ∀ (σ : ft_Sg) (y : Int32) (i : Nat), J σ → y = nI i → i + 1 ≤ tn (l_truckCount σ) → ¬ s_X4_isTruck (σ.1 0) (w_truckByCoins σ y) = 0 := h.2.2.2.2.2.2.2.2.2.2.2.2.2.2.2.2.2.2.2.2.2.2.2.2.2.2.2.2.2.2.2.2.2.2.2.2.2.2.2.2.2.2.2
theorem ft_step6 {v bnd : Int32} {i : Nat} (hi : v = nI i) (hm : i ≤ tn (6 : Int32)) (h : ¬ bnd ≤ v) (hb : tn bnd ≤ 6) : i + 1 ≤ tn bnd ∧ i + 1 ≤ tn (6 : Int32) := by
  have h6 : tn (6 : Int32) = 6 := rfl
  have h1 := ft_nle h
  rw [hi, Int32.lt_iff_toInt_lt, nI_toInt (show i < 2 ^ 31 by omega)] at h1
  have h2 : tn bnd = bnd.toInt.toNat := rfl
  omega
theorem ft_ok1c {o : Nat → Int32} {g : ft_G} (h : ft_ok261 o g 70) : o 7 ≤ nI g.2.1.1 ∧ g.2.1.1 < 2 ^ 31 := by
  obtain ⟨⟨c, h1, h2, h3⟩, h4, -⟩ := h
  have h5 : g.2.1.1 < 2 ^ 31 := by omega
  exact ⟨by rw [h2, nI_leI (by omega) h5]; exact h3, h5⟩
def s_L_write_L2 (σ : ft_Sg) (j : Nat) (K : Int32 → ft_Sg → (ft_Sg)) : Nat → Int32 → ft_Sg → (ft_Sg)
  | 0, y2_2, σ2 => K y2_2 σ2
  | n + 1, y2_2, σ2 => if (nI (ft_scn.getD j 0)) ≤ y2_2 then (K y2_2 σ2) else (s_L_write_L2 σ j K n (y2_2 + 1) ((w_put σ2 (ft_ch ((ft_scy.getD j []).getD (tn y2_2) 0))).2))
def s_L_write (σ : ft_Sg) (j : Nat) : ft_Sg := s_L_write_L2 σ j (fun y2_2 σ2 => σ2) (tn (nI (ft_scn.getD j 0)) + 1) 0 σ
set_option maxHeartbeats 4000000 in
set_option maxRecDepth 100000 in
theorem c_L_write (l : Launch) (hl0 : l.stackTraces = false) (D : va_G) (Z : Nat → Nat → Nat) (k : Nat → ClassId) (sz : ft_SZ) (a : Nat) (σ : ft_Sg) (j : Nat) (J : ft_Sg → Prop) (hJ : ft_JJ J) (h0 : J σ) (hj : j < 28) : Met l yL_write wsL_write ({ frames := 8, cells := 25, slots := 3750, locals := 285 }) (ft_PM D k Z sz a σ [.ref a, .ref (Z 4 j)]) (ft_QJr J D k Z sz a (s_L_write σ j)) 25 3750 (ft_AL sz) := by
  refine Met.ofW (cc := cL_write) (maxL := 3) (ret := (some (.object "FoodTruckRota"))) (by decide) rfl ?_
  intro p e s m args below meth c s₁ B hml hv
  obtain ⟨hargs, hP, hEL, hz⟩ := hv
  have hE := hEL.1
  subst hargs
  have hx := B.exec
  have hb := B.bytes
  have hr := B.returns
  have hts := atoms_spec (ws := wsL_write) B.pre
  have hown : s.vm.findClass RL = some m.cls := findClass_of_methodNamed B.named
  have hlocks := B.notSynchronized
  have hS : va_S (ft_AL sz) s.heap s.heap [] := va_S.rf
  have hl := lv_entry ([.ref a, .ref (Z 4 j)]) (n := 3) (Nat.le_of_ble_eq_true rfl)
  rw [lg_entry_eq]
  generalize (lg_sl ([.ref a, .ref (Z 4 j)]) ++ List.replicate (3 - (lg_sl ([.ref a, .ref (Z 4 j)])).length) Slot.unset).toArray = ls at hl ⊢
  have hl : lv_has ls 3 [(0, .ref (a)), (1, .ref (Z 4 j))] := hl
  have hsp := (s_L_write.eq_1 σ j).symm
  refine lv_iconst (v := 0) hx hb dL_write_0 (by decide) ?_
  refine lv_istore_n (lv' := [(2, .int (0)), (0, .ref (a)), (1, .ref (Z 4 j))]) hx hb dL_write_1 rfl hl (by decide) rfl (fun ls hl => ?_)
  have hbn_2 : tn (nI (ft_scn.getD j 0)) ≤ 25 := ft_tb25 hj
  have loop_2 : ∀ (K : Int32 → ft_Sg → (ft_Sg)) (hKx : ∀ (y2_2 : Int32) (σ2 : ft_Sg) (i_2 : Nat) (hi_2 : y2_2 = nI i_2) (hm_2 : i_2 ≤ tn (nI (ft_scn.getD j 0))) (hj_2 : J σ2) (H : Heap) (locs : List Loc) (hP : ft_LW D k Z sz a σ2 H) (hS : va_S (ft_AL sz) s.heap H locs) (ls : Array Slot) (hl : lv_has ls 3 [(0, .ref (a)), (1, .ref (Z 4 j)), (2, .int (y2_2))]) (hsp : K y2_2 σ2 = s_L_write σ j), W p l e (headSpec wsL_write ({ frames := 8, cells := 25, slots := 3750, locals := 285 })).room s m ([.ref a, .ref (Z 4 j)] : List Value).toArray below meth c H locs (0 + 25) (0 + 3750) (MQ below (ft_QJr J D k Z sz a (s_L_write σ j)) ([.ref a, .ref (Z 4 j)] : List Value).toArray s 25 3750 (ft_AL sz)) (F0 m 26 ls [])) (n_2 : Nat), ∀ (y2_2 : Int32) (σ2 : ft_Sg) (i_2 : Nat) (hi_2 : y2_2 = nI i_2) (hm_2 : i_2 ≤ tn (nI (ft_scn.getD j 0))) (hn_2 : tn (nI (ft_scn.getD j 0)) < n_2 + i_2) (hj_2 : J σ2) (H : Heap) (locs : List Loc) (hP : ft_LW D k Z sz a σ2 H) (hS : va_S (ft_AL sz) s.heap H locs) (ls : Array Slot) (hl : lv_has ls 3 [(0, .ref (a)), (1, .ref (Z 4 j)), (2, .int (y2_2))]) (hsp : s_L_write_L2 σ j K n_2 y2_2 σ2 = s_L_write σ j), W p l e (headSpec wsL_write ({ frames := 8, cells := 25, slots := 3750, locals := 285 })).room s m ([.ref a, .ref (Z 4 j)] : List Value).toArray below meth c H locs (0 + 1 * i_2) (0 + 150 * i_2) (MQ below (ft_QJr J D k Z sz a (s_L_write σ j)) ([.ref a, .ref (Z 4 j)] : List Value).toArray s 25 3750 (ft_AL sz)) (F0 m 2 ls []) := by
    intro K hKx n_2
    induction n_2 with
    | zero => intro y2_2 σ2 i_2 hi_2 hm_2 hn_2; exact absurd hn_2 (by omega)
    | succ n ih_2 =>
      intro y2_2 σ2 i_2 hi_2 hm_2 hn_2 hj_2 H locs hP hS ls hl hsp
      rw [s_L_write_L2] at hsp
      have hm5_2 : i_2 ≤ 25 := Nat.le_trans hm_2 hbn_2
      refine lv_iload_n hx hb dL_write_2 rfl (lv_at hl 2 rfl) ?_
      refine lv_aload_n hx hb dL_write_3 rfl (lv_at hl 1 rfl) ?_
      refine vp_callSi (va_Run.run (va_runV (As := []) (rest := [.int (y2_2)]) ⟨hx, hb, hml, hown, hts⟩ (c_J0_length_8abf5 l D Z (ft_AL sz) k (Z 4 j) (Z 5 j) (ft_scn.getD j 0) (fun j9 => (ft_scy.getD j []).getD j9 0) ) (cwV 0 hts gL_write_J0_length_8abf5 rfl rfl rfl (by decide +kernel) ⟨Nat.le_of_ble_eq_true rfl, Nat.le_of_ble_eq_true rfl⟩) (ft_preVx hE hS (fun _ h => h) (hEL.2.2.2.1.2.2.1 j hj)) rfl rfl hl.1 rfl (lv_room (Nat.le_of_ble_eq_true rfl)) dL_write_4 ⟨(show 0 + 1 * i_2 + 0 ≤ 25 by omega), (show 0 + 150 * i_2 + 0 ≤ 3750 by omega)⟩)) (fun z hz9 => ?_)
      subst hz9
      refine lv_icmp_ge (tgt := 26) hx hb dL_write_7 (by decide) (fun c_7 => ?_) (fun c_7 => ?_)
      · replace hsp := (if_pos c_7).symm.trans hsp
        refine W.widen (k := 0 + 25) (n := 0 + 3750) (by omega) (by omega) ?_
        exact hKx y2_2 σ2 i_2 hi_2 hm_2 hj_2 _ _ hP hS ls (lv_sub hl [0, 1, 2] rfl) hsp
      · replace hsp := (if_neg c_7).symm.trans hsp
        have hlt_2 := ft_step hi_2 hm_2 c_7
        have hl5_2 : i_2 + 1 ≤ 25 := Nat.le_trans hlt_2 hbn_2
        refine lv_aload_n hx hb dL_write_10 rfl (lv_at hl 0 rfl) ?_
        refine lv_aload_n hx hb dL_write_11 rfl (lv_at hl 1 rfl) ?_
        refine lv_iload_n hx hb dL_write_12 rfl (lv_at hl 2 rfl) ?_
        refine vp_callSi (va_Run.run (va_runV (As := [.int (y2_2)]) (rest := [.ref (a)]) ⟨hx, hb, hml, hown, hts⟩ (c_J0_charAt_5068e l D Z (ft_AL sz) k (Z 4 j) (Z 5 j) (ft_scn.getD j 0) (fun j9 => (ft_scy.getD j []).getD j9 0) y2_2 (tn y2_2) (ft_tb2 hj hi_2 hlt_2).1 (ft_tb2 hj hi_2 hlt_2).2 (ft_tb3 hj)) (cwV 1 hts gL_write_J0_charAt_5068e rfl rfl rfl (by decide +kernel) ⟨Nat.le_of_ble_eq_true rfl, Nat.le_of_ble_eq_true rfl⟩) (ft_preVx hE hS (fun _ h => h) (hEL.2.2.2.1.2.2.1 j hj)) rfl rfl hl.1 rfl (lv_room (Nat.le_of_ble_eq_true rfl)) dL_write_13 ⟨(show 0 + 1 * i_2 + 0 ≤ 25 by omega), (show 0 + 150 * i_2 + 0 ≤ 3750 by omega)⟩)) (fun z hz9 => ?_)
        subst hz9
        refine va_calli (vx_runSW (As := [.ref (a), .int (ft_ch ((ft_scy.getD j []).getD (tn y2_2) 0))]) (rest := []) ⟨hx, hb, hml, hown, hts⟩ (d_L_put l hl0 D Z k sz a σ2 (ft_ch ((ft_scy.getD j []).getD (tn y2_2) 0)) (hJ.pm _ hj_2) (hJ.ok9 _ hj_2) (hJ.ex_put _ (ft_ch ((ft_scy.getD j []).getD (tn y2_2) 0)) hj_2)) (vx_cwSW 2 hts gL_write_L_put rfl rfl rfl (by decide +kernel) ⟨Nat.le_of_ble_eq_true rfl, Nat.le_of_ble_eq_true rfl⟩) (ft_preM hEL hz hS hP) rfl rfl hl.1 rfl (lv_room (Nat.le_of_ble_eq_true rfl)) dL_write_16 ⟨(show 0 + 1 * i_2 + 1 ≤ 25 by omega), (show 0 + 150 * i_2 + 150 ≤ 3750 by omega)⟩) hS (fun _ _ h => h) (fun _ h => h) (fun z u t H1 locs1 ht hvm hw hB hz1 hk1 hS1 => ?_)
        obtain ⟨rfl, rfl⟩ : z = (w_put σ2 (ft_ch ((ft_scy.getD j []).getD (tn y2_2) 0))).1 ∧ u = (w_put σ2 (ft_ch ((ft_scy.getD j []).getD (tn y2_2) 0))).2 := ⟨congrArg Prod.fst hw, congrArg Prod.snd hw⟩
        rw [ht] at hB
        have hP := hB
        have hS := hS1
        clear hS1
        generalize H1 = H at hP hS ⊢
        refine W.widen (k := 1 + 1 * i_2) (n := 150 + 150 * i_2) (by omega) (by omega) ?_
        have hJ_16_0 : J (w_put σ2 (ft_ch ((ft_scy.getD j []).getD (tn y2_2) 0))).2 := hJ.k_put _ (ft_ch ((ft_scy.getD j []).getD (tn y2_2) 0)) (ft_scb j hj (tn y2_2) (ft_tb2 hj hi_2 hlt_2).2).1 (ft_scb j hj (tn y2_2) (ft_tb2 hj hi_2 hlt_2).2).2 hj_2
        refine lv_pop hx hb dL_write_19 rfl ?_
        refine lv_iinc (v := y2_2 + 1) (lv' := [(2, .int (y2_2 + 1)), (0, .ref (a)), (1, .ref (Z 4 j))]) hx hb dL_write_20 hl (k := 2) rfl rfl (by decide) rfl (fun ls hl => ?_)
        refine lv_goto (tgt := 2) hx hb dL_write_23 (by decide) ?_
        refine W.widen (k := 0 + 1 * (i_2 + 1)) (n := 0 + 150 * (i_2 + 1)) (by omega) (by omega) ?_
        exact ih_2 (y2_2 + 1) ((w_put σ2 (ft_ch ((ft_scy.getD j []).getD (tn y2_2) 0))).2) (i_2 + 1) (by rw [hi_2, nI_1]) hlt_2 (by omega) hJ_16_0 _ _ hP hS ls (lv_sub hl [1, 2, 0] rfl) hsp
  refine W.widen (k := 0 + 1 * 0) (n := 0 + 150 * 0) (by omega) (by omega) ?_
  refine loop_2 _ (fun y2_2 σ2 i_2 hi_2 hm_2 hj_2 H locs hP hS ls hl hsp => ?_) (tn (nI (ft_scn.getD j 0)) + 1) 0 σ 0 rfl (Nat.zero_le _) (by omega) h0 _ _ hP hS ls (lv_sub hl [1, 2, 0] rfl) hsp
  refine W.widen (k := 25) (n := 3750) (by omega) (by omega) ?_
  refine lv_aload_n hx hb dL_write_26 rfl (lv_at hl 0 rfl) ?_
  refine W.widen (k := 25) (n := 3750) (by omega) (by omega) ?_
  exact W.aret (v := .ref a) hx hb hr (Or.inl ⟨_, rfl⟩) (Or.inr ⟨_, rfl⟩) (fun t ht hW => ⟨⟨σ2, a, rfl, ⟨hsp, hj_2⟩, rfl, by show ft_LW D k Z sz a _ t.heap; rw [ht]; exact hP⟩, hS.F ht⟩) hS.2.2 dL_write_27

def s_L_act (σ : ft_Sg) (x2 : Int32) : Int32 × ft_Sg := if (((x2 >>> ((4 : Int32) &&& 31)) &&& 65535) &&& 512) = 0 then (if (x2 &&& 15) = 0 then (if (((x2 >>> ((4 : Int32) &&& 31)) &&& 65535) &&& 64) = 0 then (((w_addTruck σ).1, (w_addTruck σ).2)) else (((w_setPrice σ ((((x2 >>> ((4 : Int32) &&& 31)) &&& 65535) >>> ((2 : Int32) &&& 31)) - (((x2 >>> ((4 : Int32) &&& 31)) &&& 65535) >>> ((2 : Int32) &&& 31)) / 5 * 5) ((((x2 >>> ((4 : Int32) &&& 31)) &&& 65535) >>> ((4 : Int32) &&& 31)) - (((x2 >>> ((4 : Int32) &&& 31)) &&& 65535) >>> ((4 : Int32) &&& 31)) / 22 * 22)).1, (w_setPrice σ ((((x2 >>> ((4 : Int32) &&& 31)) &&& 65535) >>> ((2 : Int32) &&& 31)) - (((x2 >>> ((4 : Int32) &&& 31)) &&& 65535) >>> ((2 : Int32) &&& 31)) / 5 * 5) ((((x2 >>> ((4 : Int32) &&& 31)) &&& 65535) >>> ((4 : Int32) &&& 31)) - (((x2 >>> ((4 : Int32) &&& 31)) &&& 65535) >>> ((4 : Int32) &&& 31)) / 22 * 22)).2))) else (if (x2 &&& 15) = 1 then (((w_addStock σ (((x2 >>> ((4 : Int32) &&& 31)) &&& 65535) - ((x2 >>> ((4 : Int32) &&& 31)) &&& 65535) / 4 * 4) ((((x2 >>> ((4 : Int32) &&& 31)) &&& 65535) >>> ((2 : Int32) &&& 31)) - (((x2 >>> ((4 : Int32) &&& 31)) &&& 65535) >>> ((2 : Int32) &&& 31)) / 4 * 4) ((((x2 >>> ((4 : Int32) &&& 31)) &&& 65535) >>> ((4 : Int32) &&& 31)) - (((x2 >>> ((4 : Int32) &&& 31)) &&& 65535) >>> ((4 : Int32) &&& 31)) / 30 * 30)).1, (w_addStock σ (((x2 >>> ((4 : Int32) &&& 31)) &&& 65535) - ((x2 >>> ((4 : Int32) &&& 31)) &&& 65535) / 4 * 4) ((((x2 >>> ((4 : Int32) &&& 31)) &&& 65535) >>> ((2 : Int32) &&& 31)) - (((x2 >>> ((4 : Int32) &&& 31)) &&& 65535) >>> ((2 : Int32) &&& 31)) / 4 * 4) ((((x2 >>> ((4 : Int32) &&& 31)) &&& 65535) >>> ((4 : Int32) &&& 31)) - (((x2 >>> ((4 : Int32) &&& 31)) &&& 65535) >>> ((4 : Int32) &&& 31)) / 30 * 30)).2)) else (if (x2 &&& 15) = 2 then (((w_addStock σ (((x2 >>> ((4 : Int32) &&& 31)) &&& 65535) - ((x2 >>> ((4 : Int32) &&& 31)) &&& 65535) / 4 * 4) ((((x2 >>> ((4 : Int32) &&& 31)) &&& 65535) >>> ((2 : Int32) &&& 31)) - (((x2 >>> ((4 : Int32) &&& 31)) &&& 65535) >>> ((2 : Int32) &&& 31)) / 4 * 4) ((((x2 >>> ((4 : Int32) &&& 31)) &&& 65535) >>> ((4 : Int32) &&& 31)) - (((x2 >>> ((4 : Int32) &&& 31)) &&& 65535) >>> ((4 : Int32) &&& 31)) / 30 * 30)).1, (w_addStock σ (((x2 >>> ((4 : Int32) &&& 31)) &&& 65535) - ((x2 >>> ((4 : Int32) &&& 31)) &&& 65535) / 4 * 4) ((((x2 >>> ((4 : Int32) &&& 31)) &&& 65535) >>> ((2 : Int32) &&& 31)) - (((x2 >>> ((4 : Int32) &&& 31)) &&& 65535) >>> ((2 : Int32) &&& 31)) / 4 * 4) ((((x2 >>> ((4 : Int32) &&& 31)) &&& 65535) >>> ((4 : Int32) &&& 31)) - (((x2 >>> ((4 : Int32) &&& 31)) &&& 65535) >>> ((4 : Int32) &&& 31)) / 30 * 30)).2)) else (if (x2 &&& 15) = 3 then (((w_addStock σ (((x2 >>> ((4 : Int32) &&& 31)) &&& 65535) - ((x2 >>> ((4 : Int32) &&& 31)) &&& 65535) / 4 * 4) ((((x2 >>> ((4 : Int32) &&& 31)) &&& 65535) >>> ((2 : Int32) &&& 31)) - (((x2 >>> ((4 : Int32) &&& 31)) &&& 65535) >>> ((2 : Int32) &&& 31)) / 4 * 4) ((((x2 >>> ((4 : Int32) &&& 31)) &&& 65535) >>> ((4 : Int32) &&& 31)) - (((x2 >>> ((4 : Int32) &&& 31)) &&& 65535) >>> ((4 : Int32) &&& 31)) / 30 * 30)).1, (w_addStock σ (((x2 >>> ((4 : Int32) &&& 31)) &&& 65535) - ((x2 >>> ((4 : Int32) &&& 31)) &&& 65535) / 4 * 4) ((((x2 >>> ((4 : Int32) &&& 31)) &&& 65535) >>> ((2 : Int32) &&& 31)) - (((x2 >>> ((4 : Int32) &&& 31)) &&& 65535) >>> ((2 : Int32) &&& 31)) / 4 * 4) ((((x2 >>> ((4 : Int32) &&& 31)) &&& 65535) >>> ((4 : Int32) &&& 31)) - (((x2 >>> ((4 : Int32) &&& 31)) &&& 65535) >>> ((4 : Int32) &&& 31)) / 30 * 30)).2)) else (if (x2 &&& 15) = 4 then (((w_grantPermit σ (((x2 >>> ((4 : Int32) &&& 31)) &&& 65535) - ((x2 >>> ((4 : Int32) &&& 31)) &&& 65535) / 4 * 4) ((l_day σ) - (l_day σ) / 7 * 7)).1, (w_grantPermit σ (((x2 >>> ((4 : Int32) &&& 31)) &&& 65535) - ((x2 >>> ((4 : Int32) &&& 31)) &&& 65535) / 4 * 4) ((l_day σ) - (l_day σ) / 7 * 7)).2)) else (if (x2 &&& 15) = 5 then (if (((x2 >>> ((4 : Int32) &&& 31)) &&& 65535) &&& 64) = 0 then (((w_revokePermit σ (((x2 >>> ((4 : Int32) &&& 31)) &&& 65535) - ((x2 >>> ((4 : Int32) &&& 31)) &&& 65535) / 4 * 4) ((l_day σ) - (l_day σ) / 7 * 7)).1, (w_revokePermit σ (((x2 >>> ((4 : Int32) &&& 31)) &&& 65535) - ((x2 >>> ((4 : Int32) &&& 31)) &&& 65535) / 4 * 4) ((l_day σ) - (l_day σ) / 7 * 7)).2)) else (((w_grantPermit σ (((x2 >>> ((4 : Int32) &&& 31)) &&& 65535) - ((x2 >>> ((4 : Int32) &&& 31)) &&& 65535) / 4 * 4) ((l_day σ) - (l_day σ) / 7 * 7)).1, (w_grantPermit σ (((x2 >>> ((4 : Int32) &&& 31)) &&& 65535) - ((x2 >>> ((4 : Int32) &&& 31)) &&& 65535) / 4 * 4) ((l_day σ) - (l_day σ) / 7 * 7)).2))) else (if (x2 &&& 15) = 6 then (((w_assign σ (((x2 >>> ((4 : Int32) &&& 31)) &&& 65535) - ((x2 >>> ((4 : Int32) &&& 31)) &&& 65535) / 4 * 4) ((((x2 >>> ((4 : Int32) &&& 31)) &&& 65535) >>> ((4 : Int32) &&& 31)) - (((x2 >>> ((4 : Int32) &&& 31)) &&& 65535) >>> ((4 : Int32) &&& 31)) / 6 * 6) ((l_day σ) - (l_day σ) / 7 * 7)).1, (w_assign σ (((x2 >>> ((4 : Int32) &&& 31)) &&& 65535) - ((x2 >>> ((4 : Int32) &&& 31)) &&& 65535) / 4 * 4) ((((x2 >>> ((4 : Int32) &&& 31)) &&& 65535) >>> ((4 : Int32) &&& 31)) - (((x2 >>> ((4 : Int32) &&& 31)) &&& 65535) >>> ((4 : Int32) &&& 31)) / 6 * 6) ((l_day σ) - (l_day σ) / 7 * 7)).2)) else (if (x2 &&& 15) = 7 then (((w_assign σ (((x2 >>> ((4 : Int32) &&& 31)) &&& 65535) - ((x2 >>> ((4 : Int32) &&& 31)) &&& 65535) / 4 * 4) ((((x2 >>> ((4 : Int32) &&& 31)) &&& 65535) >>> ((4 : Int32) &&& 31)) - (((x2 >>> ((4 : Int32) &&& 31)) &&& 65535) >>> ((4 : Int32) &&& 31)) / 6 * 6) ((l_day σ) - (l_day σ) / 7 * 7)).1, (w_assign σ (((x2 >>> ((4 : Int32) &&& 31)) &&& 65535) - ((x2 >>> ((4 : Int32) &&& 31)) &&& 65535) / 4 * 4) ((((x2 >>> ((4 : Int32) &&& 31)) &&& 65535) >>> ((4 : Int32) &&& 31)) - (((x2 >>> ((4 : Int32) &&& 31)) &&& 65535) >>> ((4 : Int32) &&& 31)) / 6 * 6) ((l_day σ) - (l_day σ) / 7 * 7)).2)) else (if (x2 &&& 15) = 8 then (((w_release σ ((((x2 >>> ((4 : Int32) &&& 31)) &&& 65535) >>> ((4 : Int32) &&& 31)) - (((x2 >>> ((4 : Int32) &&& 31)) &&& 65535) >>> ((4 : Int32) &&& 31)) / 6 * 6) ((l_day σ) - (l_day σ) / 7 * 7)).1, (w_release σ ((((x2 >>> ((4 : Int32) &&& 31)) &&& 65535) >>> ((4 : Int32) &&& 31)) - (((x2 >>> ((4 : Int32) &&& 31)) &&& 65535) >>> ((4 : Int32) &&& 31)) / 6 * 6) ((l_day σ) - (l_day σ) / 7 * 7)).2)) else (if (x2 &&& 15) = 9 then (((w_setWeather σ ((((x2 >>> ((4 : Int32) &&& 31)) &&& 65535) >>> ((2 : Int32) &&& 31)) - (((x2 >>> ((4 : Int32) &&& 31)) &&& 65535) >>> ((2 : Int32) &&& 31)) / 5 * 5)).1, (w_setWeather σ ((((x2 >>> ((4 : Int32) &&& 31)) &&& 65535) >>> ((2 : Int32) &&& 31)) - (((x2 >>> ((4 : Int32) &&& 31)) &&& 65535) >>> ((2 : Int32) &&& 31)) / 5 * 5)).2)) else (if (x2 &&& 15) = 10 then (((w_advance σ ((((x2 >>> ((4 : Int32) &&& 31)) &&& 65535) >>> ((2 : Int32) &&& 31)) - (((x2 >>> ((4 : Int32) &&& 31)) &&& 65535) >>> ((2 : Int32) &&& 31)) / 25 * 25)).1, (w_advance σ ((((x2 >>> ((4 : Int32) &&& 31)) &&& 65535) >>> ((2 : Int32) &&& 31)) - (((x2 >>> ((4 : Int32) &&& 31)) &&& 65535) >>> ((2 : Int32) &&& 31)) / 25 * 25)).2)) else (if (x2 &&& 15) = 11 then (((w_advance σ ((((x2 >>> ((4 : Int32) &&& 31)) &&& 65535) >>> ((2 : Int32) &&& 31)) - (((x2 >>> ((4 : Int32) &&& 31)) &&& 65535) >>> ((2 : Int32) &&& 31)) / 25 * 25)).1, (w_advance σ ((((x2 >>> ((4 : Int32) &&& 31)) &&& 65535) >>> ((2 : Int32) &&& 31)) - (((x2 >>> ((4 : Int32) &&& 31)) &&& 65535) >>> ((2 : Int32) &&& 31)) / 25 * 25)).2)) else (if (x2 &&& 15) = 12 then (((w_advance σ ((((x2 >>> ((4 : Int32) &&& 31)) &&& 65535) >>> ((2 : Int32) &&& 31)) - (((x2 >>> ((4 : Int32) &&& 31)) &&& 65535) >>> ((2 : Int32) &&& 31)) / 25 * 25)).1, (w_advance σ ((((x2 >>> ((4 : Int32) &&& 31)) &&& 65535) >>> ((2 : Int32) &&& 31)) - (((x2 >>> ((4 : Int32) &&& 31)) &&& 65535) >>> ((2 : Int32) &&& 31)) / 25 * 25)).2)) else (if (x2 &&& 15) = 13 then (((w_runScript (s_L_write σ (tn (((x2 >>> ((4 : Int32) &&& 31)) &&& 65535) - ((x2 >>> ((4 : Int32) &&& 31)) &&& 65535) / 28 * 28)))).1, (w_runScript (s_L_write σ (tn (((x2 >>> ((4 : Int32) &&& 31)) &&& 65535) - ((x2 >>> ((4 : Int32) &&& 31)) &&& 65535) / 28 * 28)))).2)) else (if (x2 &&& 15) = 14 then (((w_runScript (s_L_write σ (tn (((x2 >>> ((4 : Int32) &&& 31)) &&& 65535) - ((x2 >>> ((4 : Int32) &&& 31)) &&& 65535) / 28 * 28)))).1, (w_runScript (s_L_write σ (tn (((x2 >>> ((4 : Int32) &&& 31)) &&& 65535) - ((x2 >>> ((4 : Int32) &&& 31)) &&& 65535) / 28 * 28)))).2)) else (if (((x2 >>> ((4 : Int32) &&& 31)) &&& 65535) &&& 3) = 0 then (((l_save σ).1, (l_save σ).2)) else (if (((x2 >>> ((4 : Int32) &&& 31)) &&& 65535) &&& 3) = 1 then (((w_restore σ).1, (w_restore σ).2)) else (((w_undo σ).1, (w_undo σ).2))))))))))))))))))) else (if (x2 &&& 15) = 0 then (if (((x2 >>> ((4 : Int32) &&& 31)) &&& 65535) &&& 64) = 0 then (((w_addTruck σ).1, (w_addTruck σ).2)) else (((w_setPrice σ ((((x2 >>> ((4 : Int32) &&& 31)) &&& 65535) >>> ((2 : Int32) &&& 31)) - (((x2 >>> ((4 : Int32) &&& 31)) &&& 65535) >>> ((2 : Int32) &&& 31)) / 5 * 5) ((((x2 >>> ((4 : Int32) &&& 31)) &&& 65535) >>> ((4 : Int32) &&& 31)) - (((x2 >>> ((4 : Int32) &&& 31)) &&& 65535) >>> ((4 : Int32) &&& 31)) / 22 * 22)).1, (w_setPrice σ ((((x2 >>> ((4 : Int32) &&& 31)) &&& 65535) >>> ((2 : Int32) &&& 31)) - (((x2 >>> ((4 : Int32) &&& 31)) &&& 65535) >>> ((2 : Int32) &&& 31)) / 5 * 5) ((((x2 >>> ((4 : Int32) &&& 31)) &&& 65535) >>> ((4 : Int32) &&& 31)) - (((x2 >>> ((4 : Int32) &&& 31)) &&& 65535) >>> ((4 : Int32) &&& 31)) / 22 * 22)).2))) else (if (x2 &&& 15) = 1 then (((w_addStock σ (((x2 >>> ((4 : Int32) &&& 31)) &&& 65535) - ((x2 >>> ((4 : Int32) &&& 31)) &&& 65535) / 4 * 4) ((((x2 >>> ((4 : Int32) &&& 31)) &&& 65535) >>> ((2 : Int32) &&& 31)) - (((x2 >>> ((4 : Int32) &&& 31)) &&& 65535) >>> ((2 : Int32) &&& 31)) / 4 * 4) ((((x2 >>> ((4 : Int32) &&& 31)) &&& 65535) >>> ((4 : Int32) &&& 31)) - (((x2 >>> ((4 : Int32) &&& 31)) &&& 65535) >>> ((4 : Int32) &&& 31)) / 30 * 30)).1, (w_addStock σ (((x2 >>> ((4 : Int32) &&& 31)) &&& 65535) - ((x2 >>> ((4 : Int32) &&& 31)) &&& 65535) / 4 * 4) ((((x2 >>> ((4 : Int32) &&& 31)) &&& 65535) >>> ((2 : Int32) &&& 31)) - (((x2 >>> ((4 : Int32) &&& 31)) &&& 65535) >>> ((2 : Int32) &&& 31)) / 4 * 4) ((((x2 >>> ((4 : Int32) &&& 31)) &&& 65535) >>> ((4 : Int32) &&& 31)) - (((x2 >>> ((4 : Int32) &&& 31)) &&& 65535) >>> ((4 : Int32) &&& 31)) / 30 * 30)).2)) else (if (x2 &&& 15) = 2 then (((w_addStock σ (((x2 >>> ((4 : Int32) &&& 31)) &&& 65535) - ((x2 >>> ((4 : Int32) &&& 31)) &&& 65535) / 4 * 4) ((((x2 >>> ((4 : Int32) &&& 31)) &&& 65535) >>> ((2 : Int32) &&& 31)) - (((x2 >>> ((4 : Int32) &&& 31)) &&& 65535) >>> ((2 : Int32) &&& 31)) / 4 * 4) ((((x2 >>> ((4 : Int32) &&& 31)) &&& 65535) >>> ((4 : Int32) &&& 31)) - (((x2 >>> ((4 : Int32) &&& 31)) &&& 65535) >>> ((4 : Int32) &&& 31)) / 30 * 30)).1, (w_addStock σ (((x2 >>> ((4 : Int32) &&& 31)) &&& 65535) - ((x2 >>> ((4 : Int32) &&& 31)) &&& 65535) / 4 * 4) ((((x2 >>> ((4 : Int32) &&& 31)) &&& 65535) >>> ((2 : Int32) &&& 31)) - (((x2 >>> ((4 : Int32) &&& 31)) &&& 65535) >>> ((2 : Int32) &&& 31)) / 4 * 4) ((((x2 >>> ((4 : Int32) &&& 31)) &&& 65535) >>> ((4 : Int32) &&& 31)) - (((x2 >>> ((4 : Int32) &&& 31)) &&& 65535) >>> ((4 : Int32) &&& 31)) / 30 * 30)).2)) else (if (x2 &&& 15) = 3 then (((w_addStock σ (((x2 >>> ((4 : Int32) &&& 31)) &&& 65535) - ((x2 >>> ((4 : Int32) &&& 31)) &&& 65535) / 4 * 4) ((((x2 >>> ((4 : Int32) &&& 31)) &&& 65535) >>> ((2 : Int32) &&& 31)) - (((x2 >>> ((4 : Int32) &&& 31)) &&& 65535) >>> ((2 : Int32) &&& 31)) / 4 * 4) ((((x2 >>> ((4 : Int32) &&& 31)) &&& 65535) >>> ((4 : Int32) &&& 31)) - (((x2 >>> ((4 : Int32) &&& 31)) &&& 65535) >>> ((4 : Int32) &&& 31)) / 30 * 30)).1, (w_addStock σ (((x2 >>> ((4 : Int32) &&& 31)) &&& 65535) - ((x2 >>> ((4 : Int32) &&& 31)) &&& 65535) / 4 * 4) ((((x2 >>> ((4 : Int32) &&& 31)) &&& 65535) >>> ((2 : Int32) &&& 31)) - (((x2 >>> ((4 : Int32) &&& 31)) &&& 65535) >>> ((2 : Int32) &&& 31)) / 4 * 4) ((((x2 >>> ((4 : Int32) &&& 31)) &&& 65535) >>> ((4 : Int32) &&& 31)) - (((x2 >>> ((4 : Int32) &&& 31)) &&& 65535) >>> ((4 : Int32) &&& 31)) / 30 * 30)).2)) else (if (x2 &&& 15) = 4 then (((w_grantPermit σ (((x2 >>> ((4 : Int32) &&& 31)) &&& 65535) - ((x2 >>> ((4 : Int32) &&& 31)) &&& 65535) / 4 * 4) ((((x2 >>> ((4 : Int32) &&& 31)) &&& 65535) >>> ((3 : Int32) &&& 31)) - (((x2 >>> ((4 : Int32) &&& 31)) &&& 65535) >>> ((3 : Int32) &&& 31)) / 8 * 8)).1, (w_grantPermit σ (((x2 >>> ((4 : Int32) &&& 31)) &&& 65535) - ((x2 >>> ((4 : Int32) &&& 31)) &&& 65535) / 4 * 4) ((((x2 >>> ((4 : Int32) &&& 31)) &&& 65535) >>> ((3 : Int32) &&& 31)) - (((x2 >>> ((4 : Int32) &&& 31)) &&& 65535) >>> ((3 : Int32) &&& 31)) / 8 * 8)).2)) else (if (x2 &&& 15) = 5 then (if (((x2 >>> ((4 : Int32) &&& 31)) &&& 65535) &&& 64) = 0 then (((w_revokePermit σ (((x2 >>> ((4 : Int32) &&& 31)) &&& 65535) - ((x2 >>> ((4 : Int32) &&& 31)) &&& 65535) / 4 * 4) ((((x2 >>> ((4 : Int32) &&& 31)) &&& 65535) >>> ((3 : Int32) &&& 31)) - (((x2 >>> ((4 : Int32) &&& 31)) &&& 65535) >>> ((3 : Int32) &&& 31)) / 8 * 8)).1, (w_revokePermit σ (((x2 >>> ((4 : Int32) &&& 31)) &&& 65535) - ((x2 >>> ((4 : Int32) &&& 31)) &&& 65535) / 4 * 4) ((((x2 >>> ((4 : Int32) &&& 31)) &&& 65535) >>> ((3 : Int32) &&& 31)) - (((x2 >>> ((4 : Int32) &&& 31)) &&& 65535) >>> ((3 : Int32) &&& 31)) / 8 * 8)).2)) else (((w_grantPermit σ (((x2 >>> ((4 : Int32) &&& 31)) &&& 65535) - ((x2 >>> ((4 : Int32) &&& 31)) &&& 65535) / 4 * 4) ((((x2 >>> ((4 : Int32) &&& 31)) &&& 65535) >>> ((3 : Int32) &&& 31)) - (((x2 >>> ((4 : Int32) &&& 31)) &&& 65535) >>> ((3 : Int32) &&& 31)) / 8 * 8)).1, (w_grantPermit σ (((x2 >>> ((4 : Int32) &&& 31)) &&& 65535) - ((x2 >>> ((4 : Int32) &&& 31)) &&& 65535) / 4 * 4) ((((x2 >>> ((4 : Int32) &&& 31)) &&& 65535) >>> ((3 : Int32) &&& 31)) - (((x2 >>> ((4 : Int32) &&& 31)) &&& 65535) >>> ((3 : Int32) &&& 31)) / 8 * 8)).2))) else (if (x2 &&& 15) = 6 then (((w_assign σ (((x2 >>> ((4 : Int32) &&& 31)) &&& 65535) - ((x2 >>> ((4 : Int32) &&& 31)) &&& 65535) / 4 * 4) ((((x2 >>> ((4 : Int32) &&& 31)) &&& 65535) >>> ((4 : Int32) &&& 31)) - (((x2 >>> ((4 : Int32) &&& 31)) &&& 65535) >>> ((4 : Int32) &&& 31)) / 6 * 6) ((((x2 >>> ((4 : Int32) &&& 31)) &&& 65535) >>> ((3 : Int32) &&& 31)) - (((x2 >>> ((4 : Int32) &&& 31)) &&& 65535) >>> ((3 : Int32) &&& 31)) / 8 * 8)).1, (w_assign σ (((x2 >>> ((4 : Int32) &&& 31)) &&& 65535) - ((x2 >>> ((4 : Int32) &&& 31)) &&& 65535) / 4 * 4) ((((x2 >>> ((4 : Int32) &&& 31)) &&& 65535) >>> ((4 : Int32) &&& 31)) - (((x2 >>> ((4 : Int32) &&& 31)) &&& 65535) >>> ((4 : Int32) &&& 31)) / 6 * 6) ((((x2 >>> ((4 : Int32) &&& 31)) &&& 65535) >>> ((3 : Int32) &&& 31)) - (((x2 >>> ((4 : Int32) &&& 31)) &&& 65535) >>> ((3 : Int32) &&& 31)) / 8 * 8)).2)) else (if (x2 &&& 15) = 7 then (((w_assign σ (((x2 >>> ((4 : Int32) &&& 31)) &&& 65535) - ((x2 >>> ((4 : Int32) &&& 31)) &&& 65535) / 4 * 4) ((((x2 >>> ((4 : Int32) &&& 31)) &&& 65535) >>> ((4 : Int32) &&& 31)) - (((x2 >>> ((4 : Int32) &&& 31)) &&& 65535) >>> ((4 : Int32) &&& 31)) / 6 * 6) ((((x2 >>> ((4 : Int32) &&& 31)) &&& 65535) >>> ((3 : Int32) &&& 31)) - (((x2 >>> ((4 : Int32) &&& 31)) &&& 65535) >>> ((3 : Int32) &&& 31)) / 8 * 8)).1, (w_assign σ (((x2 >>> ((4 : Int32) &&& 31)) &&& 65535) - ((x2 >>> ((4 : Int32) &&& 31)) &&& 65535) / 4 * 4) ((((x2 >>> ((4 : Int32) &&& 31)) &&& 65535) >>> ((4 : Int32) &&& 31)) - (((x2 >>> ((4 : Int32) &&& 31)) &&& 65535) >>> ((4 : Int32) &&& 31)) / 6 * 6) ((((x2 >>> ((4 : Int32) &&& 31)) &&& 65535) >>> ((3 : Int32) &&& 31)) - (((x2 >>> ((4 : Int32) &&& 31)) &&& 65535) >>> ((3 : Int32) &&& 31)) / 8 * 8)).2)) else (if (x2 &&& 15) = 8 then (((w_release σ ((((x2 >>> ((4 : Int32) &&& 31)) &&& 65535) >>> ((4 : Int32) &&& 31)) - (((x2 >>> ((4 : Int32) &&& 31)) &&& 65535) >>> ((4 : Int32) &&& 31)) / 6 * 6) ((((x2 >>> ((4 : Int32) &&& 31)) &&& 65535) >>> ((3 : Int32) &&& 31)) - (((x2 >>> ((4 : Int32) &&& 31)) &&& 65535) >>> ((3 : Int32) &&& 31)) / 8 * 8)).1, (w_release σ ((((x2 >>> ((4 : Int32) &&& 31)) &&& 65535) >>> ((4 : Int32) &&& 31)) - (((x2 >>> ((4 : Int32) &&& 31)) &&& 65535) >>> ((4 : Int32) &&& 31)) / 6 * 6) ((((x2 >>> ((4 : Int32) &&& 31)) &&& 65535) >>> ((3 : Int32) &&& 31)) - (((x2 >>> ((4 : Int32) &&& 31)) &&& 65535) >>> ((3 : Int32) &&& 31)) / 8 * 8)).2)) else (if (x2 &&& 15) = 9 then (((w_setWeather σ ((((x2 >>> ((4 : Int32) &&& 31)) &&& 65535) >>> ((2 : Int32) &&& 31)) - (((x2 >>> ((4 : Int32) &&& 31)) &&& 65535) >>> ((2 : Int32) &&& 31)) / 5 * 5)).1, (w_setWeather σ ((((x2 >>> ((4 : Int32) &&& 31)) &&& 65535) >>> ((2 : Int32) &&& 31)) - (((x2 >>> ((4 : Int32) &&& 31)) &&& 65535) >>> ((2 : Int32) &&& 31)) / 5 * 5)).2)) else (if (x2 &&& 15) = 10 then (((w_advance σ ((((x2 >>> ((4 : Int32) &&& 31)) &&& 65535) >>> ((2 : Int32) &&& 31)) - (((x2 >>> ((4 : Int32) &&& 31)) &&& 65535) >>> ((2 : Int32) &&& 31)) / 25 * 25)).1, (w_advance σ ((((x2 >>> ((4 : Int32) &&& 31)) &&& 65535) >>> ((2 : Int32) &&& 31)) - (((x2 >>> ((4 : Int32) &&& 31)) &&& 65535) >>> ((2 : Int32) &&& 31)) / 25 * 25)).2)) else (if (x2 &&& 15) = 11 then (((w_advance σ ((((x2 >>> ((4 : Int32) &&& 31)) &&& 65535) >>> ((2 : Int32) &&& 31)) - (((x2 >>> ((4 : Int32) &&& 31)) &&& 65535) >>> ((2 : Int32) &&& 31)) / 25 * 25)).1, (w_advance σ ((((x2 >>> ((4 : Int32) &&& 31)) &&& 65535) >>> ((2 : Int32) &&& 31)) - (((x2 >>> ((4 : Int32) &&& 31)) &&& 65535) >>> ((2 : Int32) &&& 31)) / 25 * 25)).2)) else (if (x2 &&& 15) = 12 then (((w_advance σ ((((x2 >>> ((4 : Int32) &&& 31)) &&& 65535) >>> ((2 : Int32) &&& 31)) - (((x2 >>> ((4 : Int32) &&& 31)) &&& 65535) >>> ((2 : Int32) &&& 31)) / 25 * 25)).1, (w_advance σ ((((x2 >>> ((4 : Int32) &&& 31)) &&& 65535) >>> ((2 : Int32) &&& 31)) - (((x2 >>> ((4 : Int32) &&& 31)) &&& 65535) >>> ((2 : Int32) &&& 31)) / 25 * 25)).2)) else (if (x2 &&& 15) = 13 then (((w_runScript (s_L_write σ (tn (((x2 >>> ((4 : Int32) &&& 31)) &&& 65535) - ((x2 >>> ((4 : Int32) &&& 31)) &&& 65535) / 28 * 28)))).1, (w_runScript (s_L_write σ (tn (((x2 >>> ((4 : Int32) &&& 31)) &&& 65535) - ((x2 >>> ((4 : Int32) &&& 31)) &&& 65535) / 28 * 28)))).2)) else (if (x2 &&& 15) = 14 then (((w_runScript (s_L_write σ (tn (((x2 >>> ((4 : Int32) &&& 31)) &&& 65535) - ((x2 >>> ((4 : Int32) &&& 31)) &&& 65535) / 28 * 28)))).1, (w_runScript (s_L_write σ (tn (((x2 >>> ((4 : Int32) &&& 31)) &&& 65535) - ((x2 >>> ((4 : Int32) &&& 31)) &&& 65535) / 28 * 28)))).2)) else (if (((x2 >>> ((4 : Int32) &&& 31)) &&& 65535) &&& 3) = 0 then (((l_save σ).1, (l_save σ).2)) else (if (((x2 >>> ((4 : Int32) &&& 31)) &&& 65535) &&& 3) = 1 then (((w_restore σ).1, (w_restore σ).2)) else (((w_undo σ).1, (w_undo σ).2)))))))))))))))))))
set_option maxHeartbeats 4000000 in
set_option maxRecDepth 100000 in
theorem c_L_act (l : Launch) (hl0 : l.stackTraces = false) (D : va_G) (Z : Nat → Nat → Nat) (k : Nat → ClassId) (sz : ft_SZ) (a : Nat) (σ : ft_Sg) (x2 : Int32) (J : ft_Sg → Prop) (hJ : ft_JJ J) (h0 : J σ) : Met l yL_act wsL_act ({ frames := 11, cells := 26, slots := 3756, locals := 307 }) (ft_PM D k Z sz a σ [.ref a, .int x2]) (ft_QJ J D k Z sz a (s_L_act σ x2)) 26 3756 (ft_AL sz) := by
  refine Met.ofW (cc := cL_act) (maxL := 5) (ret := (some .int)) (by decide) rfl ?_
  intro p e s m args below meth c s₁ B hml hv
  obtain ⟨hargs, hP, hEL, hz⟩ := hv
  have hE := hEL.1
  subst hargs
  have hx := B.exec
  have hb := B.bytes
  have hr := B.returns
  have hts := atoms_spec (ws := wsL_act) B.pre
  have hown : s.vm.findClass RL = some m.cls := findClass_of_methodNamed B.named
  have hlocks := B.notSynchronized
  have hS : va_S (ft_AL sz) s.heap s.heap [] := va_S.rf
  have hl := lv_entry ([.ref a, .int x2]) (n := 5) (Nat.le_of_ble_eq_true rfl)
  rw [lg_entry_eq]
  generalize (lg_sl ([.ref a, .int x2]) ++ List.replicate (5 - (lg_sl ([.ref a, .int x2])).length) Slot.unset).toArray = ls at hl ⊢
  have hl : lv_has ls 5 [(0, .ref (a)), (1, .int (x2))] := hl
  have hsp := (s_L_act.eq_1 σ x2).symm
  refine lv_iload_n hx hb dL_act_0 rfl (lv_at hl 1 rfl) ?_
  refine lv_iconst (v := 4) hx hb dL_act_1 (by decide) ?_
  refine lv_ishr hx hb dL_act_2 ?_
  refine lv_ldc hx hb hown (hts (.constant RL 7 (65535)) (by decide +kernel)) dL_act_3 ?_
  refine lv_iand hx hb dL_act_5 ?_
  refine lv_istore_n (lv' := [(2, .int ((x2 >>> ((4 : Int32) &&& 31)) &&& 65535)), (0, .ref (a)), (1, .int (x2))]) hx hb dL_act_6 rfl hl (by decide) rfl (fun ls hl => ?_)
  refine lv_iload_n hx hb dL_act_7 rfl (lv_at hl 0 rfl) ?_
  refine lv_iconst (v := 4) hx hb dL_act_8 (by decide) ?_
  refine lv_irem hx hb dL_act_9 (by decide) ?_
  refine lv_istore_n (lv' := [(3, .int (((x2 >>> ((4 : Int32) &&& 31)) &&& 65535) - ((x2 >>> ((4 : Int32) &&& 31)) &&& 65535) / 4 * 4)), (2, .int ((x2 >>> ((4 : Int32) &&& 31)) &&& 65535)), (0, .ref (a)), (1, .int (x2))]) hx hb dL_act_10 rfl hl (by decide) rfl (fun ls hl => ?_)
  refine lv_iload_n hx hb dL_act_11 rfl (lv_at hl 1 rfl) ?_
  refine lv_sipush (v := 512) hx hb dL_act_12 (by decide) ?_
  refine lv_iand hx hb dL_act_15 ?_
  refine lv_if_ne (tgt := 29) hx hb dL_act_16 (by decide) (fun c_16 => ?_) (fun c_16 => ?_)
  · replace hsp := (if_neg c_16).symm.trans hsp
    refine lv_iload_n hx hb dL_act_29 rfl (lv_at hl 1 rfl) ?_
    refine lv_iconst (v := 3) hx hb dL_act_30 (by decide) ?_
    refine lv_ishr hx hb dL_act_31 ?_
    refine lv_bipush (v := 8) hx hb dL_act_32 (by decide) ?_
    refine lv_irem hx hb dL_act_34 (by decide) ?_
    refine lv_istore (lv' := [(4, .int ((((x2 >>> ((4 : Int32) &&& 31)) &&& 65535) >>> ((3 : Int32) &&& 31)) - (((x2 >>> ((4 : Int32) &&& 31)) &&& 65535) >>> ((3 : Int32) &&& 31)) / 8 * 8)), (3, .int (((x2 >>> ((4 : Int32) &&& 31)) &&& 65535) - ((x2 >>> ((4 : Int32) &&& 31)) &&& 65535) / 4 * 4)), (2, .int ((x2 >>> ((4 : Int32) &&& 31)) &&& 65535)), (0, .ref (a)), (1, .int (x2))]) hx hb dL_act_35 hl (by decide) rfl (fun ls hl => ?_)
    refine lv_iload_n hx hb dL_act_37 rfl (lv_at hl 4 rfl) ?_
    refine lv_bipush (v := 15) hx hb dL_act_38 (by decide) ?_
    refine lv_iand hx hb dL_act_40 ?_
    by_cases k_41_0 : (x2 &&& 15) = 0
    · replace hsp := (if_pos k_41_0).symm.trans hsp
      refine lv_tableIn (tgt := 116) (off := 75) hx hb dL_act_41 (by rw [k_41_0]; decide) (by rw [k_41_0]; decide) (by rw [k_41_0]; rfl) (by decide) ?_
      refine lv_iload_n hx hb dL_act_116 rfl (lv_at hl 2 rfl) ?_
      refine lv_bipush (v := 64) hx hb dL_act_117 (by decide) ?_
      refine lv_iand hx hb dL_act_119 ?_
      refine lv_if_ne (tgt := 130) hx hb dL_act_120 (by decide) (fun c_120 => ?_) (fun c_120 => ?_)
      · replace hsp := (if_neg c_120).symm.trans hsp
        refine lv_aload_n hx hb dL_act_130 rfl (lv_at hl 3 rfl) ?_
        refine lv_iload_n hx hb dL_act_131 rfl (lv_at hl 2 rfl) ?_
        refine lv_iconst (v := 2) hx hb dL_act_132 (by decide) ?_
        refine lv_ishr hx hb dL_act_133 ?_
        refine lv_iconst (v := 5) hx hb dL_act_134 (by decide) ?_
        refine lv_irem hx hb dL_act_135 (by decide) ?_
        refine lv_iload_n hx hb dL_act_136 rfl (lv_at hl 2 rfl) ?_
        refine lv_iconst (v := 4) hx hb dL_act_137 (by decide) ?_
        refine lv_ishr hx hb dL_act_138 ?_
        refine lv_bipush (v := 22) hx hb dL_act_139 (by decide) ?_
        refine lv_irem hx hb dL_act_141 (by decide) ?_
        refine va_calli (vx_runSW (As := [.ref (a), .int ((((x2 >>> ((4 : Int32) &&& 31)) &&& 65535) >>> ((2 : Int32) &&& 31)) - (((x2 >>> ((4 : Int32) &&& 31)) &&& 65535) >>> ((2 : Int32) &&& 31)) / 5 * 5), .int ((((x2 >>> ((4 : Int32) &&& 31)) &&& 65535) >>> ((4 : Int32) &&& 31)) - (((x2 >>> ((4 : Int32) &&& 31)) &&& 65535) >>> ((4 : Int32) &&& 31)) / 22 * 22)]) (rest := []) ⟨hx, hb, hml, hown, hts⟩ (d_L_setPrice l hl0 D Z k sz a σ ((((x2 >>> ((4 : Int32) &&& 31)) &&& 65535) >>> ((2 : Int32) &&& 31)) - (((x2 >>> ((4 : Int32) &&& 31)) &&& 65535) >>> ((2 : Int32) &&& 31)) / 5 * 5) ((((x2 >>> ((4 : Int32) &&& 31)) &&& 65535) >>> ((4 : Int32) &&& 31)) - (((x2 >>> ((4 : Int32) &&& 31)) &&& 65535) >>> ((4 : Int32) &&& 31)) / 22 * 22) (hJ.pm _ h0) (hJ.ex_setPrice _ ((((x2 >>> ((4 : Int32) &&& 31)) &&& 65535) >>> ((2 : Int32) &&& 31)) - (((x2 >>> ((4 : Int32) &&& 31)) &&& 65535) >>> ((2 : Int32) &&& 31)) / 5 * 5) ((((x2 >>> ((4 : Int32) &&& 31)) &&& 65535) >>> ((4 : Int32) &&& 31)) - (((x2 >>> ((4 : Int32) &&& 31)) &&& 65535) >>> ((4 : Int32) &&& 31)) / 22 * 22) h0)) (vx_cwSW 3 hts gL_act_L_setPrice rfl rfl rfl (by decide +kernel) ⟨Nat.le_of_ble_eq_true rfl, Nat.le_of_ble_eq_true rfl⟩) (ft_preM hEL hz hS hP) rfl rfl hl.1 rfl (lv_room (Nat.le_of_ble_eq_true rfl)) dL_act_142 ⟨Nat.le_of_ble_eq_true rfl, Nat.le_of_ble_eq_true rfl⟩) hS (fun _ _ h => h) (fun _ h => h) (fun z u t H1 locs1 ht hvm hw hB hz1 hk1 hS1 => ?_)
        obtain ⟨rfl, rfl⟩ : z = (w_setPrice σ ((((x2 >>> ((4 : Int32) &&& 31)) &&& 65535) >>> ((2 : Int32) &&& 31)) - (((x2 >>> ((4 : Int32) &&& 31)) &&& 65535) >>> ((2 : Int32) &&& 31)) / 5 * 5) ((((x2 >>> ((4 : Int32) &&& 31)) &&& 65535) >>> ((4 : Int32) &&& 31)) - (((x2 >>> ((4 : Int32) &&& 31)) &&& 65535) >>> ((4 : Int32) &&& 31)) / 22 * 22)).1 ∧ u = (w_setPrice σ ((((x2 >>> ((4 : Int32) &&& 31)) &&& 65535) >>> ((2 : Int32) &&& 31)) - (((x2 >>> ((4 : Int32) &&& 31)) &&& 65535) >>> ((2 : Int32) &&& 31)) / 5 * 5) ((((x2 >>> ((4 : Int32) &&& 31)) &&& 65535) >>> ((4 : Int32) &&& 31)) - (((x2 >>> ((4 : Int32) &&& 31)) &&& 65535) >>> ((4 : Int32) &&& 31)) / 22 * 22)).2 := ⟨congrArg Prod.fst hw, congrArg Prod.snd hw⟩
        rw [ht] at hB
        have hP := hB
        have hS := hS1
        clear hS1
        generalize H1 = H at hP hS ⊢
        refine W.widen (k := 1) (n := 6) (by omega) (by omega) ?_
        have hJ_142_0 : J (w_setPrice σ ((((x2 >>> ((4 : Int32) &&& 31)) &&& 65535) >>> ((2 : Int32) &&& 31)) - (((x2 >>> ((4 : Int32) &&& 31)) &&& 65535) >>> ((2 : Int32) &&& 31)) / 5 * 5) ((((x2 >>> ((4 : Int32) &&& 31)) &&& 65535) >>> ((4 : Int32) &&& 31)) - (((x2 >>> ((4 : Int32) &&& 31)) &&& 65535) >>> ((4 : Int32) &&& 31)) / 22 * 22)).2 := hJ.k_setPrice _ ((((x2 >>> ((4 : Int32) &&& 31)) &&& 65535) >>> ((2 : Int32) &&& 31)) - (((x2 >>> ((4 : Int32) &&& 31)) &&& 65535) >>> ((2 : Int32) &&& 31)) / 5 * 5) ((((x2 >>> ((4 : Int32) &&& 31)) &&& 65535) >>> ((4 : Int32) &&& 31)) - (((x2 >>> ((4 : Int32) &&& 31)) &&& 65535) >>> ((4 : Int32) &&& 31)) / 22 * 22) h0
        refine W.widen (k := 26) (n := 3756) (by omega) (by omega) ?_
        exact W.iret (v := (w_setPrice σ ((((x2 >>> ((4 : Int32) &&& 31)) &&& 65535) >>> ((2 : Int32) &&& 31)) - (((x2 >>> ((4 : Int32) &&& 31)) &&& 65535) >>> ((2 : Int32) &&& 31)) / 5 * 5) ((((x2 >>> ((4 : Int32) &&& 31)) &&& 65535) >>> ((4 : Int32) &&& 31)) - (((x2 >>> ((4 : Int32) &&& 31)) &&& 65535) >>> ((4 : Int32) &&& 31)) / 22 * 22)).1) hx hb hr (fun t ht hW => ⟨⟨(w_setPrice σ ((((x2 >>> ((4 : Int32) &&& 31)) &&& 65535) >>> ((2 : Int32) &&& 31)) - (((x2 >>> ((4 : Int32) &&& 31)) &&& 65535) >>> ((2 : Int32) &&& 31)) / 5 * 5) ((((x2 >>> ((4 : Int32) &&& 31)) &&& 65535) >>> ((4 : Int32) &&& 31)) - (((x2 >>> ((4 : Int32) &&& 31)) &&& 65535) >>> ((4 : Int32) &&& 31)) / 22 * 22)).1, (w_setPrice σ ((((x2 >>> ((4 : Int32) &&& 31)) &&& 65535) >>> ((2 : Int32) &&& 31)) - (((x2 >>> ((4 : Int32) &&& 31)) &&& 65535) >>> ((2 : Int32) &&& 31)) / 5 * 5) ((((x2 >>> ((4 : Int32) &&& 31)) &&& 65535) >>> ((4 : Int32) &&& 31)) - (((x2 >>> ((4 : Int32) &&& 31)) &&& 65535) >>> ((4 : Int32) &&& 31)) / 22 * 22)).2, rfl, ⟨hsp, hJ_142_0⟩, by show ft_LW D k Z sz a _ t.heap; rw [ht]; exact hP⟩, hS.F ht⟩) hS.2.2 dL_act_145
      · replace hsp := (if_pos c_120).symm.trans hsp
        refine lv_aload_n hx hb dL_act_123 rfl (lv_at hl 3 rfl) ?_
        refine va_calli (vx_runSW (As := [.ref (a)]) (rest := []) ⟨hx, hb, hml, hown, hts⟩ (d_L_addTruck l hl0 D Z k sz a σ (hJ.pm _ h0) (hJ.ex_addTruck _ h0)) (vx_cwSW 1 hts gL_act_L_addTruck rfl rfl rfl (by decide +kernel) ⟨Nat.le_of_ble_eq_true rfl, Nat.le_of_ble_eq_true rfl⟩) (ft_preM hEL hz hS hP) rfl rfl hl.1 rfl (lv_room (Nat.le_of_ble_eq_true rfl)) dL_act_124 ⟨Nat.le_of_ble_eq_true rfl, Nat.le_of_ble_eq_true rfl⟩) hS (fun _ _ h => h) (fun _ h => h) (fun z u t H1 locs1 ht hvm hw hB hz1 hk1 hS1 => ?_)
        obtain ⟨rfl, rfl⟩ : z = (w_addTruck σ).1 ∧ u = (w_addTruck σ).2 := ⟨congrArg Prod.fst hw, congrArg Prod.snd hw⟩
        rw [ht] at hB
        have hP := hB
        have hS := hS1
        clear hS1
        generalize H1 = H at hP hS ⊢
        refine W.widen (k := 1) (n := 6) (by omega) (by omega) ?_
        have hJ_124_1 : J (w_addTruck σ).2 := hJ.k_addTruck _ h0
        refine lv_goto (tgt := 145) hx hb dL_act_127 (by decide) ?_
        refine W.widen (k := 26) (n := 3756) (by omega) (by omega) ?_
        exact W.iret (v := (w_addTruck σ).1) hx hb hr (fun t ht hW => ⟨⟨(w_addTruck σ).1, (w_addTruck σ).2, rfl, ⟨hsp, hJ_124_1⟩, by show ft_LW D k Z sz a _ t.heap; rw [ht]; exact hP⟩, hS.F ht⟩) hS.2.2 dL_act_145
    replace hsp := (if_neg k_41_0).symm.trans hsp
    by_cases k_41_1 : (x2 &&& 15) = 1
    · replace hsp := (if_pos k_41_1).symm.trans hsp
      refine lv_tableIn (tgt := 146) (off := 105) hx hb dL_act_41 (by rw [k_41_1]; decide) (by rw [k_41_1]; decide) (by rw [k_41_1]; rfl) (by decide) ?_
      refine lv_aload_n hx hb dL_act_146 rfl (lv_at hl 3 rfl) ?_
      refine lv_iload_n hx hb dL_act_147 rfl (lv_at hl 1 rfl) ?_
      refine lv_iload_n hx hb dL_act_148 rfl (lv_at hl 2 rfl) ?_
      refine lv_iconst (v := 2) hx hb dL_act_149 (by decide) ?_
      refine lv_ishr hx hb dL_act_150 ?_
      refine lv_iconst (v := 4) hx hb dL_act_151 (by decide) ?_
      refine lv_irem hx hb dL_act_152 (by decide) ?_
      refine lv_iload_n hx hb dL_act_153 rfl (lv_at hl 2 rfl) ?_
      refine lv_iconst (v := 4) hx hb dL_act_154 (by decide) ?_
      refine lv_ishr hx hb dL_act_155 ?_
      refine lv_bipush (v := 30) hx hb dL_act_156 (by decide) ?_
      refine lv_irem hx hb dL_act_158 (by decide) ?_
      refine va_calli (vx_runSW (As := [.ref (a), .int (((x2 >>> ((4 : Int32) &&& 31)) &&& 65535) - ((x2 >>> ((4 : Int32) &&& 31)) &&& 65535) / 4 * 4), .int ((((x2 >>> ((4 : Int32) &&& 31)) &&& 65535) >>> ((2 : Int32) &&& 31)) - (((x2 >>> ((4 : Int32) &&& 31)) &&& 65535) >>> ((2 : Int32) &&& 31)) / 4 * 4), .int ((((x2 >>> ((4 : Int32) &&& 31)) &&& 65535) >>> ((4 : Int32) &&& 31)) - (((x2 >>> ((4 : Int32) &&& 31)) &&& 65535) >>> ((4 : Int32) &&& 31)) / 30 * 30)]) (rest := []) ⟨hx, hb, hml, hown, hts⟩ (d_L_addStock l hl0 D Z k sz a σ (((x2 >>> ((4 : Int32) &&& 31)) &&& 65535) - ((x2 >>> ((4 : Int32) &&& 31)) &&& 65535) / 4 * 4) ((((x2 >>> ((4 : Int32) &&& 31)) &&& 65535) >>> ((2 : Int32) &&& 31)) - (((x2 >>> ((4 : Int32) &&& 31)) &&& 65535) >>> ((2 : Int32) &&& 31)) / 4 * 4) ((((x2 >>> ((4 : Int32) &&& 31)) &&& 65535) >>> ((4 : Int32) &&& 31)) - (((x2 >>> ((4 : Int32) &&& 31)) &&& 65535) >>> ((4 : Int32) &&& 31)) / 30 * 30) (hJ.pm _ h0) (hJ.ex_addStock _ (((x2 >>> ((4 : Int32) &&& 31)) &&& 65535) - ((x2 >>> ((4 : Int32) &&& 31)) &&& 65535) / 4 * 4) ((((x2 >>> ((4 : Int32) &&& 31)) &&& 65535) >>> ((2 : Int32) &&& 31)) - (((x2 >>> ((4 : Int32) &&& 31)) &&& 65535) >>> ((2 : Int32) &&& 31)) / 4 * 4) ((((x2 >>> ((4 : Int32) &&& 31)) &&& 65535) >>> ((4 : Int32) &&& 31)) - (((x2 >>> ((4 : Int32) &&& 31)) &&& 65535) >>> ((4 : Int32) &&& 31)) / 30 * 30) h0)) (vx_cwSW 4 hts gL_act_L_addStock rfl rfl rfl (by decide +kernel) ⟨Nat.le_of_ble_eq_true rfl, Nat.le_of_ble_eq_true rfl⟩) (ft_preM hEL hz hS hP) rfl rfl hl.1 rfl (lv_room (Nat.le_of_ble_eq_true rfl)) dL_act_159 ⟨Nat.le_of_ble_eq_true rfl, Nat.le_of_ble_eq_true rfl⟩) hS (fun _ _ h => h) (fun _ h => h) (fun z u t H1 locs1 ht hvm hw hB hz1 hk1 hS1 => ?_)
      obtain ⟨rfl, rfl⟩ : z = (w_addStock σ (((x2 >>> ((4 : Int32) &&& 31)) &&& 65535) - ((x2 >>> ((4 : Int32) &&& 31)) &&& 65535) / 4 * 4) ((((x2 >>> ((4 : Int32) &&& 31)) &&& 65535) >>> ((2 : Int32) &&& 31)) - (((x2 >>> ((4 : Int32) &&& 31)) &&& 65535) >>> ((2 : Int32) &&& 31)) / 4 * 4) ((((x2 >>> ((4 : Int32) &&& 31)) &&& 65535) >>> ((4 : Int32) &&& 31)) - (((x2 >>> ((4 : Int32) &&& 31)) &&& 65535) >>> ((4 : Int32) &&& 31)) / 30 * 30)).1 ∧ u = (w_addStock σ (((x2 >>> ((4 : Int32) &&& 31)) &&& 65535) - ((x2 >>> ((4 : Int32) &&& 31)) &&& 65535) / 4 * 4) ((((x2 >>> ((4 : Int32) &&& 31)) &&& 65535) >>> ((2 : Int32) &&& 31)) - (((x2 >>> ((4 : Int32) &&& 31)) &&& 65535) >>> ((2 : Int32) &&& 31)) / 4 * 4) ((((x2 >>> ((4 : Int32) &&& 31)) &&& 65535) >>> ((4 : Int32) &&& 31)) - (((x2 >>> ((4 : Int32) &&& 31)) &&& 65535) >>> ((4 : Int32) &&& 31)) / 30 * 30)).2 := ⟨congrArg Prod.fst hw, congrArg Prod.snd hw⟩
      rw [ht] at hB
      have hP := hB
      have hS := hS1
      clear hS1
      generalize H1 = H at hP hS ⊢
      refine W.widen (k := 1) (n := 6) (by omega) (by omega) ?_
      have hJ_159_2 : J (w_addStock σ (((x2 >>> ((4 : Int32) &&& 31)) &&& 65535) - ((x2 >>> ((4 : Int32) &&& 31)) &&& 65535) / 4 * 4) ((((x2 >>> ((4 : Int32) &&& 31)) &&& 65535) >>> ((2 : Int32) &&& 31)) - (((x2 >>> ((4 : Int32) &&& 31)) &&& 65535) >>> ((2 : Int32) &&& 31)) / 4 * 4) ((((x2 >>> ((4 : Int32) &&& 31)) &&& 65535) >>> ((4 : Int32) &&& 31)) - (((x2 >>> ((4 : Int32) &&& 31)) &&& 65535) >>> ((4 : Int32) &&& 31)) / 30 * 30)).2 := hJ.k_addStock _ (((x2 >>> ((4 : Int32) &&& 31)) &&& 65535) - ((x2 >>> ((4 : Int32) &&& 31)) &&& 65535) / 4 * 4) ((((x2 >>> ((4 : Int32) &&& 31)) &&& 65535) >>> ((2 : Int32) &&& 31)) - (((x2 >>> ((4 : Int32) &&& 31)) &&& 65535) >>> ((2 : Int32) &&& 31)) / 4 * 4) ((((x2 >>> ((4 : Int32) &&& 31)) &&& 65535) >>> ((4 : Int32) &&& 31)) - (((x2 >>> ((4 : Int32) &&& 31)) &&& 65535) >>> ((4 : Int32) &&& 31)) / 30 * 30) h0
      refine W.widen (k := 26) (n := 3756) (by omega) (by omega) ?_
      exact W.iret (v := (w_addStock σ (((x2 >>> ((4 : Int32) &&& 31)) &&& 65535) - ((x2 >>> ((4 : Int32) &&& 31)) &&& 65535) / 4 * 4) ((((x2 >>> ((4 : Int32) &&& 31)) &&& 65535) >>> ((2 : Int32) &&& 31)) - (((x2 >>> ((4 : Int32) &&& 31)) &&& 65535) >>> ((2 : Int32) &&& 31)) / 4 * 4) ((((x2 >>> ((4 : Int32) &&& 31)) &&& 65535) >>> ((4 : Int32) &&& 31)) - (((x2 >>> ((4 : Int32) &&& 31)) &&& 65535) >>> ((4 : Int32) &&& 31)) / 30 * 30)).1) hx hb hr (fun t ht hW => ⟨⟨(w_addStock σ (((x2 >>> ((4 : Int32) &&& 31)) &&& 65535) - ((x2 >>> ((4 : Int32) &&& 31)) &&& 65535) / 4 * 4) ((((x2 >>> ((4 : Int32) &&& 31)) &&& 65535) >>> ((2 : Int32) &&& 31)) - (((x2 >>> ((4 : Int32) &&& 31)) &&& 65535) >>> ((2 : Int32) &&& 31)) / 4 * 4) ((((x2 >>> ((4 : Int32) &&& 31)) &&& 65535) >>> ((4 : Int32) &&& 31)) - (((x2 >>> ((4 : Int32) &&& 31)) &&& 65535) >>> ((4 : Int32) &&& 31)) / 30 * 30)).1, (w_addStock σ (((x2 >>> ((4 : Int32) &&& 31)) &&& 65535) - ((x2 >>> ((4 : Int32) &&& 31)) &&& 65535) / 4 * 4) ((((x2 >>> ((4 : Int32) &&& 31)) &&& 65535) >>> ((2 : Int32) &&& 31)) - (((x2 >>> ((4 : Int32) &&& 31)) &&& 65535) >>> ((2 : Int32) &&& 31)) / 4 * 4) ((((x2 >>> ((4 : Int32) &&& 31)) &&& 65535) >>> ((4 : Int32) &&& 31)) - (((x2 >>> ((4 : Int32) &&& 31)) &&& 65535) >>> ((4 : Int32) &&& 31)) / 30 * 30)).2, rfl, ⟨hsp, hJ_159_2⟩, by show ft_LW D k Z sz a _ t.heap; rw [ht]; exact hP⟩, hS.F ht⟩) hS.2.2 dL_act_162
    replace hsp := (if_neg k_41_1).symm.trans hsp
    by_cases k_41_2 : (x2 &&& 15) = 2
    · replace hsp := (if_pos k_41_2).symm.trans hsp
      refine lv_tableIn (tgt := 146) (off := 105) hx hb dL_act_41 (by rw [k_41_2]; decide) (by rw [k_41_2]; decide) (by rw [k_41_2]; rfl) (by decide) ?_
      refine lv_aload_n hx hb dL_act_146 rfl (lv_at hl 3 rfl) ?_
      refine lv_iload_n hx hb dL_act_147 rfl (lv_at hl 1 rfl) ?_
      refine lv_iload_n hx hb dL_act_148 rfl (lv_at hl 2 rfl) ?_
      refine lv_iconst (v := 2) hx hb dL_act_149 (by decide) ?_
      refine lv_ishr hx hb dL_act_150 ?_
      refine lv_iconst (v := 4) hx hb dL_act_151 (by decide) ?_
      refine lv_irem hx hb dL_act_152 (by decide) ?_
      refine lv_iload_n hx hb dL_act_153 rfl (lv_at hl 2 rfl) ?_
      refine lv_iconst (v := 4) hx hb dL_act_154 (by decide) ?_
      refine lv_ishr hx hb dL_act_155 ?_
      refine lv_bipush (v := 30) hx hb dL_act_156 (by decide) ?_
      refine lv_irem hx hb dL_act_158 (by decide) ?_
      refine va_calli (vx_runSW (As := [.ref (a), .int (((x2 >>> ((4 : Int32) &&& 31)) &&& 65535) - ((x2 >>> ((4 : Int32) &&& 31)) &&& 65535) / 4 * 4), .int ((((x2 >>> ((4 : Int32) &&& 31)) &&& 65535) >>> ((2 : Int32) &&& 31)) - (((x2 >>> ((4 : Int32) &&& 31)) &&& 65535) >>> ((2 : Int32) &&& 31)) / 4 * 4), .int ((((x2 >>> ((4 : Int32) &&& 31)) &&& 65535) >>> ((4 : Int32) &&& 31)) - (((x2 >>> ((4 : Int32) &&& 31)) &&& 65535) >>> ((4 : Int32) &&& 31)) / 30 * 30)]) (rest := []) ⟨hx, hb, hml, hown, hts⟩ (d_L_addStock l hl0 D Z k sz a σ (((x2 >>> ((4 : Int32) &&& 31)) &&& 65535) - ((x2 >>> ((4 : Int32) &&& 31)) &&& 65535) / 4 * 4) ((((x2 >>> ((4 : Int32) &&& 31)) &&& 65535) >>> ((2 : Int32) &&& 31)) - (((x2 >>> ((4 : Int32) &&& 31)) &&& 65535) >>> ((2 : Int32) &&& 31)) / 4 * 4) ((((x2 >>> ((4 : Int32) &&& 31)) &&& 65535) >>> ((4 : Int32) &&& 31)) - (((x2 >>> ((4 : Int32) &&& 31)) &&& 65535) >>> ((4 : Int32) &&& 31)) / 30 * 30) (hJ.pm _ h0) (hJ.ex_addStock _ (((x2 >>> ((4 : Int32) &&& 31)) &&& 65535) - ((x2 >>> ((4 : Int32) &&& 31)) &&& 65535) / 4 * 4) ((((x2 >>> ((4 : Int32) &&& 31)) &&& 65535) >>> ((2 : Int32) &&& 31)) - (((x2 >>> ((4 : Int32) &&& 31)) &&& 65535) >>> ((2 : Int32) &&& 31)) / 4 * 4) ((((x2 >>> ((4 : Int32) &&& 31)) &&& 65535) >>> ((4 : Int32) &&& 31)) - (((x2 >>> ((4 : Int32) &&& 31)) &&& 65535) >>> ((4 : Int32) &&& 31)) / 30 * 30) h0)) (vx_cwSW 4 hts gL_act_L_addStock rfl rfl rfl (by decide +kernel) ⟨Nat.le_of_ble_eq_true rfl, Nat.le_of_ble_eq_true rfl⟩) (ft_preM hEL hz hS hP) rfl rfl hl.1 rfl (lv_room (Nat.le_of_ble_eq_true rfl)) dL_act_159 ⟨Nat.le_of_ble_eq_true rfl, Nat.le_of_ble_eq_true rfl⟩) hS (fun _ _ h => h) (fun _ h => h) (fun z u t H1 locs1 ht hvm hw hB hz1 hk1 hS1 => ?_)
      obtain ⟨rfl, rfl⟩ : z = (w_addStock σ (((x2 >>> ((4 : Int32) &&& 31)) &&& 65535) - ((x2 >>> ((4 : Int32) &&& 31)) &&& 65535) / 4 * 4) ((((x2 >>> ((4 : Int32) &&& 31)) &&& 65535) >>> ((2 : Int32) &&& 31)) - (((x2 >>> ((4 : Int32) &&& 31)) &&& 65535) >>> ((2 : Int32) &&& 31)) / 4 * 4) ((((x2 >>> ((4 : Int32) &&& 31)) &&& 65535) >>> ((4 : Int32) &&& 31)) - (((x2 >>> ((4 : Int32) &&& 31)) &&& 65535) >>> ((4 : Int32) &&& 31)) / 30 * 30)).1 ∧ u = (w_addStock σ (((x2 >>> ((4 : Int32) &&& 31)) &&& 65535) - ((x2 >>> ((4 : Int32) &&& 31)) &&& 65535) / 4 * 4) ((((x2 >>> ((4 : Int32) &&& 31)) &&& 65535) >>> ((2 : Int32) &&& 31)) - (((x2 >>> ((4 : Int32) &&& 31)) &&& 65535) >>> ((2 : Int32) &&& 31)) / 4 * 4) ((((x2 >>> ((4 : Int32) &&& 31)) &&& 65535) >>> ((4 : Int32) &&& 31)) - (((x2 >>> ((4 : Int32) &&& 31)) &&& 65535) >>> ((4 : Int32) &&& 31)) / 30 * 30)).2 := ⟨congrArg Prod.fst hw, congrArg Prod.snd hw⟩
      rw [ht] at hB
      have hP := hB
      have hS := hS1
      clear hS1
      generalize H1 = H at hP hS ⊢
      refine W.widen (k := 1) (n := 6) (by omega) (by omega) ?_
      have hJ_159_3 : J (w_addStock σ (((x2 >>> ((4 : Int32) &&& 31)) &&& 65535) - ((x2 >>> ((4 : Int32) &&& 31)) &&& 65535) / 4 * 4) ((((x2 >>> ((4 : Int32) &&& 31)) &&& 65535) >>> ((2 : Int32) &&& 31)) - (((x2 >>> ((4 : Int32) &&& 31)) &&& 65535) >>> ((2 : Int32) &&& 31)) / 4 * 4) ((((x2 >>> ((4 : Int32) &&& 31)) &&& 65535) >>> ((4 : Int32) &&& 31)) - (((x2 >>> ((4 : Int32) &&& 31)) &&& 65535) >>> ((4 : Int32) &&& 31)) / 30 * 30)).2 := hJ.k_addStock _ (((x2 >>> ((4 : Int32) &&& 31)) &&& 65535) - ((x2 >>> ((4 : Int32) &&& 31)) &&& 65535) / 4 * 4) ((((x2 >>> ((4 : Int32) &&& 31)) &&& 65535) >>> ((2 : Int32) &&& 31)) - (((x2 >>> ((4 : Int32) &&& 31)) &&& 65535) >>> ((2 : Int32) &&& 31)) / 4 * 4) ((((x2 >>> ((4 : Int32) &&& 31)) &&& 65535) >>> ((4 : Int32) &&& 31)) - (((x2 >>> ((4 : Int32) &&& 31)) &&& 65535) >>> ((4 : Int32) &&& 31)) / 30 * 30) h0
      refine W.widen (k := 26) (n := 3756) (by omega) (by omega) ?_
      exact W.iret (v := (w_addStock σ (((x2 >>> ((4 : Int32) &&& 31)) &&& 65535) - ((x2 >>> ((4 : Int32) &&& 31)) &&& 65535) / 4 * 4) ((((x2 >>> ((4 : Int32) &&& 31)) &&& 65535) >>> ((2 : Int32) &&& 31)) - (((x2 >>> ((4 : Int32) &&& 31)) &&& 65535) >>> ((2 : Int32) &&& 31)) / 4 * 4) ((((x2 >>> ((4 : Int32) &&& 31)) &&& 65535) >>> ((4 : Int32) &&& 31)) - (((x2 >>> ((4 : Int32) &&& 31)) &&& 65535) >>> ((4 : Int32) &&& 31)) / 30 * 30)).1) hx hb hr (fun t ht hW => ⟨⟨(w_addStock σ (((x2 >>> ((4 : Int32) &&& 31)) &&& 65535) - ((x2 >>> ((4 : Int32) &&& 31)) &&& 65535) / 4 * 4) ((((x2 >>> ((4 : Int32) &&& 31)) &&& 65535) >>> ((2 : Int32) &&& 31)) - (((x2 >>> ((4 : Int32) &&& 31)) &&& 65535) >>> ((2 : Int32) &&& 31)) / 4 * 4) ((((x2 >>> ((4 : Int32) &&& 31)) &&& 65535) >>> ((4 : Int32) &&& 31)) - (((x2 >>> ((4 : Int32) &&& 31)) &&& 65535) >>> ((4 : Int32) &&& 31)) / 30 * 30)).1, (w_addStock σ (((x2 >>> ((4 : Int32) &&& 31)) &&& 65535) - ((x2 >>> ((4 : Int32) &&& 31)) &&& 65535) / 4 * 4) ((((x2 >>> ((4 : Int32) &&& 31)) &&& 65535) >>> ((2 : Int32) &&& 31)) - (((x2 >>> ((4 : Int32) &&& 31)) &&& 65535) >>> ((2 : Int32) &&& 31)) / 4 * 4) ((((x2 >>> ((4 : Int32) &&& 31)) &&& 65535) >>> ((4 : Int32) &&& 31)) - (((x2 >>> ((4 : Int32) &&& 31)) &&& 65535) >>> ((4 : Int32) &&& 31)) / 30 * 30)).2, rfl, ⟨hsp, hJ_159_3⟩, by show ft_LW D k Z sz a _ t.heap; rw [ht]; exact hP⟩, hS.F ht⟩) hS.2.2 dL_act_162
    replace hsp := (if_neg k_41_2).symm.trans hsp
    by_cases k_41_3 : (x2 &&& 15) = 3
    · replace hsp := (if_pos k_41_3).symm.trans hsp
      refine lv_tableIn (tgt := 146) (off := 105) hx hb dL_act_41 (by rw [k_41_3]; decide) (by rw [k_41_3]; decide) (by rw [k_41_3]; rfl) (by decide) ?_
      refine lv_aload_n hx hb dL_act_146 rfl (lv_at hl 3 rfl) ?_
      refine lv_iload_n hx hb dL_act_147 rfl (lv_at hl 1 rfl) ?_
      refine lv_iload_n hx hb dL_act_148 rfl (lv_at hl 2 rfl) ?_
      refine lv_iconst (v := 2) hx hb dL_act_149 (by decide) ?_
      refine lv_ishr hx hb dL_act_150 ?_
      refine lv_iconst (v := 4) hx hb dL_act_151 (by decide) ?_
      refine lv_irem hx hb dL_act_152 (by decide) ?_
      refine lv_iload_n hx hb dL_act_153 rfl (lv_at hl 2 rfl) ?_
      refine lv_iconst (v := 4) hx hb dL_act_154 (by decide) ?_
      refine lv_ishr hx hb dL_act_155 ?_
      refine lv_bipush (v := 30) hx hb dL_act_156 (by decide) ?_
      refine lv_irem hx hb dL_act_158 (by decide) ?_
      refine va_calli (vx_runSW (As := [.ref (a), .int (((x2 >>> ((4 : Int32) &&& 31)) &&& 65535) - ((x2 >>> ((4 : Int32) &&& 31)) &&& 65535) / 4 * 4), .int ((((x2 >>> ((4 : Int32) &&& 31)) &&& 65535) >>> ((2 : Int32) &&& 31)) - (((x2 >>> ((4 : Int32) &&& 31)) &&& 65535) >>> ((2 : Int32) &&& 31)) / 4 * 4), .int ((((x2 >>> ((4 : Int32) &&& 31)) &&& 65535) >>> ((4 : Int32) &&& 31)) - (((x2 >>> ((4 : Int32) &&& 31)) &&& 65535) >>> ((4 : Int32) &&& 31)) / 30 * 30)]) (rest := []) ⟨hx, hb, hml, hown, hts⟩ (d_L_addStock l hl0 D Z k sz a σ (((x2 >>> ((4 : Int32) &&& 31)) &&& 65535) - ((x2 >>> ((4 : Int32) &&& 31)) &&& 65535) / 4 * 4) ((((x2 >>> ((4 : Int32) &&& 31)) &&& 65535) >>> ((2 : Int32) &&& 31)) - (((x2 >>> ((4 : Int32) &&& 31)) &&& 65535) >>> ((2 : Int32) &&& 31)) / 4 * 4) ((((x2 >>> ((4 : Int32) &&& 31)) &&& 65535) >>> ((4 : Int32) &&& 31)) - (((x2 >>> ((4 : Int32) &&& 31)) &&& 65535) >>> ((4 : Int32) &&& 31)) / 30 * 30) (hJ.pm _ h0) (hJ.ex_addStock _ (((x2 >>> ((4 : Int32) &&& 31)) &&& 65535) - ((x2 >>> ((4 : Int32) &&& 31)) &&& 65535) / 4 * 4) ((((x2 >>> ((4 : Int32) &&& 31)) &&& 65535) >>> ((2 : Int32) &&& 31)) - (((x2 >>> ((4 : Int32) &&& 31)) &&& 65535) >>> ((2 : Int32) &&& 31)) / 4 * 4) ((((x2 >>> ((4 : Int32) &&& 31)) &&& 65535) >>> ((4 : Int32) &&& 31)) - (((x2 >>> ((4 : Int32) &&& 31)) &&& 65535) >>> ((4 : Int32) &&& 31)) / 30 * 30) h0)) (vx_cwSW 4 hts gL_act_L_addStock rfl rfl rfl (by decide +kernel) ⟨Nat.le_of_ble_eq_true rfl, Nat.le_of_ble_eq_true rfl⟩) (ft_preM hEL hz hS hP) rfl rfl hl.1 rfl (lv_room (Nat.le_of_ble_eq_true rfl)) dL_act_159 ⟨Nat.le_of_ble_eq_true rfl, Nat.le_of_ble_eq_true rfl⟩) hS (fun _ _ h => h) (fun _ h => h) (fun z u t H1 locs1 ht hvm hw hB hz1 hk1 hS1 => ?_)
      obtain ⟨rfl, rfl⟩ : z = (w_addStock σ (((x2 >>> ((4 : Int32) &&& 31)) &&& 65535) - ((x2 >>> ((4 : Int32) &&& 31)) &&& 65535) / 4 * 4) ((((x2 >>> ((4 : Int32) &&& 31)) &&& 65535) >>> ((2 : Int32) &&& 31)) - (((x2 >>> ((4 : Int32) &&& 31)) &&& 65535) >>> ((2 : Int32) &&& 31)) / 4 * 4) ((((x2 >>> ((4 : Int32) &&& 31)) &&& 65535) >>> ((4 : Int32) &&& 31)) - (((x2 >>> ((4 : Int32) &&& 31)) &&& 65535) >>> ((4 : Int32) &&& 31)) / 30 * 30)).1 ∧ u = (w_addStock σ (((x2 >>> ((4 : Int32) &&& 31)) &&& 65535) - ((x2 >>> ((4 : Int32) &&& 31)) &&& 65535) / 4 * 4) ((((x2 >>> ((4 : Int32) &&& 31)) &&& 65535) >>> ((2 : Int32) &&& 31)) - (((x2 >>> ((4 : Int32) &&& 31)) &&& 65535) >>> ((2 : Int32) &&& 31)) / 4 * 4) ((((x2 >>> ((4 : Int32) &&& 31)) &&& 65535) >>> ((4 : Int32) &&& 31)) - (((x2 >>> ((4 : Int32) &&& 31)) &&& 65535) >>> ((4 : Int32) &&& 31)) / 30 * 30)).2 := ⟨congrArg Prod.fst hw, congrArg Prod.snd hw⟩
      rw [ht] at hB
      have hP := hB
      have hS := hS1
      clear hS1
      generalize H1 = H at hP hS ⊢
      refine W.widen (k := 1) (n := 6) (by omega) (by omega) ?_
      have hJ_159_4 : J (w_addStock σ (((x2 >>> ((4 : Int32) &&& 31)) &&& 65535) - ((x2 >>> ((4 : Int32) &&& 31)) &&& 65535) / 4 * 4) ((((x2 >>> ((4 : Int32) &&& 31)) &&& 65535) >>> ((2 : Int32) &&& 31)) - (((x2 >>> ((4 : Int32) &&& 31)) &&& 65535) >>> ((2 : Int32) &&& 31)) / 4 * 4) ((((x2 >>> ((4 : Int32) &&& 31)) &&& 65535) >>> ((4 : Int32) &&& 31)) - (((x2 >>> ((4 : Int32) &&& 31)) &&& 65535) >>> ((4 : Int32) &&& 31)) / 30 * 30)).2 := hJ.k_addStock _ (((x2 >>> ((4 : Int32) &&& 31)) &&& 65535) - ((x2 >>> ((4 : Int32) &&& 31)) &&& 65535) / 4 * 4) ((((x2 >>> ((4 : Int32) &&& 31)) &&& 65535) >>> ((2 : Int32) &&& 31)) - (((x2 >>> ((4 : Int32) &&& 31)) &&& 65535) >>> ((2 : Int32) &&& 31)) / 4 * 4) ((((x2 >>> ((4 : Int32) &&& 31)) &&& 65535) >>> ((4 : Int32) &&& 31)) - (((x2 >>> ((4 : Int32) &&& 31)) &&& 65535) >>> ((4 : Int32) &&& 31)) / 30 * 30) h0
      refine W.widen (k := 26) (n := 3756) (by omega) (by omega) ?_
      exact W.iret (v := (w_addStock σ (((x2 >>> ((4 : Int32) &&& 31)) &&& 65535) - ((x2 >>> ((4 : Int32) &&& 31)) &&& 65535) / 4 * 4) ((((x2 >>> ((4 : Int32) &&& 31)) &&& 65535) >>> ((2 : Int32) &&& 31)) - (((x2 >>> ((4 : Int32) &&& 31)) &&& 65535) >>> ((2 : Int32) &&& 31)) / 4 * 4) ((((x2 >>> ((4 : Int32) &&& 31)) &&& 65535) >>> ((4 : Int32) &&& 31)) - (((x2 >>> ((4 : Int32) &&& 31)) &&& 65535) >>> ((4 : Int32) &&& 31)) / 30 * 30)).1) hx hb hr (fun t ht hW => ⟨⟨(w_addStock σ (((x2 >>> ((4 : Int32) &&& 31)) &&& 65535) - ((x2 >>> ((4 : Int32) &&& 31)) &&& 65535) / 4 * 4) ((((x2 >>> ((4 : Int32) &&& 31)) &&& 65535) >>> ((2 : Int32) &&& 31)) - (((x2 >>> ((4 : Int32) &&& 31)) &&& 65535) >>> ((2 : Int32) &&& 31)) / 4 * 4) ((((x2 >>> ((4 : Int32) &&& 31)) &&& 65535) >>> ((4 : Int32) &&& 31)) - (((x2 >>> ((4 : Int32) &&& 31)) &&& 65535) >>> ((4 : Int32) &&& 31)) / 30 * 30)).1, (w_addStock σ (((x2 >>> ((4 : Int32) &&& 31)) &&& 65535) - ((x2 >>> ((4 : Int32) &&& 31)) &&& 65535) / 4 * 4) ((((x2 >>> ((4 : Int32) &&& 31)) &&& 65535) >>> ((2 : Int32) &&& 31)) - (((x2 >>> ((4 : Int32) &&& 31)) &&& 65535) >>> ((2 : Int32) &&& 31)) / 4 * 4) ((((x2 >>> ((4 : Int32) &&& 31)) &&& 65535) >>> ((4 : Int32) &&& 31)) - (((x2 >>> ((4 : Int32) &&& 31)) &&& 65535) >>> ((4 : Int32) &&& 31)) / 30 * 30)).2, rfl, ⟨hsp, hJ_159_4⟩, by show ft_LW D k Z sz a _ t.heap; rw [ht]; exact hP⟩, hS.F ht⟩) hS.2.2 dL_act_162
    replace hsp := (if_neg k_41_3).symm.trans hsp
    by_cases k_41_4 : (x2 &&& 15) = 4
    · replace hsp := (if_pos k_41_4).symm.trans hsp
      refine lv_tableIn (tgt := 163) (off := 122) hx hb dL_act_41 (by rw [k_41_4]; decide) (by rw [k_41_4]; decide) (by rw [k_41_4]; rfl) (by decide) ?_
      refine lv_aload_n hx hb dL_act_163 rfl (lv_at hl 3 rfl) ?_
      refine lv_iload_n hx hb dL_act_164 rfl (lv_at hl 1 rfl) ?_
      refine lv_iload hx hb dL_act_165 (lv_at hl 0 rfl) ?_
      refine va_calli (vx_runSW (As := [.ref (a), .int (((x2 >>> ((4 : Int32) &&& 31)) &&& 65535) - ((x2 >>> ((4 : Int32) &&& 31)) &&& 65535) / 4 * 4), .int ((((x2 >>> ((4 : Int32) &&& 31)) &&& 65535) >>> ((3 : Int32) &&& 31)) - (((x2 >>> ((4 : Int32) &&& 31)) &&& 65535) >>> ((3 : Int32) &&& 31)) / 8 * 8)]) (rest := []) ⟨hx, hb, hml, hown, hts⟩ (d_L_grantPermit l hl0 D Z k sz a σ (((x2 >>> ((4 : Int32) &&& 31)) &&& 65535) - ((x2 >>> ((4 : Int32) &&& 31)) &&& 65535) / 4 * 4) ((((x2 >>> ((4 : Int32) &&& 31)) &&& 65535) >>> ((3 : Int32) &&& 31)) - (((x2 >>> ((4 : Int32) &&& 31)) &&& 65535) >>> ((3 : Int32) &&& 31)) / 8 * 8) (hJ.pm _ h0) (hJ.ex_grantPermit _ (((x2 >>> ((4 : Int32) &&& 31)) &&& 65535) - ((x2 >>> ((4 : Int32) &&& 31)) &&& 65535) / 4 * 4) ((((x2 >>> ((4 : Int32) &&& 31)) &&& 65535) >>> ((3 : Int32) &&& 31)) - (((x2 >>> ((4 : Int32) &&& 31)) &&& 65535) >>> ((3 : Int32) &&& 31)) / 8 * 8) h0)) (vx_cwSW 3 hts gL_act_L_grantPermit rfl rfl rfl (by decide +kernel) ⟨Nat.le_of_ble_eq_true rfl, Nat.le_of_ble_eq_true rfl⟩) (ft_preM hEL hz hS hP) rfl rfl hl.1 rfl (lv_room (Nat.le_of_ble_eq_true rfl)) dL_act_167 ⟨Nat.le_of_ble_eq_true rfl, Nat.le_of_ble_eq_true rfl⟩) hS (fun _ _ h => h) (fun _ h => h) (fun z u t H1 locs1 ht hvm hw hB hz1 hk1 hS1 => ?_)
      obtain ⟨rfl, rfl⟩ : z = (w_grantPermit σ (((x2 >>> ((4 : Int32) &&& 31)) &&& 65535) - ((x2 >>> ((4 : Int32) &&& 31)) &&& 65535) / 4 * 4) ((((x2 >>> ((4 : Int32) &&& 31)) &&& 65535) >>> ((3 : Int32) &&& 31)) - (((x2 >>> ((4 : Int32) &&& 31)) &&& 65535) >>> ((3 : Int32) &&& 31)) / 8 * 8)).1 ∧ u = (w_grantPermit σ (((x2 >>> ((4 : Int32) &&& 31)) &&& 65535) - ((x2 >>> ((4 : Int32) &&& 31)) &&& 65535) / 4 * 4) ((((x2 >>> ((4 : Int32) &&& 31)) &&& 65535) >>> ((3 : Int32) &&& 31)) - (((x2 >>> ((4 : Int32) &&& 31)) &&& 65535) >>> ((3 : Int32) &&& 31)) / 8 * 8)).2 := ⟨congrArg Prod.fst hw, congrArg Prod.snd hw⟩
      rw [ht] at hB
      have hP := hB
      have hS := hS1
      clear hS1
      generalize H1 = H at hP hS ⊢
      refine W.widen (k := 1) (n := 6) (by omega) (by omega) ?_
      have hJ_167_5 : J (w_grantPermit σ (((x2 >>> ((4 : Int32) &&& 31)) &&& 65535) - ((x2 >>> ((4 : Int32) &&& 31)) &&& 65535) / 4 * 4) ((((x2 >>> ((4 : Int32) &&& 31)) &&& 65535) >>> ((3 : Int32) &&& 31)) - (((x2 >>> ((4 : Int32) &&& 31)) &&& 65535) >>> ((3 : Int32) &&& 31)) / 8 * 8)).2 := hJ.k_grantPermit _ (((x2 >>> ((4 : Int32) &&& 31)) &&& 65535) - ((x2 >>> ((4 : Int32) &&& 31)) &&& 65535) / 4 * 4) ((((x2 >>> ((4 : Int32) &&& 31)) &&& 65535) >>> ((3 : Int32) &&& 31)) - (((x2 >>> ((4 : Int32) &&& 31)) &&& 65535) >>> ((3 : Int32) &&& 31)) / 8 * 8) h0
      refine W.widen (k := 26) (n := 3756) (by omega) (by omega) ?_
      exact W.iret (v := (w_grantPermit σ (((x2 >>> ((4 : Int32) &&& 31)) &&& 65535) - ((x2 >>> ((4 : Int32) &&& 31)) &&& 65535) / 4 * 4) ((((x2 >>> ((4 : Int32) &&& 31)) &&& 65535) >>> ((3 : Int32) &&& 31)) - (((x2 >>> ((4 : Int32) &&& 31)) &&& 65535) >>> ((3 : Int32) &&& 31)) / 8 * 8)).1) hx hb hr (fun t ht hW => ⟨⟨(w_grantPermit σ (((x2 >>> ((4 : Int32) &&& 31)) &&& 65535) - ((x2 >>> ((4 : Int32) &&& 31)) &&& 65535) / 4 * 4) ((((x2 >>> ((4 : Int32) &&& 31)) &&& 65535) >>> ((3 : Int32) &&& 31)) - (((x2 >>> ((4 : Int32) &&& 31)) &&& 65535) >>> ((3 : Int32) &&& 31)) / 8 * 8)).1, (w_grantPermit σ (((x2 >>> ((4 : Int32) &&& 31)) &&& 65535) - ((x2 >>> ((4 : Int32) &&& 31)) &&& 65535) / 4 * 4) ((((x2 >>> ((4 : Int32) &&& 31)) &&& 65535) >>> ((3 : Int32) &&& 31)) - (((x2 >>> ((4 : Int32) &&& 31)) &&& 65535) >>> ((3 : Int32) &&& 31)) / 8 * 8)).2, rfl, ⟨hsp, hJ_167_5⟩, by show ft_LW D k Z sz a _ t.heap; rw [ht]; exact hP⟩, hS.F ht⟩) hS.2.2 dL_act_170
    replace hsp := (if_neg k_41_4).symm.trans hsp
    by_cases k_41_5 : (x2 &&& 15) = 5
    · replace hsp := (if_pos k_41_5).symm.trans hsp
      refine lv_tableIn (tgt := 171) (off := 130) hx hb dL_act_41 (by rw [k_41_5]; decide) (by rw [k_41_5]; decide) (by rw [k_41_5]; rfl) (by decide) ?_
      refine lv_iload_n hx hb dL_act_171 rfl (lv_at hl 2 rfl) ?_
      refine lv_bipush (v := 64) hx hb dL_act_172 (by decide) ?_
      refine lv_iand hx hb dL_act_174 ?_
      refine lv_if_ne (tgt := 188) hx hb dL_act_175 (by decide) (fun c_175 => ?_) (fun c_175 => ?_)
      · replace hsp := (if_neg c_175).symm.trans hsp
        refine lv_aload_n hx hb dL_act_188 rfl (lv_at hl 3 rfl) ?_
        refine lv_iload_n hx hb dL_act_189 rfl (lv_at hl 1 rfl) ?_
        refine lv_iload hx hb dL_act_190 (lv_at hl 0 rfl) ?_
        refine va_calli (vx_runSW (As := [.ref (a), .int (((x2 >>> ((4 : Int32) &&& 31)) &&& 65535) - ((x2 >>> ((4 : Int32) &&& 31)) &&& 65535) / 4 * 4), .int ((((x2 >>> ((4 : Int32) &&& 31)) &&& 65535) >>> ((3 : Int32) &&& 31)) - (((x2 >>> ((4 : Int32) &&& 31)) &&& 65535) >>> ((3 : Int32) &&& 31)) / 8 * 8)]) (rest := []) ⟨hx, hb, hml, hown, hts⟩ (d_L_grantPermit l hl0 D Z k sz a σ (((x2 >>> ((4 : Int32) &&& 31)) &&& 65535) - ((x2 >>> ((4 : Int32) &&& 31)) &&& 65535) / 4 * 4) ((((x2 >>> ((4 : Int32) &&& 31)) &&& 65535) >>> ((3 : Int32) &&& 31)) - (((x2 >>> ((4 : Int32) &&& 31)) &&& 65535) >>> ((3 : Int32) &&& 31)) / 8 * 8) (hJ.pm _ h0) (hJ.ex_grantPermit _ (((x2 >>> ((4 : Int32) &&& 31)) &&& 65535) - ((x2 >>> ((4 : Int32) &&& 31)) &&& 65535) / 4 * 4) ((((x2 >>> ((4 : Int32) &&& 31)) &&& 65535) >>> ((3 : Int32) &&& 31)) - (((x2 >>> ((4 : Int32) &&& 31)) &&& 65535) >>> ((3 : Int32) &&& 31)) / 8 * 8) h0)) (vx_cwSW 3 hts gL_act_L_grantPermit rfl rfl rfl (by decide +kernel) ⟨Nat.le_of_ble_eq_true rfl, Nat.le_of_ble_eq_true rfl⟩) (ft_preM hEL hz hS hP) rfl rfl hl.1 rfl (lv_room (Nat.le_of_ble_eq_true rfl)) dL_act_192 ⟨Nat.le_of_ble_eq_true rfl, Nat.le_of_ble_eq_true rfl⟩) hS (fun _ _ h => h) (fun _ h => h) (fun z u t H1 locs1 ht hvm hw hB hz1 hk1 hS1 => ?_)
        obtain ⟨rfl, rfl⟩ : z = (w_grantPermit σ (((x2 >>> ((4 : Int32) &&& 31)) &&& 65535) - ((x2 >>> ((4 : Int32) &&& 31)) &&& 65535) / 4 * 4) ((((x2 >>> ((4 : Int32) &&& 31)) &&& 65535) >>> ((3 : Int32) &&& 31)) - (((x2 >>> ((4 : Int32) &&& 31)) &&& 65535) >>> ((3 : Int32) &&& 31)) / 8 * 8)).1 ∧ u = (w_grantPermit σ (((x2 >>> ((4 : Int32) &&& 31)) &&& 65535) - ((x2 >>> ((4 : Int32) &&& 31)) &&& 65535) / 4 * 4) ((((x2 >>> ((4 : Int32) &&& 31)) &&& 65535) >>> ((3 : Int32) &&& 31)) - (((x2 >>> ((4 : Int32) &&& 31)) &&& 65535) >>> ((3 : Int32) &&& 31)) / 8 * 8)).2 := ⟨congrArg Prod.fst hw, congrArg Prod.snd hw⟩
        rw [ht] at hB
        have hP := hB
        have hS := hS1
        clear hS1
        generalize H1 = H at hP hS ⊢
        refine W.widen (k := 1) (n := 6) (by omega) (by omega) ?_
        have hJ_192_6 : J (w_grantPermit σ (((x2 >>> ((4 : Int32) &&& 31)) &&& 65535) - ((x2 >>> ((4 : Int32) &&& 31)) &&& 65535) / 4 * 4) ((((x2 >>> ((4 : Int32) &&& 31)) &&& 65535) >>> ((3 : Int32) &&& 31)) - (((x2 >>> ((4 : Int32) &&& 31)) &&& 65535) >>> ((3 : Int32) &&& 31)) / 8 * 8)).2 := hJ.k_grantPermit _ (((x2 >>> ((4 : Int32) &&& 31)) &&& 65535) - ((x2 >>> ((4 : Int32) &&& 31)) &&& 65535) / 4 * 4) ((((x2 >>> ((4 : Int32) &&& 31)) &&& 65535) >>> ((3 : Int32) &&& 31)) - (((x2 >>> ((4 : Int32) &&& 31)) &&& 65535) >>> ((3 : Int32) &&& 31)) / 8 * 8) h0
        refine W.widen (k := 26) (n := 3756) (by omega) (by omega) ?_
        exact W.iret (v := (w_grantPermit σ (((x2 >>> ((4 : Int32) &&& 31)) &&& 65535) - ((x2 >>> ((4 : Int32) &&& 31)) &&& 65535) / 4 * 4) ((((x2 >>> ((4 : Int32) &&& 31)) &&& 65535) >>> ((3 : Int32) &&& 31)) - (((x2 >>> ((4 : Int32) &&& 31)) &&& 65535) >>> ((3 : Int32) &&& 31)) / 8 * 8)).1) hx hb hr (fun t ht hW => ⟨⟨(w_grantPermit σ (((x2 >>> ((4 : Int32) &&& 31)) &&& 65535) - ((x2 >>> ((4 : Int32) &&& 31)) &&& 65535) / 4 * 4) ((((x2 >>> ((4 : Int32) &&& 31)) &&& 65535) >>> ((3 : Int32) &&& 31)) - (((x2 >>> ((4 : Int32) &&& 31)) &&& 65535) >>> ((3 : Int32) &&& 31)) / 8 * 8)).1, (w_grantPermit σ (((x2 >>> ((4 : Int32) &&& 31)) &&& 65535) - ((x2 >>> ((4 : Int32) &&& 31)) &&& 65535) / 4 * 4) ((((x2 >>> ((4 : Int32) &&& 31)) &&& 65535) >>> ((3 : Int32) &&& 31)) - (((x2 >>> ((4 : Int32) &&& 31)) &&& 65535) >>> ((3 : Int32) &&& 31)) / 8 * 8)).2, rfl, ⟨hsp, hJ_192_6⟩, by show ft_LW D k Z sz a _ t.heap; rw [ht]; exact hP⟩, hS.F ht⟩) hS.2.2 dL_act_195
      · replace hsp := (if_pos c_175).symm.trans hsp
        refine lv_aload_n hx hb dL_act_178 rfl (lv_at hl 3 rfl) ?_
        refine lv_iload_n hx hb dL_act_179 rfl (lv_at hl 1 rfl) ?_
        refine lv_iload hx hb dL_act_180 (lv_at hl 0 rfl) ?_
        refine va_calli (vx_runSW (As := [.ref (a), .int (((x2 >>> ((4 : Int32) &&& 31)) &&& 65535) - ((x2 >>> ((4 : Int32) &&& 31)) &&& 65535) / 4 * 4), .int ((((x2 >>> ((4 : Int32) &&& 31)) &&& 65535) >>> ((3 : Int32) &&& 31)) - (((x2 >>> ((4 : Int32) &&& 31)) &&& 65535) >>> ((3 : Int32) &&& 31)) / 8 * 8)]) (rest := []) ⟨hx, hb, hml, hown, hts⟩ (d_L_revokePermit l hl0 D Z k sz a σ (((x2 >>> ((4 : Int32) &&& 31)) &&& 65535) - ((x2 >>> ((4 : Int32) &&& 31)) &&& 65535) / 4 * 4) ((((x2 >>> ((4 : Int32) &&& 31)) &&& 65535) >>> ((3 : Int32) &&& 31)) - (((x2 >>> ((4 : Int32) &&& 31)) &&& 65535) >>> ((3 : Int32) &&& 31)) / 8 * 8) (hJ.pm _ h0) (hJ.ex_revokePermit _ (((x2 >>> ((4 : Int32) &&& 31)) &&& 65535) - ((x2 >>> ((4 : Int32) &&& 31)) &&& 65535) / 4 * 4) ((((x2 >>> ((4 : Int32) &&& 31)) &&& 65535) >>> ((3 : Int32) &&& 31)) - (((x2 >>> ((4 : Int32) &&& 31)) &&& 65535) >>> ((3 : Int32) &&& 31)) / 8 * 8) h0)) (vx_cwSW 3 hts gL_act_L_revokePermit rfl rfl rfl (by decide +kernel) ⟨Nat.le_of_ble_eq_true rfl, Nat.le_of_ble_eq_true rfl⟩) (ft_preM hEL hz hS hP) rfl rfl hl.1 rfl (lv_room (Nat.le_of_ble_eq_true rfl)) dL_act_182 ⟨Nat.le_of_ble_eq_true rfl, Nat.le_of_ble_eq_true rfl⟩) hS (fun _ _ h => h) (fun _ h => h) (fun z u t H1 locs1 ht hvm hw hB hz1 hk1 hS1 => ?_)
        obtain ⟨rfl, rfl⟩ : z = (w_revokePermit σ (((x2 >>> ((4 : Int32) &&& 31)) &&& 65535) - ((x2 >>> ((4 : Int32) &&& 31)) &&& 65535) / 4 * 4) ((((x2 >>> ((4 : Int32) &&& 31)) &&& 65535) >>> ((3 : Int32) &&& 31)) - (((x2 >>> ((4 : Int32) &&& 31)) &&& 65535) >>> ((3 : Int32) &&& 31)) / 8 * 8)).1 ∧ u = (w_revokePermit σ (((x2 >>> ((4 : Int32) &&& 31)) &&& 65535) - ((x2 >>> ((4 : Int32) &&& 31)) &&& 65535) / 4 * 4) ((((x2 >>> ((4 : Int32) &&& 31)) &&& 65535) >>> ((3 : Int32) &&& 31)) - (((x2 >>> ((4 : Int32) &&& 31)) &&& 65535) >>> ((3 : Int32) &&& 31)) / 8 * 8)).2 := ⟨congrArg Prod.fst hw, congrArg Prod.snd hw⟩
        rw [ht] at hB
        have hP := hB
        have hS := hS1
        clear hS1
        generalize H1 = H at hP hS ⊢
        refine W.widen (k := 1) (n := 6) (by omega) (by omega) ?_
        have hJ_182_7 : J (w_revokePermit σ (((x2 >>> ((4 : Int32) &&& 31)) &&& 65535) - ((x2 >>> ((4 : Int32) &&& 31)) &&& 65535) / 4 * 4) ((((x2 >>> ((4 : Int32) &&& 31)) &&& 65535) >>> ((3 : Int32) &&& 31)) - (((x2 >>> ((4 : Int32) &&& 31)) &&& 65535) >>> ((3 : Int32) &&& 31)) / 8 * 8)).2 := hJ.k_revokePermit _ (((x2 >>> ((4 : Int32) &&& 31)) &&& 65535) - ((x2 >>> ((4 : Int32) &&& 31)) &&& 65535) / 4 * 4) ((((x2 >>> ((4 : Int32) &&& 31)) &&& 65535) >>> ((3 : Int32) &&& 31)) - (((x2 >>> ((4 : Int32) &&& 31)) &&& 65535) >>> ((3 : Int32) &&& 31)) / 8 * 8) h0
        refine lv_goto (tgt := 195) hx hb dL_act_185 (by decide) ?_
        refine W.widen (k := 26) (n := 3756) (by omega) (by omega) ?_
        exact W.iret (v := (w_revokePermit σ (((x2 >>> ((4 : Int32) &&& 31)) &&& 65535) - ((x2 >>> ((4 : Int32) &&& 31)) &&& 65535) / 4 * 4) ((((x2 >>> ((4 : Int32) &&& 31)) &&& 65535) >>> ((3 : Int32) &&& 31)) - (((x2 >>> ((4 : Int32) &&& 31)) &&& 65535) >>> ((3 : Int32) &&& 31)) / 8 * 8)).1) hx hb hr (fun t ht hW => ⟨⟨(w_revokePermit σ (((x2 >>> ((4 : Int32) &&& 31)) &&& 65535) - ((x2 >>> ((4 : Int32) &&& 31)) &&& 65535) / 4 * 4) ((((x2 >>> ((4 : Int32) &&& 31)) &&& 65535) >>> ((3 : Int32) &&& 31)) - (((x2 >>> ((4 : Int32) &&& 31)) &&& 65535) >>> ((3 : Int32) &&& 31)) / 8 * 8)).1, (w_revokePermit σ (((x2 >>> ((4 : Int32) &&& 31)) &&& 65535) - ((x2 >>> ((4 : Int32) &&& 31)) &&& 65535) / 4 * 4) ((((x2 >>> ((4 : Int32) &&& 31)) &&& 65535) >>> ((3 : Int32) &&& 31)) - (((x2 >>> ((4 : Int32) &&& 31)) &&& 65535) >>> ((3 : Int32) &&& 31)) / 8 * 8)).2, rfl, ⟨hsp, hJ_182_7⟩, by show ft_LW D k Z sz a _ t.heap; rw [ht]; exact hP⟩, hS.F ht⟩) hS.2.2 dL_act_195
    replace hsp := (if_neg k_41_5).symm.trans hsp
    by_cases k_41_6 : (x2 &&& 15) = 6
    · replace hsp := (if_pos k_41_6).symm.trans hsp
      refine lv_tableIn (tgt := 196) (off := 155) hx hb dL_act_41 (by rw [k_41_6]; decide) (by rw [k_41_6]; decide) (by rw [k_41_6]; rfl) (by decide) ?_
      refine lv_aload_n hx hb dL_act_196 rfl (lv_at hl 3 rfl) ?_
      refine lv_iload_n hx hb dL_act_197 rfl (lv_at hl 1 rfl) ?_
      refine lv_iload_n hx hb dL_act_198 rfl (lv_at hl 2 rfl) ?_
      refine lv_iconst (v := 4) hx hb dL_act_199 (by decide) ?_
      refine lv_ishr hx hb dL_act_200 ?_
      refine lv_bipush (v := 6) hx hb dL_act_201 (by decide) ?_
      refine lv_irem hx hb dL_act_203 (by decide) ?_
      refine lv_iload hx hb dL_act_204 (lv_at hl 0 rfl) ?_
      refine va_calli (vx_runSW (As := [.ref (a), .int (((x2 >>> ((4 : Int32) &&& 31)) &&& 65535) - ((x2 >>> ((4 : Int32) &&& 31)) &&& 65535) / 4 * 4), .int ((((x2 >>> ((4 : Int32) &&& 31)) &&& 65535) >>> ((4 : Int32) &&& 31)) - (((x2 >>> ((4 : Int32) &&& 31)) &&& 65535) >>> ((4 : Int32) &&& 31)) / 6 * 6), .int ((((x2 >>> ((4 : Int32) &&& 31)) &&& 65535) >>> ((3 : Int32) &&& 31)) - (((x2 >>> ((4 : Int32) &&& 31)) &&& 65535) >>> ((3 : Int32) &&& 31)) / 8 * 8)]) (rest := []) ⟨hx, hb, hml, hown, hts⟩ (d_L_assign l hl0 D Z k sz a σ (((x2 >>> ((4 : Int32) &&& 31)) &&& 65535) - ((x2 >>> ((4 : Int32) &&& 31)) &&& 65535) / 4 * 4) ((((x2 >>> ((4 : Int32) &&& 31)) &&& 65535) >>> ((4 : Int32) &&& 31)) - (((x2 >>> ((4 : Int32) &&& 31)) &&& 65535) >>> ((4 : Int32) &&& 31)) / 6 * 6) ((((x2 >>> ((4 : Int32) &&& 31)) &&& 65535) >>> ((3 : Int32) &&& 31)) - (((x2 >>> ((4 : Int32) &&& 31)) &&& 65535) >>> ((3 : Int32) &&& 31)) / 8 * 8) (hJ.pm _ h0) (hJ.ex_assign _ (((x2 >>> ((4 : Int32) &&& 31)) &&& 65535) - ((x2 >>> ((4 : Int32) &&& 31)) &&& 65535) / 4 * 4) ((((x2 >>> ((4 : Int32) &&& 31)) &&& 65535) >>> ((4 : Int32) &&& 31)) - (((x2 >>> ((4 : Int32) &&& 31)) &&& 65535) >>> ((4 : Int32) &&& 31)) / 6 * 6) ((((x2 >>> ((4 : Int32) &&& 31)) &&& 65535) >>> ((3 : Int32) &&& 31)) - (((x2 >>> ((4 : Int32) &&& 31)) &&& 65535) >>> ((3 : Int32) &&& 31)) / 8 * 8) h0)) (vx_cwSW 4 hts gL_act_L_assign rfl rfl rfl (by decide +kernel) ⟨Nat.le_of_ble_eq_true rfl, Nat.le_of_ble_eq_true rfl⟩) (ft_preM hEL hz hS hP) rfl rfl hl.1 rfl (lv_room (Nat.le_of_ble_eq_true rfl)) dL_act_206 ⟨Nat.le_of_ble_eq_true rfl, Nat.le_of_ble_eq_true rfl⟩) hS (fun _ _ h => h) (fun _ h => h) (fun z u t H1 locs1 ht hvm hw hB hz1 hk1 hS1 => ?_)
      obtain ⟨rfl, rfl⟩ : z = (w_assign σ (((x2 >>> ((4 : Int32) &&& 31)) &&& 65535) - ((x2 >>> ((4 : Int32) &&& 31)) &&& 65535) / 4 * 4) ((((x2 >>> ((4 : Int32) &&& 31)) &&& 65535) >>> ((4 : Int32) &&& 31)) - (((x2 >>> ((4 : Int32) &&& 31)) &&& 65535) >>> ((4 : Int32) &&& 31)) / 6 * 6) ((((x2 >>> ((4 : Int32) &&& 31)) &&& 65535) >>> ((3 : Int32) &&& 31)) - (((x2 >>> ((4 : Int32) &&& 31)) &&& 65535) >>> ((3 : Int32) &&& 31)) / 8 * 8)).1 ∧ u = (w_assign σ (((x2 >>> ((4 : Int32) &&& 31)) &&& 65535) - ((x2 >>> ((4 : Int32) &&& 31)) &&& 65535) / 4 * 4) ((((x2 >>> ((4 : Int32) &&& 31)) &&& 65535) >>> ((4 : Int32) &&& 31)) - (((x2 >>> ((4 : Int32) &&& 31)) &&& 65535) >>> ((4 : Int32) &&& 31)) / 6 * 6) ((((x2 >>> ((4 : Int32) &&& 31)) &&& 65535) >>> ((3 : Int32) &&& 31)) - (((x2 >>> ((4 : Int32) &&& 31)) &&& 65535) >>> ((3 : Int32) &&& 31)) / 8 * 8)).2 := ⟨congrArg Prod.fst hw, congrArg Prod.snd hw⟩
      rw [ht] at hB
      have hP := hB
      have hS := hS1
      clear hS1
      generalize H1 = H at hP hS ⊢
      refine W.widen (k := 1) (n := 6) (by omega) (by omega) ?_
      have hJ_206_8 : J (w_assign σ (((x2 >>> ((4 : Int32) &&& 31)) &&& 65535) - ((x2 >>> ((4 : Int32) &&& 31)) &&& 65535) / 4 * 4) ((((x2 >>> ((4 : Int32) &&& 31)) &&& 65535) >>> ((4 : Int32) &&& 31)) - (((x2 >>> ((4 : Int32) &&& 31)) &&& 65535) >>> ((4 : Int32) &&& 31)) / 6 * 6) ((((x2 >>> ((4 : Int32) &&& 31)) &&& 65535) >>> ((3 : Int32) &&& 31)) - (((x2 >>> ((4 : Int32) &&& 31)) &&& 65535) >>> ((3 : Int32) &&& 31)) / 8 * 8)).2 := hJ.k_assign _ (((x2 >>> ((4 : Int32) &&& 31)) &&& 65535) - ((x2 >>> ((4 : Int32) &&& 31)) &&& 65535) / 4 * 4) ((((x2 >>> ((4 : Int32) &&& 31)) &&& 65535) >>> ((4 : Int32) &&& 31)) - (((x2 >>> ((4 : Int32) &&& 31)) &&& 65535) >>> ((4 : Int32) &&& 31)) / 6 * 6) ((((x2 >>> ((4 : Int32) &&& 31)) &&& 65535) >>> ((3 : Int32) &&& 31)) - (((x2 >>> ((4 : Int32) &&& 31)) &&& 65535) >>> ((3 : Int32) &&& 31)) / 8 * 8) h0
      refine W.widen (k := 26) (n := 3756) (by omega) (by omega) ?_
      exact W.iret (v := (w_assign σ (((x2 >>> ((4 : Int32) &&& 31)) &&& 65535) - ((x2 >>> ((4 : Int32) &&& 31)) &&& 65535) / 4 * 4) ((((x2 >>> ((4 : Int32) &&& 31)) &&& 65535) >>> ((4 : Int32) &&& 31)) - (((x2 >>> ((4 : Int32) &&& 31)) &&& 65535) >>> ((4 : Int32) &&& 31)) / 6 * 6) ((((x2 >>> ((4 : Int32) &&& 31)) &&& 65535) >>> ((3 : Int32) &&& 31)) - (((x2 >>> ((4 : Int32) &&& 31)) &&& 65535) >>> ((3 : Int32) &&& 31)) / 8 * 8)).1) hx hb hr (fun t ht hW => ⟨⟨(w_assign σ (((x2 >>> ((4 : Int32) &&& 31)) &&& 65535) - ((x2 >>> ((4 : Int32) &&& 31)) &&& 65535) / 4 * 4) ((((x2 >>> ((4 : Int32) &&& 31)) &&& 65535) >>> ((4 : Int32) &&& 31)) - (((x2 >>> ((4 : Int32) &&& 31)) &&& 65535) >>> ((4 : Int32) &&& 31)) / 6 * 6) ((((x2 >>> ((4 : Int32) &&& 31)) &&& 65535) >>> ((3 : Int32) &&& 31)) - (((x2 >>> ((4 : Int32) &&& 31)) &&& 65535) >>> ((3 : Int32) &&& 31)) / 8 * 8)).1, (w_assign σ (((x2 >>> ((4 : Int32) &&& 31)) &&& 65535) - ((x2 >>> ((4 : Int32) &&& 31)) &&& 65535) / 4 * 4) ((((x2 >>> ((4 : Int32) &&& 31)) &&& 65535) >>> ((4 : Int32) &&& 31)) - (((x2 >>> ((4 : Int32) &&& 31)) &&& 65535) >>> ((4 : Int32) &&& 31)) / 6 * 6) ((((x2 >>> ((4 : Int32) &&& 31)) &&& 65535) >>> ((3 : Int32) &&& 31)) - (((x2 >>> ((4 : Int32) &&& 31)) &&& 65535) >>> ((3 : Int32) &&& 31)) / 8 * 8)).2, rfl, ⟨hsp, hJ_206_8⟩, by show ft_LW D k Z sz a _ t.heap; rw [ht]; exact hP⟩, hS.F ht⟩) hS.2.2 dL_act_209
    replace hsp := (if_neg k_41_6).symm.trans hsp
    by_cases k_41_7 : (x2 &&& 15) = 7
    · replace hsp := (if_pos k_41_7).symm.trans hsp
      refine lv_tableIn (tgt := 196) (off := 155) hx hb dL_act_41 (by rw [k_41_7]; decide) (by rw [k_41_7]; decide) (by rw [k_41_7]; rfl) (by decide) ?_
      refine lv_aload_n hx hb dL_act_196 rfl (lv_at hl 3 rfl) ?_
      refine lv_iload_n hx hb dL_act_197 rfl (lv_at hl 1 rfl) ?_
      refine lv_iload_n hx hb dL_act_198 rfl (lv_at hl 2 rfl) ?_
      refine lv_iconst (v := 4) hx hb dL_act_199 (by decide) ?_
      refine lv_ishr hx hb dL_act_200 ?_
      refine lv_bipush (v := 6) hx hb dL_act_201 (by decide) ?_
      refine lv_irem hx hb dL_act_203 (by decide) ?_
      refine lv_iload hx hb dL_act_204 (lv_at hl 0 rfl) ?_
      refine va_calli (vx_runSW (As := [.ref (a), .int (((x2 >>> ((4 : Int32) &&& 31)) &&& 65535) - ((x2 >>> ((4 : Int32) &&& 31)) &&& 65535) / 4 * 4), .int ((((x2 >>> ((4 : Int32) &&& 31)) &&& 65535) >>> ((4 : Int32) &&& 31)) - (((x2 >>> ((4 : Int32) &&& 31)) &&& 65535) >>> ((4 : Int32) &&& 31)) / 6 * 6), .int ((((x2 >>> ((4 : Int32) &&& 31)) &&& 65535) >>> ((3 : Int32) &&& 31)) - (((x2 >>> ((4 : Int32) &&& 31)) &&& 65535) >>> ((3 : Int32) &&& 31)) / 8 * 8)]) (rest := []) ⟨hx, hb, hml, hown, hts⟩ (d_L_assign l hl0 D Z k sz a σ (((x2 >>> ((4 : Int32) &&& 31)) &&& 65535) - ((x2 >>> ((4 : Int32) &&& 31)) &&& 65535) / 4 * 4) ((((x2 >>> ((4 : Int32) &&& 31)) &&& 65535) >>> ((4 : Int32) &&& 31)) - (((x2 >>> ((4 : Int32) &&& 31)) &&& 65535) >>> ((4 : Int32) &&& 31)) / 6 * 6) ((((x2 >>> ((4 : Int32) &&& 31)) &&& 65535) >>> ((3 : Int32) &&& 31)) - (((x2 >>> ((4 : Int32) &&& 31)) &&& 65535) >>> ((3 : Int32) &&& 31)) / 8 * 8) (hJ.pm _ h0) (hJ.ex_assign _ (((x2 >>> ((4 : Int32) &&& 31)) &&& 65535) - ((x2 >>> ((4 : Int32) &&& 31)) &&& 65535) / 4 * 4) ((((x2 >>> ((4 : Int32) &&& 31)) &&& 65535) >>> ((4 : Int32) &&& 31)) - (((x2 >>> ((4 : Int32) &&& 31)) &&& 65535) >>> ((4 : Int32) &&& 31)) / 6 * 6) ((((x2 >>> ((4 : Int32) &&& 31)) &&& 65535) >>> ((3 : Int32) &&& 31)) - (((x2 >>> ((4 : Int32) &&& 31)) &&& 65535) >>> ((3 : Int32) &&& 31)) / 8 * 8) h0)) (vx_cwSW 4 hts gL_act_L_assign rfl rfl rfl (by decide +kernel) ⟨Nat.le_of_ble_eq_true rfl, Nat.le_of_ble_eq_true rfl⟩) (ft_preM hEL hz hS hP) rfl rfl hl.1 rfl (lv_room (Nat.le_of_ble_eq_true rfl)) dL_act_206 ⟨Nat.le_of_ble_eq_true rfl, Nat.le_of_ble_eq_true rfl⟩) hS (fun _ _ h => h) (fun _ h => h) (fun z u t H1 locs1 ht hvm hw hB hz1 hk1 hS1 => ?_)
      obtain ⟨rfl, rfl⟩ : z = (w_assign σ (((x2 >>> ((4 : Int32) &&& 31)) &&& 65535) - ((x2 >>> ((4 : Int32) &&& 31)) &&& 65535) / 4 * 4) ((((x2 >>> ((4 : Int32) &&& 31)) &&& 65535) >>> ((4 : Int32) &&& 31)) - (((x2 >>> ((4 : Int32) &&& 31)) &&& 65535) >>> ((4 : Int32) &&& 31)) / 6 * 6) ((((x2 >>> ((4 : Int32) &&& 31)) &&& 65535) >>> ((3 : Int32) &&& 31)) - (((x2 >>> ((4 : Int32) &&& 31)) &&& 65535) >>> ((3 : Int32) &&& 31)) / 8 * 8)).1 ∧ u = (w_assign σ (((x2 >>> ((4 : Int32) &&& 31)) &&& 65535) - ((x2 >>> ((4 : Int32) &&& 31)) &&& 65535) / 4 * 4) ((((x2 >>> ((4 : Int32) &&& 31)) &&& 65535) >>> ((4 : Int32) &&& 31)) - (((x2 >>> ((4 : Int32) &&& 31)) &&& 65535) >>> ((4 : Int32) &&& 31)) / 6 * 6) ((((x2 >>> ((4 : Int32) &&& 31)) &&& 65535) >>> ((3 : Int32) &&& 31)) - (((x2 >>> ((4 : Int32) &&& 31)) &&& 65535) >>> ((3 : Int32) &&& 31)) / 8 * 8)).2 := ⟨congrArg Prod.fst hw, congrArg Prod.snd hw⟩
      rw [ht] at hB
      have hP := hB
      have hS := hS1
      clear hS1
      generalize H1 = H at hP hS ⊢
      refine W.widen (k := 1) (n := 6) (by omega) (by omega) ?_
      have hJ_206_9 : J (w_assign σ (((x2 >>> ((4 : Int32) &&& 31)) &&& 65535) - ((x2 >>> ((4 : Int32) &&& 31)) &&& 65535) / 4 * 4) ((((x2 >>> ((4 : Int32) &&& 31)) &&& 65535) >>> ((4 : Int32) &&& 31)) - (((x2 >>> ((4 : Int32) &&& 31)) &&& 65535) >>> ((4 : Int32) &&& 31)) / 6 * 6) ((((x2 >>> ((4 : Int32) &&& 31)) &&& 65535) >>> ((3 : Int32) &&& 31)) - (((x2 >>> ((4 : Int32) &&& 31)) &&& 65535) >>> ((3 : Int32) &&& 31)) / 8 * 8)).2 := hJ.k_assign _ (((x2 >>> ((4 : Int32) &&& 31)) &&& 65535) - ((x2 >>> ((4 : Int32) &&& 31)) &&& 65535) / 4 * 4) ((((x2 >>> ((4 : Int32) &&& 31)) &&& 65535) >>> ((4 : Int32) &&& 31)) - (((x2 >>> ((4 : Int32) &&& 31)) &&& 65535) >>> ((4 : Int32) &&& 31)) / 6 * 6) ((((x2 >>> ((4 : Int32) &&& 31)) &&& 65535) >>> ((3 : Int32) &&& 31)) - (((x2 >>> ((4 : Int32) &&& 31)) &&& 65535) >>> ((3 : Int32) &&& 31)) / 8 * 8) h0
      refine W.widen (k := 26) (n := 3756) (by omega) (by omega) ?_
      exact W.iret (v := (w_assign σ (((x2 >>> ((4 : Int32) &&& 31)) &&& 65535) - ((x2 >>> ((4 : Int32) &&& 31)) &&& 65535) / 4 * 4) ((((x2 >>> ((4 : Int32) &&& 31)) &&& 65535) >>> ((4 : Int32) &&& 31)) - (((x2 >>> ((4 : Int32) &&& 31)) &&& 65535) >>> ((4 : Int32) &&& 31)) / 6 * 6) ((((x2 >>> ((4 : Int32) &&& 31)) &&& 65535) >>> ((3 : Int32) &&& 31)) - (((x2 >>> ((4 : Int32) &&& 31)) &&& 65535) >>> ((3 : Int32) &&& 31)) / 8 * 8)).1) hx hb hr (fun t ht hW => ⟨⟨(w_assign σ (((x2 >>> ((4 : Int32) &&& 31)) &&& 65535) - ((x2 >>> ((4 : Int32) &&& 31)) &&& 65535) / 4 * 4) ((((x2 >>> ((4 : Int32) &&& 31)) &&& 65535) >>> ((4 : Int32) &&& 31)) - (((x2 >>> ((4 : Int32) &&& 31)) &&& 65535) >>> ((4 : Int32) &&& 31)) / 6 * 6) ((((x2 >>> ((4 : Int32) &&& 31)) &&& 65535) >>> ((3 : Int32) &&& 31)) - (((x2 >>> ((4 : Int32) &&& 31)) &&& 65535) >>> ((3 : Int32) &&& 31)) / 8 * 8)).1, (w_assign σ (((x2 >>> ((4 : Int32) &&& 31)) &&& 65535) - ((x2 >>> ((4 : Int32) &&& 31)) &&& 65535) / 4 * 4) ((((x2 >>> ((4 : Int32) &&& 31)) &&& 65535) >>> ((4 : Int32) &&& 31)) - (((x2 >>> ((4 : Int32) &&& 31)) &&& 65535) >>> ((4 : Int32) &&& 31)) / 6 * 6) ((((x2 >>> ((4 : Int32) &&& 31)) &&& 65535) >>> ((3 : Int32) &&& 31)) - (((x2 >>> ((4 : Int32) &&& 31)) &&& 65535) >>> ((3 : Int32) &&& 31)) / 8 * 8)).2, rfl, ⟨hsp, hJ_206_9⟩, by show ft_LW D k Z sz a _ t.heap; rw [ht]; exact hP⟩, hS.F ht⟩) hS.2.2 dL_act_209
    replace hsp := (if_neg k_41_7).symm.trans hsp
    by_cases k_41_8 : (x2 &&& 15) = 8
    · replace hsp := (if_pos k_41_8).symm.trans hsp
      refine lv_tableIn (tgt := 210) (off := 169) hx hb dL_act_41 (by rw [k_41_8]; decide) (by rw [k_41_8]; decide) (by rw [k_41_8]; rfl) (by decide) ?_
      refine lv_aload_n hx hb dL_act_210 rfl (lv_at hl 3 rfl) ?_
      refine lv_iload_n hx hb dL_act_211 rfl (lv_at hl 2 rfl) ?_
      refine lv_iconst (v := 4) hx hb dL_act_212 (by decide) ?_
      refine lv_ishr hx hb dL_act_213 ?_
      refine lv_bipush (v := 6) hx hb dL_act_214 (by decide) ?_
      refine lv_irem hx hb dL_act_216 (by decide) ?_
      refine lv_iload hx hb dL_act_217 (lv_at hl 0 rfl) ?_
      refine va_calli (vx_runSW (As := [.ref (a), .int ((((x2 >>> ((4 : Int32) &&& 31)) &&& 65535) >>> ((4 : Int32) &&& 31)) - (((x2 >>> ((4 : Int32) &&& 31)) &&& 65535) >>> ((4 : Int32) &&& 31)) / 6 * 6), .int ((((x2 >>> ((4 : Int32) &&& 31)) &&& 65535) >>> ((3 : Int32) &&& 31)) - (((x2 >>> ((4 : Int32) &&& 31)) &&& 65535) >>> ((3 : Int32) &&& 31)) / 8 * 8)]) (rest := []) ⟨hx, hb, hml, hown, hts⟩ (d_L_release l hl0 D Z k sz a σ ((((x2 >>> ((4 : Int32) &&& 31)) &&& 65535) >>> ((4 : Int32) &&& 31)) - (((x2 >>> ((4 : Int32) &&& 31)) &&& 65535) >>> ((4 : Int32) &&& 31)) / 6 * 6) ((((x2 >>> ((4 : Int32) &&& 31)) &&& 65535) >>> ((3 : Int32) &&& 31)) - (((x2 >>> ((4 : Int32) &&& 31)) &&& 65535) >>> ((3 : Int32) &&& 31)) / 8 * 8) (hJ.pm _ h0) (hJ.ex_release _ ((((x2 >>> ((4 : Int32) &&& 31)) &&& 65535) >>> ((4 : Int32) &&& 31)) - (((x2 >>> ((4 : Int32) &&& 31)) &&& 65535) >>> ((4 : Int32) &&& 31)) / 6 * 6) ((((x2 >>> ((4 : Int32) &&& 31)) &&& 65535) >>> ((3 : Int32) &&& 31)) - (((x2 >>> ((4 : Int32) &&& 31)) &&& 65535) >>> ((3 : Int32) &&& 31)) / 8 * 8) h0)) (vx_cwSW 3 hts gL_act_L_release rfl rfl rfl (by decide +kernel) ⟨Nat.le_of_ble_eq_true rfl, Nat.le_of_ble_eq_true rfl⟩) (ft_preM hEL hz hS hP) rfl rfl hl.1 rfl (lv_room (Nat.le_of_ble_eq_true rfl)) dL_act_219 ⟨Nat.le_of_ble_eq_true rfl, Nat.le_of_ble_eq_true rfl⟩) hS (fun _ _ h => h) (fun _ h => h) (fun z u t H1 locs1 ht hvm hw hB hz1 hk1 hS1 => ?_)
      obtain ⟨rfl, rfl⟩ : z = (w_release σ ((((x2 >>> ((4 : Int32) &&& 31)) &&& 65535) >>> ((4 : Int32) &&& 31)) - (((x2 >>> ((4 : Int32) &&& 31)) &&& 65535) >>> ((4 : Int32) &&& 31)) / 6 * 6) ((((x2 >>> ((4 : Int32) &&& 31)) &&& 65535) >>> ((3 : Int32) &&& 31)) - (((x2 >>> ((4 : Int32) &&& 31)) &&& 65535) >>> ((3 : Int32) &&& 31)) / 8 * 8)).1 ∧ u = (w_release σ ((((x2 >>> ((4 : Int32) &&& 31)) &&& 65535) >>> ((4 : Int32) &&& 31)) - (((x2 >>> ((4 : Int32) &&& 31)) &&& 65535) >>> ((4 : Int32) &&& 31)) / 6 * 6) ((((x2 >>> ((4 : Int32) &&& 31)) &&& 65535) >>> ((3 : Int32) &&& 31)) - (((x2 >>> ((4 : Int32) &&& 31)) &&& 65535) >>> ((3 : Int32) &&& 31)) / 8 * 8)).2 := ⟨congrArg Prod.fst hw, congrArg Prod.snd hw⟩
      rw [ht] at hB
      have hP := hB
      have hS := hS1
      clear hS1
      generalize H1 = H at hP hS ⊢
      refine W.widen (k := 1) (n := 6) (by omega) (by omega) ?_
      have hJ_219_10 : J (w_release σ ((((x2 >>> ((4 : Int32) &&& 31)) &&& 65535) >>> ((4 : Int32) &&& 31)) - (((x2 >>> ((4 : Int32) &&& 31)) &&& 65535) >>> ((4 : Int32) &&& 31)) / 6 * 6) ((((x2 >>> ((4 : Int32) &&& 31)) &&& 65535) >>> ((3 : Int32) &&& 31)) - (((x2 >>> ((4 : Int32) &&& 31)) &&& 65535) >>> ((3 : Int32) &&& 31)) / 8 * 8)).2 := hJ.k_release _ ((((x2 >>> ((4 : Int32) &&& 31)) &&& 65535) >>> ((4 : Int32) &&& 31)) - (((x2 >>> ((4 : Int32) &&& 31)) &&& 65535) >>> ((4 : Int32) &&& 31)) / 6 * 6) ((((x2 >>> ((4 : Int32) &&& 31)) &&& 65535) >>> ((3 : Int32) &&& 31)) - (((x2 >>> ((4 : Int32) &&& 31)) &&& 65535) >>> ((3 : Int32) &&& 31)) / 8 * 8) h0
      refine W.widen (k := 26) (n := 3756) (by omega) (by omega) ?_
      exact W.iret (v := (w_release σ ((((x2 >>> ((4 : Int32) &&& 31)) &&& 65535) >>> ((4 : Int32) &&& 31)) - (((x2 >>> ((4 : Int32) &&& 31)) &&& 65535) >>> ((4 : Int32) &&& 31)) / 6 * 6) ((((x2 >>> ((4 : Int32) &&& 31)) &&& 65535) >>> ((3 : Int32) &&& 31)) - (((x2 >>> ((4 : Int32) &&& 31)) &&& 65535) >>> ((3 : Int32) &&& 31)) / 8 * 8)).1) hx hb hr (fun t ht hW => ⟨⟨(w_release σ ((((x2 >>> ((4 : Int32) &&& 31)) &&& 65535) >>> ((4 : Int32) &&& 31)) - (((x2 >>> ((4 : Int32) &&& 31)) &&& 65535) >>> ((4 : Int32) &&& 31)) / 6 * 6) ((((x2 >>> ((4 : Int32) &&& 31)) &&& 65535) >>> ((3 : Int32) &&& 31)) - (((x2 >>> ((4 : Int32) &&& 31)) &&& 65535) >>> ((3 : Int32) &&& 31)) / 8 * 8)).1, (w_release σ ((((x2 >>> ((4 : Int32) &&& 31)) &&& 65535) >>> ((4 : Int32) &&& 31)) - (((x2 >>> ((4 : Int32) &&& 31)) &&& 65535) >>> ((4 : Int32) &&& 31)) / 6 * 6) ((((x2 >>> ((4 : Int32) &&& 31)) &&& 65535) >>> ((3 : Int32) &&& 31)) - (((x2 >>> ((4 : Int32) &&& 31)) &&& 65535) >>> ((3 : Int32) &&& 31)) / 8 * 8)).2, rfl, ⟨hsp, hJ_219_10⟩, by show ft_LW D k Z sz a _ t.heap; rw [ht]; exact hP⟩, hS.F ht⟩) hS.2.2 dL_act_222
    replace hsp := (if_neg k_41_8).symm.trans hsp
    by_cases k_41_9 : (x2 &&& 15) = 9
    · replace hsp := (if_pos k_41_9).symm.trans hsp
      refine lv_tableIn (tgt := 223) (off := 182) hx hb dL_act_41 (by rw [k_41_9]; decide) (by rw [k_41_9]; decide) (by rw [k_41_9]; rfl) (by decide) ?_
      refine lv_aload_n hx hb dL_act_223 rfl (lv_at hl 3 rfl) ?_
      refine lv_iload_n hx hb dL_act_224 rfl (lv_at hl 2 rfl) ?_
      refine lv_iconst (v := 2) hx hb dL_act_225 (by decide) ?_
      refine lv_ishr hx hb dL_act_226 ?_
      refine lv_iconst (v := 5) hx hb dL_act_227 (by decide) ?_
      refine lv_irem hx hb dL_act_228 (by decide) ?_
      refine va_calli (vx_runSW (As := [.ref (a), .int ((((x2 >>> ((4 : Int32) &&& 31)) &&& 65535) >>> ((2 : Int32) &&& 31)) - (((x2 >>> ((4 : Int32) &&& 31)) &&& 65535) >>> ((2 : Int32) &&& 31)) / 5 * 5)]) (rest := []) ⟨hx, hb, hml, hown, hts⟩ (d_L_setWeather l hl0 D Z k sz a σ ((((x2 >>> ((4 : Int32) &&& 31)) &&& 65535) >>> ((2 : Int32) &&& 31)) - (((x2 >>> ((4 : Int32) &&& 31)) &&& 65535) >>> ((2 : Int32) &&& 31)) / 5 * 5) (hJ.pm _ h0) (hJ.ex_setWeather _ ((((x2 >>> ((4 : Int32) &&& 31)) &&& 65535) >>> ((2 : Int32) &&& 31)) - (((x2 >>> ((4 : Int32) &&& 31)) &&& 65535) >>> ((2 : Int32) &&& 31)) / 5 * 5) h0)) (vx_cwSW 2 hts gL_act_L_setWeather rfl rfl rfl (by decide +kernel) ⟨Nat.le_of_ble_eq_true rfl, Nat.le_of_ble_eq_true rfl⟩) (ft_preM hEL hz hS hP) rfl rfl hl.1 rfl (lv_room (Nat.le_of_ble_eq_true rfl)) dL_act_229 ⟨Nat.le_of_ble_eq_true rfl, Nat.le_of_ble_eq_true rfl⟩) hS (fun _ _ h => h) (fun _ h => h) (fun z u t H1 locs1 ht hvm hw hB hz1 hk1 hS1 => ?_)
      obtain ⟨rfl, rfl⟩ : z = (w_setWeather σ ((((x2 >>> ((4 : Int32) &&& 31)) &&& 65535) >>> ((2 : Int32) &&& 31)) - (((x2 >>> ((4 : Int32) &&& 31)) &&& 65535) >>> ((2 : Int32) &&& 31)) / 5 * 5)).1 ∧ u = (w_setWeather σ ((((x2 >>> ((4 : Int32) &&& 31)) &&& 65535) >>> ((2 : Int32) &&& 31)) - (((x2 >>> ((4 : Int32) &&& 31)) &&& 65535) >>> ((2 : Int32) &&& 31)) / 5 * 5)).2 := ⟨congrArg Prod.fst hw, congrArg Prod.snd hw⟩
      rw [ht] at hB
      have hP := hB
      have hS := hS1
      clear hS1
      generalize H1 = H at hP hS ⊢
      refine W.widen (k := 1) (n := 6) (by omega) (by omega) ?_
      have hJ_229_11 : J (w_setWeather σ ((((x2 >>> ((4 : Int32) &&& 31)) &&& 65535) >>> ((2 : Int32) &&& 31)) - (((x2 >>> ((4 : Int32) &&& 31)) &&& 65535) >>> ((2 : Int32) &&& 31)) / 5 * 5)).2 := hJ.k_setWeather _ ((((x2 >>> ((4 : Int32) &&& 31)) &&& 65535) >>> ((2 : Int32) &&& 31)) - (((x2 >>> ((4 : Int32) &&& 31)) &&& 65535) >>> ((2 : Int32) &&& 31)) / 5 * 5) h0
      refine W.widen (k := 26) (n := 3756) (by omega) (by omega) ?_
      exact W.iret (v := (w_setWeather σ ((((x2 >>> ((4 : Int32) &&& 31)) &&& 65535) >>> ((2 : Int32) &&& 31)) - (((x2 >>> ((4 : Int32) &&& 31)) &&& 65535) >>> ((2 : Int32) &&& 31)) / 5 * 5)).1) hx hb hr (fun t ht hW => ⟨⟨(w_setWeather σ ((((x2 >>> ((4 : Int32) &&& 31)) &&& 65535) >>> ((2 : Int32) &&& 31)) - (((x2 >>> ((4 : Int32) &&& 31)) &&& 65535) >>> ((2 : Int32) &&& 31)) / 5 * 5)).1, (w_setWeather σ ((((x2 >>> ((4 : Int32) &&& 31)) &&& 65535) >>> ((2 : Int32) &&& 31)) - (((x2 >>> ((4 : Int32) &&& 31)) &&& 65535) >>> ((2 : Int32) &&& 31)) / 5 * 5)).2, rfl, ⟨hsp, hJ_229_11⟩, by show ft_LW D k Z sz a _ t.heap; rw [ht]; exact hP⟩, hS.F ht⟩) hS.2.2 dL_act_232
    replace hsp := (if_neg k_41_9).symm.trans hsp
    by_cases k_41_10 : (x2 &&& 15) = 10
    · replace hsp := (if_pos k_41_10).symm.trans hsp
      refine lv_tableIn (tgt := 233) (off := 192) hx hb dL_act_41 (by rw [k_41_10]; decide) (by rw [k_41_10]; decide) (by rw [k_41_10]; rfl) (by decide) ?_
      refine lv_aload_n hx hb dL_act_233 rfl (lv_at hl 3 rfl) ?_
      refine lv_iload_n hx hb dL_act_234 rfl (lv_at hl 2 rfl) ?_
      refine lv_iconst (v := 2) hx hb dL_act_235 (by decide) ?_
      refine lv_ishr hx hb dL_act_236 ?_
      refine lv_bipush (v := 25) hx hb dL_act_237 (by decide) ?_
      refine lv_irem hx hb dL_act_239 (by decide) ?_
      refine va_calli (vx_runSW (As := [.ref (a), .int ((((x2 >>> ((4 : Int32) &&& 31)) &&& 65535) >>> ((2 : Int32) &&& 31)) - (((x2 >>> ((4 : Int32) &&& 31)) &&& 65535) >>> ((2 : Int32) &&& 31)) / 25 * 25)]) (rest := []) ⟨hx, hb, hml, hown, hts⟩ (d_L_advance l hl0 D Z k sz a σ ((((x2 >>> ((4 : Int32) &&& 31)) &&& 65535) >>> ((2 : Int32) &&& 31)) - (((x2 >>> ((4 : Int32) &&& 31)) &&& 65535) >>> ((2 : Int32) &&& 31)) / 25 * 25) (hJ.pm _ h0) (hJ.ex_advance _ ((((x2 >>> ((4 : Int32) &&& 31)) &&& 65535) >>> ((2 : Int32) &&& 31)) - (((x2 >>> ((4 : Int32) &&& 31)) &&& 65535) >>> ((2 : Int32) &&& 31)) / 25 * 25) h0)) (vx_cwSW 2 hts gL_act_L_advance rfl rfl rfl (by decide +kernel) ⟨Nat.le_of_ble_eq_true rfl, Nat.le_of_ble_eq_true rfl⟩) (ft_preM hEL hz hS hP) rfl rfl hl.1 rfl (lv_room (Nat.le_of_ble_eq_true rfl)) dL_act_240 ⟨Nat.le_of_ble_eq_true rfl, Nat.le_of_ble_eq_true rfl⟩) hS (fun _ _ h => h) (fun _ h => h) (fun z u t H1 locs1 ht hvm hw hB hz1 hk1 hS1 => ?_)
      obtain ⟨rfl, rfl⟩ : z = (w_advance σ ((((x2 >>> ((4 : Int32) &&& 31)) &&& 65535) >>> ((2 : Int32) &&& 31)) - (((x2 >>> ((4 : Int32) &&& 31)) &&& 65535) >>> ((2 : Int32) &&& 31)) / 25 * 25)).1 ∧ u = (w_advance σ ((((x2 >>> ((4 : Int32) &&& 31)) &&& 65535) >>> ((2 : Int32) &&& 31)) - (((x2 >>> ((4 : Int32) &&& 31)) &&& 65535) >>> ((2 : Int32) &&& 31)) / 25 * 25)).2 := ⟨congrArg Prod.fst hw, congrArg Prod.snd hw⟩
      rw [ht] at hB
      have hP := hB
      have hS := hS1
      clear hS1
      generalize H1 = H at hP hS ⊢
      refine W.widen (k := 1) (n := 6) (by omega) (by omega) ?_
      have hJ_240_12 : J (w_advance σ ((((x2 >>> ((4 : Int32) &&& 31)) &&& 65535) >>> ((2 : Int32) &&& 31)) - (((x2 >>> ((4 : Int32) &&& 31)) &&& 65535) >>> ((2 : Int32) &&& 31)) / 25 * 25)).2 := hJ.k_advance _ ((((x2 >>> ((4 : Int32) &&& 31)) &&& 65535) >>> ((2 : Int32) &&& 31)) - (((x2 >>> ((4 : Int32) &&& 31)) &&& 65535) >>> ((2 : Int32) &&& 31)) / 25 * 25) h0
      refine W.widen (k := 26) (n := 3756) (by omega) (by omega) ?_
      exact W.iret (v := (w_advance σ ((((x2 >>> ((4 : Int32) &&& 31)) &&& 65535) >>> ((2 : Int32) &&& 31)) - (((x2 >>> ((4 : Int32) &&& 31)) &&& 65535) >>> ((2 : Int32) &&& 31)) / 25 * 25)).1) hx hb hr (fun t ht hW => ⟨⟨(w_advance σ ((((x2 >>> ((4 : Int32) &&& 31)) &&& 65535) >>> ((2 : Int32) &&& 31)) - (((x2 >>> ((4 : Int32) &&& 31)) &&& 65535) >>> ((2 : Int32) &&& 31)) / 25 * 25)).1, (w_advance σ ((((x2 >>> ((4 : Int32) &&& 31)) &&& 65535) >>> ((2 : Int32) &&& 31)) - (((x2 >>> ((4 : Int32) &&& 31)) &&& 65535) >>> ((2 : Int32) &&& 31)) / 25 * 25)).2, rfl, ⟨hsp, hJ_240_12⟩, by show ft_LW D k Z sz a _ t.heap; rw [ht]; exact hP⟩, hS.F ht⟩) hS.2.2 dL_act_243
    replace hsp := (if_neg k_41_10).symm.trans hsp
    by_cases k_41_11 : (x2 &&& 15) = 11
    · replace hsp := (if_pos k_41_11).symm.trans hsp
      refine lv_tableIn (tgt := 233) (off := 192) hx hb dL_act_41 (by rw [k_41_11]; decide) (by rw [k_41_11]; decide) (by rw [k_41_11]; rfl) (by decide) ?_
      refine lv_aload_n hx hb dL_act_233 rfl (lv_at hl 3 rfl) ?_
      refine lv_iload_n hx hb dL_act_234 rfl (lv_at hl 2 rfl) ?_
      refine lv_iconst (v := 2) hx hb dL_act_235 (by decide) ?_
      refine lv_ishr hx hb dL_act_236 ?_
      refine lv_bipush (v := 25) hx hb dL_act_237 (by decide) ?_
      refine lv_irem hx hb dL_act_239 (by decide) ?_
      refine va_calli (vx_runSW (As := [.ref (a), .int ((((x2 >>> ((4 : Int32) &&& 31)) &&& 65535) >>> ((2 : Int32) &&& 31)) - (((x2 >>> ((4 : Int32) &&& 31)) &&& 65535) >>> ((2 : Int32) &&& 31)) / 25 * 25)]) (rest := []) ⟨hx, hb, hml, hown, hts⟩ (d_L_advance l hl0 D Z k sz a σ ((((x2 >>> ((4 : Int32) &&& 31)) &&& 65535) >>> ((2 : Int32) &&& 31)) - (((x2 >>> ((4 : Int32) &&& 31)) &&& 65535) >>> ((2 : Int32) &&& 31)) / 25 * 25) (hJ.pm _ h0) (hJ.ex_advance _ ((((x2 >>> ((4 : Int32) &&& 31)) &&& 65535) >>> ((2 : Int32) &&& 31)) - (((x2 >>> ((4 : Int32) &&& 31)) &&& 65535) >>> ((2 : Int32) &&& 31)) / 25 * 25) h0)) (vx_cwSW 2 hts gL_act_L_advance rfl rfl rfl (by decide +kernel) ⟨Nat.le_of_ble_eq_true rfl, Nat.le_of_ble_eq_true rfl⟩) (ft_preM hEL hz hS hP) rfl rfl hl.1 rfl (lv_room (Nat.le_of_ble_eq_true rfl)) dL_act_240 ⟨Nat.le_of_ble_eq_true rfl, Nat.le_of_ble_eq_true rfl⟩) hS (fun _ _ h => h) (fun _ h => h) (fun z u t H1 locs1 ht hvm hw hB hz1 hk1 hS1 => ?_)
      obtain ⟨rfl, rfl⟩ : z = (w_advance σ ((((x2 >>> ((4 : Int32) &&& 31)) &&& 65535) >>> ((2 : Int32) &&& 31)) - (((x2 >>> ((4 : Int32) &&& 31)) &&& 65535) >>> ((2 : Int32) &&& 31)) / 25 * 25)).1 ∧ u = (w_advance σ ((((x2 >>> ((4 : Int32) &&& 31)) &&& 65535) >>> ((2 : Int32) &&& 31)) - (((x2 >>> ((4 : Int32) &&& 31)) &&& 65535) >>> ((2 : Int32) &&& 31)) / 25 * 25)).2 := ⟨congrArg Prod.fst hw, congrArg Prod.snd hw⟩
      rw [ht] at hB
      have hP := hB
      have hS := hS1
      clear hS1
      generalize H1 = H at hP hS ⊢
      refine W.widen (k := 1) (n := 6) (by omega) (by omega) ?_
      have hJ_240_13 : J (w_advance σ ((((x2 >>> ((4 : Int32) &&& 31)) &&& 65535) >>> ((2 : Int32) &&& 31)) - (((x2 >>> ((4 : Int32) &&& 31)) &&& 65535) >>> ((2 : Int32) &&& 31)) / 25 * 25)).2 := hJ.k_advance _ ((((x2 >>> ((4 : Int32) &&& 31)) &&& 65535) >>> ((2 : Int32) &&& 31)) - (((x2 >>> ((4 : Int32) &&& 31)) &&& 65535) >>> ((2 : Int32) &&& 31)) / 25 * 25) h0
      refine W.widen (k := 26) (n := 3756) (by omega) (by omega) ?_
      exact W.iret (v := (w_advance σ ((((x2 >>> ((4 : Int32) &&& 31)) &&& 65535) >>> ((2 : Int32) &&& 31)) - (((x2 >>> ((4 : Int32) &&& 31)) &&& 65535) >>> ((2 : Int32) &&& 31)) / 25 * 25)).1) hx hb hr (fun t ht hW => ⟨⟨(w_advance σ ((((x2 >>> ((4 : Int32) &&& 31)) &&& 65535) >>> ((2 : Int32) &&& 31)) - (((x2 >>> ((4 : Int32) &&& 31)) &&& 65535) >>> ((2 : Int32) &&& 31)) / 25 * 25)).1, (w_advance σ ((((x2 >>> ((4 : Int32) &&& 31)) &&& 65535) >>> ((2 : Int32) &&& 31)) - (((x2 >>> ((4 : Int32) &&& 31)) &&& 65535) >>> ((2 : Int32) &&& 31)) / 25 * 25)).2, rfl, ⟨hsp, hJ_240_13⟩, by show ft_LW D k Z sz a _ t.heap; rw [ht]; exact hP⟩, hS.F ht⟩) hS.2.2 dL_act_243
    replace hsp := (if_neg k_41_11).symm.trans hsp
    by_cases k_41_12 : (x2 &&& 15) = 12
    · replace hsp := (if_pos k_41_12).symm.trans hsp
      refine lv_tableIn (tgt := 233) (off := 192) hx hb dL_act_41 (by rw [k_41_12]; decide) (by rw [k_41_12]; decide) (by rw [k_41_12]; rfl) (by decide) ?_
      refine lv_aload_n hx hb dL_act_233 rfl (lv_at hl 3 rfl) ?_
      refine lv_iload_n hx hb dL_act_234 rfl (lv_at hl 2 rfl) ?_
      refine lv_iconst (v := 2) hx hb dL_act_235 (by decide) ?_
      refine lv_ishr hx hb dL_act_236 ?_
      refine lv_bipush (v := 25) hx hb dL_act_237 (by decide) ?_
      refine lv_irem hx hb dL_act_239 (by decide) ?_
      refine va_calli (vx_runSW (As := [.ref (a), .int ((((x2 >>> ((4 : Int32) &&& 31)) &&& 65535) >>> ((2 : Int32) &&& 31)) - (((x2 >>> ((4 : Int32) &&& 31)) &&& 65535) >>> ((2 : Int32) &&& 31)) / 25 * 25)]) (rest := []) ⟨hx, hb, hml, hown, hts⟩ (d_L_advance l hl0 D Z k sz a σ ((((x2 >>> ((4 : Int32) &&& 31)) &&& 65535) >>> ((2 : Int32) &&& 31)) - (((x2 >>> ((4 : Int32) &&& 31)) &&& 65535) >>> ((2 : Int32) &&& 31)) / 25 * 25) (hJ.pm _ h0) (hJ.ex_advance _ ((((x2 >>> ((4 : Int32) &&& 31)) &&& 65535) >>> ((2 : Int32) &&& 31)) - (((x2 >>> ((4 : Int32) &&& 31)) &&& 65535) >>> ((2 : Int32) &&& 31)) / 25 * 25) h0)) (vx_cwSW 2 hts gL_act_L_advance rfl rfl rfl (by decide +kernel) ⟨Nat.le_of_ble_eq_true rfl, Nat.le_of_ble_eq_true rfl⟩) (ft_preM hEL hz hS hP) rfl rfl hl.1 rfl (lv_room (Nat.le_of_ble_eq_true rfl)) dL_act_240 ⟨Nat.le_of_ble_eq_true rfl, Nat.le_of_ble_eq_true rfl⟩) hS (fun _ _ h => h) (fun _ h => h) (fun z u t H1 locs1 ht hvm hw hB hz1 hk1 hS1 => ?_)
      obtain ⟨rfl, rfl⟩ : z = (w_advance σ ((((x2 >>> ((4 : Int32) &&& 31)) &&& 65535) >>> ((2 : Int32) &&& 31)) - (((x2 >>> ((4 : Int32) &&& 31)) &&& 65535) >>> ((2 : Int32) &&& 31)) / 25 * 25)).1 ∧ u = (w_advance σ ((((x2 >>> ((4 : Int32) &&& 31)) &&& 65535) >>> ((2 : Int32) &&& 31)) - (((x2 >>> ((4 : Int32) &&& 31)) &&& 65535) >>> ((2 : Int32) &&& 31)) / 25 * 25)).2 := ⟨congrArg Prod.fst hw, congrArg Prod.snd hw⟩
      rw [ht] at hB
      have hP := hB
      have hS := hS1
      clear hS1
      generalize H1 = H at hP hS ⊢
      refine W.widen (k := 1) (n := 6) (by omega) (by omega) ?_
      have hJ_240_14 : J (w_advance σ ((((x2 >>> ((4 : Int32) &&& 31)) &&& 65535) >>> ((2 : Int32) &&& 31)) - (((x2 >>> ((4 : Int32) &&& 31)) &&& 65535) >>> ((2 : Int32) &&& 31)) / 25 * 25)).2 := hJ.k_advance _ ((((x2 >>> ((4 : Int32) &&& 31)) &&& 65535) >>> ((2 : Int32) &&& 31)) - (((x2 >>> ((4 : Int32) &&& 31)) &&& 65535) >>> ((2 : Int32) &&& 31)) / 25 * 25) h0
      refine W.widen (k := 26) (n := 3756) (by omega) (by omega) ?_
      exact W.iret (v := (w_advance σ ((((x2 >>> ((4 : Int32) &&& 31)) &&& 65535) >>> ((2 : Int32) &&& 31)) - (((x2 >>> ((4 : Int32) &&& 31)) &&& 65535) >>> ((2 : Int32) &&& 31)) / 25 * 25)).1) hx hb hr (fun t ht hW => ⟨⟨(w_advance σ ((((x2 >>> ((4 : Int32) &&& 31)) &&& 65535) >>> ((2 : Int32) &&& 31)) - (((x2 >>> ((4 : Int32) &&& 31)) &&& 65535) >>> ((2 : Int32) &&& 31)) / 25 * 25)).1, (w_advance σ ((((x2 >>> ((4 : Int32) &&& 31)) &&& 65535) >>> ((2 : Int32) &&& 31)) - (((x2 >>> ((4 : Int32) &&& 31)) &&& 65535) >>> ((2 : Int32) &&& 31)) / 25 * 25)).2, rfl, ⟨hsp, hJ_240_14⟩, by show ft_LW D k Z sz a _ t.heap; rw [ht]; exact hP⟩, hS.F ht⟩) hS.2.2 dL_act_243
    replace hsp := (if_neg k_41_12).symm.trans hsp
    by_cases k_41_13 : (x2 &&& 15) = 13
    · replace hsp := (if_pos k_41_13).symm.trans hsp
      refine lv_tableIn (tgt := 244) (off := 203) hx hb dL_act_41 (by rw [k_41_13]; decide) (by rw [k_41_13]; decide) (by rw [k_41_13]; rfl) (by decide) ?_
      refine lv_aload_n hx hb dL_act_244 rfl (lv_at hl 3 rfl) ?_
      refine va_gets (C := RL) hx hb hEL.2.2.2.1.1 hS hown (hts (.fieldLink RL 140 "FoodTruckRotaLaw" "SCRIPTS" "[Ljava/lang/String;") (by decide +kernel)) (fun _ h9 => h9) dL_act_245 ?_
      refine lv_iload_n hx hb dL_act_248 rfl (lv_at hl 2 rfl) ?_
      refine va_gets (C := RL) hx hb hEL.2.2.2.1.1 hS hown (hts (.fieldLink RL 140 "FoodTruckRotaLaw" "SCRIPTS" "[Ljava/lang/String;") (by decide +kernel)) (fun _ h9 => h9) dL_act_249 ?_
      refine va_tlen (v := 28) hx hb hEL.2.2.2.1.2.1 hS rfl dL_act_252 ?_
      refine lv_irem hx hb dL_act_253 (by decide) ?_
      have hj_254 : vp_in (((x2 >>> ((4 : Int32) &&& 31)) &&& 65535) - ((x2 >>> ((4 : Int32) &&& 31)) &&& 65535) / 28 * 28) 28 := ft_y28 _
      obtain ⟨cell_254, ha_254, hb_254, hc_254, hd_254, he_254⟩ := ft_tcell hEL.2.2.2.1.2.1 hS hj_254
      refine W.aald (v := .ref (Z 4 (tn (((x2 >>> ((4 : Int32) &&& 31)) &&& 65535) - ((x2 >>> ((4 : Int32) &&& 31)) &&& 65535) / 28 * 28)))) (ty := .object RJ0) hx hb ha_254 hb_254 rfl hc_254 hd_254 he_254 rfl rfl dL_act_254 ?_
      refine W.eq (g2 := F0 m 255 ls [.ref (Z 4 (tn (((x2 >>> ((4 : Int32) &&& 31)) &&& 65535) - ((x2 >>> ((4 : Int32) &&& 31)) &&& 65535) / 28 * 28))), .ref (a)]) rfl ?_
      refine va_callr (va_runS (As := [.ref (a), .ref (Z 4 (tn (((x2 >>> ((4 : Int32) &&& 31)) &&& 65535) - ((x2 >>> ((4 : Int32) &&& 31)) &&& 65535) / 28 * 28)))]) (rest := []) ⟨hx, hb, hml, hown, hts⟩ (c_L_write l hl0 D Z k sz a σ (tn (((x2 >>> ((4 : Int32) &&& 31)) &&& 65535) - ((x2 >>> ((4 : Int32) &&& 31)) &&& 65535) / 28 * 28)) J hJ h0 (ft_tn hj_254)) (va_cwS 2 hts gL_act_L_write rfl rfl rfl (by decide +kernel) ⟨Nat.le_of_ble_eq_true rfl, Nat.le_of_ble_eq_true rfl⟩) (ft_preM hEL hz hS hP) rfl rfl hl.1 rfl (lv_room (Nat.le_of_ble_eq_true rfl)) dL_act_255 ⟨Nat.le_of_ble_eq_true rfl, Nat.le_of_ble_eq_true rfl⟩) hS (fun _ _ h => h) (fun _ h => h) (fun u ra t H1 locs1 ht hvm hw hB hz1 hk1 hS1 => ?_)
      obtain ⟨rfl, hj9⟩ := hw
      obtain ⟨hra, hB⟩ := hB
      replace hra := hra.symm
      subst hra
      have hJ_255_15 : J (s_L_write σ (tn (((x2 >>> ((4 : Int32) &&& 31)) &&& 65535) - ((x2 >>> ((4 : Int32) &&& 31)) &&& 65535) / 28 * 28))) := hj9
      clear hj9
      rw [ht] at hB
      have hP := hB
      have hS := hS1
      clear hS1
      generalize H1 = H at hP hS ⊢
      refine W.widen (k := 25) (n := 3750) (by omega) (by omega) ?_
      refine va_calli (vx_runSW (As := [.ref (a)]) (rest := []) ⟨hx, hb, hml, hown, hts⟩ (d_L_runScript l hl0 D Z k sz a (s_L_write σ (tn (((x2 >>> ((4 : Int32) &&& 31)) &&& 65535) - ((x2 >>> ((4 : Int32) &&& 31)) &&& 65535) / 28 * 28))) (hJ.pm _ hJ_255_15) (hJ.ok9 _ hJ_255_15) (hJ.g9 _ hJ_255_15) (hJ.ex_runScript _ hJ_255_15)) (vx_cwSW 1 hts gL_act_L_runScript rfl rfl rfl (by decide +kernel) ⟨Nat.le_of_ble_eq_true rfl, Nat.le_of_ble_eq_true rfl⟩) (ft_preM hEL hz hS hP) rfl rfl hl.1 rfl (lv_room (Nat.le_of_ble_eq_true rfl)) dL_act_258 ⟨Nat.le_of_ble_eq_true rfl, Nat.le_of_ble_eq_true rfl⟩) hS (fun _ _ h => h) (fun _ h => h) (fun z u t H1 locs1 ht hvm hw hB hz1 hk1 hS1 => ?_)
      obtain ⟨rfl, rfl⟩ : z = (w_runScript (s_L_write σ (tn (((x2 >>> ((4 : Int32) &&& 31)) &&& 65535) - ((x2 >>> ((4 : Int32) &&& 31)) &&& 65535) / 28 * 28)))).1 ∧ u = (w_runScript (s_L_write σ (tn (((x2 >>> ((4 : Int32) &&& 31)) &&& 65535) - ((x2 >>> ((4 : Int32) &&& 31)) &&& 65535) / 28 * 28)))).2 := ⟨congrArg Prod.fst hw, congrArg Prod.snd hw⟩
      rw [ht] at hB
      have hP := hB
      have hS := hS1
      clear hS1
      generalize H1 = H at hP hS ⊢
      refine W.widen (k := 26) (n := 3756) (by omega) (by omega) ?_
      have hJ_258_16 : J (w_runScript (s_L_write σ (tn (((x2 >>> ((4 : Int32) &&& 31)) &&& 65535) - ((x2 >>> ((4 : Int32) &&& 31)) &&& 65535) / 28 * 28)))).2 := hJ.k_runScript _ hJ_255_15
      refine W.widen (k := 26) (n := 3756) (by omega) (by omega) ?_
      exact W.iret (v := (w_runScript (s_L_write σ (tn (((x2 >>> ((4 : Int32) &&& 31)) &&& 65535) - ((x2 >>> ((4 : Int32) &&& 31)) &&& 65535) / 28 * 28)))).1) hx hb hr (fun t ht hW => ⟨⟨(w_runScript (s_L_write σ (tn (((x2 >>> ((4 : Int32) &&& 31)) &&& 65535) - ((x2 >>> ((4 : Int32) &&& 31)) &&& 65535) / 28 * 28)))).1, (w_runScript (s_L_write σ (tn (((x2 >>> ((4 : Int32) &&& 31)) &&& 65535) - ((x2 >>> ((4 : Int32) &&& 31)) &&& 65535) / 28 * 28)))).2, rfl, ⟨hsp, hJ_258_16⟩, by show ft_LW D k Z sz a _ t.heap; rw [ht]; exact hP⟩, hS.F ht⟩) hS.2.2 dL_act_261
    replace hsp := (if_neg k_41_13).symm.trans hsp
    by_cases k_41_14 : (x2 &&& 15) = 14
    · replace hsp := (if_pos k_41_14).symm.trans hsp
      refine lv_tableIn (tgt := 244) (off := 203) hx hb dL_act_41 (by rw [k_41_14]; decide) (by rw [k_41_14]; decide) (by rw [k_41_14]; rfl) (by decide) ?_
      refine lv_aload_n hx hb dL_act_244 rfl (lv_at hl 3 rfl) ?_
      refine va_gets (C := RL) hx hb hEL.2.2.2.1.1 hS hown (hts (.fieldLink RL 140 "FoodTruckRotaLaw" "SCRIPTS" "[Ljava/lang/String;") (by decide +kernel)) (fun _ h9 => h9) dL_act_245 ?_
      refine lv_iload_n hx hb dL_act_248 rfl (lv_at hl 2 rfl) ?_
      refine va_gets (C := RL) hx hb hEL.2.2.2.1.1 hS hown (hts (.fieldLink RL 140 "FoodTruckRotaLaw" "SCRIPTS" "[Ljava/lang/String;") (by decide +kernel)) (fun _ h9 => h9) dL_act_249 ?_
      refine va_tlen (v := 28) hx hb hEL.2.2.2.1.2.1 hS rfl dL_act_252 ?_
      refine lv_irem hx hb dL_act_253 (by decide) ?_
      have hj_254 : vp_in (((x2 >>> ((4 : Int32) &&& 31)) &&& 65535) - ((x2 >>> ((4 : Int32) &&& 31)) &&& 65535) / 28 * 28) 28 := ft_y28 _
      obtain ⟨cell_254, ha_254, hb_254, hc_254, hd_254, he_254⟩ := ft_tcell hEL.2.2.2.1.2.1 hS hj_254
      refine W.aald (v := .ref (Z 4 (tn (((x2 >>> ((4 : Int32) &&& 31)) &&& 65535) - ((x2 >>> ((4 : Int32) &&& 31)) &&& 65535) / 28 * 28)))) (ty := .object RJ0) hx hb ha_254 hb_254 rfl hc_254 hd_254 he_254 rfl rfl dL_act_254 ?_
      refine W.eq (g2 := F0 m 255 ls [.ref (Z 4 (tn (((x2 >>> ((4 : Int32) &&& 31)) &&& 65535) - ((x2 >>> ((4 : Int32) &&& 31)) &&& 65535) / 28 * 28))), .ref (a)]) rfl ?_
      refine va_callr (va_runS (As := [.ref (a), .ref (Z 4 (tn (((x2 >>> ((4 : Int32) &&& 31)) &&& 65535) - ((x2 >>> ((4 : Int32) &&& 31)) &&& 65535) / 28 * 28)))]) (rest := []) ⟨hx, hb, hml, hown, hts⟩ (c_L_write l hl0 D Z k sz a σ (tn (((x2 >>> ((4 : Int32) &&& 31)) &&& 65535) - ((x2 >>> ((4 : Int32) &&& 31)) &&& 65535) / 28 * 28)) J hJ h0 (ft_tn hj_254)) (va_cwS 2 hts gL_act_L_write rfl rfl rfl (by decide +kernel) ⟨Nat.le_of_ble_eq_true rfl, Nat.le_of_ble_eq_true rfl⟩) (ft_preM hEL hz hS hP) rfl rfl hl.1 rfl (lv_room (Nat.le_of_ble_eq_true rfl)) dL_act_255 ⟨Nat.le_of_ble_eq_true rfl, Nat.le_of_ble_eq_true rfl⟩) hS (fun _ _ h => h) (fun _ h => h) (fun u ra t H1 locs1 ht hvm hw hB hz1 hk1 hS1 => ?_)
      obtain ⟨rfl, hj9⟩ := hw
      obtain ⟨hra, hB⟩ := hB
      replace hra := hra.symm
      subst hra
      have hJ_255_17 : J (s_L_write σ (tn (((x2 >>> ((4 : Int32) &&& 31)) &&& 65535) - ((x2 >>> ((4 : Int32) &&& 31)) &&& 65535) / 28 * 28))) := hj9
      clear hj9
      rw [ht] at hB
      have hP := hB
      have hS := hS1
      clear hS1
      generalize H1 = H at hP hS ⊢
      refine W.widen (k := 25) (n := 3750) (by omega) (by omega) ?_
      refine va_calli (vx_runSW (As := [.ref (a)]) (rest := []) ⟨hx, hb, hml, hown, hts⟩ (d_L_runScript l hl0 D Z k sz a (s_L_write σ (tn (((x2 >>> ((4 : Int32) &&& 31)) &&& 65535) - ((x2 >>> ((4 : Int32) &&& 31)) &&& 65535) / 28 * 28))) (hJ.pm _ hJ_255_17) (hJ.ok9 _ hJ_255_17) (hJ.g9 _ hJ_255_17) (hJ.ex_runScript _ hJ_255_17)) (vx_cwSW 1 hts gL_act_L_runScript rfl rfl rfl (by decide +kernel) ⟨Nat.le_of_ble_eq_true rfl, Nat.le_of_ble_eq_true rfl⟩) (ft_preM hEL hz hS hP) rfl rfl hl.1 rfl (lv_room (Nat.le_of_ble_eq_true rfl)) dL_act_258 ⟨Nat.le_of_ble_eq_true rfl, Nat.le_of_ble_eq_true rfl⟩) hS (fun _ _ h => h) (fun _ h => h) (fun z u t H1 locs1 ht hvm hw hB hz1 hk1 hS1 => ?_)
      obtain ⟨rfl, rfl⟩ : z = (w_runScript (s_L_write σ (tn (((x2 >>> ((4 : Int32) &&& 31)) &&& 65535) - ((x2 >>> ((4 : Int32) &&& 31)) &&& 65535) / 28 * 28)))).1 ∧ u = (w_runScript (s_L_write σ (tn (((x2 >>> ((4 : Int32) &&& 31)) &&& 65535) - ((x2 >>> ((4 : Int32) &&& 31)) &&& 65535) / 28 * 28)))).2 := ⟨congrArg Prod.fst hw, congrArg Prod.snd hw⟩
      rw [ht] at hB
      have hP := hB
      have hS := hS1
      clear hS1
      generalize H1 = H at hP hS ⊢
      refine W.widen (k := 26) (n := 3756) (by omega) (by omega) ?_
      have hJ_258_18 : J (w_runScript (s_L_write σ (tn (((x2 >>> ((4 : Int32) &&& 31)) &&& 65535) - ((x2 >>> ((4 : Int32) &&& 31)) &&& 65535) / 28 * 28)))).2 := hJ.k_runScript _ hJ_255_17
      refine W.widen (k := 26) (n := 3756) (by omega) (by omega) ?_
      exact W.iret (v := (w_runScript (s_L_write σ (tn (((x2 >>> ((4 : Int32) &&& 31)) &&& 65535) - ((x2 >>> ((4 : Int32) &&& 31)) &&& 65535) / 28 * 28)))).1) hx hb hr (fun t ht hW => ⟨⟨(w_runScript (s_L_write σ (tn (((x2 >>> ((4 : Int32) &&& 31)) &&& 65535) - ((x2 >>> ((4 : Int32) &&& 31)) &&& 65535) / 28 * 28)))).1, (w_runScript (s_L_write σ (tn (((x2 >>> ((4 : Int32) &&& 31)) &&& 65535) - ((x2 >>> ((4 : Int32) &&& 31)) &&& 65535) / 28 * 28)))).2, rfl, ⟨hsp, hJ_258_18⟩, by show ft_LW D k Z sz a _ t.heap; rw [ht]; exact hP⟩, hS.F ht⟩) hS.2.2 dL_act_261
    replace hsp := (if_neg k_41_14).symm.trans hsp
    have j_41_0 : (x2 &&& 15).toInt ≠ 0 := ft_ne k_41_0
    have j_41_1 : (x2 &&& 15).toInt ≠ 1 := ft_ne k_41_1
    have j_41_2 : (x2 &&& 15).toInt ≠ 2 := ft_ne k_41_2
    have j_41_3 : (x2 &&& 15).toInt ≠ 3 := ft_ne k_41_3
    have j_41_4 : (x2 &&& 15).toInt ≠ 4 := ft_ne k_41_4
    have j_41_5 : (x2 &&& 15).toInt ≠ 5 := ft_ne k_41_5
    have j_41_6 : (x2 &&& 15).toInt ≠ 6 := ft_ne k_41_6
    have j_41_7 : (x2 &&& 15).toInt ≠ 7 := ft_ne k_41_7
    have j_41_8 : (x2 &&& 15).toInt ≠ 8 := ft_ne k_41_8
    have j_41_9 : (x2 &&& 15).toInt ≠ 9 := ft_ne k_41_9
    have j_41_10 : (x2 &&& 15).toInt ≠ 10 := ft_ne k_41_10
    have j_41_11 : (x2 &&& 15).toInt ≠ 11 := ft_ne k_41_11
    have j_41_12 : (x2 &&& 15).toInt ≠ 12 := ft_ne k_41_12
    have j_41_13 : (x2 &&& 15).toInt ≠ 13 := ft_ne k_41_13
    have j_41_14 : (x2 &&& 15).toInt ≠ 14 := ft_ne k_41_14
    refine lv_tableOut (tgt := 262) hx hb dL_act_41 (by omega) (by decide) ?_
    refine lv_iload_n hx hb dL_act_262 rfl (lv_at hl 2 rfl) ?_
    refine lv_iconst (v := 3) hx hb dL_act_263 (by decide) ?_
    refine lv_iand hx hb dL_act_264 ?_
    refine lv_if_ne (tgt := 275) hx hb dL_act_265 (by decide) (fun c_265 => ?_) (fun c_265 => ?_)
    · replace hsp := (if_neg c_265).symm.trans hsp
      refine lv_iload_n hx hb dL_act_275 rfl (lv_at hl 2 rfl) ?_
      refine lv_iconst (v := 3) hx hb dL_act_276 (by decide) ?_
      refine lv_iand hx hb dL_act_277 ?_
      refine lv_iconst (v := 1) hx hb dL_act_278 (by decide) ?_
      refine lv_icmp_ne (tgt := 289) hx hb dL_act_279 (by decide) (fun c_279 => ?_) (fun c_279 => ?_)
      · replace hsp := (if_neg c_279).symm.trans hsp
        refine lv_aload_n hx hb dL_act_289 rfl (lv_at hl 3 rfl) ?_
        refine va_calli (vx_runSW (As := [.ref (a)]) (rest := []) ⟨hx, hb, hml, hown, hts⟩ (d_L_undo l hl0 D Z k sz a σ (hJ.pm _ h0) (hJ.ex_undo _ h0)) (vx_cwSW 1 hts gL_act_L_undo rfl rfl rfl (by decide +kernel) ⟨Nat.le_of_ble_eq_true rfl, Nat.le_of_ble_eq_true rfl⟩) (ft_preM hEL hz hS hP) rfl rfl hl.1 rfl (lv_room (Nat.le_of_ble_eq_true rfl)) dL_act_290 ⟨Nat.le_of_ble_eq_true rfl, Nat.le_of_ble_eq_true rfl⟩) hS (fun _ _ h => h) (fun _ h => h) (fun z u t H1 locs1 ht hvm hw hB hz1 hk1 hS1 => ?_)
        obtain ⟨rfl, rfl⟩ : z = (w_undo σ).1 ∧ u = (w_undo σ).2 := ⟨congrArg Prod.fst hw, congrArg Prod.snd hw⟩
        rw [ht] at hB
        have hP := hB
        have hS := hS1
        clear hS1
        generalize H1 = H at hP hS ⊢
        refine W.widen (k := 1) (n := 6) (by omega) (by omega) ?_
        have hJ_290_19 : J (w_undo σ).2 := hJ.k_undo _ h0
        refine W.widen (k := 26) (n := 3756) (by omega) (by omega) ?_
        exact W.iret (v := (w_undo σ).1) hx hb hr (fun t ht hW => ⟨⟨(w_undo σ).1, (w_undo σ).2, rfl, ⟨hsp, hJ_290_19⟩, by show ft_LW D k Z sz a _ t.heap; rw [ht]; exact hP⟩, hS.F ht⟩) hS.2.2 dL_act_293
      · replace hsp := (if_pos c_279).symm.trans hsp
        refine lv_aload_n hx hb dL_act_282 rfl (lv_at hl 3 rfl) ?_
        refine va_calli (vx_runSW (As := [.ref (a)]) (rest := []) ⟨hx, hb, hml, hown, hts⟩ (d_L_restore l hl0 D Z k sz a σ  (hJ.ex_restore _ h0)) (vx_cwSW 1 hts gL_act_L_restore rfl rfl rfl (by decide +kernel) ⟨Nat.le_of_ble_eq_true rfl, Nat.le_of_ble_eq_true rfl⟩) (ft_preM hEL hz hS hP) rfl rfl hl.1 rfl (lv_room (Nat.le_of_ble_eq_true rfl)) dL_act_283 ⟨Nat.le_of_ble_eq_true rfl, Nat.le_of_ble_eq_true rfl⟩) hS (fun _ _ h => h) (fun _ h => h) (fun z u t H1 locs1 ht hvm hw hB hz1 hk1 hS1 => ?_)
        obtain ⟨rfl, rfl⟩ : z = (w_restore σ).1 ∧ u = (w_restore σ).2 := ⟨congrArg Prod.fst hw, congrArg Prod.snd hw⟩
        rw [ht] at hB
        have hP := hB
        have hS := hS1
        clear hS1
        generalize H1 = H at hP hS ⊢
        refine W.widen (k := 1) (n := 6) (by omega) (by omega) ?_
        have hJ_283_20 : J (w_restore σ).2 := hJ.k_restore _ h0
        refine lv_goto (tgt := 293) hx hb dL_act_286 (by decide) ?_
        refine W.widen (k := 26) (n := 3756) (by omega) (by omega) ?_
        exact W.iret (v := (w_restore σ).1) hx hb hr (fun t ht hW => ⟨⟨(w_restore σ).1, (w_restore σ).2, rfl, ⟨hsp, hJ_283_20⟩, by show ft_LW D k Z sz a _ t.heap; rw [ht]; exact hP⟩, hS.F ht⟩) hS.2.2 dL_act_293
    · replace hsp := (if_pos c_265).symm.trans hsp
      refine lv_aload_n hx hb dL_act_268 rfl (lv_at hl 3 rfl) ?_
      refine va_calli (va_runV (As := []) (rest := []) ⟨hx, hb, hml, hown, hts⟩ (cl_save l D Z k sz a σ) (cwV 0 hts gL_act_X7_save rfl rfl rfl (by decide +kernel) ⟨Nat.le_of_ble_eq_true rfl, Nat.le_of_ble_eq_true rfl⟩) (ft_preL hE hz hS hP) rfl rfl hl.1 rfl (lv_room (Nat.le_of_ble_eq_true rfl)) dL_act_269 ⟨Nat.le_of_ble_eq_true rfl, Nat.le_of_ble_eq_true rfl⟩) hS (fun _ _ h => h) (fun _ h => h) (fun z u t H1 locs1 ht hvm hw hB hz1 hk1 hS1 => ?_)
      obtain ⟨rfl, rfl⟩ : z = (l_save σ).1 ∧ u = (l_save σ).2 := ⟨congrArg Prod.fst hw, congrArg Prod.snd hw⟩
      rw [ht] at hB
      have hP := hB
      have hS := hS1
      clear hS1
      generalize H1 = H at hP hS ⊢
      refine W.widen (k := 0) (n := 0) (by omega) (by omega) ?_
      have hJ_269_21 : J (l_save σ).2 := hJ.k_save _ h0
      refine lv_goto (tgt := 293) hx hb dL_act_272 (by decide) ?_
      refine W.widen (k := 26) (n := 3756) (by omega) (by omega) ?_
      exact W.iret (v := (l_save σ).1) hx hb hr (fun t ht hW => ⟨⟨(l_save σ).1, (l_save σ).2, rfl, ⟨hsp, hJ_269_21⟩, by show ft_LW D k Z sz a _ t.heap; rw [ht]; exact hP⟩, hS.F ht⟩) hS.2.2 dL_act_293
  · replace hsp := (if_pos c_16).symm.trans hsp
    refine lv_aload_n hx hb dL_act_19 rfl (lv_at hl 2 rfl) ?_
    refine vp_callSi (va_Run.run (va_runV (As := []) (rest := []) ⟨hx, hb, hml, hown, hts⟩ (cl_day l D Z k sz a σ) (cwV 0 hts gL_act_X7_day rfl rfl rfl (by decide +kernel) ⟨Nat.le_of_ble_eq_true rfl, Nat.le_of_ble_eq_true rfl⟩) (ft_preL hE hz hS hP) rfl rfl hl.1 rfl (lv_room (Nat.le_of_ble_eq_true rfl)) dL_act_20 ⟨Nat.le_of_ble_eq_true rfl, Nat.le_of_ble_eq_true rfl⟩)) (fun z hz9 => ?_)
    subst hz9
    refine lv_bipush (v := 7) hx hb dL_act_23 (by decide) ?_
    refine lv_irem hx hb dL_act_25 (by decide) ?_
    refine lv_goto (tgt := 35) hx hb dL_act_26 (by decide) ?_
    refine lv_istore (lv' := [(4, .int ((l_day σ) - (l_day σ) / 7 * 7)), (3, .int (((x2 >>> ((4 : Int32) &&& 31)) &&& 65535) - ((x2 >>> ((4 : Int32) &&& 31)) &&& 65535) / 4 * 4)), (2, .int ((x2 >>> ((4 : Int32) &&& 31)) &&& 65535)), (0, .ref (a)), (1, .int (x2))]) hx hb dL_act_35 hl (by decide) rfl (fun ls hl => ?_)
    refine lv_iload_n hx hb dL_act_37 rfl (lv_at hl 4 rfl) ?_
    refine lv_bipush (v := 15) hx hb dL_act_38 (by decide) ?_
    refine lv_iand hx hb dL_act_40 ?_
    by_cases k_41_0 : (x2 &&& 15) = 0
    · replace hsp := (if_pos k_41_0).symm.trans hsp
      refine lv_tableIn (tgt := 116) (off := 75) hx hb dL_act_41 (by rw [k_41_0]; decide) (by rw [k_41_0]; decide) (by rw [k_41_0]; rfl) (by decide) ?_
      refine lv_iload_n hx hb dL_act_116 rfl (lv_at hl 2 rfl) ?_
      refine lv_bipush (v := 64) hx hb dL_act_117 (by decide) ?_
      refine lv_iand hx hb dL_act_119 ?_
      refine lv_if_ne (tgt := 130) hx hb dL_act_120 (by decide) (fun c_120 => ?_) (fun c_120 => ?_)
      · replace hsp := (if_neg c_120).symm.trans hsp
        refine lv_aload_n hx hb dL_act_130 rfl (lv_at hl 3 rfl) ?_
        refine lv_iload_n hx hb dL_act_131 rfl (lv_at hl 2 rfl) ?_
        refine lv_iconst (v := 2) hx hb dL_act_132 (by decide) ?_
        refine lv_ishr hx hb dL_act_133 ?_
        refine lv_iconst (v := 5) hx hb dL_act_134 (by decide) ?_
        refine lv_irem hx hb dL_act_135 (by decide) ?_
        refine lv_iload_n hx hb dL_act_136 rfl (lv_at hl 2 rfl) ?_
        refine lv_iconst (v := 4) hx hb dL_act_137 (by decide) ?_
        refine lv_ishr hx hb dL_act_138 ?_
        refine lv_bipush (v := 22) hx hb dL_act_139 (by decide) ?_
        refine lv_irem hx hb dL_act_141 (by decide) ?_
        refine va_calli (vx_runSW (As := [.ref (a), .int ((((x2 >>> ((4 : Int32) &&& 31)) &&& 65535) >>> ((2 : Int32) &&& 31)) - (((x2 >>> ((4 : Int32) &&& 31)) &&& 65535) >>> ((2 : Int32) &&& 31)) / 5 * 5), .int ((((x2 >>> ((4 : Int32) &&& 31)) &&& 65535) >>> ((4 : Int32) &&& 31)) - (((x2 >>> ((4 : Int32) &&& 31)) &&& 65535) >>> ((4 : Int32) &&& 31)) / 22 * 22)]) (rest := []) ⟨hx, hb, hml, hown, hts⟩ (d_L_setPrice l hl0 D Z k sz a σ ((((x2 >>> ((4 : Int32) &&& 31)) &&& 65535) >>> ((2 : Int32) &&& 31)) - (((x2 >>> ((4 : Int32) &&& 31)) &&& 65535) >>> ((2 : Int32) &&& 31)) / 5 * 5) ((((x2 >>> ((4 : Int32) &&& 31)) &&& 65535) >>> ((4 : Int32) &&& 31)) - (((x2 >>> ((4 : Int32) &&& 31)) &&& 65535) >>> ((4 : Int32) &&& 31)) / 22 * 22) (hJ.pm _ h0) (hJ.ex_setPrice _ ((((x2 >>> ((4 : Int32) &&& 31)) &&& 65535) >>> ((2 : Int32) &&& 31)) - (((x2 >>> ((4 : Int32) &&& 31)) &&& 65535) >>> ((2 : Int32) &&& 31)) / 5 * 5) ((((x2 >>> ((4 : Int32) &&& 31)) &&& 65535) >>> ((4 : Int32) &&& 31)) - (((x2 >>> ((4 : Int32) &&& 31)) &&& 65535) >>> ((4 : Int32) &&& 31)) / 22 * 22) h0)) (vx_cwSW 3 hts gL_act_L_setPrice rfl rfl rfl (by decide +kernel) ⟨Nat.le_of_ble_eq_true rfl, Nat.le_of_ble_eq_true rfl⟩) (ft_preM hEL hz hS hP) rfl rfl hl.1 rfl (lv_room (Nat.le_of_ble_eq_true rfl)) dL_act_142 ⟨Nat.le_of_ble_eq_true rfl, Nat.le_of_ble_eq_true rfl⟩) hS (fun _ _ h => h) (fun _ h => h) (fun z u t H1 locs1 ht hvm hw hB hz1 hk1 hS1 => ?_)
        obtain ⟨rfl, rfl⟩ : z = (w_setPrice σ ((((x2 >>> ((4 : Int32) &&& 31)) &&& 65535) >>> ((2 : Int32) &&& 31)) - (((x2 >>> ((4 : Int32) &&& 31)) &&& 65535) >>> ((2 : Int32) &&& 31)) / 5 * 5) ((((x2 >>> ((4 : Int32) &&& 31)) &&& 65535) >>> ((4 : Int32) &&& 31)) - (((x2 >>> ((4 : Int32) &&& 31)) &&& 65535) >>> ((4 : Int32) &&& 31)) / 22 * 22)).1 ∧ u = (w_setPrice σ ((((x2 >>> ((4 : Int32) &&& 31)) &&& 65535) >>> ((2 : Int32) &&& 31)) - (((x2 >>> ((4 : Int32) &&& 31)) &&& 65535) >>> ((2 : Int32) &&& 31)) / 5 * 5) ((((x2 >>> ((4 : Int32) &&& 31)) &&& 65535) >>> ((4 : Int32) &&& 31)) - (((x2 >>> ((4 : Int32) &&& 31)) &&& 65535) >>> ((4 : Int32) &&& 31)) / 22 * 22)).2 := ⟨congrArg Prod.fst hw, congrArg Prod.snd hw⟩
        rw [ht] at hB
        have hP := hB
        have hS := hS1
        clear hS1
        generalize H1 = H at hP hS ⊢
        refine W.widen (k := 1) (n := 6) (by omega) (by omega) ?_
        have hJ_142_22 : J (w_setPrice σ ((((x2 >>> ((4 : Int32) &&& 31)) &&& 65535) >>> ((2 : Int32) &&& 31)) - (((x2 >>> ((4 : Int32) &&& 31)) &&& 65535) >>> ((2 : Int32) &&& 31)) / 5 * 5) ((((x2 >>> ((4 : Int32) &&& 31)) &&& 65535) >>> ((4 : Int32) &&& 31)) - (((x2 >>> ((4 : Int32) &&& 31)) &&& 65535) >>> ((4 : Int32) &&& 31)) / 22 * 22)).2 := hJ.k_setPrice _ ((((x2 >>> ((4 : Int32) &&& 31)) &&& 65535) >>> ((2 : Int32) &&& 31)) - (((x2 >>> ((4 : Int32) &&& 31)) &&& 65535) >>> ((2 : Int32) &&& 31)) / 5 * 5) ((((x2 >>> ((4 : Int32) &&& 31)) &&& 65535) >>> ((4 : Int32) &&& 31)) - (((x2 >>> ((4 : Int32) &&& 31)) &&& 65535) >>> ((4 : Int32) &&& 31)) / 22 * 22) h0
        refine W.widen (k := 26) (n := 3756) (by omega) (by omega) ?_
        exact W.iret (v := (w_setPrice σ ((((x2 >>> ((4 : Int32) &&& 31)) &&& 65535) >>> ((2 : Int32) &&& 31)) - (((x2 >>> ((4 : Int32) &&& 31)) &&& 65535) >>> ((2 : Int32) &&& 31)) / 5 * 5) ((((x2 >>> ((4 : Int32) &&& 31)) &&& 65535) >>> ((4 : Int32) &&& 31)) - (((x2 >>> ((4 : Int32) &&& 31)) &&& 65535) >>> ((4 : Int32) &&& 31)) / 22 * 22)).1) hx hb hr (fun t ht hW => ⟨⟨(w_setPrice σ ((((x2 >>> ((4 : Int32) &&& 31)) &&& 65535) >>> ((2 : Int32) &&& 31)) - (((x2 >>> ((4 : Int32) &&& 31)) &&& 65535) >>> ((2 : Int32) &&& 31)) / 5 * 5) ((((x2 >>> ((4 : Int32) &&& 31)) &&& 65535) >>> ((4 : Int32) &&& 31)) - (((x2 >>> ((4 : Int32) &&& 31)) &&& 65535) >>> ((4 : Int32) &&& 31)) / 22 * 22)).1, (w_setPrice σ ((((x2 >>> ((4 : Int32) &&& 31)) &&& 65535) >>> ((2 : Int32) &&& 31)) - (((x2 >>> ((4 : Int32) &&& 31)) &&& 65535) >>> ((2 : Int32) &&& 31)) / 5 * 5) ((((x2 >>> ((4 : Int32) &&& 31)) &&& 65535) >>> ((4 : Int32) &&& 31)) - (((x2 >>> ((4 : Int32) &&& 31)) &&& 65535) >>> ((4 : Int32) &&& 31)) / 22 * 22)).2, rfl, ⟨hsp, hJ_142_22⟩, by show ft_LW D k Z sz a _ t.heap; rw [ht]; exact hP⟩, hS.F ht⟩) hS.2.2 dL_act_145
      · replace hsp := (if_pos c_120).symm.trans hsp
        refine lv_aload_n hx hb dL_act_123 rfl (lv_at hl 3 rfl) ?_
        refine va_calli (vx_runSW (As := [.ref (a)]) (rest := []) ⟨hx, hb, hml, hown, hts⟩ (d_L_addTruck l hl0 D Z k sz a σ (hJ.pm _ h0) (hJ.ex_addTruck _ h0)) (vx_cwSW 1 hts gL_act_L_addTruck rfl rfl rfl (by decide +kernel) ⟨Nat.le_of_ble_eq_true rfl, Nat.le_of_ble_eq_true rfl⟩) (ft_preM hEL hz hS hP) rfl rfl hl.1 rfl (lv_room (Nat.le_of_ble_eq_true rfl)) dL_act_124 ⟨Nat.le_of_ble_eq_true rfl, Nat.le_of_ble_eq_true rfl⟩) hS (fun _ _ h => h) (fun _ h => h) (fun z u t H1 locs1 ht hvm hw hB hz1 hk1 hS1 => ?_)
        obtain ⟨rfl, rfl⟩ : z = (w_addTruck σ).1 ∧ u = (w_addTruck σ).2 := ⟨congrArg Prod.fst hw, congrArg Prod.snd hw⟩
        rw [ht] at hB
        have hP := hB
        have hS := hS1
        clear hS1
        generalize H1 = H at hP hS ⊢
        refine W.widen (k := 1) (n := 6) (by omega) (by omega) ?_
        have hJ_124_23 : J (w_addTruck σ).2 := hJ.k_addTruck _ h0
        refine lv_goto (tgt := 145) hx hb dL_act_127 (by decide) ?_
        refine W.widen (k := 26) (n := 3756) (by omega) (by omega) ?_
        exact W.iret (v := (w_addTruck σ).1) hx hb hr (fun t ht hW => ⟨⟨(w_addTruck σ).1, (w_addTruck σ).2, rfl, ⟨hsp, hJ_124_23⟩, by show ft_LW D k Z sz a _ t.heap; rw [ht]; exact hP⟩, hS.F ht⟩) hS.2.2 dL_act_145
    replace hsp := (if_neg k_41_0).symm.trans hsp
    by_cases k_41_1 : (x2 &&& 15) = 1
    · replace hsp := (if_pos k_41_1).symm.trans hsp
      refine lv_tableIn (tgt := 146) (off := 105) hx hb dL_act_41 (by rw [k_41_1]; decide) (by rw [k_41_1]; decide) (by rw [k_41_1]; rfl) (by decide) ?_
      refine lv_aload_n hx hb dL_act_146 rfl (lv_at hl 3 rfl) ?_
      refine lv_iload_n hx hb dL_act_147 rfl (lv_at hl 1 rfl) ?_
      refine lv_iload_n hx hb dL_act_148 rfl (lv_at hl 2 rfl) ?_
      refine lv_iconst (v := 2) hx hb dL_act_149 (by decide) ?_
      refine lv_ishr hx hb dL_act_150 ?_
      refine lv_iconst (v := 4) hx hb dL_act_151 (by decide) ?_
      refine lv_irem hx hb dL_act_152 (by decide) ?_
      refine lv_iload_n hx hb dL_act_153 rfl (lv_at hl 2 rfl) ?_
      refine lv_iconst (v := 4) hx hb dL_act_154 (by decide) ?_
      refine lv_ishr hx hb dL_act_155 ?_
      refine lv_bipush (v := 30) hx hb dL_act_156 (by decide) ?_
      refine lv_irem hx hb dL_act_158 (by decide) ?_
      refine va_calli (vx_runSW (As := [.ref (a), .int (((x2 >>> ((4 : Int32) &&& 31)) &&& 65535) - ((x2 >>> ((4 : Int32) &&& 31)) &&& 65535) / 4 * 4), .int ((((x2 >>> ((4 : Int32) &&& 31)) &&& 65535) >>> ((2 : Int32) &&& 31)) - (((x2 >>> ((4 : Int32) &&& 31)) &&& 65535) >>> ((2 : Int32) &&& 31)) / 4 * 4), .int ((((x2 >>> ((4 : Int32) &&& 31)) &&& 65535) >>> ((4 : Int32) &&& 31)) - (((x2 >>> ((4 : Int32) &&& 31)) &&& 65535) >>> ((4 : Int32) &&& 31)) / 30 * 30)]) (rest := []) ⟨hx, hb, hml, hown, hts⟩ (d_L_addStock l hl0 D Z k sz a σ (((x2 >>> ((4 : Int32) &&& 31)) &&& 65535) - ((x2 >>> ((4 : Int32) &&& 31)) &&& 65535) / 4 * 4) ((((x2 >>> ((4 : Int32) &&& 31)) &&& 65535) >>> ((2 : Int32) &&& 31)) - (((x2 >>> ((4 : Int32) &&& 31)) &&& 65535) >>> ((2 : Int32) &&& 31)) / 4 * 4) ((((x2 >>> ((4 : Int32) &&& 31)) &&& 65535) >>> ((4 : Int32) &&& 31)) - (((x2 >>> ((4 : Int32) &&& 31)) &&& 65535) >>> ((4 : Int32) &&& 31)) / 30 * 30) (hJ.pm _ h0) (hJ.ex_addStock _ (((x2 >>> ((4 : Int32) &&& 31)) &&& 65535) - ((x2 >>> ((4 : Int32) &&& 31)) &&& 65535) / 4 * 4) ((((x2 >>> ((4 : Int32) &&& 31)) &&& 65535) >>> ((2 : Int32) &&& 31)) - (((x2 >>> ((4 : Int32) &&& 31)) &&& 65535) >>> ((2 : Int32) &&& 31)) / 4 * 4) ((((x2 >>> ((4 : Int32) &&& 31)) &&& 65535) >>> ((4 : Int32) &&& 31)) - (((x2 >>> ((4 : Int32) &&& 31)) &&& 65535) >>> ((4 : Int32) &&& 31)) / 30 * 30) h0)) (vx_cwSW 4 hts gL_act_L_addStock rfl rfl rfl (by decide +kernel) ⟨Nat.le_of_ble_eq_true rfl, Nat.le_of_ble_eq_true rfl⟩) (ft_preM hEL hz hS hP) rfl rfl hl.1 rfl (lv_room (Nat.le_of_ble_eq_true rfl)) dL_act_159 ⟨Nat.le_of_ble_eq_true rfl, Nat.le_of_ble_eq_true rfl⟩) hS (fun _ _ h => h) (fun _ h => h) (fun z u t H1 locs1 ht hvm hw hB hz1 hk1 hS1 => ?_)
      obtain ⟨rfl, rfl⟩ : z = (w_addStock σ (((x2 >>> ((4 : Int32) &&& 31)) &&& 65535) - ((x2 >>> ((4 : Int32) &&& 31)) &&& 65535) / 4 * 4) ((((x2 >>> ((4 : Int32) &&& 31)) &&& 65535) >>> ((2 : Int32) &&& 31)) - (((x2 >>> ((4 : Int32) &&& 31)) &&& 65535) >>> ((2 : Int32) &&& 31)) / 4 * 4) ((((x2 >>> ((4 : Int32) &&& 31)) &&& 65535) >>> ((4 : Int32) &&& 31)) - (((x2 >>> ((4 : Int32) &&& 31)) &&& 65535) >>> ((4 : Int32) &&& 31)) / 30 * 30)).1 ∧ u = (w_addStock σ (((x2 >>> ((4 : Int32) &&& 31)) &&& 65535) - ((x2 >>> ((4 : Int32) &&& 31)) &&& 65535) / 4 * 4) ((((x2 >>> ((4 : Int32) &&& 31)) &&& 65535) >>> ((2 : Int32) &&& 31)) - (((x2 >>> ((4 : Int32) &&& 31)) &&& 65535) >>> ((2 : Int32) &&& 31)) / 4 * 4) ((((x2 >>> ((4 : Int32) &&& 31)) &&& 65535) >>> ((4 : Int32) &&& 31)) - (((x2 >>> ((4 : Int32) &&& 31)) &&& 65535) >>> ((4 : Int32) &&& 31)) / 30 * 30)).2 := ⟨congrArg Prod.fst hw, congrArg Prod.snd hw⟩
      rw [ht] at hB
      have hP := hB
      have hS := hS1
      clear hS1
      generalize H1 = H at hP hS ⊢
      refine W.widen (k := 1) (n := 6) (by omega) (by omega) ?_
      have hJ_159_24 : J (w_addStock σ (((x2 >>> ((4 : Int32) &&& 31)) &&& 65535) - ((x2 >>> ((4 : Int32) &&& 31)) &&& 65535) / 4 * 4) ((((x2 >>> ((4 : Int32) &&& 31)) &&& 65535) >>> ((2 : Int32) &&& 31)) - (((x2 >>> ((4 : Int32) &&& 31)) &&& 65535) >>> ((2 : Int32) &&& 31)) / 4 * 4) ((((x2 >>> ((4 : Int32) &&& 31)) &&& 65535) >>> ((4 : Int32) &&& 31)) - (((x2 >>> ((4 : Int32) &&& 31)) &&& 65535) >>> ((4 : Int32) &&& 31)) / 30 * 30)).2 := hJ.k_addStock _ (((x2 >>> ((4 : Int32) &&& 31)) &&& 65535) - ((x2 >>> ((4 : Int32) &&& 31)) &&& 65535) / 4 * 4) ((((x2 >>> ((4 : Int32) &&& 31)) &&& 65535) >>> ((2 : Int32) &&& 31)) - (((x2 >>> ((4 : Int32) &&& 31)) &&& 65535) >>> ((2 : Int32) &&& 31)) / 4 * 4) ((((x2 >>> ((4 : Int32) &&& 31)) &&& 65535) >>> ((4 : Int32) &&& 31)) - (((x2 >>> ((4 : Int32) &&& 31)) &&& 65535) >>> ((4 : Int32) &&& 31)) / 30 * 30) h0
      refine W.widen (k := 26) (n := 3756) (by omega) (by omega) ?_
      exact W.iret (v := (w_addStock σ (((x2 >>> ((4 : Int32) &&& 31)) &&& 65535) - ((x2 >>> ((4 : Int32) &&& 31)) &&& 65535) / 4 * 4) ((((x2 >>> ((4 : Int32) &&& 31)) &&& 65535) >>> ((2 : Int32) &&& 31)) - (((x2 >>> ((4 : Int32) &&& 31)) &&& 65535) >>> ((2 : Int32) &&& 31)) / 4 * 4) ((((x2 >>> ((4 : Int32) &&& 31)) &&& 65535) >>> ((4 : Int32) &&& 31)) - (((x2 >>> ((4 : Int32) &&& 31)) &&& 65535) >>> ((4 : Int32) &&& 31)) / 30 * 30)).1) hx hb hr (fun t ht hW => ⟨⟨(w_addStock σ (((x2 >>> ((4 : Int32) &&& 31)) &&& 65535) - ((x2 >>> ((4 : Int32) &&& 31)) &&& 65535) / 4 * 4) ((((x2 >>> ((4 : Int32) &&& 31)) &&& 65535) >>> ((2 : Int32) &&& 31)) - (((x2 >>> ((4 : Int32) &&& 31)) &&& 65535) >>> ((2 : Int32) &&& 31)) / 4 * 4) ((((x2 >>> ((4 : Int32) &&& 31)) &&& 65535) >>> ((4 : Int32) &&& 31)) - (((x2 >>> ((4 : Int32) &&& 31)) &&& 65535) >>> ((4 : Int32) &&& 31)) / 30 * 30)).1, (w_addStock σ (((x2 >>> ((4 : Int32) &&& 31)) &&& 65535) - ((x2 >>> ((4 : Int32) &&& 31)) &&& 65535) / 4 * 4) ((((x2 >>> ((4 : Int32) &&& 31)) &&& 65535) >>> ((2 : Int32) &&& 31)) - (((x2 >>> ((4 : Int32) &&& 31)) &&& 65535) >>> ((2 : Int32) &&& 31)) / 4 * 4) ((((x2 >>> ((4 : Int32) &&& 31)) &&& 65535) >>> ((4 : Int32) &&& 31)) - (((x2 >>> ((4 : Int32) &&& 31)) &&& 65535) >>> ((4 : Int32) &&& 31)) / 30 * 30)).2, rfl, ⟨hsp, hJ_159_24⟩, by show ft_LW D k Z sz a _ t.heap; rw [ht]; exact hP⟩, hS.F ht⟩) hS.2.2 dL_act_162
    replace hsp := (if_neg k_41_1).symm.trans hsp
    by_cases k_41_2 : (x2 &&& 15) = 2
    · replace hsp := (if_pos k_41_2).symm.trans hsp
      refine lv_tableIn (tgt := 146) (off := 105) hx hb dL_act_41 (by rw [k_41_2]; decide) (by rw [k_41_2]; decide) (by rw [k_41_2]; rfl) (by decide) ?_
      refine lv_aload_n hx hb dL_act_146 rfl (lv_at hl 3 rfl) ?_
      refine lv_iload_n hx hb dL_act_147 rfl (lv_at hl 1 rfl) ?_
      refine lv_iload_n hx hb dL_act_148 rfl (lv_at hl 2 rfl) ?_
      refine lv_iconst (v := 2) hx hb dL_act_149 (by decide) ?_
      refine lv_ishr hx hb dL_act_150 ?_
      refine lv_iconst (v := 4) hx hb dL_act_151 (by decide) ?_
      refine lv_irem hx hb dL_act_152 (by decide) ?_
      refine lv_iload_n hx hb dL_act_153 rfl (lv_at hl 2 rfl) ?_
      refine lv_iconst (v := 4) hx hb dL_act_154 (by decide) ?_
      refine lv_ishr hx hb dL_act_155 ?_
      refine lv_bipush (v := 30) hx hb dL_act_156 (by decide) ?_
      refine lv_irem hx hb dL_act_158 (by decide) ?_
      refine va_calli (vx_runSW (As := [.ref (a), .int (((x2 >>> ((4 : Int32) &&& 31)) &&& 65535) - ((x2 >>> ((4 : Int32) &&& 31)) &&& 65535) / 4 * 4), .int ((((x2 >>> ((4 : Int32) &&& 31)) &&& 65535) >>> ((2 : Int32) &&& 31)) - (((x2 >>> ((4 : Int32) &&& 31)) &&& 65535) >>> ((2 : Int32) &&& 31)) / 4 * 4), .int ((((x2 >>> ((4 : Int32) &&& 31)) &&& 65535) >>> ((4 : Int32) &&& 31)) - (((x2 >>> ((4 : Int32) &&& 31)) &&& 65535) >>> ((4 : Int32) &&& 31)) / 30 * 30)]) (rest := []) ⟨hx, hb, hml, hown, hts⟩ (d_L_addStock l hl0 D Z k sz a σ (((x2 >>> ((4 : Int32) &&& 31)) &&& 65535) - ((x2 >>> ((4 : Int32) &&& 31)) &&& 65535) / 4 * 4) ((((x2 >>> ((4 : Int32) &&& 31)) &&& 65535) >>> ((2 : Int32) &&& 31)) - (((x2 >>> ((4 : Int32) &&& 31)) &&& 65535) >>> ((2 : Int32) &&& 31)) / 4 * 4) ((((x2 >>> ((4 : Int32) &&& 31)) &&& 65535) >>> ((4 : Int32) &&& 31)) - (((x2 >>> ((4 : Int32) &&& 31)) &&& 65535) >>> ((4 : Int32) &&& 31)) / 30 * 30) (hJ.pm _ h0) (hJ.ex_addStock _ (((x2 >>> ((4 : Int32) &&& 31)) &&& 65535) - ((x2 >>> ((4 : Int32) &&& 31)) &&& 65535) / 4 * 4) ((((x2 >>> ((4 : Int32) &&& 31)) &&& 65535) >>> ((2 : Int32) &&& 31)) - (((x2 >>> ((4 : Int32) &&& 31)) &&& 65535) >>> ((2 : Int32) &&& 31)) / 4 * 4) ((((x2 >>> ((4 : Int32) &&& 31)) &&& 65535) >>> ((4 : Int32) &&& 31)) - (((x2 >>> ((4 : Int32) &&& 31)) &&& 65535) >>> ((4 : Int32) &&& 31)) / 30 * 30) h0)) (vx_cwSW 4 hts gL_act_L_addStock rfl rfl rfl (by decide +kernel) ⟨Nat.le_of_ble_eq_true rfl, Nat.le_of_ble_eq_true rfl⟩) (ft_preM hEL hz hS hP) rfl rfl hl.1 rfl (lv_room (Nat.le_of_ble_eq_true rfl)) dL_act_159 ⟨Nat.le_of_ble_eq_true rfl, Nat.le_of_ble_eq_true rfl⟩) hS (fun _ _ h => h) (fun _ h => h) (fun z u t H1 locs1 ht hvm hw hB hz1 hk1 hS1 => ?_)
      obtain ⟨rfl, rfl⟩ : z = (w_addStock σ (((x2 >>> ((4 : Int32) &&& 31)) &&& 65535) - ((x2 >>> ((4 : Int32) &&& 31)) &&& 65535) / 4 * 4) ((((x2 >>> ((4 : Int32) &&& 31)) &&& 65535) >>> ((2 : Int32) &&& 31)) - (((x2 >>> ((4 : Int32) &&& 31)) &&& 65535) >>> ((2 : Int32) &&& 31)) / 4 * 4) ((((x2 >>> ((4 : Int32) &&& 31)) &&& 65535) >>> ((4 : Int32) &&& 31)) - (((x2 >>> ((4 : Int32) &&& 31)) &&& 65535) >>> ((4 : Int32) &&& 31)) / 30 * 30)).1 ∧ u = (w_addStock σ (((x2 >>> ((4 : Int32) &&& 31)) &&& 65535) - ((x2 >>> ((4 : Int32) &&& 31)) &&& 65535) / 4 * 4) ((((x2 >>> ((4 : Int32) &&& 31)) &&& 65535) >>> ((2 : Int32) &&& 31)) - (((x2 >>> ((4 : Int32) &&& 31)) &&& 65535) >>> ((2 : Int32) &&& 31)) / 4 * 4) ((((x2 >>> ((4 : Int32) &&& 31)) &&& 65535) >>> ((4 : Int32) &&& 31)) - (((x2 >>> ((4 : Int32) &&& 31)) &&& 65535) >>> ((4 : Int32) &&& 31)) / 30 * 30)).2 := ⟨congrArg Prod.fst hw, congrArg Prod.snd hw⟩
      rw [ht] at hB
      have hP := hB
      have hS := hS1
      clear hS1
      generalize H1 = H at hP hS ⊢
      refine W.widen (k := 1) (n := 6) (by omega) (by omega) ?_
      have hJ_159_25 : J (w_addStock σ (((x2 >>> ((4 : Int32) &&& 31)) &&& 65535) - ((x2 >>> ((4 : Int32) &&& 31)) &&& 65535) / 4 * 4) ((((x2 >>> ((4 : Int32) &&& 31)) &&& 65535) >>> ((2 : Int32) &&& 31)) - (((x2 >>> ((4 : Int32) &&& 31)) &&& 65535) >>> ((2 : Int32) &&& 31)) / 4 * 4) ((((x2 >>> ((4 : Int32) &&& 31)) &&& 65535) >>> ((4 : Int32) &&& 31)) - (((x2 >>> ((4 : Int32) &&& 31)) &&& 65535) >>> ((4 : Int32) &&& 31)) / 30 * 30)).2 := hJ.k_addStock _ (((x2 >>> ((4 : Int32) &&& 31)) &&& 65535) - ((x2 >>> ((4 : Int32) &&& 31)) &&& 65535) / 4 * 4) ((((x2 >>> ((4 : Int32) &&& 31)) &&& 65535) >>> ((2 : Int32) &&& 31)) - (((x2 >>> ((4 : Int32) &&& 31)) &&& 65535) >>> ((2 : Int32) &&& 31)) / 4 * 4) ((((x2 >>> ((4 : Int32) &&& 31)) &&& 65535) >>> ((4 : Int32) &&& 31)) - (((x2 >>> ((4 : Int32) &&& 31)) &&& 65535) >>> ((4 : Int32) &&& 31)) / 30 * 30) h0
      refine W.widen (k := 26) (n := 3756) (by omega) (by omega) ?_
      exact W.iret (v := (w_addStock σ (((x2 >>> ((4 : Int32) &&& 31)) &&& 65535) - ((x2 >>> ((4 : Int32) &&& 31)) &&& 65535) / 4 * 4) ((((x2 >>> ((4 : Int32) &&& 31)) &&& 65535) >>> ((2 : Int32) &&& 31)) - (((x2 >>> ((4 : Int32) &&& 31)) &&& 65535) >>> ((2 : Int32) &&& 31)) / 4 * 4) ((((x2 >>> ((4 : Int32) &&& 31)) &&& 65535) >>> ((4 : Int32) &&& 31)) - (((x2 >>> ((4 : Int32) &&& 31)) &&& 65535) >>> ((4 : Int32) &&& 31)) / 30 * 30)).1) hx hb hr (fun t ht hW => ⟨⟨(w_addStock σ (((x2 >>> ((4 : Int32) &&& 31)) &&& 65535) - ((x2 >>> ((4 : Int32) &&& 31)) &&& 65535) / 4 * 4) ((((x2 >>> ((4 : Int32) &&& 31)) &&& 65535) >>> ((2 : Int32) &&& 31)) - (((x2 >>> ((4 : Int32) &&& 31)) &&& 65535) >>> ((2 : Int32) &&& 31)) / 4 * 4) ((((x2 >>> ((4 : Int32) &&& 31)) &&& 65535) >>> ((4 : Int32) &&& 31)) - (((x2 >>> ((4 : Int32) &&& 31)) &&& 65535) >>> ((4 : Int32) &&& 31)) / 30 * 30)).1, (w_addStock σ (((x2 >>> ((4 : Int32) &&& 31)) &&& 65535) - ((x2 >>> ((4 : Int32) &&& 31)) &&& 65535) / 4 * 4) ((((x2 >>> ((4 : Int32) &&& 31)) &&& 65535) >>> ((2 : Int32) &&& 31)) - (((x2 >>> ((4 : Int32) &&& 31)) &&& 65535) >>> ((2 : Int32) &&& 31)) / 4 * 4) ((((x2 >>> ((4 : Int32) &&& 31)) &&& 65535) >>> ((4 : Int32) &&& 31)) - (((x2 >>> ((4 : Int32) &&& 31)) &&& 65535) >>> ((4 : Int32) &&& 31)) / 30 * 30)).2, rfl, ⟨hsp, hJ_159_25⟩, by show ft_LW D k Z sz a _ t.heap; rw [ht]; exact hP⟩, hS.F ht⟩) hS.2.2 dL_act_162
    replace hsp := (if_neg k_41_2).symm.trans hsp
    by_cases k_41_3 : (x2 &&& 15) = 3
    · replace hsp := (if_pos k_41_3).symm.trans hsp
      refine lv_tableIn (tgt := 146) (off := 105) hx hb dL_act_41 (by rw [k_41_3]; decide) (by rw [k_41_3]; decide) (by rw [k_41_3]; rfl) (by decide) ?_
      refine lv_aload_n hx hb dL_act_146 rfl (lv_at hl 3 rfl) ?_
      refine lv_iload_n hx hb dL_act_147 rfl (lv_at hl 1 rfl) ?_
      refine lv_iload_n hx hb dL_act_148 rfl (lv_at hl 2 rfl) ?_
      refine lv_iconst (v := 2) hx hb dL_act_149 (by decide) ?_
      refine lv_ishr hx hb dL_act_150 ?_
      refine lv_iconst (v := 4) hx hb dL_act_151 (by decide) ?_
      refine lv_irem hx hb dL_act_152 (by decide) ?_
      refine lv_iload_n hx hb dL_act_153 rfl (lv_at hl 2 rfl) ?_
      refine lv_iconst (v := 4) hx hb dL_act_154 (by decide) ?_
      refine lv_ishr hx hb dL_act_155 ?_
      refine lv_bipush (v := 30) hx hb dL_act_156 (by decide) ?_
      refine lv_irem hx hb dL_act_158 (by decide) ?_
      refine va_calli (vx_runSW (As := [.ref (a), .int (((x2 >>> ((4 : Int32) &&& 31)) &&& 65535) - ((x2 >>> ((4 : Int32) &&& 31)) &&& 65535) / 4 * 4), .int ((((x2 >>> ((4 : Int32) &&& 31)) &&& 65535) >>> ((2 : Int32) &&& 31)) - (((x2 >>> ((4 : Int32) &&& 31)) &&& 65535) >>> ((2 : Int32) &&& 31)) / 4 * 4), .int ((((x2 >>> ((4 : Int32) &&& 31)) &&& 65535) >>> ((4 : Int32) &&& 31)) - (((x2 >>> ((4 : Int32) &&& 31)) &&& 65535) >>> ((4 : Int32) &&& 31)) / 30 * 30)]) (rest := []) ⟨hx, hb, hml, hown, hts⟩ (d_L_addStock l hl0 D Z k sz a σ (((x2 >>> ((4 : Int32) &&& 31)) &&& 65535) - ((x2 >>> ((4 : Int32) &&& 31)) &&& 65535) / 4 * 4) ((((x2 >>> ((4 : Int32) &&& 31)) &&& 65535) >>> ((2 : Int32) &&& 31)) - (((x2 >>> ((4 : Int32) &&& 31)) &&& 65535) >>> ((2 : Int32) &&& 31)) / 4 * 4) ((((x2 >>> ((4 : Int32) &&& 31)) &&& 65535) >>> ((4 : Int32) &&& 31)) - (((x2 >>> ((4 : Int32) &&& 31)) &&& 65535) >>> ((4 : Int32) &&& 31)) / 30 * 30) (hJ.pm _ h0) (hJ.ex_addStock _ (((x2 >>> ((4 : Int32) &&& 31)) &&& 65535) - ((x2 >>> ((4 : Int32) &&& 31)) &&& 65535) / 4 * 4) ((((x2 >>> ((4 : Int32) &&& 31)) &&& 65535) >>> ((2 : Int32) &&& 31)) - (((x2 >>> ((4 : Int32) &&& 31)) &&& 65535) >>> ((2 : Int32) &&& 31)) / 4 * 4) ((((x2 >>> ((4 : Int32) &&& 31)) &&& 65535) >>> ((4 : Int32) &&& 31)) - (((x2 >>> ((4 : Int32) &&& 31)) &&& 65535) >>> ((4 : Int32) &&& 31)) / 30 * 30) h0)) (vx_cwSW 4 hts gL_act_L_addStock rfl rfl rfl (by decide +kernel) ⟨Nat.le_of_ble_eq_true rfl, Nat.le_of_ble_eq_true rfl⟩) (ft_preM hEL hz hS hP) rfl rfl hl.1 rfl (lv_room (Nat.le_of_ble_eq_true rfl)) dL_act_159 ⟨Nat.le_of_ble_eq_true rfl, Nat.le_of_ble_eq_true rfl⟩) hS (fun _ _ h => h) (fun _ h => h) (fun z u t H1 locs1 ht hvm hw hB hz1 hk1 hS1 => ?_)
      obtain ⟨rfl, rfl⟩ : z = (w_addStock σ (((x2 >>> ((4 : Int32) &&& 31)) &&& 65535) - ((x2 >>> ((4 : Int32) &&& 31)) &&& 65535) / 4 * 4) ((((x2 >>> ((4 : Int32) &&& 31)) &&& 65535) >>> ((2 : Int32) &&& 31)) - (((x2 >>> ((4 : Int32) &&& 31)) &&& 65535) >>> ((2 : Int32) &&& 31)) / 4 * 4) ((((x2 >>> ((4 : Int32) &&& 31)) &&& 65535) >>> ((4 : Int32) &&& 31)) - (((x2 >>> ((4 : Int32) &&& 31)) &&& 65535) >>> ((4 : Int32) &&& 31)) / 30 * 30)).1 ∧ u = (w_addStock σ (((x2 >>> ((4 : Int32) &&& 31)) &&& 65535) - ((x2 >>> ((4 : Int32) &&& 31)) &&& 65535) / 4 * 4) ((((x2 >>> ((4 : Int32) &&& 31)) &&& 65535) >>> ((2 : Int32) &&& 31)) - (((x2 >>> ((4 : Int32) &&& 31)) &&& 65535) >>> ((2 : Int32) &&& 31)) / 4 * 4) ((((x2 >>> ((4 : Int32) &&& 31)) &&& 65535) >>> ((4 : Int32) &&& 31)) - (((x2 >>> ((4 : Int32) &&& 31)) &&& 65535) >>> ((4 : Int32) &&& 31)) / 30 * 30)).2 := ⟨congrArg Prod.fst hw, congrArg Prod.snd hw⟩
      rw [ht] at hB
      have hP := hB
      have hS := hS1
      clear hS1
      generalize H1 = H at hP hS ⊢
      refine W.widen (k := 1) (n := 6) (by omega) (by omega) ?_
      have hJ_159_26 : J (w_addStock σ (((x2 >>> ((4 : Int32) &&& 31)) &&& 65535) - ((x2 >>> ((4 : Int32) &&& 31)) &&& 65535) / 4 * 4) ((((x2 >>> ((4 : Int32) &&& 31)) &&& 65535) >>> ((2 : Int32) &&& 31)) - (((x2 >>> ((4 : Int32) &&& 31)) &&& 65535) >>> ((2 : Int32) &&& 31)) / 4 * 4) ((((x2 >>> ((4 : Int32) &&& 31)) &&& 65535) >>> ((4 : Int32) &&& 31)) - (((x2 >>> ((4 : Int32) &&& 31)) &&& 65535) >>> ((4 : Int32) &&& 31)) / 30 * 30)).2 := hJ.k_addStock _ (((x2 >>> ((4 : Int32) &&& 31)) &&& 65535) - ((x2 >>> ((4 : Int32) &&& 31)) &&& 65535) / 4 * 4) ((((x2 >>> ((4 : Int32) &&& 31)) &&& 65535) >>> ((2 : Int32) &&& 31)) - (((x2 >>> ((4 : Int32) &&& 31)) &&& 65535) >>> ((2 : Int32) &&& 31)) / 4 * 4) ((((x2 >>> ((4 : Int32) &&& 31)) &&& 65535) >>> ((4 : Int32) &&& 31)) - (((x2 >>> ((4 : Int32) &&& 31)) &&& 65535) >>> ((4 : Int32) &&& 31)) / 30 * 30) h0
      refine W.widen (k := 26) (n := 3756) (by omega) (by omega) ?_
      exact W.iret (v := (w_addStock σ (((x2 >>> ((4 : Int32) &&& 31)) &&& 65535) - ((x2 >>> ((4 : Int32) &&& 31)) &&& 65535) / 4 * 4) ((((x2 >>> ((4 : Int32) &&& 31)) &&& 65535) >>> ((2 : Int32) &&& 31)) - (((x2 >>> ((4 : Int32) &&& 31)) &&& 65535) >>> ((2 : Int32) &&& 31)) / 4 * 4) ((((x2 >>> ((4 : Int32) &&& 31)) &&& 65535) >>> ((4 : Int32) &&& 31)) - (((x2 >>> ((4 : Int32) &&& 31)) &&& 65535) >>> ((4 : Int32) &&& 31)) / 30 * 30)).1) hx hb hr (fun t ht hW => ⟨⟨(w_addStock σ (((x2 >>> ((4 : Int32) &&& 31)) &&& 65535) - ((x2 >>> ((4 : Int32) &&& 31)) &&& 65535) / 4 * 4) ((((x2 >>> ((4 : Int32) &&& 31)) &&& 65535) >>> ((2 : Int32) &&& 31)) - (((x2 >>> ((4 : Int32) &&& 31)) &&& 65535) >>> ((2 : Int32) &&& 31)) / 4 * 4) ((((x2 >>> ((4 : Int32) &&& 31)) &&& 65535) >>> ((4 : Int32) &&& 31)) - (((x2 >>> ((4 : Int32) &&& 31)) &&& 65535) >>> ((4 : Int32) &&& 31)) / 30 * 30)).1, (w_addStock σ (((x2 >>> ((4 : Int32) &&& 31)) &&& 65535) - ((x2 >>> ((4 : Int32) &&& 31)) &&& 65535) / 4 * 4) ((((x2 >>> ((4 : Int32) &&& 31)) &&& 65535) >>> ((2 : Int32) &&& 31)) - (((x2 >>> ((4 : Int32) &&& 31)) &&& 65535) >>> ((2 : Int32) &&& 31)) / 4 * 4) ((((x2 >>> ((4 : Int32) &&& 31)) &&& 65535) >>> ((4 : Int32) &&& 31)) - (((x2 >>> ((4 : Int32) &&& 31)) &&& 65535) >>> ((4 : Int32) &&& 31)) / 30 * 30)).2, rfl, ⟨hsp, hJ_159_26⟩, by show ft_LW D k Z sz a _ t.heap; rw [ht]; exact hP⟩, hS.F ht⟩) hS.2.2 dL_act_162
    replace hsp := (if_neg k_41_3).symm.trans hsp
    by_cases k_41_4 : (x2 &&& 15) = 4
    · replace hsp := (if_pos k_41_4).symm.trans hsp
      refine lv_tableIn (tgt := 163) (off := 122) hx hb dL_act_41 (by rw [k_41_4]; decide) (by rw [k_41_4]; decide) (by rw [k_41_4]; rfl) (by decide) ?_
      refine lv_aload_n hx hb dL_act_163 rfl (lv_at hl 3 rfl) ?_
      refine lv_iload_n hx hb dL_act_164 rfl (lv_at hl 1 rfl) ?_
      refine lv_iload hx hb dL_act_165 (lv_at hl 0 rfl) ?_
      refine va_calli (vx_runSW (As := [.ref (a), .int (((x2 >>> ((4 : Int32) &&& 31)) &&& 65535) - ((x2 >>> ((4 : Int32) &&& 31)) &&& 65535) / 4 * 4), .int ((l_day σ) - (l_day σ) / 7 * 7)]) (rest := []) ⟨hx, hb, hml, hown, hts⟩ (d_L_grantPermit l hl0 D Z k sz a σ (((x2 >>> ((4 : Int32) &&& 31)) &&& 65535) - ((x2 >>> ((4 : Int32) &&& 31)) &&& 65535) / 4 * 4) ((l_day σ) - (l_day σ) / 7 * 7) (hJ.pm _ h0) (hJ.ex_grantPermit _ (((x2 >>> ((4 : Int32) &&& 31)) &&& 65535) - ((x2 >>> ((4 : Int32) &&& 31)) &&& 65535) / 4 * 4) ((l_day σ) - (l_day σ) / 7 * 7) h0)) (vx_cwSW 3 hts gL_act_L_grantPermit rfl rfl rfl (by decide +kernel) ⟨Nat.le_of_ble_eq_true rfl, Nat.le_of_ble_eq_true rfl⟩) (ft_preM hEL hz hS hP) rfl rfl hl.1 rfl (lv_room (Nat.le_of_ble_eq_true rfl)) dL_act_167 ⟨Nat.le_of_ble_eq_true rfl, Nat.le_of_ble_eq_true rfl⟩) hS (fun _ _ h => h) (fun _ h => h) (fun z u t H1 locs1 ht hvm hw hB hz1 hk1 hS1 => ?_)
      obtain ⟨rfl, rfl⟩ : z = (w_grantPermit σ (((x2 >>> ((4 : Int32) &&& 31)) &&& 65535) - ((x2 >>> ((4 : Int32) &&& 31)) &&& 65535) / 4 * 4) ((l_day σ) - (l_day σ) / 7 * 7)).1 ∧ u = (w_grantPermit σ (((x2 >>> ((4 : Int32) &&& 31)) &&& 65535) - ((x2 >>> ((4 : Int32) &&& 31)) &&& 65535) / 4 * 4) ((l_day σ) - (l_day σ) / 7 * 7)).2 := ⟨congrArg Prod.fst hw, congrArg Prod.snd hw⟩
      rw [ht] at hB
      have hP := hB
      have hS := hS1
      clear hS1
      generalize H1 = H at hP hS ⊢
      refine W.widen (k := 1) (n := 6) (by omega) (by omega) ?_
      have hJ_167_27 : J (w_grantPermit σ (((x2 >>> ((4 : Int32) &&& 31)) &&& 65535) - ((x2 >>> ((4 : Int32) &&& 31)) &&& 65535) / 4 * 4) ((l_day σ) - (l_day σ) / 7 * 7)).2 := hJ.k_grantPermit _ (((x2 >>> ((4 : Int32) &&& 31)) &&& 65535) - ((x2 >>> ((4 : Int32) &&& 31)) &&& 65535) / 4 * 4) ((l_day σ) - (l_day σ) / 7 * 7) h0
      refine W.widen (k := 26) (n := 3756) (by omega) (by omega) ?_
      exact W.iret (v := (w_grantPermit σ (((x2 >>> ((4 : Int32) &&& 31)) &&& 65535) - ((x2 >>> ((4 : Int32) &&& 31)) &&& 65535) / 4 * 4) ((l_day σ) - (l_day σ) / 7 * 7)).1) hx hb hr (fun t ht hW => ⟨⟨(w_grantPermit σ (((x2 >>> ((4 : Int32) &&& 31)) &&& 65535) - ((x2 >>> ((4 : Int32) &&& 31)) &&& 65535) / 4 * 4) ((l_day σ) - (l_day σ) / 7 * 7)).1, (w_grantPermit σ (((x2 >>> ((4 : Int32) &&& 31)) &&& 65535) - ((x2 >>> ((4 : Int32) &&& 31)) &&& 65535) / 4 * 4) ((l_day σ) - (l_day σ) / 7 * 7)).2, rfl, ⟨hsp, hJ_167_27⟩, by show ft_LW D k Z sz a _ t.heap; rw [ht]; exact hP⟩, hS.F ht⟩) hS.2.2 dL_act_170
    replace hsp := (if_neg k_41_4).symm.trans hsp
    by_cases k_41_5 : (x2 &&& 15) = 5
    · replace hsp := (if_pos k_41_5).symm.trans hsp
      refine lv_tableIn (tgt := 171) (off := 130) hx hb dL_act_41 (by rw [k_41_5]; decide) (by rw [k_41_5]; decide) (by rw [k_41_5]; rfl) (by decide) ?_
      refine lv_iload_n hx hb dL_act_171 rfl (lv_at hl 2 rfl) ?_
      refine lv_bipush (v := 64) hx hb dL_act_172 (by decide) ?_
      refine lv_iand hx hb dL_act_174 ?_
      refine lv_if_ne (tgt := 188) hx hb dL_act_175 (by decide) (fun c_175 => ?_) (fun c_175 => ?_)
      · replace hsp := (if_neg c_175).symm.trans hsp
        refine lv_aload_n hx hb dL_act_188 rfl (lv_at hl 3 rfl) ?_
        refine lv_iload_n hx hb dL_act_189 rfl (lv_at hl 1 rfl) ?_
        refine lv_iload hx hb dL_act_190 (lv_at hl 0 rfl) ?_
        refine va_calli (vx_runSW (As := [.ref (a), .int (((x2 >>> ((4 : Int32) &&& 31)) &&& 65535) - ((x2 >>> ((4 : Int32) &&& 31)) &&& 65535) / 4 * 4), .int ((l_day σ) - (l_day σ) / 7 * 7)]) (rest := []) ⟨hx, hb, hml, hown, hts⟩ (d_L_grantPermit l hl0 D Z k sz a σ (((x2 >>> ((4 : Int32) &&& 31)) &&& 65535) - ((x2 >>> ((4 : Int32) &&& 31)) &&& 65535) / 4 * 4) ((l_day σ) - (l_day σ) / 7 * 7) (hJ.pm _ h0) (hJ.ex_grantPermit _ (((x2 >>> ((4 : Int32) &&& 31)) &&& 65535) - ((x2 >>> ((4 : Int32) &&& 31)) &&& 65535) / 4 * 4) ((l_day σ) - (l_day σ) / 7 * 7) h0)) (vx_cwSW 3 hts gL_act_L_grantPermit rfl rfl rfl (by decide +kernel) ⟨Nat.le_of_ble_eq_true rfl, Nat.le_of_ble_eq_true rfl⟩) (ft_preM hEL hz hS hP) rfl rfl hl.1 rfl (lv_room (Nat.le_of_ble_eq_true rfl)) dL_act_192 ⟨Nat.le_of_ble_eq_true rfl, Nat.le_of_ble_eq_true rfl⟩) hS (fun _ _ h => h) (fun _ h => h) (fun z u t H1 locs1 ht hvm hw hB hz1 hk1 hS1 => ?_)
        obtain ⟨rfl, rfl⟩ : z = (w_grantPermit σ (((x2 >>> ((4 : Int32) &&& 31)) &&& 65535) - ((x2 >>> ((4 : Int32) &&& 31)) &&& 65535) / 4 * 4) ((l_day σ) - (l_day σ) / 7 * 7)).1 ∧ u = (w_grantPermit σ (((x2 >>> ((4 : Int32) &&& 31)) &&& 65535) - ((x2 >>> ((4 : Int32) &&& 31)) &&& 65535) / 4 * 4) ((l_day σ) - (l_day σ) / 7 * 7)).2 := ⟨congrArg Prod.fst hw, congrArg Prod.snd hw⟩
        rw [ht] at hB
        have hP := hB
        have hS := hS1
        clear hS1
        generalize H1 = H at hP hS ⊢
        refine W.widen (k := 1) (n := 6) (by omega) (by omega) ?_
        have hJ_192_28 : J (w_grantPermit σ (((x2 >>> ((4 : Int32) &&& 31)) &&& 65535) - ((x2 >>> ((4 : Int32) &&& 31)) &&& 65535) / 4 * 4) ((l_day σ) - (l_day σ) / 7 * 7)).2 := hJ.k_grantPermit _ (((x2 >>> ((4 : Int32) &&& 31)) &&& 65535) - ((x2 >>> ((4 : Int32) &&& 31)) &&& 65535) / 4 * 4) ((l_day σ) - (l_day σ) / 7 * 7) h0
        refine W.widen (k := 26) (n := 3756) (by omega) (by omega) ?_
        exact W.iret (v := (w_grantPermit σ (((x2 >>> ((4 : Int32) &&& 31)) &&& 65535) - ((x2 >>> ((4 : Int32) &&& 31)) &&& 65535) / 4 * 4) ((l_day σ) - (l_day σ) / 7 * 7)).1) hx hb hr (fun t ht hW => ⟨⟨(w_grantPermit σ (((x2 >>> ((4 : Int32) &&& 31)) &&& 65535) - ((x2 >>> ((4 : Int32) &&& 31)) &&& 65535) / 4 * 4) ((l_day σ) - (l_day σ) / 7 * 7)).1, (w_grantPermit σ (((x2 >>> ((4 : Int32) &&& 31)) &&& 65535) - ((x2 >>> ((4 : Int32) &&& 31)) &&& 65535) / 4 * 4) ((l_day σ) - (l_day σ) / 7 * 7)).2, rfl, ⟨hsp, hJ_192_28⟩, by show ft_LW D k Z sz a _ t.heap; rw [ht]; exact hP⟩, hS.F ht⟩) hS.2.2 dL_act_195
      · replace hsp := (if_pos c_175).symm.trans hsp
        refine lv_aload_n hx hb dL_act_178 rfl (lv_at hl 3 rfl) ?_
        refine lv_iload_n hx hb dL_act_179 rfl (lv_at hl 1 rfl) ?_
        refine lv_iload hx hb dL_act_180 (lv_at hl 0 rfl) ?_
        refine va_calli (vx_runSW (As := [.ref (a), .int (((x2 >>> ((4 : Int32) &&& 31)) &&& 65535) - ((x2 >>> ((4 : Int32) &&& 31)) &&& 65535) / 4 * 4), .int ((l_day σ) - (l_day σ) / 7 * 7)]) (rest := []) ⟨hx, hb, hml, hown, hts⟩ (d_L_revokePermit l hl0 D Z k sz a σ (((x2 >>> ((4 : Int32) &&& 31)) &&& 65535) - ((x2 >>> ((4 : Int32) &&& 31)) &&& 65535) / 4 * 4) ((l_day σ) - (l_day σ) / 7 * 7) (hJ.pm _ h0) (hJ.ex_revokePermit _ (((x2 >>> ((4 : Int32) &&& 31)) &&& 65535) - ((x2 >>> ((4 : Int32) &&& 31)) &&& 65535) / 4 * 4) ((l_day σ) - (l_day σ) / 7 * 7) h0)) (vx_cwSW 3 hts gL_act_L_revokePermit rfl rfl rfl (by decide +kernel) ⟨Nat.le_of_ble_eq_true rfl, Nat.le_of_ble_eq_true rfl⟩) (ft_preM hEL hz hS hP) rfl rfl hl.1 rfl (lv_room (Nat.le_of_ble_eq_true rfl)) dL_act_182 ⟨Nat.le_of_ble_eq_true rfl, Nat.le_of_ble_eq_true rfl⟩) hS (fun _ _ h => h) (fun _ h => h) (fun z u t H1 locs1 ht hvm hw hB hz1 hk1 hS1 => ?_)
        obtain ⟨rfl, rfl⟩ : z = (w_revokePermit σ (((x2 >>> ((4 : Int32) &&& 31)) &&& 65535) - ((x2 >>> ((4 : Int32) &&& 31)) &&& 65535) / 4 * 4) ((l_day σ) - (l_day σ) / 7 * 7)).1 ∧ u = (w_revokePermit σ (((x2 >>> ((4 : Int32) &&& 31)) &&& 65535) - ((x2 >>> ((4 : Int32) &&& 31)) &&& 65535) / 4 * 4) ((l_day σ) - (l_day σ) / 7 * 7)).2 := ⟨congrArg Prod.fst hw, congrArg Prod.snd hw⟩
        rw [ht] at hB
        have hP := hB
        have hS := hS1
        clear hS1
        generalize H1 = H at hP hS ⊢
        refine W.widen (k := 1) (n := 6) (by omega) (by omega) ?_
        have hJ_182_29 : J (w_revokePermit σ (((x2 >>> ((4 : Int32) &&& 31)) &&& 65535) - ((x2 >>> ((4 : Int32) &&& 31)) &&& 65535) / 4 * 4) ((l_day σ) - (l_day σ) / 7 * 7)).2 := hJ.k_revokePermit _ (((x2 >>> ((4 : Int32) &&& 31)) &&& 65535) - ((x2 >>> ((4 : Int32) &&& 31)) &&& 65535) / 4 * 4) ((l_day σ) - (l_day σ) / 7 * 7) h0
        refine lv_goto (tgt := 195) hx hb dL_act_185 (by decide) ?_
        refine W.widen (k := 26) (n := 3756) (by omega) (by omega) ?_
        exact W.iret (v := (w_revokePermit σ (((x2 >>> ((4 : Int32) &&& 31)) &&& 65535) - ((x2 >>> ((4 : Int32) &&& 31)) &&& 65535) / 4 * 4) ((l_day σ) - (l_day σ) / 7 * 7)).1) hx hb hr (fun t ht hW => ⟨⟨(w_revokePermit σ (((x2 >>> ((4 : Int32) &&& 31)) &&& 65535) - ((x2 >>> ((4 : Int32) &&& 31)) &&& 65535) / 4 * 4) ((l_day σ) - (l_day σ) / 7 * 7)).1, (w_revokePermit σ (((x2 >>> ((4 : Int32) &&& 31)) &&& 65535) - ((x2 >>> ((4 : Int32) &&& 31)) &&& 65535) / 4 * 4) ((l_day σ) - (l_day σ) / 7 * 7)).2, rfl, ⟨hsp, hJ_182_29⟩, by show ft_LW D k Z sz a _ t.heap; rw [ht]; exact hP⟩, hS.F ht⟩) hS.2.2 dL_act_195
    replace hsp := (if_neg k_41_5).symm.trans hsp
    by_cases k_41_6 : (x2 &&& 15) = 6
    · replace hsp := (if_pos k_41_6).symm.trans hsp
      refine lv_tableIn (tgt := 196) (off := 155) hx hb dL_act_41 (by rw [k_41_6]; decide) (by rw [k_41_6]; decide) (by rw [k_41_6]; rfl) (by decide) ?_
      refine lv_aload_n hx hb dL_act_196 rfl (lv_at hl 3 rfl) ?_
      refine lv_iload_n hx hb dL_act_197 rfl (lv_at hl 1 rfl) ?_
      refine lv_iload_n hx hb dL_act_198 rfl (lv_at hl 2 rfl) ?_
      refine lv_iconst (v := 4) hx hb dL_act_199 (by decide) ?_
      refine lv_ishr hx hb dL_act_200 ?_
      refine lv_bipush (v := 6) hx hb dL_act_201 (by decide) ?_
      refine lv_irem hx hb dL_act_203 (by decide) ?_
      refine lv_iload hx hb dL_act_204 (lv_at hl 0 rfl) ?_
      refine va_calli (vx_runSW (As := [.ref (a), .int (((x2 >>> ((4 : Int32) &&& 31)) &&& 65535) - ((x2 >>> ((4 : Int32) &&& 31)) &&& 65535) / 4 * 4), .int ((((x2 >>> ((4 : Int32) &&& 31)) &&& 65535) >>> ((4 : Int32) &&& 31)) - (((x2 >>> ((4 : Int32) &&& 31)) &&& 65535) >>> ((4 : Int32) &&& 31)) / 6 * 6), .int ((l_day σ) - (l_day σ) / 7 * 7)]) (rest := []) ⟨hx, hb, hml, hown, hts⟩ (d_L_assign l hl0 D Z k sz a σ (((x2 >>> ((4 : Int32) &&& 31)) &&& 65535) - ((x2 >>> ((4 : Int32) &&& 31)) &&& 65535) / 4 * 4) ((((x2 >>> ((4 : Int32) &&& 31)) &&& 65535) >>> ((4 : Int32) &&& 31)) - (((x2 >>> ((4 : Int32) &&& 31)) &&& 65535) >>> ((4 : Int32) &&& 31)) / 6 * 6) ((l_day σ) - (l_day σ) / 7 * 7) (hJ.pm _ h0) (hJ.ex_assign _ (((x2 >>> ((4 : Int32) &&& 31)) &&& 65535) - ((x2 >>> ((4 : Int32) &&& 31)) &&& 65535) / 4 * 4) ((((x2 >>> ((4 : Int32) &&& 31)) &&& 65535) >>> ((4 : Int32) &&& 31)) - (((x2 >>> ((4 : Int32) &&& 31)) &&& 65535) >>> ((4 : Int32) &&& 31)) / 6 * 6) ((l_day σ) - (l_day σ) / 7 * 7) h0)) (vx_cwSW 4 hts gL_act_L_assign rfl rfl rfl (by decide +kernel) ⟨Nat.le_of_ble_eq_true rfl, Nat.le_of_ble_eq_true rfl⟩) (ft_preM hEL hz hS hP) rfl rfl hl.1 rfl (lv_room (Nat.le_of_ble_eq_true rfl)) dL_act_206 ⟨Nat.le_of_ble_eq_true rfl, Nat.le_of_ble_eq_true rfl⟩) hS (fun _ _ h => h) (fun _ h => h) (fun z u t H1 locs1 ht hvm hw hB hz1 hk1 hS1 => ?_)
      obtain ⟨rfl, rfl⟩ : z = (w_assign σ (((x2 >>> ((4 : Int32) &&& 31)) &&& 65535) - ((x2 >>> ((4 : Int32) &&& 31)) &&& 65535) / 4 * 4) ((((x2 >>> ((4 : Int32) &&& 31)) &&& 65535) >>> ((4 : Int32) &&& 31)) - (((x2 >>> ((4 : Int32) &&& 31)) &&& 65535) >>> ((4 : Int32) &&& 31)) / 6 * 6) ((l_day σ) - (l_day σ) / 7 * 7)).1 ∧ u = (w_assign σ (((x2 >>> ((4 : Int32) &&& 31)) &&& 65535) - ((x2 >>> ((4 : Int32) &&& 31)) &&& 65535) / 4 * 4) ((((x2 >>> ((4 : Int32) &&& 31)) &&& 65535) >>> ((4 : Int32) &&& 31)) - (((x2 >>> ((4 : Int32) &&& 31)) &&& 65535) >>> ((4 : Int32) &&& 31)) / 6 * 6) ((l_day σ) - (l_day σ) / 7 * 7)).2 := ⟨congrArg Prod.fst hw, congrArg Prod.snd hw⟩
      rw [ht] at hB
      have hP := hB
      have hS := hS1
      clear hS1
      generalize H1 = H at hP hS ⊢
      refine W.widen (k := 1) (n := 6) (by omega) (by omega) ?_
      have hJ_206_30 : J (w_assign σ (((x2 >>> ((4 : Int32) &&& 31)) &&& 65535) - ((x2 >>> ((4 : Int32) &&& 31)) &&& 65535) / 4 * 4) ((((x2 >>> ((4 : Int32) &&& 31)) &&& 65535) >>> ((4 : Int32) &&& 31)) - (((x2 >>> ((4 : Int32) &&& 31)) &&& 65535) >>> ((4 : Int32) &&& 31)) / 6 * 6) ((l_day σ) - (l_day σ) / 7 * 7)).2 := hJ.k_assign _ (((x2 >>> ((4 : Int32) &&& 31)) &&& 65535) - ((x2 >>> ((4 : Int32) &&& 31)) &&& 65535) / 4 * 4) ((((x2 >>> ((4 : Int32) &&& 31)) &&& 65535) >>> ((4 : Int32) &&& 31)) - (((x2 >>> ((4 : Int32) &&& 31)) &&& 65535) >>> ((4 : Int32) &&& 31)) / 6 * 6) ((l_day σ) - (l_day σ) / 7 * 7) h0
      refine W.widen (k := 26) (n := 3756) (by omega) (by omega) ?_
      exact W.iret (v := (w_assign σ (((x2 >>> ((4 : Int32) &&& 31)) &&& 65535) - ((x2 >>> ((4 : Int32) &&& 31)) &&& 65535) / 4 * 4) ((((x2 >>> ((4 : Int32) &&& 31)) &&& 65535) >>> ((4 : Int32) &&& 31)) - (((x2 >>> ((4 : Int32) &&& 31)) &&& 65535) >>> ((4 : Int32) &&& 31)) / 6 * 6) ((l_day σ) - (l_day σ) / 7 * 7)).1) hx hb hr (fun t ht hW => ⟨⟨(w_assign σ (((x2 >>> ((4 : Int32) &&& 31)) &&& 65535) - ((x2 >>> ((4 : Int32) &&& 31)) &&& 65535) / 4 * 4) ((((x2 >>> ((4 : Int32) &&& 31)) &&& 65535) >>> ((4 : Int32) &&& 31)) - (((x2 >>> ((4 : Int32) &&& 31)) &&& 65535) >>> ((4 : Int32) &&& 31)) / 6 * 6) ((l_day σ) - (l_day σ) / 7 * 7)).1, (w_assign σ (((x2 >>> ((4 : Int32) &&& 31)) &&& 65535) - ((x2 >>> ((4 : Int32) &&& 31)) &&& 65535) / 4 * 4) ((((x2 >>> ((4 : Int32) &&& 31)) &&& 65535) >>> ((4 : Int32) &&& 31)) - (((x2 >>> ((4 : Int32) &&& 31)) &&& 65535) >>> ((4 : Int32) &&& 31)) / 6 * 6) ((l_day σ) - (l_day σ) / 7 * 7)).2, rfl, ⟨hsp, hJ_206_30⟩, by show ft_LW D k Z sz a _ t.heap; rw [ht]; exact hP⟩, hS.F ht⟩) hS.2.2 dL_act_209
    replace hsp := (if_neg k_41_6).symm.trans hsp
    by_cases k_41_7 : (x2 &&& 15) = 7
    · replace hsp := (if_pos k_41_7).symm.trans hsp
      refine lv_tableIn (tgt := 196) (off := 155) hx hb dL_act_41 (by rw [k_41_7]; decide) (by rw [k_41_7]; decide) (by rw [k_41_7]; rfl) (by decide) ?_
      refine lv_aload_n hx hb dL_act_196 rfl (lv_at hl 3 rfl) ?_
      refine lv_iload_n hx hb dL_act_197 rfl (lv_at hl 1 rfl) ?_
      refine lv_iload_n hx hb dL_act_198 rfl (lv_at hl 2 rfl) ?_
      refine lv_iconst (v := 4) hx hb dL_act_199 (by decide) ?_
      refine lv_ishr hx hb dL_act_200 ?_
      refine lv_bipush (v := 6) hx hb dL_act_201 (by decide) ?_
      refine lv_irem hx hb dL_act_203 (by decide) ?_
      refine lv_iload hx hb dL_act_204 (lv_at hl 0 rfl) ?_
      refine va_calli (vx_runSW (As := [.ref (a), .int (((x2 >>> ((4 : Int32) &&& 31)) &&& 65535) - ((x2 >>> ((4 : Int32) &&& 31)) &&& 65535) / 4 * 4), .int ((((x2 >>> ((4 : Int32) &&& 31)) &&& 65535) >>> ((4 : Int32) &&& 31)) - (((x2 >>> ((4 : Int32) &&& 31)) &&& 65535) >>> ((4 : Int32) &&& 31)) / 6 * 6), .int ((l_day σ) - (l_day σ) / 7 * 7)]) (rest := []) ⟨hx, hb, hml, hown, hts⟩ (d_L_assign l hl0 D Z k sz a σ (((x2 >>> ((4 : Int32) &&& 31)) &&& 65535) - ((x2 >>> ((4 : Int32) &&& 31)) &&& 65535) / 4 * 4) ((((x2 >>> ((4 : Int32) &&& 31)) &&& 65535) >>> ((4 : Int32) &&& 31)) - (((x2 >>> ((4 : Int32) &&& 31)) &&& 65535) >>> ((4 : Int32) &&& 31)) / 6 * 6) ((l_day σ) - (l_day σ) / 7 * 7) (hJ.pm _ h0) (hJ.ex_assign _ (((x2 >>> ((4 : Int32) &&& 31)) &&& 65535) - ((x2 >>> ((4 : Int32) &&& 31)) &&& 65535) / 4 * 4) ((((x2 >>> ((4 : Int32) &&& 31)) &&& 65535) >>> ((4 : Int32) &&& 31)) - (((x2 >>> ((4 : Int32) &&& 31)) &&& 65535) >>> ((4 : Int32) &&& 31)) / 6 * 6) ((l_day σ) - (l_day σ) / 7 * 7) h0)) (vx_cwSW 4 hts gL_act_L_assign rfl rfl rfl (by decide +kernel) ⟨Nat.le_of_ble_eq_true rfl, Nat.le_of_ble_eq_true rfl⟩) (ft_preM hEL hz hS hP) rfl rfl hl.1 rfl (lv_room (Nat.le_of_ble_eq_true rfl)) dL_act_206 ⟨Nat.le_of_ble_eq_true rfl, Nat.le_of_ble_eq_true rfl⟩) hS (fun _ _ h => h) (fun _ h => h) (fun z u t H1 locs1 ht hvm hw hB hz1 hk1 hS1 => ?_)
      obtain ⟨rfl, rfl⟩ : z = (w_assign σ (((x2 >>> ((4 : Int32) &&& 31)) &&& 65535) - ((x2 >>> ((4 : Int32) &&& 31)) &&& 65535) / 4 * 4) ((((x2 >>> ((4 : Int32) &&& 31)) &&& 65535) >>> ((4 : Int32) &&& 31)) - (((x2 >>> ((4 : Int32) &&& 31)) &&& 65535) >>> ((4 : Int32) &&& 31)) / 6 * 6) ((l_day σ) - (l_day σ) / 7 * 7)).1 ∧ u = (w_assign σ (((x2 >>> ((4 : Int32) &&& 31)) &&& 65535) - ((x2 >>> ((4 : Int32) &&& 31)) &&& 65535) / 4 * 4) ((((x2 >>> ((4 : Int32) &&& 31)) &&& 65535) >>> ((4 : Int32) &&& 31)) - (((x2 >>> ((4 : Int32) &&& 31)) &&& 65535) >>> ((4 : Int32) &&& 31)) / 6 * 6) ((l_day σ) - (l_day σ) / 7 * 7)).2 := ⟨congrArg Prod.fst hw, congrArg Prod.snd hw⟩
      rw [ht] at hB
      have hP := hB
      have hS := hS1
      clear hS1
      generalize H1 = H at hP hS ⊢
      refine W.widen (k := 1) (n := 6) (by omega) (by omega) ?_
      have hJ_206_31 : J (w_assign σ (((x2 >>> ((4 : Int32) &&& 31)) &&& 65535) - ((x2 >>> ((4 : Int32) &&& 31)) &&& 65535) / 4 * 4) ((((x2 >>> ((4 : Int32) &&& 31)) &&& 65535) >>> ((4 : Int32) &&& 31)) - (((x2 >>> ((4 : Int32) &&& 31)) &&& 65535) >>> ((4 : Int32) &&& 31)) / 6 * 6) ((l_day σ) - (l_day σ) / 7 * 7)).2 := hJ.k_assign _ (((x2 >>> ((4 : Int32) &&& 31)) &&& 65535) - ((x2 >>> ((4 : Int32) &&& 31)) &&& 65535) / 4 * 4) ((((x2 >>> ((4 : Int32) &&& 31)) &&& 65535) >>> ((4 : Int32) &&& 31)) - (((x2 >>> ((4 : Int32) &&& 31)) &&& 65535) >>> ((4 : Int32) &&& 31)) / 6 * 6) ((l_day σ) - (l_day σ) / 7 * 7) h0
      refine W.widen (k := 26) (n := 3756) (by omega) (by omega) ?_
      exact W.iret (v := (w_assign σ (((x2 >>> ((4 : Int32) &&& 31)) &&& 65535) - ((x2 >>> ((4 : Int32) &&& 31)) &&& 65535) / 4 * 4) ((((x2 >>> ((4 : Int32) &&& 31)) &&& 65535) >>> ((4 : Int32) &&& 31)) - (((x2 >>> ((4 : Int32) &&& 31)) &&& 65535) >>> ((4 : Int32) &&& 31)) / 6 * 6) ((l_day σ) - (l_day σ) / 7 * 7)).1) hx hb hr (fun t ht hW => ⟨⟨(w_assign σ (((x2 >>> ((4 : Int32) &&& 31)) &&& 65535) - ((x2 >>> ((4 : Int32) &&& 31)) &&& 65535) / 4 * 4) ((((x2 >>> ((4 : Int32) &&& 31)) &&& 65535) >>> ((4 : Int32) &&& 31)) - (((x2 >>> ((4 : Int32) &&& 31)) &&& 65535) >>> ((4 : Int32) &&& 31)) / 6 * 6) ((l_day σ) - (l_day σ) / 7 * 7)).1, (w_assign σ (((x2 >>> ((4 : Int32) &&& 31)) &&& 65535) - ((x2 >>> ((4 : Int32) &&& 31)) &&& 65535) / 4 * 4) ((((x2 >>> ((4 : Int32) &&& 31)) &&& 65535) >>> ((4 : Int32) &&& 31)) - (((x2 >>> ((4 : Int32) &&& 31)) &&& 65535) >>> ((4 : Int32) &&& 31)) / 6 * 6) ((l_day σ) - (l_day σ) / 7 * 7)).2, rfl, ⟨hsp, hJ_206_31⟩, by show ft_LW D k Z sz a _ t.heap; rw [ht]; exact hP⟩, hS.F ht⟩) hS.2.2 dL_act_209
    replace hsp := (if_neg k_41_7).symm.trans hsp
    by_cases k_41_8 : (x2 &&& 15) = 8
    · replace hsp := (if_pos k_41_8).symm.trans hsp
      refine lv_tableIn (tgt := 210) (off := 169) hx hb dL_act_41 (by rw [k_41_8]; decide) (by rw [k_41_8]; decide) (by rw [k_41_8]; rfl) (by decide) ?_
      refine lv_aload_n hx hb dL_act_210 rfl (lv_at hl 3 rfl) ?_
      refine lv_iload_n hx hb dL_act_211 rfl (lv_at hl 2 rfl) ?_
      refine lv_iconst (v := 4) hx hb dL_act_212 (by decide) ?_
      refine lv_ishr hx hb dL_act_213 ?_
      refine lv_bipush (v := 6) hx hb dL_act_214 (by decide) ?_
      refine lv_irem hx hb dL_act_216 (by decide) ?_
      refine lv_iload hx hb dL_act_217 (lv_at hl 0 rfl) ?_
      refine va_calli (vx_runSW (As := [.ref (a), .int ((((x2 >>> ((4 : Int32) &&& 31)) &&& 65535) >>> ((4 : Int32) &&& 31)) - (((x2 >>> ((4 : Int32) &&& 31)) &&& 65535) >>> ((4 : Int32) &&& 31)) / 6 * 6), .int ((l_day σ) - (l_day σ) / 7 * 7)]) (rest := []) ⟨hx, hb, hml, hown, hts⟩ (d_L_release l hl0 D Z k sz a σ ((((x2 >>> ((4 : Int32) &&& 31)) &&& 65535) >>> ((4 : Int32) &&& 31)) - (((x2 >>> ((4 : Int32) &&& 31)) &&& 65535) >>> ((4 : Int32) &&& 31)) / 6 * 6) ((l_day σ) - (l_day σ) / 7 * 7) (hJ.pm _ h0) (hJ.ex_release _ ((((x2 >>> ((4 : Int32) &&& 31)) &&& 65535) >>> ((4 : Int32) &&& 31)) - (((x2 >>> ((4 : Int32) &&& 31)) &&& 65535) >>> ((4 : Int32) &&& 31)) / 6 * 6) ((l_day σ) - (l_day σ) / 7 * 7) h0)) (vx_cwSW 3 hts gL_act_L_release rfl rfl rfl (by decide +kernel) ⟨Nat.le_of_ble_eq_true rfl, Nat.le_of_ble_eq_true rfl⟩) (ft_preM hEL hz hS hP) rfl rfl hl.1 rfl (lv_room (Nat.le_of_ble_eq_true rfl)) dL_act_219 ⟨Nat.le_of_ble_eq_true rfl, Nat.le_of_ble_eq_true rfl⟩) hS (fun _ _ h => h) (fun _ h => h) (fun z u t H1 locs1 ht hvm hw hB hz1 hk1 hS1 => ?_)
      obtain ⟨rfl, rfl⟩ : z = (w_release σ ((((x2 >>> ((4 : Int32) &&& 31)) &&& 65535) >>> ((4 : Int32) &&& 31)) - (((x2 >>> ((4 : Int32) &&& 31)) &&& 65535) >>> ((4 : Int32) &&& 31)) / 6 * 6) ((l_day σ) - (l_day σ) / 7 * 7)).1 ∧ u = (w_release σ ((((x2 >>> ((4 : Int32) &&& 31)) &&& 65535) >>> ((4 : Int32) &&& 31)) - (((x2 >>> ((4 : Int32) &&& 31)) &&& 65535) >>> ((4 : Int32) &&& 31)) / 6 * 6) ((l_day σ) - (l_day σ) / 7 * 7)).2 := ⟨congrArg Prod.fst hw, congrArg Prod.snd hw⟩
      rw [ht] at hB
      have hP := hB
      have hS := hS1
      clear hS1
      generalize H1 = H at hP hS ⊢
      refine W.widen (k := 1) (n := 6) (by omega) (by omega) ?_
      have hJ_219_32 : J (w_release σ ((((x2 >>> ((4 : Int32) &&& 31)) &&& 65535) >>> ((4 : Int32) &&& 31)) - (((x2 >>> ((4 : Int32) &&& 31)) &&& 65535) >>> ((4 : Int32) &&& 31)) / 6 * 6) ((l_day σ) - (l_day σ) / 7 * 7)).2 := hJ.k_release _ ((((x2 >>> ((4 : Int32) &&& 31)) &&& 65535) >>> ((4 : Int32) &&& 31)) - (((x2 >>> ((4 : Int32) &&& 31)) &&& 65535) >>> ((4 : Int32) &&& 31)) / 6 * 6) ((l_day σ) - (l_day σ) / 7 * 7) h0
      refine W.widen (k := 26) (n := 3756) (by omega) (by omega) ?_
      exact W.iret (v := (w_release σ ((((x2 >>> ((4 : Int32) &&& 31)) &&& 65535) >>> ((4 : Int32) &&& 31)) - (((x2 >>> ((4 : Int32) &&& 31)) &&& 65535) >>> ((4 : Int32) &&& 31)) / 6 * 6) ((l_day σ) - (l_day σ) / 7 * 7)).1) hx hb hr (fun t ht hW => ⟨⟨(w_release σ ((((x2 >>> ((4 : Int32) &&& 31)) &&& 65535) >>> ((4 : Int32) &&& 31)) - (((x2 >>> ((4 : Int32) &&& 31)) &&& 65535) >>> ((4 : Int32) &&& 31)) / 6 * 6) ((l_day σ) - (l_day σ) / 7 * 7)).1, (w_release σ ((((x2 >>> ((4 : Int32) &&& 31)) &&& 65535) >>> ((4 : Int32) &&& 31)) - (((x2 >>> ((4 : Int32) &&& 31)) &&& 65535) >>> ((4 : Int32) &&& 31)) / 6 * 6) ((l_day σ) - (l_day σ) / 7 * 7)).2, rfl, ⟨hsp, hJ_219_32⟩, by show ft_LW D k Z sz a _ t.heap; rw [ht]; exact hP⟩, hS.F ht⟩) hS.2.2 dL_act_222
    replace hsp := (if_neg k_41_8).symm.trans hsp
    by_cases k_41_9 : (x2 &&& 15) = 9
    · replace hsp := (if_pos k_41_9).symm.trans hsp
      refine lv_tableIn (tgt := 223) (off := 182) hx hb dL_act_41 (by rw [k_41_9]; decide) (by rw [k_41_9]; decide) (by rw [k_41_9]; rfl) (by decide) ?_
      refine lv_aload_n hx hb dL_act_223 rfl (lv_at hl 3 rfl) ?_
      refine lv_iload_n hx hb dL_act_224 rfl (lv_at hl 2 rfl) ?_
      refine lv_iconst (v := 2) hx hb dL_act_225 (by decide) ?_
      refine lv_ishr hx hb dL_act_226 ?_
      refine lv_iconst (v := 5) hx hb dL_act_227 (by decide) ?_
      refine lv_irem hx hb dL_act_228 (by decide) ?_
      refine va_calli (vx_runSW (As := [.ref (a), .int ((((x2 >>> ((4 : Int32) &&& 31)) &&& 65535) >>> ((2 : Int32) &&& 31)) - (((x2 >>> ((4 : Int32) &&& 31)) &&& 65535) >>> ((2 : Int32) &&& 31)) / 5 * 5)]) (rest := []) ⟨hx, hb, hml, hown, hts⟩ (d_L_setWeather l hl0 D Z k sz a σ ((((x2 >>> ((4 : Int32) &&& 31)) &&& 65535) >>> ((2 : Int32) &&& 31)) - (((x2 >>> ((4 : Int32) &&& 31)) &&& 65535) >>> ((2 : Int32) &&& 31)) / 5 * 5) (hJ.pm _ h0) (hJ.ex_setWeather _ ((((x2 >>> ((4 : Int32) &&& 31)) &&& 65535) >>> ((2 : Int32) &&& 31)) - (((x2 >>> ((4 : Int32) &&& 31)) &&& 65535) >>> ((2 : Int32) &&& 31)) / 5 * 5) h0)) (vx_cwSW 2 hts gL_act_L_setWeather rfl rfl rfl (by decide +kernel) ⟨Nat.le_of_ble_eq_true rfl, Nat.le_of_ble_eq_true rfl⟩) (ft_preM hEL hz hS hP) rfl rfl hl.1 rfl (lv_room (Nat.le_of_ble_eq_true rfl)) dL_act_229 ⟨Nat.le_of_ble_eq_true rfl, Nat.le_of_ble_eq_true rfl⟩) hS (fun _ _ h => h) (fun _ h => h) (fun z u t H1 locs1 ht hvm hw hB hz1 hk1 hS1 => ?_)
      obtain ⟨rfl, rfl⟩ : z = (w_setWeather σ ((((x2 >>> ((4 : Int32) &&& 31)) &&& 65535) >>> ((2 : Int32) &&& 31)) - (((x2 >>> ((4 : Int32) &&& 31)) &&& 65535) >>> ((2 : Int32) &&& 31)) / 5 * 5)).1 ∧ u = (w_setWeather σ ((((x2 >>> ((4 : Int32) &&& 31)) &&& 65535) >>> ((2 : Int32) &&& 31)) - (((x2 >>> ((4 : Int32) &&& 31)) &&& 65535) >>> ((2 : Int32) &&& 31)) / 5 * 5)).2 := ⟨congrArg Prod.fst hw, congrArg Prod.snd hw⟩
      rw [ht] at hB
      have hP := hB
      have hS := hS1
      clear hS1
      generalize H1 = H at hP hS ⊢
      refine W.widen (k := 1) (n := 6) (by omega) (by omega) ?_
      have hJ_229_33 : J (w_setWeather σ ((((x2 >>> ((4 : Int32) &&& 31)) &&& 65535) >>> ((2 : Int32) &&& 31)) - (((x2 >>> ((4 : Int32) &&& 31)) &&& 65535) >>> ((2 : Int32) &&& 31)) / 5 * 5)).2 := hJ.k_setWeather _ ((((x2 >>> ((4 : Int32) &&& 31)) &&& 65535) >>> ((2 : Int32) &&& 31)) - (((x2 >>> ((4 : Int32) &&& 31)) &&& 65535) >>> ((2 : Int32) &&& 31)) / 5 * 5) h0
      refine W.widen (k := 26) (n := 3756) (by omega) (by omega) ?_
      exact W.iret (v := (w_setWeather σ ((((x2 >>> ((4 : Int32) &&& 31)) &&& 65535) >>> ((2 : Int32) &&& 31)) - (((x2 >>> ((4 : Int32) &&& 31)) &&& 65535) >>> ((2 : Int32) &&& 31)) / 5 * 5)).1) hx hb hr (fun t ht hW => ⟨⟨(w_setWeather σ ((((x2 >>> ((4 : Int32) &&& 31)) &&& 65535) >>> ((2 : Int32) &&& 31)) - (((x2 >>> ((4 : Int32) &&& 31)) &&& 65535) >>> ((2 : Int32) &&& 31)) / 5 * 5)).1, (w_setWeather σ ((((x2 >>> ((4 : Int32) &&& 31)) &&& 65535) >>> ((2 : Int32) &&& 31)) - (((x2 >>> ((4 : Int32) &&& 31)) &&& 65535) >>> ((2 : Int32) &&& 31)) / 5 * 5)).2, rfl, ⟨hsp, hJ_229_33⟩, by show ft_LW D k Z sz a _ t.heap; rw [ht]; exact hP⟩, hS.F ht⟩) hS.2.2 dL_act_232
    replace hsp := (if_neg k_41_9).symm.trans hsp
    by_cases k_41_10 : (x2 &&& 15) = 10
    · replace hsp := (if_pos k_41_10).symm.trans hsp
      refine lv_tableIn (tgt := 233) (off := 192) hx hb dL_act_41 (by rw [k_41_10]; decide) (by rw [k_41_10]; decide) (by rw [k_41_10]; rfl) (by decide) ?_
      refine lv_aload_n hx hb dL_act_233 rfl (lv_at hl 3 rfl) ?_
      refine lv_iload_n hx hb dL_act_234 rfl (lv_at hl 2 rfl) ?_
      refine lv_iconst (v := 2) hx hb dL_act_235 (by decide) ?_
      refine lv_ishr hx hb dL_act_236 ?_
      refine lv_bipush (v := 25) hx hb dL_act_237 (by decide) ?_
      refine lv_irem hx hb dL_act_239 (by decide) ?_
      refine va_calli (vx_runSW (As := [.ref (a), .int ((((x2 >>> ((4 : Int32) &&& 31)) &&& 65535) >>> ((2 : Int32) &&& 31)) - (((x2 >>> ((4 : Int32) &&& 31)) &&& 65535) >>> ((2 : Int32) &&& 31)) / 25 * 25)]) (rest := []) ⟨hx, hb, hml, hown, hts⟩ (d_L_advance l hl0 D Z k sz a σ ((((x2 >>> ((4 : Int32) &&& 31)) &&& 65535) >>> ((2 : Int32) &&& 31)) - (((x2 >>> ((4 : Int32) &&& 31)) &&& 65535) >>> ((2 : Int32) &&& 31)) / 25 * 25) (hJ.pm _ h0) (hJ.ex_advance _ ((((x2 >>> ((4 : Int32) &&& 31)) &&& 65535) >>> ((2 : Int32) &&& 31)) - (((x2 >>> ((4 : Int32) &&& 31)) &&& 65535) >>> ((2 : Int32) &&& 31)) / 25 * 25) h0)) (vx_cwSW 2 hts gL_act_L_advance rfl rfl rfl (by decide +kernel) ⟨Nat.le_of_ble_eq_true rfl, Nat.le_of_ble_eq_true rfl⟩) (ft_preM hEL hz hS hP) rfl rfl hl.1 rfl (lv_room (Nat.le_of_ble_eq_true rfl)) dL_act_240 ⟨Nat.le_of_ble_eq_true rfl, Nat.le_of_ble_eq_true rfl⟩) hS (fun _ _ h => h) (fun _ h => h) (fun z u t H1 locs1 ht hvm hw hB hz1 hk1 hS1 => ?_)
      obtain ⟨rfl, rfl⟩ : z = (w_advance σ ((((x2 >>> ((4 : Int32) &&& 31)) &&& 65535) >>> ((2 : Int32) &&& 31)) - (((x2 >>> ((4 : Int32) &&& 31)) &&& 65535) >>> ((2 : Int32) &&& 31)) / 25 * 25)).1 ∧ u = (w_advance σ ((((x2 >>> ((4 : Int32) &&& 31)) &&& 65535) >>> ((2 : Int32) &&& 31)) - (((x2 >>> ((4 : Int32) &&& 31)) &&& 65535) >>> ((2 : Int32) &&& 31)) / 25 * 25)).2 := ⟨congrArg Prod.fst hw, congrArg Prod.snd hw⟩
      rw [ht] at hB
      have hP := hB
      have hS := hS1
      clear hS1
      generalize H1 = H at hP hS ⊢
      refine W.widen (k := 1) (n := 6) (by omega) (by omega) ?_
      have hJ_240_34 : J (w_advance σ ((((x2 >>> ((4 : Int32) &&& 31)) &&& 65535) >>> ((2 : Int32) &&& 31)) - (((x2 >>> ((4 : Int32) &&& 31)) &&& 65535) >>> ((2 : Int32) &&& 31)) / 25 * 25)).2 := hJ.k_advance _ ((((x2 >>> ((4 : Int32) &&& 31)) &&& 65535) >>> ((2 : Int32) &&& 31)) - (((x2 >>> ((4 : Int32) &&& 31)) &&& 65535) >>> ((2 : Int32) &&& 31)) / 25 * 25) h0
      refine W.widen (k := 26) (n := 3756) (by omega) (by omega) ?_
      exact W.iret (v := (w_advance σ ((((x2 >>> ((4 : Int32) &&& 31)) &&& 65535) >>> ((2 : Int32) &&& 31)) - (((x2 >>> ((4 : Int32) &&& 31)) &&& 65535) >>> ((2 : Int32) &&& 31)) / 25 * 25)).1) hx hb hr (fun t ht hW => ⟨⟨(w_advance σ ((((x2 >>> ((4 : Int32) &&& 31)) &&& 65535) >>> ((2 : Int32) &&& 31)) - (((x2 >>> ((4 : Int32) &&& 31)) &&& 65535) >>> ((2 : Int32) &&& 31)) / 25 * 25)).1, (w_advance σ ((((x2 >>> ((4 : Int32) &&& 31)) &&& 65535) >>> ((2 : Int32) &&& 31)) - (((x2 >>> ((4 : Int32) &&& 31)) &&& 65535) >>> ((2 : Int32) &&& 31)) / 25 * 25)).2, rfl, ⟨hsp, hJ_240_34⟩, by show ft_LW D k Z sz a _ t.heap; rw [ht]; exact hP⟩, hS.F ht⟩) hS.2.2 dL_act_243
    replace hsp := (if_neg k_41_10).symm.trans hsp
    by_cases k_41_11 : (x2 &&& 15) = 11
    · replace hsp := (if_pos k_41_11).symm.trans hsp
      refine lv_tableIn (tgt := 233) (off := 192) hx hb dL_act_41 (by rw [k_41_11]; decide) (by rw [k_41_11]; decide) (by rw [k_41_11]; rfl) (by decide) ?_
      refine lv_aload_n hx hb dL_act_233 rfl (lv_at hl 3 rfl) ?_
      refine lv_iload_n hx hb dL_act_234 rfl (lv_at hl 2 rfl) ?_
      refine lv_iconst (v := 2) hx hb dL_act_235 (by decide) ?_
      refine lv_ishr hx hb dL_act_236 ?_
      refine lv_bipush (v := 25) hx hb dL_act_237 (by decide) ?_
      refine lv_irem hx hb dL_act_239 (by decide) ?_
      refine va_calli (vx_runSW (As := [.ref (a), .int ((((x2 >>> ((4 : Int32) &&& 31)) &&& 65535) >>> ((2 : Int32) &&& 31)) - (((x2 >>> ((4 : Int32) &&& 31)) &&& 65535) >>> ((2 : Int32) &&& 31)) / 25 * 25)]) (rest := []) ⟨hx, hb, hml, hown, hts⟩ (d_L_advance l hl0 D Z k sz a σ ((((x2 >>> ((4 : Int32) &&& 31)) &&& 65535) >>> ((2 : Int32) &&& 31)) - (((x2 >>> ((4 : Int32) &&& 31)) &&& 65535) >>> ((2 : Int32) &&& 31)) / 25 * 25) (hJ.pm _ h0) (hJ.ex_advance _ ((((x2 >>> ((4 : Int32) &&& 31)) &&& 65535) >>> ((2 : Int32) &&& 31)) - (((x2 >>> ((4 : Int32) &&& 31)) &&& 65535) >>> ((2 : Int32) &&& 31)) / 25 * 25) h0)) (vx_cwSW 2 hts gL_act_L_advance rfl rfl rfl (by decide +kernel) ⟨Nat.le_of_ble_eq_true rfl, Nat.le_of_ble_eq_true rfl⟩) (ft_preM hEL hz hS hP) rfl rfl hl.1 rfl (lv_room (Nat.le_of_ble_eq_true rfl)) dL_act_240 ⟨Nat.le_of_ble_eq_true rfl, Nat.le_of_ble_eq_true rfl⟩) hS (fun _ _ h => h) (fun _ h => h) (fun z u t H1 locs1 ht hvm hw hB hz1 hk1 hS1 => ?_)
      obtain ⟨rfl, rfl⟩ : z = (w_advance σ ((((x2 >>> ((4 : Int32) &&& 31)) &&& 65535) >>> ((2 : Int32) &&& 31)) - (((x2 >>> ((4 : Int32) &&& 31)) &&& 65535) >>> ((2 : Int32) &&& 31)) / 25 * 25)).1 ∧ u = (w_advance σ ((((x2 >>> ((4 : Int32) &&& 31)) &&& 65535) >>> ((2 : Int32) &&& 31)) - (((x2 >>> ((4 : Int32) &&& 31)) &&& 65535) >>> ((2 : Int32) &&& 31)) / 25 * 25)).2 := ⟨congrArg Prod.fst hw, congrArg Prod.snd hw⟩
      rw [ht] at hB
      have hP := hB
      have hS := hS1
      clear hS1
      generalize H1 = H at hP hS ⊢
      refine W.widen (k := 1) (n := 6) (by omega) (by omega) ?_
      have hJ_240_35 : J (w_advance σ ((((x2 >>> ((4 : Int32) &&& 31)) &&& 65535) >>> ((2 : Int32) &&& 31)) - (((x2 >>> ((4 : Int32) &&& 31)) &&& 65535) >>> ((2 : Int32) &&& 31)) / 25 * 25)).2 := hJ.k_advance _ ((((x2 >>> ((4 : Int32) &&& 31)) &&& 65535) >>> ((2 : Int32) &&& 31)) - (((x2 >>> ((4 : Int32) &&& 31)) &&& 65535) >>> ((2 : Int32) &&& 31)) / 25 * 25) h0
      refine W.widen (k := 26) (n := 3756) (by omega) (by omega) ?_
      exact W.iret (v := (w_advance σ ((((x2 >>> ((4 : Int32) &&& 31)) &&& 65535) >>> ((2 : Int32) &&& 31)) - (((x2 >>> ((4 : Int32) &&& 31)) &&& 65535) >>> ((2 : Int32) &&& 31)) / 25 * 25)).1) hx hb hr (fun t ht hW => ⟨⟨(w_advance σ ((((x2 >>> ((4 : Int32) &&& 31)) &&& 65535) >>> ((2 : Int32) &&& 31)) - (((x2 >>> ((4 : Int32) &&& 31)) &&& 65535) >>> ((2 : Int32) &&& 31)) / 25 * 25)).1, (w_advance σ ((((x2 >>> ((4 : Int32) &&& 31)) &&& 65535) >>> ((2 : Int32) &&& 31)) - (((x2 >>> ((4 : Int32) &&& 31)) &&& 65535) >>> ((2 : Int32) &&& 31)) / 25 * 25)).2, rfl, ⟨hsp, hJ_240_35⟩, by show ft_LW D k Z sz a _ t.heap; rw [ht]; exact hP⟩, hS.F ht⟩) hS.2.2 dL_act_243
    replace hsp := (if_neg k_41_11).symm.trans hsp
    by_cases k_41_12 : (x2 &&& 15) = 12
    · replace hsp := (if_pos k_41_12).symm.trans hsp
      refine lv_tableIn (tgt := 233) (off := 192) hx hb dL_act_41 (by rw [k_41_12]; decide) (by rw [k_41_12]; decide) (by rw [k_41_12]; rfl) (by decide) ?_
      refine lv_aload_n hx hb dL_act_233 rfl (lv_at hl 3 rfl) ?_
      refine lv_iload_n hx hb dL_act_234 rfl (lv_at hl 2 rfl) ?_
      refine lv_iconst (v := 2) hx hb dL_act_235 (by decide) ?_
      refine lv_ishr hx hb dL_act_236 ?_
      refine lv_bipush (v := 25) hx hb dL_act_237 (by decide) ?_
      refine lv_irem hx hb dL_act_239 (by decide) ?_
      refine va_calli (vx_runSW (As := [.ref (a), .int ((((x2 >>> ((4 : Int32) &&& 31)) &&& 65535) >>> ((2 : Int32) &&& 31)) - (((x2 >>> ((4 : Int32) &&& 31)) &&& 65535) >>> ((2 : Int32) &&& 31)) / 25 * 25)]) (rest := []) ⟨hx, hb, hml, hown, hts⟩ (d_L_advance l hl0 D Z k sz a σ ((((x2 >>> ((4 : Int32) &&& 31)) &&& 65535) >>> ((2 : Int32) &&& 31)) - (((x2 >>> ((4 : Int32) &&& 31)) &&& 65535) >>> ((2 : Int32) &&& 31)) / 25 * 25) (hJ.pm _ h0) (hJ.ex_advance _ ((((x2 >>> ((4 : Int32) &&& 31)) &&& 65535) >>> ((2 : Int32) &&& 31)) - (((x2 >>> ((4 : Int32) &&& 31)) &&& 65535) >>> ((2 : Int32) &&& 31)) / 25 * 25) h0)) (vx_cwSW 2 hts gL_act_L_advance rfl rfl rfl (by decide +kernel) ⟨Nat.le_of_ble_eq_true rfl, Nat.le_of_ble_eq_true rfl⟩) (ft_preM hEL hz hS hP) rfl rfl hl.1 rfl (lv_room (Nat.le_of_ble_eq_true rfl)) dL_act_240 ⟨Nat.le_of_ble_eq_true rfl, Nat.le_of_ble_eq_true rfl⟩) hS (fun _ _ h => h) (fun _ h => h) (fun z u t H1 locs1 ht hvm hw hB hz1 hk1 hS1 => ?_)
      obtain ⟨rfl, rfl⟩ : z = (w_advance σ ((((x2 >>> ((4 : Int32) &&& 31)) &&& 65535) >>> ((2 : Int32) &&& 31)) - (((x2 >>> ((4 : Int32) &&& 31)) &&& 65535) >>> ((2 : Int32) &&& 31)) / 25 * 25)).1 ∧ u = (w_advance σ ((((x2 >>> ((4 : Int32) &&& 31)) &&& 65535) >>> ((2 : Int32) &&& 31)) - (((x2 >>> ((4 : Int32) &&& 31)) &&& 65535) >>> ((2 : Int32) &&& 31)) / 25 * 25)).2 := ⟨congrArg Prod.fst hw, congrArg Prod.snd hw⟩
      rw [ht] at hB
      have hP := hB
      have hS := hS1
      clear hS1
      generalize H1 = H at hP hS ⊢
      refine W.widen (k := 1) (n := 6) (by omega) (by omega) ?_
      have hJ_240_36 : J (w_advance σ ((((x2 >>> ((4 : Int32) &&& 31)) &&& 65535) >>> ((2 : Int32) &&& 31)) - (((x2 >>> ((4 : Int32) &&& 31)) &&& 65535) >>> ((2 : Int32) &&& 31)) / 25 * 25)).2 := hJ.k_advance _ ((((x2 >>> ((4 : Int32) &&& 31)) &&& 65535) >>> ((2 : Int32) &&& 31)) - (((x2 >>> ((4 : Int32) &&& 31)) &&& 65535) >>> ((2 : Int32) &&& 31)) / 25 * 25) h0
      refine W.widen (k := 26) (n := 3756) (by omega) (by omega) ?_
      exact W.iret (v := (w_advance σ ((((x2 >>> ((4 : Int32) &&& 31)) &&& 65535) >>> ((2 : Int32) &&& 31)) - (((x2 >>> ((4 : Int32) &&& 31)) &&& 65535) >>> ((2 : Int32) &&& 31)) / 25 * 25)).1) hx hb hr (fun t ht hW => ⟨⟨(w_advance σ ((((x2 >>> ((4 : Int32) &&& 31)) &&& 65535) >>> ((2 : Int32) &&& 31)) - (((x2 >>> ((4 : Int32) &&& 31)) &&& 65535) >>> ((2 : Int32) &&& 31)) / 25 * 25)).1, (w_advance σ ((((x2 >>> ((4 : Int32) &&& 31)) &&& 65535) >>> ((2 : Int32) &&& 31)) - (((x2 >>> ((4 : Int32) &&& 31)) &&& 65535) >>> ((2 : Int32) &&& 31)) / 25 * 25)).2, rfl, ⟨hsp, hJ_240_36⟩, by show ft_LW D k Z sz a _ t.heap; rw [ht]; exact hP⟩, hS.F ht⟩) hS.2.2 dL_act_243
    replace hsp := (if_neg k_41_12).symm.trans hsp
    by_cases k_41_13 : (x2 &&& 15) = 13
    · replace hsp := (if_pos k_41_13).symm.trans hsp
      refine lv_tableIn (tgt := 244) (off := 203) hx hb dL_act_41 (by rw [k_41_13]; decide) (by rw [k_41_13]; decide) (by rw [k_41_13]; rfl) (by decide) ?_
      refine lv_aload_n hx hb dL_act_244 rfl (lv_at hl 3 rfl) ?_
      refine va_gets (C := RL) hx hb hEL.2.2.2.1.1 hS hown (hts (.fieldLink RL 140 "FoodTruckRotaLaw" "SCRIPTS" "[Ljava/lang/String;") (by decide +kernel)) (fun _ h9 => h9) dL_act_245 ?_
      refine lv_iload_n hx hb dL_act_248 rfl (lv_at hl 2 rfl) ?_
      refine va_gets (C := RL) hx hb hEL.2.2.2.1.1 hS hown (hts (.fieldLink RL 140 "FoodTruckRotaLaw" "SCRIPTS" "[Ljava/lang/String;") (by decide +kernel)) (fun _ h9 => h9) dL_act_249 ?_
      refine va_tlen (v := 28) hx hb hEL.2.2.2.1.2.1 hS rfl dL_act_252 ?_
      refine lv_irem hx hb dL_act_253 (by decide) ?_
      have hj_254 : vp_in (((x2 >>> ((4 : Int32) &&& 31)) &&& 65535) - ((x2 >>> ((4 : Int32) &&& 31)) &&& 65535) / 28 * 28) 28 := ft_y28 _
      obtain ⟨cell_254, ha_254, hb_254, hc_254, hd_254, he_254⟩ := ft_tcell hEL.2.2.2.1.2.1 hS hj_254
      refine W.aald (v := .ref (Z 4 (tn (((x2 >>> ((4 : Int32) &&& 31)) &&& 65535) - ((x2 >>> ((4 : Int32) &&& 31)) &&& 65535) / 28 * 28)))) (ty := .object RJ0) hx hb ha_254 hb_254 rfl hc_254 hd_254 he_254 rfl rfl dL_act_254 ?_
      refine W.eq (g2 := F0 m 255 ls [.ref (Z 4 (tn (((x2 >>> ((4 : Int32) &&& 31)) &&& 65535) - ((x2 >>> ((4 : Int32) &&& 31)) &&& 65535) / 28 * 28))), .ref (a)]) rfl ?_
      refine va_callr (va_runS (As := [.ref (a), .ref (Z 4 (tn (((x2 >>> ((4 : Int32) &&& 31)) &&& 65535) - ((x2 >>> ((4 : Int32) &&& 31)) &&& 65535) / 28 * 28)))]) (rest := []) ⟨hx, hb, hml, hown, hts⟩ (c_L_write l hl0 D Z k sz a σ (tn (((x2 >>> ((4 : Int32) &&& 31)) &&& 65535) - ((x2 >>> ((4 : Int32) &&& 31)) &&& 65535) / 28 * 28)) J hJ h0 (ft_tn hj_254)) (va_cwS 2 hts gL_act_L_write rfl rfl rfl (by decide +kernel) ⟨Nat.le_of_ble_eq_true rfl, Nat.le_of_ble_eq_true rfl⟩) (ft_preM hEL hz hS hP) rfl rfl hl.1 rfl (lv_room (Nat.le_of_ble_eq_true rfl)) dL_act_255 ⟨Nat.le_of_ble_eq_true rfl, Nat.le_of_ble_eq_true rfl⟩) hS (fun _ _ h => h) (fun _ h => h) (fun u ra t H1 locs1 ht hvm hw hB hz1 hk1 hS1 => ?_)
      obtain ⟨rfl, hj9⟩ := hw
      obtain ⟨hra, hB⟩ := hB
      replace hra := hra.symm
      subst hra
      have hJ_255_37 : J (s_L_write σ (tn (((x2 >>> ((4 : Int32) &&& 31)) &&& 65535) - ((x2 >>> ((4 : Int32) &&& 31)) &&& 65535) / 28 * 28))) := hj9
      clear hj9
      rw [ht] at hB
      have hP := hB
      have hS := hS1
      clear hS1
      generalize H1 = H at hP hS ⊢
      refine W.widen (k := 25) (n := 3750) (by omega) (by omega) ?_
      refine va_calli (vx_runSW (As := [.ref (a)]) (rest := []) ⟨hx, hb, hml, hown, hts⟩ (d_L_runScript l hl0 D Z k sz a (s_L_write σ (tn (((x2 >>> ((4 : Int32) &&& 31)) &&& 65535) - ((x2 >>> ((4 : Int32) &&& 31)) &&& 65535) / 28 * 28))) (hJ.pm _ hJ_255_37) (hJ.ok9 _ hJ_255_37) (hJ.g9 _ hJ_255_37) (hJ.ex_runScript _ hJ_255_37)) (vx_cwSW 1 hts gL_act_L_runScript rfl rfl rfl (by decide +kernel) ⟨Nat.le_of_ble_eq_true rfl, Nat.le_of_ble_eq_true rfl⟩) (ft_preM hEL hz hS hP) rfl rfl hl.1 rfl (lv_room (Nat.le_of_ble_eq_true rfl)) dL_act_258 ⟨Nat.le_of_ble_eq_true rfl, Nat.le_of_ble_eq_true rfl⟩) hS (fun _ _ h => h) (fun _ h => h) (fun z u t H1 locs1 ht hvm hw hB hz1 hk1 hS1 => ?_)
      obtain ⟨rfl, rfl⟩ : z = (w_runScript (s_L_write σ (tn (((x2 >>> ((4 : Int32) &&& 31)) &&& 65535) - ((x2 >>> ((4 : Int32) &&& 31)) &&& 65535) / 28 * 28)))).1 ∧ u = (w_runScript (s_L_write σ (tn (((x2 >>> ((4 : Int32) &&& 31)) &&& 65535) - ((x2 >>> ((4 : Int32) &&& 31)) &&& 65535) / 28 * 28)))).2 := ⟨congrArg Prod.fst hw, congrArg Prod.snd hw⟩
      rw [ht] at hB
      have hP := hB
      have hS := hS1
      clear hS1
      generalize H1 = H at hP hS ⊢
      refine W.widen (k := 26) (n := 3756) (by omega) (by omega) ?_
      have hJ_258_38 : J (w_runScript (s_L_write σ (tn (((x2 >>> ((4 : Int32) &&& 31)) &&& 65535) - ((x2 >>> ((4 : Int32) &&& 31)) &&& 65535) / 28 * 28)))).2 := hJ.k_runScript _ hJ_255_37
      refine W.widen (k := 26) (n := 3756) (by omega) (by omega) ?_
      exact W.iret (v := (w_runScript (s_L_write σ (tn (((x2 >>> ((4 : Int32) &&& 31)) &&& 65535) - ((x2 >>> ((4 : Int32) &&& 31)) &&& 65535) / 28 * 28)))).1) hx hb hr (fun t ht hW => ⟨⟨(w_runScript (s_L_write σ (tn (((x2 >>> ((4 : Int32) &&& 31)) &&& 65535) - ((x2 >>> ((4 : Int32) &&& 31)) &&& 65535) / 28 * 28)))).1, (w_runScript (s_L_write σ (tn (((x2 >>> ((4 : Int32) &&& 31)) &&& 65535) - ((x2 >>> ((4 : Int32) &&& 31)) &&& 65535) / 28 * 28)))).2, rfl, ⟨hsp, hJ_258_38⟩, by show ft_LW D k Z sz a _ t.heap; rw [ht]; exact hP⟩, hS.F ht⟩) hS.2.2 dL_act_261
    replace hsp := (if_neg k_41_13).symm.trans hsp
    by_cases k_41_14 : (x2 &&& 15) = 14
    · replace hsp := (if_pos k_41_14).symm.trans hsp
      refine lv_tableIn (tgt := 244) (off := 203) hx hb dL_act_41 (by rw [k_41_14]; decide) (by rw [k_41_14]; decide) (by rw [k_41_14]; rfl) (by decide) ?_
      refine lv_aload_n hx hb dL_act_244 rfl (lv_at hl 3 rfl) ?_
      refine va_gets (C := RL) hx hb hEL.2.2.2.1.1 hS hown (hts (.fieldLink RL 140 "FoodTruckRotaLaw" "SCRIPTS" "[Ljava/lang/String;") (by decide +kernel)) (fun _ h9 => h9) dL_act_245 ?_
      refine lv_iload_n hx hb dL_act_248 rfl (lv_at hl 2 rfl) ?_
      refine va_gets (C := RL) hx hb hEL.2.2.2.1.1 hS hown (hts (.fieldLink RL 140 "FoodTruckRotaLaw" "SCRIPTS" "[Ljava/lang/String;") (by decide +kernel)) (fun _ h9 => h9) dL_act_249 ?_
      refine va_tlen (v := 28) hx hb hEL.2.2.2.1.2.1 hS rfl dL_act_252 ?_
      refine lv_irem hx hb dL_act_253 (by decide) ?_
      have hj_254 : vp_in (((x2 >>> ((4 : Int32) &&& 31)) &&& 65535) - ((x2 >>> ((4 : Int32) &&& 31)) &&& 65535) / 28 * 28) 28 := ft_y28 _
      obtain ⟨cell_254, ha_254, hb_254, hc_254, hd_254, he_254⟩ := ft_tcell hEL.2.2.2.1.2.1 hS hj_254
      refine W.aald (v := .ref (Z 4 (tn (((x2 >>> ((4 : Int32) &&& 31)) &&& 65535) - ((x2 >>> ((4 : Int32) &&& 31)) &&& 65535) / 28 * 28)))) (ty := .object RJ0) hx hb ha_254 hb_254 rfl hc_254 hd_254 he_254 rfl rfl dL_act_254 ?_
      refine W.eq (g2 := F0 m 255 ls [.ref (Z 4 (tn (((x2 >>> ((4 : Int32) &&& 31)) &&& 65535) - ((x2 >>> ((4 : Int32) &&& 31)) &&& 65535) / 28 * 28))), .ref (a)]) rfl ?_
      refine va_callr (va_runS (As := [.ref (a), .ref (Z 4 (tn (((x2 >>> ((4 : Int32) &&& 31)) &&& 65535) - ((x2 >>> ((4 : Int32) &&& 31)) &&& 65535) / 28 * 28)))]) (rest := []) ⟨hx, hb, hml, hown, hts⟩ (c_L_write l hl0 D Z k sz a σ (tn (((x2 >>> ((4 : Int32) &&& 31)) &&& 65535) - ((x2 >>> ((4 : Int32) &&& 31)) &&& 65535) / 28 * 28)) J hJ h0 (ft_tn hj_254)) (va_cwS 2 hts gL_act_L_write rfl rfl rfl (by decide +kernel) ⟨Nat.le_of_ble_eq_true rfl, Nat.le_of_ble_eq_true rfl⟩) (ft_preM hEL hz hS hP) rfl rfl hl.1 rfl (lv_room (Nat.le_of_ble_eq_true rfl)) dL_act_255 ⟨Nat.le_of_ble_eq_true rfl, Nat.le_of_ble_eq_true rfl⟩) hS (fun _ _ h => h) (fun _ h => h) (fun u ra t H1 locs1 ht hvm hw hB hz1 hk1 hS1 => ?_)
      obtain ⟨rfl, hj9⟩ := hw
      obtain ⟨hra, hB⟩ := hB
      replace hra := hra.symm
      subst hra
      have hJ_255_39 : J (s_L_write σ (tn (((x2 >>> ((4 : Int32) &&& 31)) &&& 65535) - ((x2 >>> ((4 : Int32) &&& 31)) &&& 65535) / 28 * 28))) := hj9
      clear hj9
      rw [ht] at hB
      have hP := hB
      have hS := hS1
      clear hS1
      generalize H1 = H at hP hS ⊢
      refine W.widen (k := 25) (n := 3750) (by omega) (by omega) ?_
      refine va_calli (vx_runSW (As := [.ref (a)]) (rest := []) ⟨hx, hb, hml, hown, hts⟩ (d_L_runScript l hl0 D Z k sz a (s_L_write σ (tn (((x2 >>> ((4 : Int32) &&& 31)) &&& 65535) - ((x2 >>> ((4 : Int32) &&& 31)) &&& 65535) / 28 * 28))) (hJ.pm _ hJ_255_39) (hJ.ok9 _ hJ_255_39) (hJ.g9 _ hJ_255_39) (hJ.ex_runScript _ hJ_255_39)) (vx_cwSW 1 hts gL_act_L_runScript rfl rfl rfl (by decide +kernel) ⟨Nat.le_of_ble_eq_true rfl, Nat.le_of_ble_eq_true rfl⟩) (ft_preM hEL hz hS hP) rfl rfl hl.1 rfl (lv_room (Nat.le_of_ble_eq_true rfl)) dL_act_258 ⟨Nat.le_of_ble_eq_true rfl, Nat.le_of_ble_eq_true rfl⟩) hS (fun _ _ h => h) (fun _ h => h) (fun z u t H1 locs1 ht hvm hw hB hz1 hk1 hS1 => ?_)
      obtain ⟨rfl, rfl⟩ : z = (w_runScript (s_L_write σ (tn (((x2 >>> ((4 : Int32) &&& 31)) &&& 65535) - ((x2 >>> ((4 : Int32) &&& 31)) &&& 65535) / 28 * 28)))).1 ∧ u = (w_runScript (s_L_write σ (tn (((x2 >>> ((4 : Int32) &&& 31)) &&& 65535) - ((x2 >>> ((4 : Int32) &&& 31)) &&& 65535) / 28 * 28)))).2 := ⟨congrArg Prod.fst hw, congrArg Prod.snd hw⟩
      rw [ht] at hB
      have hP := hB
      have hS := hS1
      clear hS1
      generalize H1 = H at hP hS ⊢
      refine W.widen (k := 26) (n := 3756) (by omega) (by omega) ?_
      have hJ_258_40 : J (w_runScript (s_L_write σ (tn (((x2 >>> ((4 : Int32) &&& 31)) &&& 65535) - ((x2 >>> ((4 : Int32) &&& 31)) &&& 65535) / 28 * 28)))).2 := hJ.k_runScript _ hJ_255_39
      refine W.widen (k := 26) (n := 3756) (by omega) (by omega) ?_
      exact W.iret (v := (w_runScript (s_L_write σ (tn (((x2 >>> ((4 : Int32) &&& 31)) &&& 65535) - ((x2 >>> ((4 : Int32) &&& 31)) &&& 65535) / 28 * 28)))).1) hx hb hr (fun t ht hW => ⟨⟨(w_runScript (s_L_write σ (tn (((x2 >>> ((4 : Int32) &&& 31)) &&& 65535) - ((x2 >>> ((4 : Int32) &&& 31)) &&& 65535) / 28 * 28)))).1, (w_runScript (s_L_write σ (tn (((x2 >>> ((4 : Int32) &&& 31)) &&& 65535) - ((x2 >>> ((4 : Int32) &&& 31)) &&& 65535) / 28 * 28)))).2, rfl, ⟨hsp, hJ_258_40⟩, by show ft_LW D k Z sz a _ t.heap; rw [ht]; exact hP⟩, hS.F ht⟩) hS.2.2 dL_act_261
    replace hsp := (if_neg k_41_14).symm.trans hsp
    have j_41_0 : (x2 &&& 15).toInt ≠ 0 := ft_ne k_41_0
    have j_41_1 : (x2 &&& 15).toInt ≠ 1 := ft_ne k_41_1
    have j_41_2 : (x2 &&& 15).toInt ≠ 2 := ft_ne k_41_2
    have j_41_3 : (x2 &&& 15).toInt ≠ 3 := ft_ne k_41_3
    have j_41_4 : (x2 &&& 15).toInt ≠ 4 := ft_ne k_41_4
    have j_41_5 : (x2 &&& 15).toInt ≠ 5 := ft_ne k_41_5
    have j_41_6 : (x2 &&& 15).toInt ≠ 6 := ft_ne k_41_6
    have j_41_7 : (x2 &&& 15).toInt ≠ 7 := ft_ne k_41_7
    have j_41_8 : (x2 &&& 15).toInt ≠ 8 := ft_ne k_41_8
    have j_41_9 : (x2 &&& 15).toInt ≠ 9 := ft_ne k_41_9
    have j_41_10 : (x2 &&& 15).toInt ≠ 10 := ft_ne k_41_10
    have j_41_11 : (x2 &&& 15).toInt ≠ 11 := ft_ne k_41_11
    have j_41_12 : (x2 &&& 15).toInt ≠ 12 := ft_ne k_41_12
    have j_41_13 : (x2 &&& 15).toInt ≠ 13 := ft_ne k_41_13
    have j_41_14 : (x2 &&& 15).toInt ≠ 14 := ft_ne k_41_14
    refine lv_tableOut (tgt := 262) hx hb dL_act_41 (by omega) (by decide) ?_
    refine lv_iload_n hx hb dL_act_262 rfl (lv_at hl 2 rfl) ?_
    refine lv_iconst (v := 3) hx hb dL_act_263 (by decide) ?_
    refine lv_iand hx hb dL_act_264 ?_
    refine lv_if_ne (tgt := 275) hx hb dL_act_265 (by decide) (fun c_265 => ?_) (fun c_265 => ?_)
    · replace hsp := (if_neg c_265).symm.trans hsp
      refine lv_iload_n hx hb dL_act_275 rfl (lv_at hl 2 rfl) ?_
      refine lv_iconst (v := 3) hx hb dL_act_276 (by decide) ?_
      refine lv_iand hx hb dL_act_277 ?_
      refine lv_iconst (v := 1) hx hb dL_act_278 (by decide) ?_
      refine lv_icmp_ne (tgt := 289) hx hb dL_act_279 (by decide) (fun c_279 => ?_) (fun c_279 => ?_)
      · replace hsp := (if_neg c_279).symm.trans hsp
        refine lv_aload_n hx hb dL_act_289 rfl (lv_at hl 3 rfl) ?_
        refine va_calli (vx_runSW (As := [.ref (a)]) (rest := []) ⟨hx, hb, hml, hown, hts⟩ (d_L_undo l hl0 D Z k sz a σ (hJ.pm _ h0) (hJ.ex_undo _ h0)) (vx_cwSW 1 hts gL_act_L_undo rfl rfl rfl (by decide +kernel) ⟨Nat.le_of_ble_eq_true rfl, Nat.le_of_ble_eq_true rfl⟩) (ft_preM hEL hz hS hP) rfl rfl hl.1 rfl (lv_room (Nat.le_of_ble_eq_true rfl)) dL_act_290 ⟨Nat.le_of_ble_eq_true rfl, Nat.le_of_ble_eq_true rfl⟩) hS (fun _ _ h => h) (fun _ h => h) (fun z u t H1 locs1 ht hvm hw hB hz1 hk1 hS1 => ?_)
        obtain ⟨rfl, rfl⟩ : z = (w_undo σ).1 ∧ u = (w_undo σ).2 := ⟨congrArg Prod.fst hw, congrArg Prod.snd hw⟩
        rw [ht] at hB
        have hP := hB
        have hS := hS1
        clear hS1
        generalize H1 = H at hP hS ⊢
        refine W.widen (k := 1) (n := 6) (by omega) (by omega) ?_
        have hJ_290_41 : J (w_undo σ).2 := hJ.k_undo _ h0
        refine W.widen (k := 26) (n := 3756) (by omega) (by omega) ?_
        exact W.iret (v := (w_undo σ).1) hx hb hr (fun t ht hW => ⟨⟨(w_undo σ).1, (w_undo σ).2, rfl, ⟨hsp, hJ_290_41⟩, by show ft_LW D k Z sz a _ t.heap; rw [ht]; exact hP⟩, hS.F ht⟩) hS.2.2 dL_act_293
      · replace hsp := (if_pos c_279).symm.trans hsp
        refine lv_aload_n hx hb dL_act_282 rfl (lv_at hl 3 rfl) ?_
        refine va_calli (vx_runSW (As := [.ref (a)]) (rest := []) ⟨hx, hb, hml, hown, hts⟩ (d_L_restore l hl0 D Z k sz a σ  (hJ.ex_restore _ h0)) (vx_cwSW 1 hts gL_act_L_restore rfl rfl rfl (by decide +kernel) ⟨Nat.le_of_ble_eq_true rfl, Nat.le_of_ble_eq_true rfl⟩) (ft_preM hEL hz hS hP) rfl rfl hl.1 rfl (lv_room (Nat.le_of_ble_eq_true rfl)) dL_act_283 ⟨Nat.le_of_ble_eq_true rfl, Nat.le_of_ble_eq_true rfl⟩) hS (fun _ _ h => h) (fun _ h => h) (fun z u t H1 locs1 ht hvm hw hB hz1 hk1 hS1 => ?_)
        obtain ⟨rfl, rfl⟩ : z = (w_restore σ).1 ∧ u = (w_restore σ).2 := ⟨congrArg Prod.fst hw, congrArg Prod.snd hw⟩
        rw [ht] at hB
        have hP := hB
        have hS := hS1
        clear hS1
        generalize H1 = H at hP hS ⊢
        refine W.widen (k := 1) (n := 6) (by omega) (by omega) ?_
        have hJ_283_42 : J (w_restore σ).2 := hJ.k_restore _ h0
        refine lv_goto (tgt := 293) hx hb dL_act_286 (by decide) ?_
        refine W.widen (k := 26) (n := 3756) (by omega) (by omega) ?_
        exact W.iret (v := (w_restore σ).1) hx hb hr (fun t ht hW => ⟨⟨(w_restore σ).1, (w_restore σ).2, rfl, ⟨hsp, hJ_283_42⟩, by show ft_LW D k Z sz a _ t.heap; rw [ht]; exact hP⟩, hS.F ht⟩) hS.2.2 dL_act_293
    · replace hsp := (if_pos c_265).symm.trans hsp
      refine lv_aload_n hx hb dL_act_268 rfl (lv_at hl 3 rfl) ?_
      refine va_calli (va_runV (As := []) (rest := []) ⟨hx, hb, hml, hown, hts⟩ (cl_save l D Z k sz a σ) (cwV 0 hts gL_act_X7_save rfl rfl rfl (by decide +kernel) ⟨Nat.le_of_ble_eq_true rfl, Nat.le_of_ble_eq_true rfl⟩) (ft_preL hE hz hS hP) rfl rfl hl.1 rfl (lv_room (Nat.le_of_ble_eq_true rfl)) dL_act_269 ⟨Nat.le_of_ble_eq_true rfl, Nat.le_of_ble_eq_true rfl⟩) hS (fun _ _ h => h) (fun _ h => h) (fun z u t H1 locs1 ht hvm hw hB hz1 hk1 hS1 => ?_)
      obtain ⟨rfl, rfl⟩ : z = (l_save σ).1 ∧ u = (l_save σ).2 := ⟨congrArg Prod.fst hw, congrArg Prod.snd hw⟩
      rw [ht] at hB
      have hP := hB
      have hS := hS1
      clear hS1
      generalize H1 = H at hP hS ⊢
      refine W.widen (k := 0) (n := 0) (by omega) (by omega) ?_
      have hJ_269_43 : J (l_save σ).2 := hJ.k_save _ h0
      refine lv_goto (tgt := 293) hx hb dL_act_272 (by decide) ?_
      refine W.widen (k := 26) (n := 3756) (by omega) (by omega) ?_
      exact W.iret (v := (l_save σ).1) hx hb hr (fun t ht hW => ⟨⟨(l_save σ).1, (l_save σ).2, rfl, ⟨hsp, hJ_269_43⟩, by show ft_LW D k Z sz a _ t.heap; rw [ht]; exact hP⟩, hS.F ht⟩) hS.2.2 dL_act_293
