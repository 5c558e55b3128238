def ft_QR (J : Nat → ft_Sg → Prop) (D : va_G) (k : Nat → ClassId) (Z : Nat → Nat → Nat) (sz : ft_SZ) (a : Nat) (n : Nat) (R : Int32 → ft_Sg → Prop) : Array Value → State → Outcome → State → Prop := va_Qi (fun (z : Int32) (u : ft_Sg) => R z u ∧ J n u) (fun u t => ft_LW D k Z sz a u t.heap) (ft_AL sz)
def ft_QRr (J : Nat → ft_Sg → Prop) (D : va_G) (k : Nat → ClassId) (Z : Nat → Nat → Nat) (sz : ft_SZ) (a : Nat) (n : Nat) (R : ft_Sg → Prop) : Array Value → State → Outcome → State → Prop := va_Qr (fun (u : ft_Sg) => R u ∧ J n u) (fun u b t => b = a ∧ ft_LW D k Z sz a u t.heap) (ft_AL sz)
/-- what looks and texts leave as it was; what puts leave; what every change leaves: the snapshot -/
def ft_zm (σ u : ft_Sg) : Prop := u.1 = σ.1 ∧ u.2.1 = σ.2.1 ∧ u.2.2.1 0 = σ.2.2.1 0 ∧ u.2.2.1 2 = σ.2.2.1 2 ∧ u.2.2.1 3 = σ.2.2.1 3 ∧ u.2.2.1 6 = σ.2.2.1 6
def ft_zp (σ u : ft_Sg) : Prop := u.1 = σ.1 ∧ u.2.1 = σ.2.1 ∧ u.2.2.1 0 = σ.2.2.1 0 ∧ u.2.2.1 2 = σ.2.2.1 2 ∧ u.2.2.1 3 = σ.2.2.1 3
def ft_zv (σ u : ft_Sg) : Prop := u.1 2 = σ.1 2 ∧ u.2.2.1 0 = σ.2.2.1 0
theorem ft_zm.rf {σ : ft_Sg} : ft_zm σ σ := ⟨rfl, rfl, rfl, rfl, rfl, rfl⟩
theorem ft_zm.tr {σ u v : ft_Sg} (h : ft_zm σ u) (g : ft_zm u v) : ft_zm σ v := ⟨g.1.trans h.1, g.2.1.trans h.2.1, g.2.2.1.trans h.2.2.1, g.2.2.2.1.trans h.2.2.2.1, g.2.2.2.2.1.trans h.2.2.2.2.1, g.2.2.2.2.2.trans h.2.2.2.2.2⟩
theorem ft_zm.row {σ u : ft_Sg} (h : ft_zm σ u) : u.1 0 = σ.1 0 := congrFun h.1 0
theorem ft_zm.v {σ u : ft_Sg} (h : ft_zm σ u) : ft_zv σ u := ⟨congrFun h.1 2, h.2.2.1⟩
theorem ft_zp.rf {σ : ft_Sg} : ft_zp σ σ := ⟨rfl, rfl, rfl, rfl, rfl⟩
theorem ft_zp.tr {σ u v : ft_Sg} (h : ft_zp σ u) (g : ft_zp u v) : ft_zp σ v := ⟨g.1.trans h.1, g.2.1.trans h.2.1, g.2.2.1.trans h.2.2.1, g.2.2.2.1.trans h.2.2.2.1, g.2.2.2.2.trans h.2.2.2.2⟩
theorem ft_zp.row {σ u : ft_Sg} (h : ft_zp σ u) : u.1 0 = σ.1 0 := congrFun h.1 0
theorem ft_zp.v {σ u : ft_Sg} (h : ft_zp σ u) : ft_zv σ u := ⟨congrFun h.1 2, h.2.2.1⟩
theorem ft_zv.rf {σ : ft_Sg} : ft_zv σ σ := ⟨rfl, rfl⟩
theorem ft_zv.tr {σ u v : ft_Sg} (h : ft_zv σ u) (g : ft_zv u v) : ft_zv σ v := ⟨g.1.trans h.1, g.2.trans h.2⟩
/-- taking back gives the row r -/
def ft_U (r : Nat → Int32) (σ : ft_Sg) : Prop := ¬ (w_undo σ).1 < 0 ∧ (w_undo σ).2.1 0 = r
def ft_up (f : Int32 → Int32) (z : Int32) : Nat → Int32
  | 0 => z
  | n + 1 => ft_up f z n + f (nI n)
def ft_dn (f : Int32 → Int32) (z : Int32) : Nat → Int32
  | 0 => z
  | n + 1 => ft_dn f z n - f (nI n)
abbrev ft_td (r : Nat → Int32) : Int32 := (l_day (ft_nr r)) - (l_day (ft_nr r)) / 7 * 7
def ft_sg (r : Nat → Int32) (p x : Int32) : Int32 := if w_truckAt (ft_nr r) p x = -1000 then 45 else ((48 + (w_truckAt (ft_nr r) p x)).toUInt32 % 65536).toInt32
def ft_mi (r : Nat → Int32) (x : Int32) : Int32 → Int32 := fun p => if w_truckAt (ft_nr r) p x = -1000 then 0 else 1
theorem ft_sg_p {r : Nat → Int32} {p x : Int32} (h : w_truckAt (ft_nr r) p x = -1000) : ft_sg r p x = 45 := if_pos h
theorem ft_sg_n {r : Nat → Int32} {p x : Int32} (h : ¬ w_truckAt (ft_nr r) p x = -1000) : ft_sg r p x = ((48 + (w_truckAt (ft_nr r) p x)).toUInt32 % 65536).toInt32 := if_neg h
theorem ft_mi_p {r : Nat → Int32} {p x : Int32} (h : w_truckAt (ft_nr r) p x = -1000) : ft_mi r x p = 0 := if_pos h
theorem ft_mi_n {r : Nat → Int32} {p x : Int32} (h : ¬ w_truckAt (ft_nr r) p x = -1000) : ft_mi r x p = 1 := if_neg h
def ft_mn (r : Nat → Int32) : Nat → Int32
  | 0 => 0
  | w + 1 => ft_up (ft_mi r (nI w)) (ft_mn r w) 5
def ft_pz (r : Nat → Int32) (m : Int32) : Int32 := (s_X4_passMinutes r m).1
def ft_pr (r : Nat → Int32) (m : Int32) : Nat → Int32 := (s_X4_passMinutes r m).2
def ft_rl (r : Nat → Int32) (p x : Int32) : Nat → Int32 := (s_X4_carryOut 6 r p x 0).2
abbrev ft_wd (r : Nat → Int32) (y : Int32) : Int32 → Int32 := fun z => (p_wantedDish (ft_nr r) y z) + 1
theorem ft_step6 {v bnd : Int32} {i : Nat} (hi : v = nI i) (hm : i ≤ tn (6 : Int32)) (h : ¬ bnd ≤ v) (hb : tn bnd ≤ 6) : i + 1 ≤ tn bnd ∧ i + 1 ≤ tn (6 : Int32) := by
  have h6 : tn (6 : Int32) = 6 := rfl
  have h1 := ft_nle h
  rw [hi, Int32.lt_iff_toInt_lt, nI_toInt (show i < 2 ^ 31 by omega)] at h1
  have h2 : tn bnd = bnd.toInt.toNat := rfl
  omega
theorem ft_ok1c {o : Nat → Int32} {g : ft_G} (h : ft_ok261 o g 70) : o 7 ≤ nI g.2.1.1 ∧ g.2.1.1 < 2 ^ 31 := by
  obtain ⟨⟨c, h1, h2, h3⟩, h4, -⟩ := h
  have h5 : g.2.1.1 < 2 ^ 31 := by omega
  exact ⟨by rw [h2, nI_leI (by omega) h5]; exact h3, h5⟩
theorem ft_pred {y : Int32} {i : Nat} (hi : y = nI i) (h : 1 ≤ i) : y - 1 = nI (i - 1) := by
  rw [hi]
  obtain ⟨j, rfl⟩ : ∃ j, i = j + 1 := ⟨i - 1, by omega⟩
  rw [Nat.add_sub_cancel, ← nI_1]
  exact Int32.add_sub_cancel _ _
theorem ft_tcell {ty : FieldType} {t N : Nat} {f : Nat → Value} {A : Nat → Prop} {s : State} {H : Heap} {locs : List Loc} (hT : va_T ty t N f A s s.heap) (hS : va_S A s.heap H locs) {i : Int32} (hin : vp_in i N) : ∃ cell : Cell, H[t]? = some cell ∧ s.isArrayOf cell ty ∧ cell.vm ≠ .unknown ∧ ¬ (i < 0 ∨ cell.slots.size ≤ i.toNatClampNeg) ∧ cell.slots[i.toNatClampNeg]? = some (f i.toNatClampNeg) := by
  obtain ⟨cell, h1, h2, h3, h4, h5, h6, h7⟩ := hT
  have hlt : i.toNatClampNeg < N := Nat.not_le.mp fun q => hin (Or.inr q)
  refine ⟨cell, by rw [hS.2.1 t (Array.getElem?_eq_some_iff.mp h1).1 h7]; exact h1, h2, h3, ?_, h6 _ hlt⟩
  intro q
  rcases q with q | q
  · exact hin (Or.inl q)
  · omega
theorem ft_y28 (x : Int32) : vp_in ((x &&& 65535) - (x &&& 65535) / 28 * 28) 28 := by
  obtain ⟨j, h1, h2⟩ := pk_andE x (m := 65535) 16 (by decide)
  refine pk_in (j % 28) 28 (Nat.mod_lt _ (by decide)) ?_
  rw [h2]
  exact pk_rem (a := j) (d := 28) (by omega) (by decide) (by decide)
theorem ft_scl : ∀ j, j < 28 → ft_scn.getD j 0 ≤ 25 := by decide
theorem ft_tb3 {j : Nat} (hj : j < 28) : ft_scn.getD j 0 < 2 ^ 31 := Nat.lt_of_le_of_lt (ft_scl j hj) (by decide)
theorem ft_tbn {j : Nat} (hj : j < 28) : tn (nI (ft_scn.getD j 0)) = ft_scn.getD j 0 := nI_clamp (ft_tb3 hj)
theorem ft_tb25 {j : Nat} (hj : j < 28) : tn (nI (ft_scn.getD j 0)) ≤ 25 := by rw [ft_tbn hj]; exact ft_scl j hj
theorem ft_tb2 {j i : Nat} {y : Int32} (hj : j < 28) (hi : y = nI i) (h : i + 1 ≤ tn (nI (ft_scn.getD j 0))) : y = nI (tn y) ∧ tn y < ft_scn.getD j 0 := by
  rw [ft_tbn hj] at h
  have h3 := ft_tb3 hj
  have e : tn y = i := by rw [hi]; exact nI_clamp (show i < 2 ^ 31 by omega)
  rw [e]
  exact ⟨hi, by omega⟩
theorem ft_tb4 {j i : Nat} {y : Int32} (hj : j < 28) (hi : y = nI i) (h : i + 1 ≤ tn (nI (ft_scn.getD j 0))) : tn y = i := by
  rw [ft_tbn hj] at h
  have h3 := ft_tb3 hj
  rw [hi]; exact nI_clamp (show i < 2 ^ 31 by omega)
theorem ft_scb : ∀ j, j < 28 → ∀ i, i < ft_scn.getD j 0 → 32 ≤ ft_ch ((ft_scy.getD j []).getD i 0) ∧ ft_ch ((ft_scy.getD j []).getD i 0) ≤ 126 := by decide +kernel
def p_servedWithin (σ : ft_Sg) (x1 : Int32) : Int32 := match (l_servedWithin σ x1).1 with
  | .ok z => z
  | .error _ => 0
def p_renderDay (σ : ft_Sg) (x1 : Int32) : Int32 := match (l_renderDay σ x1).1 with
  | .ok z => z
  | .error _ => 0
def p_renderTruck (σ : ft_Sg) (x1 : Int32) : Int32 := match (l_renderTruck σ x1).1 with
  | .ok z => z
  | .error _ => 0
def ft_JJ0 (J : Nat → ft_Sg → Prop) (G : (Nat → Int32) → Prop) (T : Nat → Nat → ft_Sg → Prop) : Prop := (∀ {c d : Nat} {σ : ft_Sg}, J c σ → c ≤ d → J d σ) ∧
  (∀ {c : Nat} {σ : ft_Sg} {r : Nat → Int32}, J c σ → c ≤ 1000 → σ.1 0 = r → G r) ∧
  (∀ {c : Nat} {σ : ft_Sg}, J c σ → ∀ i, i < 8 → σ.2.1 i < 8) ∧
  (∀ {c : Nat} {σ : ft_Sg}, J c σ → ft_ok259 σ.2.2.1 σ.2.2.2 60) ∧
  (∀ {c : Nat} {σ : ft_Sg}, J c σ → ft_ok261 σ.2.2.1 σ.2.2.2 70) ∧
  (∀ {c : Nat} {σ : ft_Sg}, J c σ → ∀ n, n < 15 → σ.2.2.2.2.2.1 n < 9) ∧
  (∀ {c : Nat} {σ : ft_Sg}, J c σ → c ≤ 1000 → ∀ E, (l_addTruck σ ).1 = .error E → E ∈ ["java/lang/IllegalStateException"]) ∧
  (∀ {c : Nat} {σ : ft_Sg}, J c σ → c + 0 ≤ 1000 → J (c + 0) (w_addTruck σ ).2) ∧
  (∀ {c : Nat} {σ : ft_Sg}, J c σ → c ≤ 1000 → (w_addTruck σ ).1 = -100000000 → (w_addTruck σ ).2.1 0 = σ.1 0) ∧
  (∀ {c : Nat} {σ : ft_Sg}, J c σ → ft_zv σ (w_addTruck σ ).2) ∧
  (∀ {c : Nat} {σ : ft_Sg}, ∀ (x1 x2 x3 : Int32), J c σ → c ≤ 1000 → ∀ E, (l_addStock σ x1 x2 x3).1 = .error E → E ∈ ["java/lang/IndexOutOfBoundsException", "java/lang/IllegalArgumentException", "java/lang/IllegalStateException"]) ∧
  (∀ {c : Nat} {σ : ft_Sg}, ∀ (x1 x2 x3 : Int32), J c σ → c + 0 ≤ 1000 → J (c + 0) (w_addStock σ x1 x2 x3).2) ∧
  (∀ {c : Nat} {σ : ft_Sg}, ∀ (x1 x2 x3 : Int32), J c σ → c ≤ 1000 → (w_addStock σ x1 x2 x3).1 = -100000000 → (w_addStock σ x1 x2 x3).2.1 0 = σ.1 0) ∧
  (∀ {c : Nat} {σ : ft_Sg}, ∀ (x1 x2 x3 : Int32), J c σ → ft_zv σ (w_addStock σ x1 x2 x3).2) ∧
  (∀ {c : Nat} {σ : ft_Sg}, ∀ (x1 x2 : Int32), J c σ → c ≤ 1000 → ∀ E, (l_setPrice σ x1 x2).1 = .error E → E ∈ ["java/lang/IndexOutOfBoundsException", "java/lang/IllegalArgumentException"]) ∧
  (∀ {c : Nat} {σ : ft_Sg}, ∀ (x1 x2 : Int32), J c σ → c + 0 ≤ 1000 → J (c + 0) (w_setPrice σ x1 x2).2)
def ft_JJ1 (J : Nat → ft_Sg → Prop) (G : (Nat → Int32) → Prop) (T : Nat → Nat → ft_Sg → Prop) : Prop := (∀ {c : Nat} {σ : ft_Sg}, ∀ (x1 x2 : Int32), J c σ → c ≤ 1000 → (w_setPrice σ x1 x2).1 = -100000000 → (w_setPrice σ x1 x2).2.1 0 = σ.1 0) ∧
  (∀ {c : Nat} {σ : ft_Sg}, ∀ (x1 x2 : Int32), J c σ → ft_zv σ (w_setPrice σ x1 x2).2) ∧
  (∀ {c : Nat} {σ : ft_Sg}, ∀ (x1 x2 : Int32), J c σ → c ≤ 1000 → ∀ E, (l_grantPermit σ x1 x2).1 = .error E → E ∈ ["java/lang/IndexOutOfBoundsException", "java/lang/IllegalArgumentException", "java/lang/IllegalStateException"]) ∧
  (∀ {c : Nat} {σ : ft_Sg}, ∀ (x1 x2 : Int32), J c σ → c + 0 ≤ 1000 → J (c + 0) (w_grantPermit σ x1 x2).2) ∧
  (∀ {c : Nat} {σ : ft_Sg}, ∀ (x1 x2 : Int32), J c σ → c ≤ 1000 → (w_grantPermit σ x1 x2).1 = -100000000 → (w_grantPermit σ x1 x2).2.1 0 = σ.1 0) ∧
  (∀ {c : Nat} {σ : ft_Sg}, ∀ (x1 x2 : Int32), J c σ → ft_zv σ (w_grantPermit σ x1 x2).2) ∧
  (∀ {c : Nat} {σ : ft_Sg}, ∀ (x1 x2 : Int32), J c σ → c ≤ 1000 → ∀ E, (l_revokePermit σ x1 x2).1 = .error E → E ∈ ["java/lang/IndexOutOfBoundsException", "java/lang/IllegalArgumentException", "java/lang/IllegalStateException"]) ∧
  (∀ {c : Nat} {σ : ft_Sg}, ∀ (x1 x2 : Int32), J c σ → c + 0 ≤ 1000 → J (c + 0) (w_revokePermit σ x1 x2).2) ∧
  (∀ {c : Nat} {σ : ft_Sg}, ∀ (x1 x2 : Int32), J c σ → c ≤ 1000 → (w_revokePermit σ x1 x2).1 = -100000000 → (w_revokePermit σ x1 x2).2.1 0 = σ.1 0) ∧
  (∀ {c : Nat} {σ : ft_Sg}, ∀ (x1 x2 : Int32), J c σ → ft_zv σ (w_revokePermit σ x1 x2).2) ∧
  (∀ {c : Nat} {σ : ft_Sg}, ∀ (x1 x2 x3 : Int32), J c σ → c ≤ 1000 → ∀ E, (l_assign σ x1 x2 x3).1 = .error E → E ∈ ["java/lang/IndexOutOfBoundsException", "java/lang/IllegalArgumentException", "java/lang/UnsupportedOperationException", "java/lang/IllegalStateException"]) ∧
  (∀ {c : Nat} {σ : ft_Sg}, ∀ (x1 x2 x3 : Int32), J c σ → c + 0 ≤ 1000 → J (c + 0) (w_assign σ x1 x2 x3).2) ∧
  (∀ {c : Nat} {σ : ft_Sg}, ∀ (x1 x2 x3 : Int32), J c σ → c ≤ 1000 → (w_assign σ x1 x2 x3).1 = -100000000 → (w_assign σ x1 x2 x3).2.1 0 = σ.1 0) ∧
  (∀ {c : Nat} {σ : ft_Sg}, ∀ (x1 x2 x3 : Int32), J c σ → ft_zv σ (w_assign σ x1 x2 x3).2) ∧
  (∀ {c : Nat} {σ : ft_Sg}, ∀ (x1 x2 : Int32), J c σ → c ≤ 1000 → ∀ E, (l_release σ x1 x2).1 = .error E → E ∈ ["java/lang/IndexOutOfBoundsException", "java/lang/IllegalArgumentException", "java/util/NoSuchElementException"]) ∧
  (∀ {c : Nat} {σ : ft_Sg}, ∀ (x1 x2 : Int32), J c σ → c + 0 ≤ 1000 → J (c + 0) (w_release σ x1 x2).2)
def ft_JJ2 (J : Nat → ft_Sg → Prop) (G : (Nat → Int32) → Prop) (T : Nat → Nat → ft_Sg → Prop) : Prop := (∀ {c : Nat} {σ : ft_Sg}, ∀ (x1 x2 : Int32), J c σ → c ≤ 1000 → (w_release σ x1 x2).1 = -100000000 → (w_release σ x1 x2).2.1 0 = σ.1 0) ∧
  (∀ {c : Nat} {σ : ft_Sg}, ∀ (x1 x2 : Int32), J c σ → ft_zv σ (w_release σ x1 x2).2) ∧
  (∀ {c : Nat} {σ : ft_Sg}, ∀ (x1 : Int32), J c σ → c ≤ 1000 → ∀ E, (l_setWeather σ x1).1 = .error E → E ∈ ["java/lang/IllegalArgumentException"]) ∧
  (∀ {c : Nat} {σ : ft_Sg}, ∀ (x1 : Int32), J c σ → c + 0 ≤ 1000 → J (c + 0) (w_setWeather σ x1).2) ∧
  (∀ {c : Nat} {σ : ft_Sg}, ∀ (x1 : Int32), J c σ → c ≤ 1000 → (w_setWeather σ x1).1 = -100000000 → (w_setWeather σ x1).2.1 0 = σ.1 0) ∧
  (∀ {c : Nat} {σ : ft_Sg}, ∀ (x1 : Int32), J c σ → ft_zv σ (w_setWeather σ x1).2) ∧
  (∀ {c : Nat} {σ : ft_Sg}, ∀ (x1 : Int32), J c σ → c ≤ 1000 → ∀ E, (l_advance σ x1).1 = .error E → E ∈ ["java/lang/IllegalArgumentException"]) ∧
  (∀ {c : Nat} {σ : ft_Sg}, ∀ (x1 : Int32), J c σ → c + 1 ≤ 1000 → J (c + 1) (w_advance σ x1).2) ∧
  (∀ {c : Nat} {σ : ft_Sg}, ∀ (x1 : Int32), J c σ → c ≤ 1000 → (w_advance σ x1).1 = -100000000 → (w_advance σ x1).2.1 0 = σ.1 0) ∧
  (∀ {c : Nat} {σ : ft_Sg}, ∀ (x1 : Int32), J c σ → ft_zv σ (w_advance σ x1).2) ∧
  (∀ {c : Nat} {σ : ft_Sg}, J c σ → c ≤ 1000 → ∀ E, (l_runScript σ ).1 = .error E → E ∈ ["java/lang/IllegalArgumentException", "java/lang/IllegalStateException"]) ∧
  (∀ {c : Nat} {σ : ft_Sg}, J c σ → c + 1 ≤ 1000 → J (c + 1) (w_runScript σ ).2) ∧
  (∀ {c : Nat} {σ : ft_Sg}, J c σ → c ≤ 1000 → (w_runScript σ ).1 = -100000000 → (w_runScript σ ).2.1 0 = σ.1 0) ∧
  (∀ {c : Nat} {σ : ft_Sg}, J c σ → ft_zv σ (w_runScript σ ).2) ∧
  (∀ {c : Nat} {σ : ft_Sg}, J c σ → c ≤ 1000 → ∀ E, (l_undo σ ).1 = .error E → E ∈ ["java/util/NoSuchElementException"]) ∧
  (∀ {c : Nat} {σ : ft_Sg}, J c σ → c + 0 ≤ 1000 → J (c + 0) (w_undo σ ).2)
def ft_JJ3 (J : Nat → ft_Sg → Prop) (G : (Nat → Int32) → Prop) (T : Nat → Nat → ft_Sg → Prop) : Prop := (∀ {c : Nat} {σ : ft_Sg}, J c σ → c ≤ 1000 → (w_undo σ ).1 = -100000000 → (w_undo σ ).2.1 0 = σ.1 0) ∧
  (∀ {c : Nat} {σ : ft_Sg}, J c σ → ft_zv σ (w_undo σ ).2) ∧
  (∀ {c : Nat} {σ : ft_Sg}, J c σ → c ≤ 1000 → ∀ E, (l_restore σ ).1 = .error E → E ∈ ["java/lang/IllegalStateException"]) ∧
  (∀ {c : Nat} {σ : ft_Sg}, J c σ → c + 0 ≤ 1000 → J (c + 0) (w_restore σ ).2) ∧
  (∀ {c : Nat} {σ : ft_Sg}, J c σ → c ≤ 1000 → (w_restore σ ).1 = -100000000 → (w_restore σ ).2.1 0 = σ.1 0) ∧
  (∀ {c : Nat} {σ : ft_Sg}, ∀ (x1 : Int32), 32 ≤ x1 → x1 ≤ 126 → J c σ → c ≤ 1000 → ∀ E, (l_type σ x1).1 = .error E → E ∈ ["java/lang/IllegalStateException"]) ∧
  (∀ {c : Nat} {σ : ft_Sg}, ∀ (x1 : Int32), 32 ≤ x1 → x1 ≤ 126 → J c σ → c + 0 ≤ 1000 → J (c + 0) (w_put σ x1).2) ∧
  (∀ {c : Nat} {σ : ft_Sg}, J c σ → c + 0 ≤ 1000 → J (c + 0) (l_save σ ).2) ∧
  (∀ {σ : ft_Sg}, (l_save σ ).2.1 0 = σ.1 0) ∧
  (∀ {c : Nat} {σ : ft_Sg}, ∀ (x1 : Int32), J c σ → c + 1 ≤ 1000 → J (c + 1) (l_servedWithin σ x1).2) ∧
  (∀ {σ : ft_Sg}, ∀ (x1 : Int32), (l_servedWithin σ x1).2.1 0 = σ.1 0) ∧
  (∀ {c : Nat} {σ : ft_Sg}, ∀ (x1 : Int32), J c σ → c + 0 ≤ 1000 → J (c + 0) (l_renderDay σ x1).2) ∧
  (∀ {σ : ft_Sg}, ∀ (x1 : Int32), (l_renderDay σ x1).2.1 0 = σ.1 0) ∧
  (∀ {c : Nat} {σ : ft_Sg}, ∀ (x1 : Int32), J c σ → c + 0 ≤ 1000 → J (c + 0) (l_renderTruck σ x1).2) ∧
  (∀ {σ : ft_Sg}, ∀ (x1 : Int32), (l_renderTruck σ x1).2.1 0 = σ.1 0) ∧
  (∀ {σ : ft_Sg} (x : Int32), ft_zm σ (l_renderDay σ x).2)
def ft_JJ4 (J : Nat → ft_Sg → Prop) (G : (Nat → Int32) → Prop) (T : Nat → Nat → ft_Sg → Prop) : Prop := (∀ {σ : ft_Sg} (x : Int32), ft_zm σ (l_renderTruck σ x).2) ∧
  (∀ {σ : ft_Sg} (x : Int32), ft_zp σ (w_put σ x).2) ∧
  (∀ {σ : ft_Sg} (x : Int32), ft_zv σ (l_servedWithin σ x).2) ∧
  (∀ {r : Nat → Int32}, G r → tn (l_truckCount (ft_nr r)) ≤ 6) ∧
  (∀ {r : Nat → Int32}, G r → ∀ (y : Int32) (i : Nat), y = nI i → i + 1 ≤ tn (l_truckCount (ft_nr r)) → ¬ s_X4_isTruck r y = 0) ∧
  (∀ {r : Nat → Int32}, G r → ∀ (y : Int32) (i : Nat), y = nI i → i + 1 ≤ tn (l_truckCount (ft_nr r)) → tn (p_queueLength (ft_nr r) y) ≤ 9) ∧
  (∀ {r : Nat → Int32}, G r → ∀ (y z : Int32) (i j : Nat), y = nI i → i + 1 ≤ tn (l_truckCount (ft_nr r)) → z = nI j → j + 1 ≤ tn (p_queueLength (ft_nr r) y) → ¬ s_X6_wishAt r (51 + 17 * tn y) z = -1) ∧
  (∀ {c : Nat} {σ : ft_Sg}, J c σ → c ≤ 1000 → ∀ x : Int32, ¬ s_X7_isWeekday x = 0 → (l_renderDay σ x).1 = .ok 5) ∧
  (∀ {c : Nat} {σ : ft_Sg}, J c σ → c ≤ 1000 → ∀ (x y : Int32), s_X4_holderOf (σ.1 0) y x = -1 ∨ (¬ s_X4_holderOf (σ.1 0) y x < 0 ∧ tn (s_X4_holderOf (σ.1 0) y x) < 10)) ∧
  (∀ {r : Nat → Int32}, G r → ∀ x : Int32, ¬ s_X7_isWeekday x = 0 → w_firstFreePitch (ft_nr r) x = s_L_freeOn r x) ∧
  (∀ {c : Nat} {σ : ft_Sg} {r : Nat → Int32}, J c σ → c ≤ 1000 → σ.1 0 = r → ∀ (x p : Int32) (i : Nat), ¬ s_X7_isWeekday x = 0 → p = nI i → i + 1 ≤ 5 → l_outputAt (l_renderDay σ x).2 p = .ok (ft_sg r p x)) ∧
  (∀ {r : Nat → Int32}, G r → ∀ (x p : Int32) (i : Nat), ¬ s_X7_isWeekday x = 0 → p = nI i → i + 1 ≤ 5 → ¬ w_truckAt (ft_nr r) p x = -1000 → l_pitchOf (ft_nr r) (w_truckAt (ft_nr r) p x) x = .ok p) ∧
  (∀ {r : Nat → Int32}, G r → ∀ (x p : Int32) (i : Nat), ¬ s_X7_isWeekday x = 0 → p = nI i → i + 1 ≤ 5 → ¬ w_truckAt (ft_nr r) p x = -1000 → l_hasPermit (ft_nr r) (w_truckAt (ft_nr r) p x) x = .ok 1) ∧
  (∀ {r : Nat → Int32}, G r → l_assignments (ft_nr r) = ft_mn r 7) ∧
  (∀ {r : Nat → Int32}, G r → l_assignmentsByTrucks (ft_nr r) = ft_mn r 7) ∧
  (∀ {r : Nat → Int32}, G r → l_isConsistent (ft_nr r) = 1)
def ft_JJ5 (J : Nat → ft_Sg → Prop) (G : (Nat → Int32) → Prop) (T : Nat → Nat → ft_Sg → Prop) : Prop := (∀ {r : Nat → Int32}, G r → ∀ (y : Int32) (i : Nat), y = nI i → i + 1 ≤ tn (l_truckCount (ft_nr r)) → ¬ s_X4_isTruck r (w_truckByCoins (ft_nr r) y) = 0) ∧
  (∀ {r : Nat → Int32}, G r → ∀ (y : Int32) (i : Nat), y = nI i → 1 ≤ i → i + 1 ≤ tn (l_truckCount (ft_nr r)) → 0 < (p_coins (ft_nr r) (w_truckByCoins (ft_nr r) (y - 1))) - (p_coins (ft_nr r) (w_truckByCoins (ft_nr r) y)) ∨ ((p_coins (ft_nr r) (w_truckByCoins (ft_nr r) (y - 1))) - (p_coins (ft_nr r) (w_truckByCoins (ft_nr r) y)) = 0 ∧ (0 < (s_L_stocks r (w_truckByCoins (ft_nr r) (y - 1))) - (s_L_stocks r (w_truckByCoins (ft_nr r) y)) ∨ ((s_L_stocks r (w_truckByCoins (ft_nr r) (y - 1))) - (s_L_stocks r (w_truckByCoins (ft_nr r) y)) = 0 ∧ w_truckByCoins (ft_nr r) (y - 1) < w_truckByCoins (ft_nr r) y)))) ∧
  (∀ {r : Nat → Int32}, G r → w_truckByCoins (ft_nr r) (l_truckCount (ft_nr r)) = -1000) ∧
  (∀ {r : Nat → Int32}, G r → w_truckByCoins (ft_nr r) (-1) = -1000) ∧
  (∀ {r : Nat → Int32}, G r → ∀ (y : Int32) (i : Nat), y = nI i → i + 1 ≤ tn (l_truckCount (ft_nr r)) → ¬ p_minutesLeft (ft_nr r) y = 0 → ¬ s_X6_wishAt r (51 + 17 * tn y) 0 = -1) ∧
  (∀ {r : Nat → Int32}, G r → ∀ (y : Int32) (i : Nat), y = nI i → i + 1 ≤ tn (l_truckCount (ft_nr r)) → p_minutesLeft (ft_nr r) y = 0 → p_queueTime (ft_nr r) y = ft_up (ft_wd r y) 0 (tn (p_queueLength (ft_nr r) y)) - 0) ∧
  (∀ {r : Nat → Int32}, G r → ∀ (y : Int32) (i : Nat), y = nI i → i + 1 ≤ tn (l_truckCount (ft_nr r)) → ¬ p_minutesLeft (ft_nr r) y = 0 → p_queueTime (ft_nr r) y = ft_up (ft_wd r y) 0 (tn (p_queueLength (ft_nr r) y)) - (((p_wantedDish (ft_nr r) y 0) + 1) - (p_minutesLeft (ft_nr r) y))) ∧
  (∀ {r : Nat → Int32}, G r → ∀ (y : Int32) (i : Nat), y = nI i → i + 1 ≤ tn (l_truckCount (ft_nr r)) → ¬ p_minutesLeft (ft_nr r) y = 0 → ¬ ((p_wantedDish (ft_nr r) y 0) + 1) - (p_minutesLeft (ft_nr r) y) < 0) ∧
  (∀ {r : Nat → Int32}, G r → ∀ (y : Int32) (i : Nat), y = nI i → i + 1 ≤ tn (l_truckCount (ft_nr r)) → ¬ 9 < p_queueLength (ft_nr r) y) ∧
  (∀ {r : Nat → Int32}, G r → ∀ (y : Int32) (i : Nat), y = nI i → i + 1 ≤ tn (l_truckCount (ft_nr r)) → w_pitchOf (ft_nr r) y (ft_td r) = -1000 → p_isOpen (ft_nr r) y = 0 ∧ p_queueLength (ft_nr r) y = 0 ∧ p_minutesLeft (ft_nr r) y = 0) ∧
  (∀ {r : Nat → Int32}, G r → ∀ (y : Int32) (i : Nat), y = nI i → i + 1 ≤ tn (l_truckCount (ft_nr r)) → ¬ w_pitchOf (ft_nr r) y (ft_td r) = -1000 → p_isOpen (ft_nr r) y = 1) ∧
  (∀ {r : Nat → Int32}, G r → ∀ (y : Int32) (i : Nat), y = nI i → i + 1 ≤ tn (l_truckCount (ft_nr r)) → w_wantedDish (ft_nr r) y (p_queueLength (ft_nr r) y) = -1000) ∧
  (∀ {r : Nat → Int32}, G r → ∀ (y : Int32) (i : Nat), y = nI i → i + 1 ≤ tn (l_truckCount (ft_nr r)) → w_firstFreeDay (ft_nr r) y = s_L_firstOf r y) ∧
  (∀ {r : Nat → Int32}, G r → ft_up (fun y => p_soldPortions (ft_nr r) y) 0 4 = l_servedTotal (ft_nr r)) ∧
  (∀ {r : Nat → Int32}, G r → l_arrivedTotal (ft_nr r) = (((l_servedTotal (ft_nr r)) + (l_disappointedTotal (ft_nr r))) + (l_lostTotal (ft_nr r))) + (ft_up (fun y => p_queueLength (ft_nr r) y) 0 (tn (l_truckCount (ft_nr r))))) ∧
  (∀ {r : Nat → Int32}, G r → l_truckCount (ft_nr r) = 0 → Op.cmpValue (FP.dcmp (w_meanCoins (ft_nr r)) 13830554455654793216) .l = 0)
def ft_JJ6 (J : Nat → ft_Sg → Prop) (G : (Nat → Int32) → Prop) (T : Nat → Nat → ft_Sg → Prop) : Prop := (∀ {r : Nat → Int32}, G r → ¬ l_truckCount (ft_nr r) = 0 → vf_n64 (FP.ddiv (FP.i2d (ft_up (fun y => p_coins (ft_nr r) y) 0 (tn (l_truckCount (ft_nr r))))) (FP.i2d (l_truckCount (ft_nr r)))) ∧ Op.cmpValue (FP.dcmp (w_meanCoins (ft_nr r)) (FP.ddiv (FP.i2d (ft_up (fun y => p_coins (ft_nr r) y) 0 (tn (l_truckCount (ft_nr r))))) (FP.i2d (l_truckCount (ft_nr r))))) .l = 0) ∧
  (∀ {r : Nat → Int32}, G r → ¬ r 0 = 0 → vf_n64 (FP.ddiv (FP.i2d (s_X4_sumOfCoins r)) (FP.i2d (r 0)))) ∧
  (∀ {r : Nat → Int32}, G r → l_arrivedTotal (ft_nr r) = 0 → Op.cmpValue (FP.fcmp (w_servedShare (ft_nr r)) 3212836864) .l = 0) ∧
  (∀ {r : Nat → Int32}, G r → ¬ l_arrivedTotal (ft_nr r) = 0 → vf_n32 (FP.fdiv (FP.i2f (l_servedTotal (ft_nr r))) (FP.i2f (l_arrivedTotal (ft_nr r)))) ∧ Op.cmpValue (FP.fcmp (w_servedShare (ft_nr r)) (FP.fdiv (FP.i2f (l_servedTotal (ft_nr r))) (FP.i2f (l_arrivedTotal (ft_nr r))))) .l = 0) ∧
  (∀ {r : Nat → Int32}, G r → ¬ r 4 = 0 → vf_n32 (FP.fdiv (FP.i2f (r 5)) (FP.i2f (r 4)))) ∧
  (∀ {c : Nat} {σ : ft_Sg} {r : Nat → Int32}, J c σ → c ≤ 1000 → σ.1 0 = r → ∀ (y : Int32) (i : Nat), y = nI i → i + 1 ≤ tn (l_truckCount (ft_nr r)) → tn y < 10 ∧ (∀ z : Int32, ¬ s_X6_portionsOf (σ.1 0) (51 + 17 * tn y) z < 0 ∧ tn (s_X6_portionsOf (σ.1 0) (51 + 17 * tn y) z) < 1000) ∧ ¬ σ.1 0 (51 + 17 * tn y + 0) < 0 ∧ (s_X4_pitchToday (σ.1 0) y = -1 ∨ (¬ s_X4_pitchToday (σ.1 0) y < 0 ∧ tn (s_X4_pitchToday (σ.1 0) y) < 10)) ∧ tn (σ.1 0 (51 + 17 * tn y + 2)) ≤ 9) ∧
  (∀ {c : Nat} {σ : ft_Sg} {r : Nat → Int32}, J c σ → c ≤ 1000 → σ.1 0 = r → ∀ (y : Int32) (i : Nat), y = nI i → i + 1 ≤ tn (l_truckCount (ft_nr r)) → (l_renderTruck σ y).1 = .ok (p_renderTruck σ y)) ∧
  (∀ {c : Nat} {σ : ft_Sg} {r : Nat → Int32}, J c σ → c ≤ 1000 → σ.1 0 = r → ∀ (y : Int32) (i : Nat), y = nI i → i + 1 ≤ tn (l_truckCount (ft_nr r)) → w_pitchOf (ft_nr r) y (ft_td r) = -1000 → ¬ p_renderTruck σ y < 12 + 0) ∧
  (∀ {c : Nat} {σ : ft_Sg} {r : Nat → Int32}, J c σ → c ≤ 1000 → σ.1 0 = r → ∀ (y : Int32) (i : Nat), y = nI i → i + 1 ≤ tn (l_truckCount (ft_nr r)) → ¬ w_pitchOf (ft_nr r) y (ft_td r) = -1000 → ¬ p_renderTruck σ y < 12 + (2 + (p_queueLength (ft_nr r) y))) ∧
  (∀ {c : Nat} {σ : ft_Sg} {r : Nat → Int32} {m : Int32}, J c σ → c + 1 ≤ 1000 → (1 ≤ m ∧ m ≤ 60) → σ.1 0 = r → (l_servedWithin σ m).1 = .ok (ft_pz r m)) ∧
  (∀ {c : Nat} {σ : ft_Sg} {r : Nat → Int32} {m : Int32}, J c σ → c + 1 ≤ 1000 → (1 ≤ m ∧ m ≤ 60) → σ.1 0 = r → (w_advance σ m).1 = ft_pz r m ∧ (w_advance σ m).2.1 0 = ft_pr r m ∧ ft_U r (w_advance σ m).2) ∧
  (∀ {r : Nat → Int32} {m : Int32}, G r → G (ft_pr r m) → (1 ≤ m ∧ m ≤ 60) → l_servedTotal (ft_nr (ft_pr r m)) = (l_servedTotal (ft_nr r)) + (ft_pz r m)) ∧
  (∀ {r : Nat → Int32} {m : Int32}, G r → G (ft_pr r m) → (1 ≤ m ∧ m ≤ 60) → l_arrivedTotal (ft_nr (ft_pr r m)) = (l_arrivedTotal (ft_nr r)) + (m * (l_weather (ft_nr (ft_pr r m))))) ∧
  (∀ {r : Nat → Int32} {m : Int32}, G r → G (ft_pr r m) → (1 ≤ m ∧ m ≤ 60) → (60 * (l_day (ft_nr (ft_pr r m)))) + (l_minute (ft_nr (ft_pr r m))) = ((60 * (l_day (ft_nr r))) + (l_minute (ft_nr r))) + m) ∧
  (∀ {r : Nat → Int32} {m : Int32}, G r → G (ft_pr r m) → (1 ≤ m ∧ m ≤ 60) → ∀ (y : Int32) (i : Nat), y = nI i → i + 1 ≤ 4 → (p_soldPortions (ft_nr (ft_pr r m)) y) - (p_soldPortions (ft_nr r) y) = ft_dn (fun z => p_stock (ft_nr (ft_pr r m)) z y) (ft_up (fun z => p_stock (ft_nr r) z y) 0 (tn (l_truckCount (ft_nr r)))) (tn (l_truckCount (ft_nr (ft_pr r m)))) ∧ ¬ (p_soldPortions (ft_nr (ft_pr r m)) y) - (p_soldPortions (ft_nr r) y) < 0) ∧
  (∀ {r : Nat → Int32} {m : Int32}, G r → G (ft_pr r m) → (1 ≤ m ∧ m ≤ 60) → ft_dn (fun y => ((p_soldPortions (ft_nr (ft_pr r m)) y) - (p_soldPortions (ft_nr r) y)) * (p_price (ft_nr (ft_pr r m)) y)) (ft_up (fun y => p_coins (ft_nr (ft_pr r m)) y) (ft_dn (fun y => p_coins (ft_nr r) y) 0 (tn (l_truckCount (ft_nr r)))) (tn (l_truckCount (ft_nr (ft_pr r m))))) 4 = 0)
def ft_JJ7 (J : Nat → ft_Sg → Prop) (G : (Nat → Int32) → Prop) (T : Nat → Nat → ft_Sg → Prop) : Prop := (∀ {r : Nat → Int32} {σ u : ft_Sg}, ft_U r σ → ft_zm σ u → ft_U r u) ∧
  (∀ {c : Nat} {σ : ft_Sg} {r : Nat → Int32}, J c σ → c ≤ 1000 → σ.1 0 = r → ∀ (p : Int32) (i : Nat), p = nI i → i + 1 ≤ 5 → w_truckAt (ft_nr r) p (ft_td r) = -1000 → (w_release σ p (ft_td r)).1 = -100000000 ∧ (w_release σ p (ft_td r)).2.1 0 = r) ∧
  (∀ {c : Nat} {σ : ft_Sg} {r : Nat → Int32}, J c σ → c ≤ 1000 → σ.1 0 = r → ∀ (p : Int32) (i : Nat), p = nI i → i + 1 ≤ 5 → ¬ w_truckAt (ft_nr r) p (ft_td r) = -1000 → (w_release σ p (ft_td r)).1 = w_truckAt (ft_nr r) p (ft_td r) ∧ (w_release σ p (ft_td r)).2.1 0 = ft_rl r p (ft_td r) ∧ ft_U r (w_release σ p (ft_td r)).2) ∧
  (∀ {r : Nat → Int32}, G r → ∀ (p : Int32) (i : Nat), p = nI i → i + 1 ≤ 5 → ¬ w_truckAt (ft_nr r) p (ft_td r) = -1000 → ¬ w_truckAt (ft_nr r) p (ft_td r) = -100000000 ∧ ¬ s_X4_isTruck r (w_truckAt (ft_nr r) p (ft_td r)) = 0) ∧
  (∀ {r : Nat → Int32}, G r → ∀ (p : Int32) (i : Nat), p = nI i → i + 1 ≤ 5 → ¬ w_truckAt (ft_nr r) p (ft_td r) = -1000 → l_disappointedTotal (ft_nr (ft_rl r p (ft_td r))) = (l_disappointedTotal (ft_nr r)) + (p_queueLength (ft_nr r) (w_truckAt (ft_nr r) p (ft_td r)))) ∧
  (∀ {r : Nat → Int32}, G r → ∀ (p : Int32) (i : Nat), p = nI i → i + 1 ≤ 5 → ¬ w_truckAt (ft_nr r) p (ft_td r) = -1000 → l_isOpen (ft_nr (ft_rl r p (ft_td r))) (w_truckAt (ft_nr r) p (ft_td r)) = .ok 0 ∧ l_queueLength (ft_nr (ft_rl r p (ft_td r))) (w_truckAt (ft_nr r) p (ft_td r)) = .ok 0) ∧
  (∀ {c j : Nat} {σ : ft_Sg}, J c σ → σ.2.2.1 6 = 0 → j < 28 → T j 0 σ) ∧
  (∀ {c j n : Nat} {σ : ft_Sg}, J c σ → T j n σ → j < 28 → n < ft_scn.getD j 0 → T j (n + 1) (w_put σ (ft_ch ((ft_scy.getD j []).getD n 0))).2) ∧
  (∀ {c j : Nat} {σ : ft_Sg}, J c σ → c + 1 ≤ 1000 → j < 28 → T j (ft_scn.getD j 0) σ → ((w_runScript σ).1 = -100000000 → (w_runScript σ).2.1 0 = σ.1 0 ∧ ¬ w_failedCommand (w_runScript σ).2 < 0) ∧ (¬ (w_runScript σ).1 = -100000000 → ft_U (σ.1 0) (w_runScript σ).2)) ∧
  (∀ {c : Nat} {σ : ft_Sg}, J c σ → (w_runScript σ).2.2.2.1 6 = 0) ∧
  (∀ {σ : ft_Sg}, (w_undo σ).2.2.2.1 6 = σ.2.2.1 6) ∧
  (∀ {c : Nat} {σ : ft_Sg}, J c σ → c ≤ 1000 → (l_save σ).1 = l_truckCount (ft_nr (σ.1 0)) ∧ (l_save σ).2.1 2 = σ.1 0 ∧ (l_save σ).2.2.2.1 0 = 1 ∧ (l_save σ).2.2.2.1 6 = σ.2.2.1 6) ∧
  (∀ {c : Nat} {σ : ft_Sg} {r : Nat → Int32}, J c σ → σ.1 2 = r → σ.2.2.1 0 = 1 → (w_restore σ).1 = l_truckCount (ft_nr r) ∧ (w_restore σ).2.1 0 = r ∧ (w_undo (w_restore σ).2).1 = -100000000)
/-- a state that every call keeps, and what is known of it -/
def ft_JJ (J : Nat → ft_Sg → Prop) (G : (Nat → Int32) → Prop) (T : Nat → Nat → ft_Sg → Prop) : Prop := ft_JJ0 J G T ∧ ft_JJ1 J G T ∧ ft_JJ2 J G T ∧ ft_JJ3 J G T ∧ ft_JJ4 J G T ∧ ft_JJ5 J G T ∧ ft_JJ6 J G T ∧ ft_JJ7 J G T
theorem ft_JJ.g_0 {J : Nat → ft_Sg → Prop} {G : (Nat → Int32) → Prop} {T : Nat → Nat → ft_Sg → Prop} (h : ft_JJ J G T) : ft_JJ0 J G T := h.1
theorem ft_JJ.mono {J : Nat → ft_Sg → Prop} {G : (Nat → Int32) → Prop} {T : Nat → Nat → ft_Sg → Prop} (h : ft_JJ J G T) : ∀ {c d : Nat} {σ : ft_Sg}, J c σ → c ≤ d → J d σ := h.g_0.1
theorem ft_JJ.gr {J : Nat → ft_Sg → Prop} {G : (Nat → Int32) → Prop} {T : Nat → Nat → ft_Sg → Prop} (h : ft_JJ J G T) : ∀ {c : Nat} {σ : ft_Sg} {r : Nat → Int32}, J c σ → c ≤ 1000 → σ.1 0 = r → G r := h.g_0.2.1
theorem ft_JJ.pm {J : Nat → ft_Sg → Prop} {G : (Nat → Int32) → Prop} {T : Nat → Nat → ft_Sg → Prop} (h : ft_JJ J G T) : ∀ {c : Nat} {σ : ft_Sg}, J c σ → ∀ i, i < 8 → σ.2.1 i < 8 := h.g_0.2.2.1
theorem ft_JJ.ok9 {J : Nat → ft_Sg → Prop} {G : (Nat → Int32) → Prop} {T : Nat → Nat → ft_Sg → Prop} (h : ft_JJ J G T) : ∀ {c : Nat} {σ : ft_Sg}, J c σ → ft_ok259 σ.2.2.1 σ.2.2.2 60 := h.g_0.2.2.2.1
theorem ft_JJ.ok1 {J : Nat → ft_Sg → Prop} {G : (Nat → Int32) → Prop} {T : Nat → Nat → ft_Sg → Prop} (h : ft_JJ J G T) : ∀ {c : Nat} {σ : ft_Sg}, J c σ → ft_ok261 σ.2.2.1 σ.2.2.2 70 := h.g_0.2.2.2.2.1
theorem ft_JJ.g9 {J : Nat → ft_Sg → Prop} {G : (Nat → Int32) → Prop} {T : Nat → Nat → ft_Sg → Prop} (h : ft_JJ J G T) : ∀ {c : Nat} {σ : ft_Sg}, J c σ → ∀ n, n < 15 → σ.2.2.2.2.2.1 n < 9 := h.g_0.2.2.2.2.2.1
theorem ft_JJ.ex_addTruck {J : Nat → ft_Sg → Prop} {G : (Nat → Int32) → Prop} {T : Nat → Nat → ft_Sg → Prop} (h : ft_JJ J G T) : ∀ {c : Nat} {σ : ft_Sg}, J c σ → c ≤ 1000 → ∀ E, (l_addTruck σ ).1 = .error E → E ∈ ["java/lang/IllegalStateException"] := h.g_0.2.2.2.2.2.2.1
theorem ft_JJ.k_addTruck {J : Nat → ft_Sg → Prop} {G : (Nat → Int32) → Prop} {T : Nat → Nat → ft_Sg → Prop} (h : ft_JJ J G T) : ∀ {c : Nat} {σ : ft_Sg}, J c σ → c + 0 ≤ 1000 → J (c + 0) (w_addTruck σ ).2 := h.g_0.2.2.2.2.2.2.2.1
theorem ft_JJ.f_addTruck {J : Nat → ft_Sg → Prop} {G : (Nat → Int32) → Prop} {T : Nat → Nat → ft_Sg → Prop} (h : ft_JJ J G T) : ∀ {c : Nat} {σ : ft_Sg}, J c σ → c ≤ 1000 → (w_addTruck σ ).1 = -100000000 → (w_addTruck σ ).2.1 0 = σ.1 0 := h.g_0.2.2.2.2.2.2.2.2.1
theorem ft_JJ.sv_addTruck {J : Nat → ft_Sg → Prop} {G : (Nat → Int32) → Prop} {T : Nat → Nat → ft_Sg → Prop} (h : ft_JJ J G T) : ∀ {c : Nat} {σ : ft_Sg}, J c σ → ft_zv σ (w_addTruck σ ).2 := h.g_0.2.2.2.2.2.2.2.2.2.1
theorem ft_JJ.ex_addStock {J : Nat → ft_Sg → Prop} {G : (Nat → Int32) → Prop} {T : Nat → Nat → ft_Sg → Prop} (h : ft_JJ J G T) : ∀ {c : Nat} {σ : ft_Sg}, ∀ (x1 x2 x3 : Int32), J c σ → c ≤ 1000 → ∀ E, (l_addStock σ x1 x2 x3).1 = .error E → E ∈ ["java/lang/IndexOutOfBoundsException", "java/lang/IllegalArgumentException", "java/lang/IllegalStateException"] := h.g_0.2.2.2.2.2.2.2.2.2.2.1
theorem ft_JJ.k_addStock {J : Nat → ft_Sg → Prop} {G : (Nat → Int32) → Prop} {T : Nat → Nat → ft_Sg → Prop} (h : ft_JJ J G T) : ∀ {c : Nat} {σ : ft_Sg}, ∀ (x1 x2 x3 : Int32), J c σ → c + 0 ≤ 1000 → J (c + 0) (w_addStock σ x1 x2 x3).2 := h.g_0.2.2.2.2.2.2.2.2.2.2.2.1
theorem ft_JJ.f_addStock {J : Nat → ft_Sg → Prop} {G : (Nat → Int32) → Prop} {T : Nat → Nat → ft_Sg → Prop} (h : ft_JJ J G T) : ∀ {c : Nat} {σ : ft_Sg}, ∀ (x1 x2 x3 : Int32), J c σ → c ≤ 1000 → (w_addStock σ x1 x2 x3).1 = -100000000 → (w_addStock σ x1 x2 x3).2.1 0 = σ.1 0 := h.g_0.2.2.2.2.2.2.2.2.2.2.2.2.1
theorem ft_JJ.sv_addStock {J : Nat → ft_Sg → Prop} {G : (Nat → Int32) → Prop} {T : Nat → Nat → ft_Sg → Prop} (h : ft_JJ J G T) : ∀ {c : Nat} {σ : ft_Sg}, ∀ (x1 x2 x3 : Int32), J c σ → ft_zv σ (w_addStock σ x1 x2 x3).2 := h.g_0.2.2.2.2.2.2.2.2.2.2.2.2.2.1
theorem ft_JJ.ex_setPrice {J : Nat → ft_Sg → Prop} {G : (Nat → Int32) → Prop} {T : Nat → Nat → ft_Sg → Prop} (h : ft_JJ J G T) : ∀ {c : Nat} {σ : ft_Sg}, ∀ (x1 x2 : Int32), J c σ → c ≤ 1000 → ∀ E, (l_setPrice σ x1 x2).1 = .error E → E ∈ ["java/lang/IndexOutOfBoundsException", "java/lang/IllegalArgumentException"] := h.g_0.2.2.2.2.2.2.2.2.2.2.2.2.2.2.1
theorem ft_JJ.k_setPrice {J : Nat → ft_Sg → Prop} {G : (Nat → Int32) → Prop} {T : Nat → Nat → ft_Sg → Prop} (h : ft_JJ J G T) : ∀ {c : Nat} {σ : ft_Sg}, ∀ (x1 x2 : Int32), J c σ → c + 0 ≤ 1000 → J (c + 0) (w_setPrice σ x1 x2).2 := h.g_0.2.2.2.2.2.2.2.2.2.2.2.2.2.2.2
theorem ft_JJ.g_1 {J : Nat → ft_Sg → Prop} {G : (Nat → Int32) → Prop} {T : Nat → Nat → ft_Sg → Prop} (h : ft_JJ J G T) : ft_JJ1 J G T := h.2.1
theorem ft_JJ.f_setPrice {J : Nat → ft_Sg → Prop} {G : (Nat → Int32) → Prop} {T : Nat → Nat → ft_Sg → Prop} (h : ft_JJ J G T) : ∀ {c : Nat} {σ : ft_Sg}, ∀ (x1 x2 : Int32), J c σ → c ≤ 1000 → (w_setPrice σ x1 x2).1 = -100000000 → (w_setPrice σ x1 x2).2.1 0 = σ.1 0 := h.g_1.1
theorem ft_JJ.sv_setPrice {J : Nat → ft_Sg → Prop} {G : (Nat → Int32) → Prop} {T : Nat → Nat → ft_Sg → Prop} (h : ft_JJ J G T) : ∀ {c : Nat} {σ : ft_Sg}, ∀ (x1 x2 : Int32), J c σ → ft_zv σ (w_setPrice σ x1 x2).2 := h.g_1.2.1
theorem ft_JJ.ex_grantPermit {J : Nat → ft_Sg → Prop} {G : (Nat → Int32) → Prop} {T : Nat → Nat → ft_Sg → Prop} (h : ft_JJ J G T) : ∀ {c : Nat} {σ : ft_Sg}, ∀ (x1 x2 : Int32), J c σ → c ≤ 1000 → ∀ E, (l_grantPermit σ x1 x2).1 = .error E → E ∈ ["java/lang/IndexOutOfBoundsException", "java/lang/IllegalArgumentException", "java/lang/IllegalStateException"] := h.g_1.2.2.1
theorem ft_JJ.k_grantPermit {J : Nat → ft_Sg → Prop} {G : (Nat → Int32) → Prop} {T : Nat → Nat → ft_Sg → Prop} (h : ft_JJ J G T) : ∀ {c : Nat} {σ : ft_Sg}, ∀ (x1 x2 : Int32), J c σ → c + 0 ≤ 1000 → J (c + 0) (w_grantPermit σ x1 x2).2 := h.g_1.2.2.2.1
theorem ft_JJ.f_grantPermit {J : Nat → ft_Sg → Prop} {G : (Nat → Int32) → Prop} {T : Nat → Nat → ft_Sg → Prop} (h : ft_JJ J G T) : ∀ {c : Nat} {σ : ft_Sg}, ∀ (x1 x2 : Int32), J c σ → c ≤ 1000 → (w_grantPermit σ x1 x2).1 = -100000000 → (w_grantPermit σ x1 x2).2.1 0 = σ.1 0 := h.g_1.2.2.2.2.1
theorem ft_JJ.sv_grantPermit {J : Nat → ft_Sg → Prop} {G : (Nat → Int32) → Prop} {T : Nat → Nat → ft_Sg → Prop} (h : ft_JJ J G T) : ∀ {c : Nat} {σ : ft_Sg}, ∀ (x1 x2 : Int32), J c σ → ft_zv σ (w_grantPermit σ x1 x2).2 := h.g_1.2.2.2.2.2.1
theorem ft_JJ.ex_revokePermit {J : Nat → ft_Sg → Prop} {G : (Nat → Int32) → Prop} {T : Nat → Nat → ft_Sg → Prop} (h : ft_JJ J G T) : ∀ {c : Nat} {σ : ft_Sg}, ∀ (x1 x2 : Int32), J c σ → c ≤ 1000 → ∀ E, (l_revokePermit σ x1 x2).1 = .error E → E ∈ ["java/lang/IndexOutOfBoundsException", "java/lang/IllegalArgumentException", "java/lang/IllegalStateException"] := h.g_1.2.2.2.2.2.2.1
theorem ft_JJ.k_revokePermit {J : Nat → ft_Sg → Prop} {G : (Nat → Int32) → Prop} {T : Nat → Nat → ft_Sg → Prop} (h : ft_JJ J G T) : ∀ {c : Nat} {σ : ft_Sg}, ∀ (x1 x2 : Int32), J c σ → c + 0 ≤ 1000 → J (c + 0) (w_revokePermit σ x1 x2).2 := h.g_1.2.2.2.2.2.2.2.1
theorem ft_JJ.f_revokePermit {J : Nat → ft_Sg → Prop} {G : (Nat → Int32) → Prop} {T : Nat → Nat → ft_Sg → Prop} (h : ft_JJ J G T) : ∀ {c : Nat} {σ : ft_Sg}, ∀ (x1 x2 : Int32), J c σ → c ≤ 1000 → (w_revokePermit σ x1 x2).1 = -100000000 → (w_revokePermit σ x1 x2).2.1 0 = σ.1 0 := h.g_1.2.2.2.2.2.2.2.2.1
theorem ft_JJ.sv_revokePermit {J : Nat → ft_Sg → Prop} {G : (Nat → Int32) → Prop} {T : Nat → Nat → ft_Sg → Prop} (h : ft_JJ J G T) : ∀ {c : Nat} {σ : ft_Sg}, ∀ (x1 x2 : Int32), J c σ → ft_zv σ (w_revokePermit σ x1 x2).2 := h.g_1.2.2.2.2.2.2.2.2.2.1
theorem ft_JJ.ex_assign {J : Nat → ft_Sg → Prop} {G : (Nat → Int32) → Prop} {T : Nat → Nat → ft_Sg → Prop} (h : ft_JJ J G T) : ∀ {c : Nat} {σ : ft_Sg}, ∀ (x1 x2 x3 : Int32), J c σ → c ≤ 1000 → ∀ E, (l_assign σ x1 x2 x3).1 = .error E → E ∈ ["java/lang/IndexOutOfBoundsException", "java/lang/IllegalArgumentException", "java/lang/UnsupportedOperationException", "java/lang/IllegalStateException"] := h.g_1.2.2.2.2.2.2.2.2.2.2.1
theorem ft_JJ.k_assign {J : Nat → ft_Sg → Prop} {G : (Nat → Int32) → Prop} {T : Nat → Nat → ft_Sg → Prop} (h : ft_JJ J G T) : ∀ {c : Nat} {σ : ft_Sg}, ∀ (x1 x2 x3 : Int32), J c σ → c + 0 ≤ 1000 → J (c + 0) (w_assign σ x1 x2 x3).2 := h.g_1.2.2.2.2.2.2.2.2.2.2.2.1
theorem ft_JJ.f_assign {J : Nat → ft_Sg → Prop} {G : (Nat → Int32) → Prop} {T : Nat → Nat → ft_Sg → Prop} (h : ft_JJ J G T) : ∀ {c : Nat} {σ : ft_Sg}, ∀ (x1 x2 x3 : Int32), J c σ → c ≤ 1000 → (w_assign σ x1 x2 x3).1 = -100000000 → (w_assign σ x1 x2 x3).2.1 0 = σ.1 0 := h.g_1.2.2.2.2.2.2.2.2.2.2.2.2.1
theorem ft_JJ.sv_assign {J : Nat → ft_Sg → Prop} {G : (Nat → Int32) → Prop} {T : Nat → Nat → ft_Sg → Prop} (h : ft_JJ J G T) : ∀ {c : Nat} {σ : ft_Sg}, ∀ (x1 x2 x3 : Int32), J c σ → ft_zv σ (w_assign σ x1 x2 x3).2 := h.g_1.2.2.2.2.2.2.2.2.2.2.2.2.2.1
theorem ft_JJ.ex_release {J : Nat → ft_Sg → Prop} {G : (Nat → Int32) → Prop} {T : Nat → Nat → ft_Sg → Prop} (h : ft_JJ J G T) : ∀ {c : Nat} {σ : ft_Sg}, ∀ (x1 x2 : Int32), J c σ → c ≤ 1000 → ∀ E, (l_release σ x1 x2).1 = .error E → E ∈ ["java/lang/IndexOutOfBoundsException", "java/lang/IllegalArgumentException", "java/util/NoSuchElementException"] := h.g_1.2.2.2.2.2.2.2.2.2.2.2.2.2.2.1
theorem ft_JJ.k_release {J : Nat → ft_Sg → Prop} {G : (Nat → Int32) → Prop} {T : Nat → Nat → ft_Sg → Prop} (h : ft_JJ J G T) : ∀ {c : Nat} {σ : ft_Sg}, ∀ (x1 x2 : Int32), J c σ → c + 0 ≤ 1000 → J (c + 0) (w_release σ x1 x2).2 := h.g_1.2.2.2.2.2.2.2.2.2.2.2.2.2.2.2
theorem ft_JJ.g_2 {J : Nat → ft_Sg → Prop} {G : (Nat → Int32) → Prop} {T : Nat → Nat → ft_Sg → Prop} (h : ft_JJ J G T) : ft_JJ2 J G T := h.2.2.1
theorem ft_JJ.f_release {J : Nat → ft_Sg → Prop} {G : (Nat → Int32) → Prop} {T : Nat → Nat → ft_Sg → Prop} (h : ft_JJ J G T) : ∀ {c : Nat} {σ : ft_Sg}, ∀ (x1 x2 : Int32), J c σ → c ≤ 1000 → (w_release σ x1 x2).1 = -100000000 → (w_release σ x1 x2).2.1 0 = σ.1 0 := h.g_2.1
theorem ft_JJ.sv_release {J : Nat → ft_Sg → Prop} {G : (Nat → Int32) → Prop} {T : Nat → Nat → ft_Sg → Prop} (h : ft_JJ J G T) : ∀ {c : Nat} {σ : ft_Sg}, ∀ (x1 x2 : Int32), J c σ → ft_zv σ (w_release σ x1 x2).2 := h.g_2.2.1
theorem ft_JJ.ex_setWeather {J : Nat → ft_Sg → Prop} {G : (Nat → Int32) → Prop} {T : Nat → Nat → ft_Sg → Prop} (h : ft_JJ J G T) : ∀ {c : Nat} {σ : ft_Sg}, ∀ (x1 : Int32), J c σ → c ≤ 1000 → ∀ E, (l_setWeather σ x1).1 = .error E → E ∈ ["java/lang/IllegalArgumentException"] := h.g_2.2.2.1
theorem ft_JJ.k_setWeather {J : Nat → ft_Sg → Prop} {G : (Nat → Int32) → Prop} {T : Nat → Nat → ft_Sg → Prop} (h : ft_JJ J G T) : ∀ {c : Nat} {σ : ft_Sg}, ∀ (x1 : Int32), J c σ → c + 0 ≤ 1000 → J (c + 0) (w_setWeather σ x1).2 := h.g_2.2.2.2.1
theorem ft_JJ.f_setWeather {J : Nat → ft_Sg → Prop} {G : (Nat → Int32) → Prop} {T : Nat → Nat → ft_Sg → Prop} (h : ft_JJ J G T) : ∀ {c : Nat} {σ : ft_Sg}, ∀ (x1 : Int32), J c σ → c ≤ 1000 → (w_setWeather σ x1).1 = -100000000 → (w_setWeather σ x1).2.1 0 = σ.1 0 := h.g_2.2.2.2.2.1
theorem ft_JJ.sv_setWeather {J : Nat → ft_Sg → Prop} {G : (Nat → Int32) → Prop} {T : Nat → Nat → ft_Sg → Prop} (h : ft_JJ J G T) : ∀ {c : Nat} {σ : ft_Sg}, ∀ (x1 : Int32), J c σ → ft_zv σ (w_setWeather σ x1).2 := h.g_2.2.2.2.2.2.1
theorem ft_JJ.ex_advance {J : Nat → ft_Sg → Prop} {G : (Nat → Int32) → Prop} {T : Nat → Nat → ft_Sg → Prop} (h : ft_JJ J G T) : ∀ {c : Nat} {σ : ft_Sg}, ∀ (x1 : Int32), J c σ → c ≤ 1000 → ∀ E, (l_advance σ x1).1 = .error E → E ∈ ["java/lang/IllegalArgumentException"] := h.g_2.2.2.2.2.2.2.1
theorem ft_JJ.k_advance {J : Nat → ft_Sg → Prop} {G : (Nat → Int32) → Prop} {T : Nat → Nat → ft_Sg → Prop} (h : ft_JJ J G T) : ∀ {c : Nat} {σ : ft_Sg}, ∀ (x1 : Int32), J c σ → c + 1 ≤ 1000 → J (c + 1) (w_advance σ x1).2 := h.g_2.2.2.2.2.2.2.2.1
theorem ft_JJ.f_advance {J : Nat → ft_Sg → Prop} {G : (Nat → Int32) → Prop} {T : Nat → Nat → ft_Sg → Prop} (h : ft_JJ J G T) : ∀ {c : Nat} {σ : ft_Sg}, ∀ (x1 : Int32), J c σ → c ≤ 1000 → (w_advance σ x1).1 = -100000000 → (w_advance σ x1).2.1 0 = σ.1 0 := h.g_2.2.2.2.2.2.2.2.2.1
theorem ft_JJ.sv_advance {J : Nat → ft_Sg → Prop} {G : (Nat → Int32) → Prop} {T : Nat → Nat → ft_Sg → Prop} (h : ft_JJ J G T) : ∀ {c : Nat} {σ : ft_Sg}, ∀ (x1 : Int32), J c σ → ft_zv σ (w_advance σ x1).2 := h.g_2.2.2.2.2.2.2.2.2.2.1
theorem ft_JJ.ex_runScript {J : Nat → ft_Sg → Prop} {G : (Nat → Int32) → Prop} {T : Nat → Nat → ft_Sg → Prop} (h : ft_JJ J G T) : ∀ {c : Nat} {σ : ft_Sg}, J c σ → c ≤ 1000 → ∀ E, (l_runScript σ ).1 = .error E → E ∈ ["java/lang/IllegalArgumentException", "java/lang/IllegalStateException"] := h.g_2.2.2.2.2.2.2.2.2.2.2.1
theorem ft_JJ.k_runScript {J : Nat → ft_Sg → Prop} {G : (Nat → Int32) → Prop} {T : Nat → Nat → ft_Sg → Prop} (h : ft_JJ J G T) : ∀ {c : Nat} {σ : ft_Sg}, J c σ → c + 1 ≤ 1000 → J (c + 1) (w_runScript σ ).2 := h.g_2.2.2.2.2.2.2.2.2.2.2.2.1
theorem ft_JJ.f_runScript {J : Nat → ft_Sg → Prop} {G : (Nat → Int32) → Prop} {T : Nat → Nat → ft_Sg → Prop} (h : ft_JJ J G T) : ∀ {c : Nat} {σ : ft_Sg}, J c σ → c ≤ 1000 → (w_runScript σ ).1 = -100000000 → (w_runScript σ ).2.1 0 = σ.1 0 := h.g_2.2.2.2.2.2.2.2.2.2.2.2.2.1
theorem ft_JJ.sv_runScript {J : Nat → ft_Sg → Prop} {G : (Nat → Int32) → Prop} {T : Nat → Nat → ft_Sg → Prop} (h : ft_JJ J G T) : ∀ {c : Nat} {σ : ft_Sg}, J c σ → ft_zv σ (w_runScript σ ).2 := h.g_2.2.2.2.2.2.2.2.2.2.2.2.2.2.1
theorem ft_JJ.ex_undo {J : Nat → ft_Sg → Prop} {G : (Nat → Int32) → Prop} {T : Nat → Nat → ft_Sg → Prop} (h : ft_JJ J G T) : ∀ {c : Nat} {σ : ft_Sg}, J c σ → c ≤ 1000 → ∀ E, (l_undo σ ).1 = .error E → E ∈ ["java/util/NoSuchElementException"] := h.g_2.2.2.2.2.2.2.2.2.2.2.2.2.2.2.1
theorem ft_JJ.k_undo {J : Nat → ft_Sg → Prop} {G : (Nat → Int32) → Prop} {T : Nat → Nat → ft_Sg → Prop} (h : ft_JJ J G T) : ∀ {c : Nat} {σ : ft_Sg}, J c σ → c + 0 ≤ 1000 → J (c + 0) (w_undo σ ).2 := h.g_2.2.2.2.2.2.2.2.2.2.2.2.2.2.2.2
theorem ft_JJ.g_3 {J : Nat → ft_Sg → Prop} {G : (Nat → Int32) → Prop} {T : Nat → Nat → ft_Sg → Prop} (h : ft_JJ J G T) : ft_JJ3 J G T := h.2.2.2.1
theorem ft_JJ.f_undo {J : Nat → ft_Sg → Prop} {G : (Nat → Int32) → Prop} {T : Nat → Nat → ft_Sg → Prop} (h : ft_JJ J G T) : ∀ {c : Nat} {σ : ft_Sg}, J c σ → c ≤ 1000 → (w_undo σ ).1 = -100000000 → (w_undo σ ).2.1 0 = σ.1 0 := h.g_3.1
theorem ft_JJ.sv_undo {J : Nat → ft_Sg → Prop} {G : (Nat → Int32) → Prop} {T : Nat → Nat → ft_Sg → Prop} (h : ft_JJ J G T) : ∀ {c : Nat} {σ : ft_Sg}, J c σ → ft_zv σ (w_undo σ ).2 := h.g_3.2.1
theorem ft_JJ.ex_restore {J : Nat → ft_Sg → Prop} {G : (Nat → Int32) → Prop} {T : Nat → Nat → ft_Sg → Prop} (h : ft_JJ J G T) : ∀ {c : Nat} {σ : ft_Sg}, J c σ → c ≤ 1000 → ∀ E, (l_restore σ ).1 = .error E → E ∈ ["java/lang/IllegalStateException"] := h.g_3.2.2.1
theorem ft_JJ.k_restore {J : Nat → ft_Sg → Prop} {G : (Nat → Int32) → Prop} {T : Nat → Nat → ft_Sg → Prop} (h : ft_JJ J G T) : ∀ {c : Nat} {σ : ft_Sg}, J c σ → c + 0 ≤ 1000 → J (c + 0) (w_restore σ ).2 := h.g_3.2.2.2.1
theorem ft_JJ.f_restore {J : Nat → ft_Sg → Prop} {G : (Nat → Int32) → Prop} {T : Nat → Nat → ft_Sg → Prop} (h : ft_JJ J G T) : ∀ {c : Nat} {σ : ft_Sg}, J c σ → c ≤ 1000 → (w_restore σ ).1 = -100000000 → (w_restore σ ).2.1 0 = σ.1 0 := h.g_3.2.2.2.2.1
theorem ft_JJ.ex_put {J : Nat → ft_Sg → Prop} {G : (Nat → Int32) → Prop} {T : Nat → Nat → ft_Sg → Prop} (h : ft_JJ J G T) : ∀ {c : Nat} {σ : ft_Sg}, ∀ (x1 : Int32), 32 ≤ x1 → x1 ≤ 126 → J c σ → c ≤ 1000 → ∀ E, (l_type σ x1).1 = .error E → E ∈ ["java/lang/IllegalStateException"] := h.g_3.2.2.2.2.2.1
theorem ft_JJ.k_put {J : Nat → ft_Sg → Prop} {G : (Nat → Int32) → Prop} {T : Nat → Nat → ft_Sg → Prop} (h : ft_JJ J G T) : ∀ {c : Nat} {σ : ft_Sg}, ∀ (x1 : Int32), 32 ≤ x1 → x1 ≤ 126 → J c σ → c + 0 ≤ 1000 → J (c + 0) (w_put σ x1).2 := h.g_3.2.2.2.2.2.2.1
theorem ft_JJ.k_save {J : Nat → ft_Sg → Prop} {G : (Nat → Int32) → Prop} {T : Nat → Nat → ft_Sg → Prop} (h : ft_JJ J G T) : ∀ {c : Nat} {σ : ft_Sg}, J c σ → c + 0 ≤ 1000 → J (c + 0) (l_save σ ).2 := h.g_3.2.2.2.2.2.2.2.1
theorem ft_JJ.r_save {J : Nat → ft_Sg → Prop} {G : (Nat → Int32) → Prop} {T : Nat → Nat → ft_Sg → Prop} (h : ft_JJ J G T) : ∀ {σ : ft_Sg}, (l_save σ ).2.1 0 = σ.1 0 := h.g_3.2.2.2.2.2.2.2.2.1
theorem ft_JJ.k_servedWithin {J : Nat → ft_Sg → Prop} {G : (Nat → Int32) → Prop} {T : Nat → Nat → ft_Sg → Prop} (h : ft_JJ J G T) : ∀ {c : Nat} {σ : ft_Sg}, ∀ (x1 : Int32), J c σ → c + 1 ≤ 1000 → J (c + 1) (l_servedWithin σ x1).2 := h.g_3.2.2.2.2.2.2.2.2.2.1
theorem ft_JJ.r_servedWithin {J : Nat → ft_Sg → Prop} {G : (Nat → Int32) → Prop} {T : Nat → Nat → ft_Sg → Prop} (h : ft_JJ J G T) : ∀ {σ : ft_Sg}, ∀ (x1 : Int32), (l_servedWithin σ x1).2.1 0 = σ.1 0 := h.g_3.2.2.2.2.2.2.2.2.2.2.1
theorem ft_JJ.k_renderDay {J : Nat → ft_Sg → Prop} {G : (Nat → Int32) → Prop} {T : Nat → Nat → ft_Sg → Prop} (h : ft_JJ J G T) : ∀ {c : Nat} {σ : ft_Sg}, ∀ (x1 : Int32), J c σ → c + 0 ≤ 1000 → J (c + 0) (l_renderDay σ x1).2 := h.g_3.2.2.2.2.2.2.2.2.2.2.2.1
theorem ft_JJ.r_renderDay {J : Nat → ft_Sg → Prop} {G : (Nat → Int32) → Prop} {T : Nat → Nat → ft_Sg → Prop} (h : ft_JJ J G T) : ∀ {σ : ft_Sg}, ∀ (x1 : Int32), (l_renderDay σ x1).2.1 0 = σ.1 0 := h.g_3.2.2.2.2.2.2.2.2.2.2.2.2.1
theorem ft_JJ.k_renderTruck {J : Nat → ft_Sg → Prop} {G : (Nat → Int32) → Prop} {T : Nat → Nat → ft_Sg → Prop} (h : ft_JJ J G T) : ∀ {c : Nat} {σ : ft_Sg}, ∀ (x1 : Int32), J c σ → c + 0 ≤ 1000 → J (c + 0) (l_renderTruck σ x1).2 := h.g_3.2.2.2.2.2.2.2.2.2.2.2.2.2.1
theorem ft_JJ.r_renderTruck {J : Nat → ft_Sg → Prop} {G : (Nat → Int32) → Prop} {T : Nat → Nat → ft_Sg → Prop} (h : ft_JJ J G T) : ∀ {σ : ft_Sg}, ∀ (x1 : Int32), (l_renderTruck σ x1).2.1 0 = σ.1 0 := h.g_3.2.2.2.2.2.2.2.2.2.2.2.2.2.2.1
theorem ft_JJ.sm_renderDay {J : Nat → ft_Sg → Prop} {G : (Nat → Int32) → Prop} {T : Nat → Nat → ft_Sg → Prop} (h : ft_JJ J G T) : ∀ {σ : ft_Sg} (x : Int32), ft_zm σ (l_renderDay σ x).2 := h.g_3.2.2.2.2.2.2.2.2.2.2.2.2.2.2.2
theorem ft_JJ.g_4 {J : Nat → ft_Sg → Prop} {G : (Nat → Int32) → Prop} {T : Nat → Nat → ft_Sg → Prop} (h : ft_JJ J G T) : ft_JJ4 J G T := h.2.2.2.2.1
theorem ft_JJ.sm_renderTruck {J : Nat → ft_Sg → Prop} {G : (Nat → Int32) → Prop} {T : Nat → Nat → ft_Sg → Prop} (h : ft_JJ J G T) : ∀ {σ : ft_Sg} (x : Int32), ft_zm σ (l_renderTruck σ x).2 := h.g_4.1
theorem ft_JJ.sp_put {J : Nat → ft_Sg → Prop} {G : (Nat → Int32) → Prop} {T : Nat → Nat → ft_Sg → Prop} (h : ft_JJ J G T) : ∀ {σ : ft_Sg} (x : Int32), ft_zp σ (w_put σ x).2 := h.g_4.2.1
theorem ft_JJ.sv_servedWithin {J : Nat → ft_Sg → Prop} {G : (Nat → Int32) → Prop} {T : Nat → Nat → ft_Sg → Prop} (h : ft_JJ J G T) : ∀ {σ : ft_Sg} (x : Int32), ft_zv σ (l_servedWithin σ x).2 := h.g_4.2.2.1
theorem ft_JJ.dN {J : Nat → ft_Sg → Prop} {G : (Nat → Int32) → Prop} {T : Nat → Nat → ft_Sg → Prop} (h : ft_JJ J G T) : ∀ {r : Nat → Int32}, G r → tn (l_truckCount (ft_nr r)) ≤ 6 := h.g_4.2.2.2.1
theorem ft_JJ.dT {J : Nat → ft_Sg → Prop} {G : (Nat → Int32) → Prop} {T : Nat → Nat → ft_Sg → Prop} (h : ft_JJ J G T) : ∀ {r : Nat → Int32}, G r → ∀ (y : Int32) (i : Nat), y = nI i → i + 1 ≤ tn (l_truckCount (ft_nr r)) → ¬ s_X4_isTruck r y = 0 := h.g_4.2.2.2.2.1
theorem ft_JJ.dQ {J : Nat → ft_Sg → Prop} {G : (Nat → Int32) → Prop} {T : Nat → Nat → ft_Sg → Prop} (h : ft_JJ J G T) : ∀ {r : Nat → Int32}, G r → ∀ (y : Int32) (i : Nat), y = nI i → i + 1 ≤ tn (l_truckCount (ft_nr r)) → tn (p_queueLength (ft_nr r) y) ≤ 9 := h.g_4.2.2.2.2.2.1
theorem ft_JJ.dW {J : Nat → ft_Sg → Prop} {G : (Nat → Int32) → Prop} {T : Nat → Nat → ft_Sg → Prop} (h : ft_JJ J G T) : ∀ {r : Nat → Int32}, G r → ∀ (y z : Int32) (i j : Nat), y = nI i → i + 1 ≤ tn (l_truckCount (ft_nr r)) → z = nI j → j + 1 ≤ tn (p_queueLength (ft_nr r) y) → ¬ s_X6_wishAt r (51 + 17 * tn y) z = -1 := h.g_4.2.2.2.2.2.2.1
theorem ft_JJ.rd1 {J : Nat → ft_Sg → Prop} {G : (Nat → Int32) → Prop} {T : Nat → Nat → ft_Sg → Prop} (h : ft_JJ J G T) : ∀ {c : Nat} {σ : ft_Sg}, J c σ → c ≤ 1000 → ∀ x : Int32, ¬ s_X7_isWeekday x = 0 → (l_renderDay σ x).1 = .ok 5 := h.g_4.2.2.2.2.2.2.2.1
theorem ft_JJ.hH {J : Nat → ft_Sg → Prop} {G : (Nat → Int32) → Prop} {T : Nat → Nat → ft_Sg → Prop} (h : ft_JJ J G T) : ∀ {c : Nat} {σ : ft_Sg}, J c σ → c ≤ 1000 → ∀ (x y : Int32), s_X4_holderOf (σ.1 0) y x = -1 ∨ (¬ s_X4_holderOf (σ.1 0) y x < 0 ∧ tn (s_X4_holderOf (σ.1 0) y x) < 10) := h.g_4.2.2.2.2.2.2.2.2.1
theorem ft_JJ.b1 {J : Nat → ft_Sg → Prop} {G : (Nat → Int32) → Prop} {T : Nat → Nat → ft_Sg → Prop} (h : ft_JJ J G T) : ∀ {r : Nat → Int32}, G r → ∀ x : Int32, ¬ s_X7_isWeekday x = 0 → w_firstFreePitch (ft_nr r) x = s_L_freeOn r x := h.g_4.2.2.2.2.2.2.2.2.2.1
theorem ft_JJ.oa {J : Nat → ft_Sg → Prop} {G : (Nat → Int32) → Prop} {T : Nat → Nat → ft_Sg → Prop} (h : ft_JJ J G T) : ∀ {c : Nat} {σ : ft_Sg} {r : Nat → Int32}, J c σ → c ≤ 1000 → σ.1 0 = r → ∀ (x p : Int32) (i : Nat), ¬ s_X7_isWeekday x = 0 → p = nI i → i + 1 ≤ 5 → l_outputAt (l_renderDay σ x).2 p = .ok (ft_sg r p x) := h.g_4.2.2.2.2.2.2.2.2.2.2.1
theorem ft_JJ.b2 {J : Nat → ft_Sg → Prop} {G : (Nat → Int32) → Prop} {T : Nat → Nat → ft_Sg → Prop} (h : ft_JJ J G T) : ∀ {r : Nat → Int32}, G r → ∀ (x p : Int32) (i : Nat), ¬ s_X7_isWeekday x = 0 → p = nI i → i + 1 ≤ 5 → ¬ w_truckAt (ft_nr r) p x = -1000 → l_pitchOf (ft_nr r) (w_truckAt (ft_nr r) p x) x = .ok p := h.g_4.2.2.2.2.2.2.2.2.2.2.2.1
theorem ft_JJ.b3 {J : Nat → ft_Sg → Prop} {G : (Nat → Int32) → Prop} {T : Nat → Nat → ft_Sg → Prop} (h : ft_JJ J G T) : ∀ {r : Nat → Int32}, G r → ∀ (x p : Int32) (i : Nat), ¬ s_X7_isWeekday x = 0 → p = nI i → i + 1 ≤ 5 → ¬ w_truckAt (ft_nr r) p x = -1000 → l_hasPermit (ft_nr r) (w_truckAt (ft_nr r) p x) x = .ok 1 := h.g_4.2.2.2.2.2.2.2.2.2.2.2.2.1
theorem ft_JJ.b4 {J : Nat → ft_Sg → Prop} {G : (Nat → Int32) → Prop} {T : Nat → Nat → ft_Sg → Prop} (h : ft_JJ J G T) : ∀ {r : Nat → Int32}, G r → l_assignments (ft_nr r) = ft_mn r 7 := h.g_4.2.2.2.2.2.2.2.2.2.2.2.2.2.1
theorem ft_JJ.b5 {J : Nat → ft_Sg → Prop} {G : (Nat → Int32) → Prop} {T : Nat → Nat → ft_Sg → Prop} (h : ft_JJ J G T) : ∀ {r : Nat → Int32}, G r → l_assignmentsByTrucks (ft_nr r) = ft_mn r 7 := h.g_4.2.2.2.2.2.2.2.2.2.2.2.2.2.2.1
theorem ft_JJ.b6 {J : Nat → ft_Sg → Prop} {G : (Nat → Int32) → Prop} {T : Nat → Nat → ft_Sg → Prop} (h : ft_JJ J G T) : ∀ {r : Nat → Int32}, G r → l_isConsistent (ft_nr r) = 1 := h.g_4.2.2.2.2.2.2.2.2.2.2.2.2.2.2.2
theorem ft_JJ.g_5 {J : Nat → ft_Sg → Prop} {G : (Nat → Int32) → Prop} {T : Nat → Nat → ft_Sg → Prop} (h : ft_JJ J G T) : ft_JJ5 J G T := h.2.2.2.2.2.1
theorem ft_JJ.c1 {J : Nat → ft_Sg → Prop} {G : (Nat → Int32) → Prop} {T : Nat → Nat → ft_Sg → Prop} (h : ft_JJ J G T) : ∀ {r : Nat → Int32}, G r → ∀ (y : Int32) (i : Nat), y = nI i → i + 1 ≤ tn (l_truckCount (ft_nr r)) → ¬ s_X4_isTruck r (w_truckByCoins (ft_nr r) y) = 0 := h.g_5.1
theorem ft_JJ.c2 {J : Nat → ft_Sg → Prop} {G : (Nat → Int32) → Prop} {T : Nat → Nat → ft_Sg → Prop} (h : ft_JJ J G T) : ∀ {r : Nat → Int32}, G r → ∀ (y : Int32) (i : Nat), y = nI i → 1 ≤ i → i + 1 ≤ tn (l_truckCount (ft_nr r)) → 0 < (p_coins (ft_nr r) (w_truckByCoins (ft_nr r) (y - 1))) - (p_coins (ft_nr r) (w_truckByCoins (ft_nr r) y)) ∨ ((p_coins (ft_nr r) (w_truckByCoins (ft_nr r) (y - 1))) - (p_coins (ft_nr r) (w_truckByCoins (ft_nr r) y)) = 0 ∧ (0 < (s_L_stocks r (w_truckByCoins (ft_nr r) (y - 1))) - (s_L_stocks r (w_truckByCoins (ft_nr r) y)) ∨ ((s_L_stocks r (w_truckByCoins (ft_nr r) (y - 1))) - (s_L_stocks r (w_truckByCoins (ft_nr r) y)) = 0 ∧ w_truckByCoins (ft_nr r) (y - 1) < w_truckByCoins (ft_nr r) y))) := h.g_5.2.1
theorem ft_JJ.a1 {J : Nat → ft_Sg → Prop} {G : (Nat → Int32) → Prop} {T : Nat → Nat → ft_Sg → Prop} (h : ft_JJ J G T) : ∀ {r : Nat → Int32}, G r → w_truckByCoins (ft_nr r) (l_truckCount (ft_nr r)) = -1000 := h.g_5.2.2.1
theorem ft_JJ.a2 {J : Nat → ft_Sg → Prop} {G : (Nat → Int32) → Prop} {T : Nat → Nat → ft_Sg → Prop} (h : ft_JJ J G T) : ∀ {r : Nat → Int32}, G r → w_truckByCoins (ft_nr r) (-1) = -1000 := h.g_5.2.2.2.1
theorem ft_JJ.a3 {J : Nat → ft_Sg → Prop} {G : (Nat → Int32) → Prop} {T : Nat → Nat → ft_Sg → Prop} (h : ft_JJ J G T) : ∀ {r : Nat → Int32}, G r → ∀ (y : Int32) (i : Nat), y = nI i → i + 1 ≤ tn (l_truckCount (ft_nr r)) → ¬ p_minutesLeft (ft_nr r) y = 0 → ¬ s_X6_wishAt r (51 + 17 * tn y) 0 = -1 := h.g_5.2.2.2.2.1
theorem ft_JJ.a4 {J : Nat → ft_Sg → Prop} {G : (Nat → Int32) → Prop} {T : Nat → Nat → ft_Sg → Prop} (h : ft_JJ J G T) : ∀ {r : Nat → Int32}, G r → ∀ (y : Int32) (i : Nat), y = nI i → i + 1 ≤ tn (l_truckCount (ft_nr r)) → p_minutesLeft (ft_nr r) y = 0 → p_queueTime (ft_nr r) y = ft_up (ft_wd r y) 0 (tn (p_queueLength (ft_nr r) y)) - 0 := h.g_5.2.2.2.2.2.1
theorem ft_JJ.a5 {J : Nat → ft_Sg → Prop} {G : (Nat → Int32) → Prop} {T : Nat → Nat → ft_Sg → Prop} (h : ft_JJ J G T) : ∀ {r : Nat → Int32}, G r → ∀ (y : Int32) (i : Nat), y = nI i → i + 1 ≤ tn (l_truckCount (ft_nr r)) → ¬ p_minutesLeft (ft_nr r) y = 0 → p_queueTime (ft_nr r) y = ft_up (ft_wd r y) 0 (tn (p_queueLength (ft_nr r) y)) - (((p_wantedDish (ft_nr r) y 0) + 1) - (p_minutesLeft (ft_nr r) y)) := h.g_5.2.2.2.2.2.2.1
theorem ft_JJ.a6 {J : Nat → ft_Sg → Prop} {G : (Nat → Int32) → Prop} {T : Nat → Nat → ft_Sg → Prop} (h : ft_JJ J G T) : ∀ {r : Nat → Int32}, G r → ∀ (y : Int32) (i : Nat), y = nI i → i + 1 ≤ tn (l_truckCount (ft_nr r)) → ¬ p_minutesLeft (ft_nr r) y = 0 → ¬ ((p_wantedDish (ft_nr r) y 0) + 1) - (p_minutesLeft (ft_nr r) y) < 0 := h.g_5.2.2.2.2.2.2.2.1
theorem ft_JJ.a7 {J : Nat → ft_Sg → Prop} {G : (Nat → Int32) → Prop} {T : Nat → Nat → ft_Sg → Prop} (h : ft_JJ J G T) : ∀ {r : Nat → Int32}, G r → ∀ (y : Int32) (i : Nat), y = nI i → i + 1 ≤ tn (l_truckCount (ft_nr r)) → ¬ 9 < p_queueLength (ft_nr r) y := h.g_5.2.2.2.2.2.2.2.2.1
theorem ft_JJ.a8 {J : Nat → ft_Sg → Prop} {G : (Nat → Int32) → Prop} {T : Nat → Nat → ft_Sg → Prop} (h : ft_JJ J G T) : ∀ {r : Nat → Int32}, G r → ∀ (y : Int32) (i : Nat), y = nI i → i + 1 ≤ tn (l_truckCount (ft_nr r)) → w_pitchOf (ft_nr r) y (ft_td r) = -1000 → p_isOpen (ft_nr r) y = 0 ∧ p_queueLength (ft_nr r) y = 0 ∧ p_minutesLeft (ft_nr r) y = 0 := h.g_5.2.2.2.2.2.2.2.2.2.1
theorem ft_JJ.a9 {J : Nat → ft_Sg → Prop} {G : (Nat → Int32) → Prop} {T : Nat → Nat → ft_Sg → Prop} (h : ft_JJ J G T) : ∀ {r : Nat → Int32}, G r → ∀ (y : Int32) (i : Nat), y = nI i → i + 1 ≤ tn (l_truckCount (ft_nr r)) → ¬ w_pitchOf (ft_nr r) y (ft_td r) = -1000 → p_isOpen (ft_nr r) y = 1 := h.g_5.2.2.2.2.2.2.2.2.2.2.1
theorem ft_JJ.a10 {J : Nat → ft_Sg → Prop} {G : (Nat → Int32) → Prop} {T : Nat → Nat → ft_Sg → Prop} (h : ft_JJ J G T) : ∀ {r : Nat → Int32}, G r → ∀ (y : Int32) (i : Nat), y = nI i → i + 1 ≤ tn (l_truckCount (ft_nr r)) → w_wantedDish (ft_nr r) y (p_queueLength (ft_nr r) y) = -1000 := h.g_5.2.2.2.2.2.2.2.2.2.2.2.1
theorem ft_JJ.a11 {J : Nat → ft_Sg → Prop} {G : (Nat → Int32) → Prop} {T : Nat → Nat → ft_Sg → Prop} (h : ft_JJ J G T) : ∀ {r : Nat → Int32}, G r → ∀ (y : Int32) (i : Nat), y = nI i → i + 1 ≤ tn (l_truckCount (ft_nr r)) → w_firstFreeDay (ft_nr r) y = s_L_firstOf r y := h.g_5.2.2.2.2.2.2.2.2.2.2.2.2.1
theorem ft_JJ.a12 {J : Nat → ft_Sg → Prop} {G : (Nat → Int32) → Prop} {T : Nat → Nat → ft_Sg → Prop} (h : ft_JJ J G T) : ∀ {r : Nat → Int32}, G r → ft_up (fun y => p_soldPortions (ft_nr r) y) 0 4 = l_servedTotal (ft_nr r) := h.g_5.2.2.2.2.2.2.2.2.2.2.2.2.2.1
theorem ft_JJ.a13 {J : Nat → ft_Sg → Prop} {G : (Nat → Int32) → Prop} {T : Nat → Nat → ft_Sg → Prop} (h : ft_JJ J G T) : ∀ {r : Nat → Int32}, G r → l_arrivedTotal (ft_nr r) = (((l_servedTotal (ft_nr r)) + (l_disappointedTotal (ft_nr r))) + (l_lostTotal (ft_nr r))) + (ft_up (fun y => p_queueLength (ft_nr r) y) 0 (tn (l_truckCount (ft_nr r)))) := h.g_5.2.2.2.2.2.2.2.2.2.2.2.2.2.2.1
theorem ft_JJ.m0 {J : Nat → ft_Sg → Prop} {G : (Nat → Int32) → Prop} {T : Nat → Nat → ft_Sg → Prop} (h : ft_JJ J G T) : ∀ {r : Nat → Int32}, G r → l_truckCount (ft_nr r) = 0 → Op.cmpValue (FP.dcmp (w_meanCoins (ft_nr r)) 13830554455654793216) .l = 0 := h.g_5.2.2.2.2.2.2.2.2.2.2.2.2.2.2.2
theorem ft_JJ.g_6 {J : Nat → ft_Sg → Prop} {G : (Nat → Int32) → Prop} {T : Nat → Nat → ft_Sg → Prop} (h : ft_JJ J G T) : ft_JJ6 J G T := h.2.2.2.2.2.2.1
theorem ft_JJ.m1 {J : Nat → ft_Sg → Prop} {G : (Nat → Int32) → Prop} {T : Nat → Nat → ft_Sg → Prop} (h : ft_JJ J G T) : ∀ {r : Nat → Int32}, G r → ¬ l_truckCount (ft_nr r) = 0 → vf_n64 (FP.ddiv (FP.i2d (ft_up (fun y => p_coins (ft_nr r) y) 0 (tn (l_truckCount (ft_nr r))))) (FP.i2d (l_truckCount (ft_nr r)))) ∧ Op.cmpValue (FP.dcmp (w_meanCoins (ft_nr r)) (FP.ddiv (FP.i2d (ft_up (fun y => p_coins (ft_nr r) y) 0 (tn (l_truckCount (ft_nr r))))) (FP.i2d (l_truckCount (ft_nr r))))) .l = 0 := h.g_6.1
theorem ft_JJ.m2 {J : Nat → ft_Sg → Prop} {G : (Nat → Int32) → Prop} {T : Nat → Nat → ft_Sg → Prop} (h : ft_JJ J G T) : ∀ {r : Nat → Int32}, G r → ¬ r 0 = 0 → vf_n64 (FP.ddiv (FP.i2d (s_X4_sumOfCoins r)) (FP.i2d (r 0))) := h.g_6.2.1
theorem ft_JJ.s0 {J : Nat → ft_Sg → Prop} {G : (Nat → Int32) → Prop} {T : Nat → Nat → ft_Sg → Prop} (h : ft_JJ J G T) : ∀ {r : Nat → Int32}, G r → l_arrivedTotal (ft_nr r) = 0 → Op.cmpValue (FP.fcmp (w_servedShare (ft_nr r)) 3212836864) .l = 0 := h.g_6.2.2.1
theorem ft_JJ.s1 {J : Nat → ft_Sg → Prop} {G : (Nat → Int32) → Prop} {T : Nat → Nat → ft_Sg → Prop} (h : ft_JJ J G T) : ∀ {r : Nat → Int32}, G r → ¬ l_arrivedTotal (ft_nr r) = 0 → vf_n32 (FP.fdiv (FP.i2f (l_servedTotal (ft_nr r))) (FP.i2f (l_arrivedTotal (ft_nr r)))) ∧ Op.cmpValue (FP.fcmp (w_servedShare (ft_nr r)) (FP.fdiv (FP.i2f (l_servedTotal (ft_nr r))) (FP.i2f (l_arrivedTotal (ft_nr r))))) .l = 0 := h.g_6.2.2.2.1
theorem ft_JJ.s2 {J : Nat → ft_Sg → Prop} {G : (Nat → Int32) → Prop} {T : Nat → Nat → ft_Sg → Prop} (h : ft_JJ J G T) : ∀ {r : Nat → Int32}, G r → ¬ r 4 = 0 → vf_n32 (FP.fdiv (FP.i2f (r 5)) (FP.i2f (r 4))) := h.g_6.2.2.2.2.1
theorem ft_JJ.rtH {J : Nat → ft_Sg → Prop} {G : (Nat → Int32) → Prop} {T : Nat → Nat → ft_Sg → Prop} (h : ft_JJ J G T) : ∀ {c : Nat} {σ : ft_Sg} {r : Nat → Int32}, J c σ → c ≤ 1000 → σ.1 0 = r → ∀ (y : Int32) (i : Nat), y = nI i → i + 1 ≤ tn (l_truckCount (ft_nr r)) → tn y < 10 ∧ (∀ z : Int32, ¬ s_X6_portionsOf (σ.1 0) (51 + 17 * tn y) z < 0 ∧ tn (s_X6_portionsOf (σ.1 0) (51 + 17 * tn y) z) < 1000) ∧ ¬ σ.1 0 (51 + 17 * tn y + 0) < 0 ∧ (s_X4_pitchToday (σ.1 0) y = -1 ∨ (¬ s_X4_pitchToday (σ.1 0) y < 0 ∧ tn (s_X4_pitchToday (σ.1 0) y) < 10)) ∧ tn (σ.1 0 (51 + 17 * tn y + 2)) ≤ 9 := h.g_6.2.2.2.2.2.1
theorem ft_JJ.rtv {J : Nat → ft_Sg → Prop} {G : (Nat → Int32) → Prop} {T : Nat → Nat → ft_Sg → Prop} (h : ft_JJ J G T) : ∀ {c : Nat} {σ : ft_Sg} {r : Nat → Int32}, J c σ → c ≤ 1000 → σ.1 0 = r → ∀ (y : Int32) (i : Nat), y = nI i → i + 1 ≤ tn (l_truckCount (ft_nr r)) → (l_renderTruck σ y).1 = .ok (p_renderTruck σ y) := h.g_6.2.2.2.2.2.2.1
theorem ft_JJ.rt0 {J : Nat → ft_Sg → Prop} {G : (Nat → Int32) → Prop} {T : Nat → Nat → ft_Sg → Prop} (h : ft_JJ J G T) : ∀ {c : Nat} {σ : ft_Sg} {r : Nat → Int32}, J c σ → c ≤ 1000 → σ.1 0 = r → ∀ (y : Int32) (i : Nat), y = nI i → i + 1 ≤ tn (l_truckCount (ft_nr r)) → w_pitchOf (ft_nr r) y (ft_td r) = -1000 → ¬ p_renderTruck σ y < 12 + 0 := h.g_6.2.2.2.2.2.2.2.1
theorem ft_JJ.rt1 {J : Nat → ft_Sg → Prop} {G : (Nat → Int32) → Prop} {T : Nat → Nat → ft_Sg → Prop} (h : ft_JJ J G T) : ∀ {c : Nat} {σ : ft_Sg} {r : Nat → Int32}, J c σ → c ≤ 1000 → σ.1 0 = r → ∀ (y : Int32) (i : Nat), y = nI i → i + 1 ≤ tn (l_truckCount (ft_nr r)) → ¬ w_pitchOf (ft_nr r) y (ft_td r) = -1000 → ¬ p_renderTruck σ y < 12 + (2 + (p_queueLength (ft_nr r) y)) := h.g_6.2.2.2.2.2.2.2.2.1
theorem ft_JJ.sw {J : Nat → ft_Sg → Prop} {G : (Nat → Int32) → Prop} {T : Nat → Nat → ft_Sg → Prop} (h : ft_JJ J G T) : ∀ {c : Nat} {σ : ft_Sg} {r : Nat → Int32} {m : Int32}, J c σ → c + 1 ≤ 1000 → (1 ≤ m ∧ m ≤ 60) → σ.1 0 = r → (l_servedWithin σ m).1 = .ok (ft_pz r m) := h.g_6.2.2.2.2.2.2.2.2.2.1
theorem ft_JJ.ad {J : Nat → ft_Sg → Prop} {G : (Nat → Int32) → Prop} {T : Nat → Nat → ft_Sg → Prop} (h : ft_JJ J G T) : ∀ {c : Nat} {σ : ft_Sg} {r : Nat → Int32} {m : Int32}, J c σ → c + 1 ≤ 1000 → (1 ≤ m ∧ m ≤ 60) → σ.1 0 = r → (w_advance σ m).1 = ft_pz r m ∧ (w_advance σ m).2.1 0 = ft_pr r m ∧ ft_U r (w_advance σ m).2 := h.g_6.2.2.2.2.2.2.2.2.2.2.1
theorem ft_JJ.p1 {J : Nat → ft_Sg → Prop} {G : (Nat → Int32) → Prop} {T : Nat → Nat → ft_Sg → Prop} (h : ft_JJ J G T) : ∀ {r : Nat → Int32} {m : Int32}, G r → G (ft_pr r m) → (1 ≤ m ∧ m ≤ 60) → l_servedTotal (ft_nr (ft_pr r m)) = (l_servedTotal (ft_nr r)) + (ft_pz r m) := h.g_6.2.2.2.2.2.2.2.2.2.2.2.1
theorem ft_JJ.p2 {J : Nat → ft_Sg → Prop} {G : (Nat → Int32) → Prop} {T : Nat → Nat → ft_Sg → Prop} (h : ft_JJ J G T) : ∀ {r : Nat → Int32} {m : Int32}, G r → G (ft_pr r m) → (1 ≤ m ∧ m ≤ 60) → l_arrivedTotal (ft_nr (ft_pr r m)) = (l_arrivedTotal (ft_nr r)) + (m * (l_weather (ft_nr (ft_pr r m)))) := h.g_6.2.2.2.2.2.2.2.2.2.2.2.2.1
theorem ft_JJ.p3 {J : Nat → ft_Sg → Prop} {G : (Nat → Int32) → Prop} {T : Nat → Nat → ft_Sg → Prop} (h : ft_JJ J G T) : ∀ {r : Nat → Int32} {m : Int32}, G r → G (ft_pr r m) → (1 ≤ m ∧ m ≤ 60) → (60 * (l_day (ft_nr (ft_pr r m)))) + (l_minute (ft_nr (ft_pr r m))) = ((60 * (l_day (ft_nr r))) + (l_minute (ft_nr r))) + m := h.g_6.2.2.2.2.2.2.2.2.2.2.2.2.2.1
theorem ft_JJ.p5 {J : Nat → ft_Sg → Prop} {G : (Nat → Int32) → Prop} {T : Nat → Nat → ft_Sg → Prop} (h : ft_JJ J G T) : ∀ {r : Nat → Int32} {m : Int32}, G r → G (ft_pr r m) → (1 ≤ m ∧ m ≤ 60) → ∀ (y : Int32) (i : Nat), y = nI i → i + 1 ≤ 4 → (p_soldPortions (ft_nr (ft_pr r m)) y) - (p_soldPortions (ft_nr r) y) = ft_dn (fun z => p_stock (ft_nr (ft_pr r m)) z y) (ft_up (fun z => p_stock (ft_nr r) z y) 0 (tn (l_truckCount (ft_nr r)))) (tn (l_truckCount (ft_nr (ft_pr r m)))) ∧ ¬ (p_soldPortions (ft_nr (ft_pr r m)) y) - (p_soldPortions (ft_nr r) y) < 0 := h.g_6.2.2.2.2.2.2.2.2.2.2.2.2.2.2.1
theorem ft_JJ.p6 {J : Nat → ft_Sg → Prop} {G : (Nat → Int32) → Prop} {T : Nat → Nat → ft_Sg → Prop} (h : ft_JJ J G T) : ∀ {r : Nat → Int32} {m : Int32}, G r → G (ft_pr r m) → (1 ≤ m ∧ m ≤ 60) → ft_dn (fun y => ((p_soldPortions (ft_nr (ft_pr r m)) y) - (p_soldPortions (ft_nr r) y)) * (p_price (ft_nr (ft_pr r m)) y)) (ft_up (fun y => p_coins (ft_nr (ft_pr r m)) y) (ft_dn (fun y => p_coins (ft_nr r) y) 0 (tn (l_truckCount (ft_nr r)))) (tn (l_truckCount (ft_nr (ft_pr r m))))) 4 = 0 := h.g_6.2.2.2.2.2.2.2.2.2.2.2.2.2.2.2
theorem ft_JJ.g_7 {J : Nat → ft_Sg → Prop} {G : (Nat → Int32) → Prop} {T : Nat → Nat → ft_Sg → Prop} (h : ft_JJ J G T) : ft_JJ7 J G T := h.2.2.2.2.2.2.2
theorem ft_JJ.uU {J : Nat → ft_Sg → Prop} {G : (Nat → Int32) → Prop} {T : Nat → Nat → ft_Sg → Prop} (h : ft_JJ J G T) : ∀ {r : Nat → Int32} {σ u : ft_Sg}, ft_U r σ → ft_zm σ u → ft_U r u := h.g_7.1
theorem ft_JJ.d1 {J : Nat → ft_Sg → Prop} {G : (Nat → Int32) → Prop} {T : Nat → Nat → ft_Sg → Prop} (h : ft_JJ J G T) : ∀ {c : Nat} {σ : ft_Sg} {r : Nat → Int32}, J c σ → c ≤ 1000 → σ.1 0 = r → ∀ (p : Int32) (i : Nat), p = nI i → i + 1 ≤ 5 → w_truckAt (ft_nr r) p (ft_td r) = -1000 → (w_release σ p (ft_td r)).1 = -100000000 ∧ (w_release σ p (ft_td r)).2.1 0 = r := h.g_7.2.1
theorem ft_JJ.d2 {J : Nat → ft_Sg → Prop} {G : (Nat → Int32) → Prop} {T : Nat → Nat → ft_Sg → Prop} (h : ft_JJ J G T) : ∀ {c : Nat} {σ : ft_Sg} {r : Nat → Int32}, J c σ → c ≤ 1000 → σ.1 0 = r → ∀ (p : Int32) (i : Nat), p = nI i → i + 1 ≤ 5 → ¬ w_truckAt (ft_nr r) p (ft_td r) = -1000 → (w_release σ p (ft_td r)).1 = w_truckAt (ft_nr r) p (ft_td r) ∧ (w_release σ p (ft_td r)).2.1 0 = ft_rl r p (ft_td r) ∧ ft_U r (w_release σ p (ft_td r)).2 := h.g_7.2.2.1
theorem ft_JJ.d3 {J : Nat → ft_Sg → Prop} {G : (Nat → Int32) → Prop} {T : Nat → Nat → ft_Sg → Prop} (h : ft_JJ J G T) : ∀ {r : Nat → Int32}, G r → ∀ (p : Int32) (i : Nat), p = nI i → i + 1 ≤ 5 → ¬ w_truckAt (ft_nr r) p (ft_td r) = -1000 → ¬ w_truckAt (ft_nr r) p (ft_td r) = -100000000 ∧ ¬ s_X4_isTruck r (w_truckAt (ft_nr r) p (ft_td r)) = 0 := h.g_7.2.2.2.1
theorem ft_JJ.d5 {J : Nat → ft_Sg → Prop} {G : (Nat → Int32) → Prop} {T : Nat → Nat → ft_Sg → Prop} (h : ft_JJ J G T) : ∀ {r : Nat → Int32}, G r → ∀ (p : Int32) (i : Nat), p = nI i → i + 1 ≤ 5 → ¬ w_truckAt (ft_nr r) p (ft_td r) = -1000 → l_disappointedTotal (ft_nr (ft_rl r p (ft_td r))) = (l_disappointedTotal (ft_nr r)) + (p_queueLength (ft_nr r) (w_truckAt (ft_nr r) p (ft_td r))) := h.g_7.2.2.2.2.1
theorem ft_JJ.d6 {J : Nat → ft_Sg → Prop} {G : (Nat → Int32) → Prop} {T : Nat → Nat → ft_Sg → Prop} (h : ft_JJ J G T) : ∀ {r : Nat → Int32}, G r → ∀ (p : Int32) (i : Nat), p = nI i → i + 1 ≤ 5 → ¬ w_truckAt (ft_nr r) p (ft_td r) = -1000 → l_isOpen (ft_nr (ft_rl r p (ft_td r))) (w_truckAt (ft_nr r) p (ft_td r)) = .ok 0 ∧ l_queueLength (ft_nr (ft_rl r p (ft_td r))) (w_truckAt (ft_nr r) p (ft_td r)) = .ok 0 := h.g_7.2.2.2.2.2.1
theorem ft_JJ.tx0 {J : Nat → ft_Sg → Prop} {G : (Nat → Int32) → Prop} {T : Nat → Nat → ft_Sg → Prop} (h : ft_JJ J G T) : ∀ {c j : Nat} {σ : ft_Sg}, J c σ → σ.2.2.1 6 = 0 → j < 28 → T j 0 σ := h.g_7.2.2.2.2.2.2.1
theorem ft_JJ.tx1 {J : Nat → ft_Sg → Prop} {G : (Nat → Int32) → Prop} {T : Nat → Nat → ft_Sg → Prop} (h : ft_JJ J G T) : ∀ {c j n : Nat} {σ : ft_Sg}, J c σ → T j n σ → j < 28 → n < ft_scn.getD j 0 → T j (n + 1) (w_put σ (ft_ch ((ft_scy.getD j []).getD n 0))).2 := h.g_7.2.2.2.2.2.2.2.1
theorem ft_JJ.sc {J : Nat → ft_Sg → Prop} {G : (Nat → Int32) → Prop} {T : Nat → Nat → ft_Sg → Prop} (h : ft_JJ J G T) : ∀ {c j : Nat} {σ : ft_Sg}, J c σ → c + 1 ≤ 1000 → j < 28 → T j (ft_scn.getD j 0) σ → ((w_runScript σ).1 = -100000000 → (w_runScript σ).2.1 0 = σ.1 0 ∧ ¬ w_failedCommand (w_runScript σ).2 < 0) ∧ (¬ (w_runScript σ).1 = -100000000 → ft_U (σ.1 0) (w_runScript σ).2) := h.g_7.2.2.2.2.2.2.2.2.1
theorem ft_JJ.e_runScript {J : Nat → ft_Sg → Prop} {G : (Nat → Int32) → Prop} {T : Nat → Nat → ft_Sg → Prop} (h : ft_JJ J G T) : ∀ {c : Nat} {σ : ft_Sg}, J c σ → (w_runScript σ).2.2.2.1 6 = 0 := h.g_7.2.2.2.2.2.2.2.2.2.1
theorem ft_JJ.e_undo {J : Nat → ft_Sg → Prop} {G : (Nat → Int32) → Prop} {T : Nat → Nat → ft_Sg → Prop} (h : ft_JJ J G T) : ∀ {σ : ft_Sg}, (w_undo σ).2.2.2.1 6 = σ.2.2.1 6 := h.g_7.2.2.2.2.2.2.2.2.2.2.1
theorem ft_JJ.sa {J : Nat → ft_Sg → Prop} {G : (Nat → Int32) → Prop} {T : Nat → Nat → ft_Sg → Prop} (h : ft_JJ J G T) : ∀ {c : Nat} {σ : ft_Sg}, J c σ → c ≤ 1000 → (l_save σ).1 = l_truckCount (ft_nr (σ.1 0)) ∧ (l_save σ).2.1 2 = σ.1 0 ∧ (l_save σ).2.2.2.1 0 = 1 ∧ (l_save σ).2.2.2.1 6 = σ.2.2.1 6 := h.g_7.2.2.2.2.2.2.2.2.2.2.2.1
theorem ft_JJ.rs {J : Nat → ft_Sg → Prop} {G : (Nat → Int32) → Prop} {T : Nat → Nat → ft_Sg → Prop} (h : ft_JJ J G T) : ∀ {c : Nat} {σ : ft_Sg} {r : Nat → Int32}, J c σ → σ.1 2 = r → σ.2.2.1 0 = 1 → (w_restore σ).1 = l_truckCount (ft_nr r) ∧ (w_restore σ).2.1 0 = r ∧ (w_undo (w_restore σ).2).1 = -100000000 := h.g_7.2.2.2.2.2.2.2.2.2.2.2.2
