/-! a world of named cells: the name j < n stands for the cell at the address ad j, and holds va j -/
def ft_W (n : Nat) (ad : Nat → Nat) (va : Nat → va_E) : va_W := (List.range n).map (fun j => (ad j, va j))
theorem ft_get {n : Nat} {ad : Nat → Nat} {va : Nat → va_E} {j : Nat} (h : j < n) : (ft_W n ad va)[j]? = some (ad j, va j) := by
  simp [ft_W, h]
theorem ft_get' {n : Nat} {ad : Nat → Nat} {va : Nat → va_E} {j : Nat} {e : va_E} (h : j < n) (he : va j = e) : (ft_W n ad va)[j]? = some (ad j, e) := by
  rw [ft_get h, he]
theorem ft_len {n : Nat} {ad : Nat → Nat} {va : Nat → va_E} : (ft_W n ad va).length = n := by simp [ft_W]
theorem ft_of {n : Nat} {ad : Nat → Nat} {va : Nat → va_E} {k : Nat} {q : Nat × va_E} (h : (ft_W n ad va)[k]? = some q) : k < n ∧ q = (ad k, va k) := by
  have hk : k < n := by
    have := (List.getElem?_eq_some_iff.mp h).1
    rw [ft_len] at this
    exact this
  rw [ft_get hk] at h
  exact ⟨hk, (Option.some.inj h).symm⟩
theorem ft_set {n : Nat} {ad : Nat → Nat} {va : Nat → va_E} {j : Nat} {e : va_E} : (ft_W n ad va).set j (ad j, e) = ft_W n ad (va_up va j e) := by
  apply List.ext_getElem?
  intro k
  by_cases hk : k < n
  · rw [ft_get hk]
    by_cases hj : j = k
    · subst hj
      rw [List.getElem?_set_self (by rw [ft_len]; exact hk), va_up_self]
    · rw [List.getElem?_set_ne hj, ft_get hk, va_up_ne _ _ (Ne.symm hj)]
  · rw [List.getElem?_eq_none (by rw [List.length_set, ft_len]; omega), List.getElem?_eq_none (by rw [ft_len]; omega)]
theorem ft_set' {n : Nat} {ad : Nat → Nat} {va va' : Nat → va_E} {j : Nat} {e : va_E} (h : ∀ k, k < n → va_up va j e k = va' k) : (ft_W n ad va).set j (ad j, e) = ft_W n ad va' := by
  rw [ft_set]
  apply List.ext_getElem?
  intro k
  by_cases hk : k < n
  · rw [ft_get hk, ft_get hk, h k hk]
  · rw [List.getElem?_eq_none (by rw [ft_len]; omega), List.getElem?_eq_none (by rw [ft_len]; omega)]
/-- the world's part at the names g 0 .. g (m - 1) -/
theorem ft_P_sub {D : va_G} {cl : List vw_C} {n m : Nat} {ad : Nat → Nat} {va : Nat → va_E} {H : Heap} (hP : va_P D cl (ft_W n ad va) H) (g : Nat → Nat) (hg : ∀ j, j < m → g j < n) {ad' : Nat → Nat} {va' : Nat → va_E} (ha : ∀ j, j < m → ad' j = ad (g j)) (hv : ∀ j, j < m → va' j = va (g j)) : va_P D cl (ft_W m ad' va') H := by
  intro k q hk
  obtain ⟨h1, rfl⟩ := ft_of hk
  rw [ha k h1, hv k h1]
  exact hP (g k) _ (ft_get (hg k h1))
theorem ft_D_sub {A : Nat → Prop} {n m : Nat} {ad : Nat → Nat} {va : Nat → va_E} (hD : va_D A (ft_W n ad va)) (g : Nat → Nat) (hg : ∀ j, j < m → g j < n) (hi : ∀ i j, i < m → j < m → g i = g j → i = j) {ad' : Nat → Nat} {va' : Nat → va_E} (ha : ∀ j, j < m → ad' j = ad (g j)) : va_D A (ft_W m ad' va') := by
  refine ⟨fun i j x y hx hy hxy => ?_, fun k q hk => ?_⟩
  · obtain ⟨h1, rfl⟩ := ft_of hx
    obtain ⟨h2, rfl⟩ := ft_of hy
    have hxy : ad' i = ad' j := hxy
    rw [ha i h1, ha j h2] at hxy
    exact hi i j h1 h2 (hD.1 (g i) (g j) _ _ (ft_get (hg i h1)) (ft_get (hg j h2)) hxy)
  · obtain ⟨h1, rfl⟩ := ft_of hk
    show A (ad' k)
    rw [ha k h1]
    exact hD.2 (g k) _ (ft_get (hg k h1))
/-- a world's apartness says nothing of what its cells hold -/
theorem ft_D_va {A : Nat → Prop} {n : Nat} {ad : Nat → Nat} {va : Nat → va_E} (hD : va_D A (ft_W n ad va)) (va' : Nat → va_E) : va_D A (ft_W n ad va') := ft_D_sub hD id (fun _ h => h) (fun _ _ _ _ h => h) (fun _ _ => rfl)
/-- the addresses of the first n names -/
def ft_A (n : Nat) (ad : Nat → Nat) : Nat → Prop := fun q => ∃ j : Nat, j < n ∧ q = ad j
theorem ft_D_self {A : Nat → Prop} {n : Nat} {ad : Nat → Nat} {va : Nat → va_E} (hD : va_D A (ft_W n ad va)) : va_D (ft_A n ad) (ft_W n ad va) :=
  ⟨hD.1, fun k q hk => by obtain ⟨h1, rfl⟩ := ft_of hk; exact ⟨k, h1, rfl⟩⟩
theorem ft_D_A {A : Nat → Prop} {n m : Nat} {ad ad' : Nat → Nat} {va : Nat → va_E} (hD : va_D A (ft_W n ad va)) (g : Nat → Nat) (hg : ∀ j, j < m → g j < n) (ha : ∀ j, j < m → ad' j = ad (g j)) : ∀ q, ft_A m ad' q → A q := by
  intro q ⟨j, h1, h2⟩
  rw [h2, ha j h1]
  exact hD.2 (g j) _ (ft_get (hg j h1))
/-- behind a call on the part at the names g: the other cells are as they were -/
theorem ft_join {D : va_G} {cl : List vw_C} {A : Nat → Prop} {n m : Nat} {ad ad' : Nat → Nat} {va va1 va' : Nat → va_E} {H H1 : Heap} (hP : va_P D cl (ft_W n ad va) H) (hD : va_D A (ft_W n ad va)) (g : Nat → Nat) (hg : ∀ j, j < m → g j < n) (ha : ∀ j, j < m → ad' j = ad (g j))
    (hk : ∀ q : Nat, q < H.size → ¬ ft_A m ad' q → H1[q]? = H[q]?) (hP1 : va_P D cl (ft_W m ad' va1) H1) (h1 : ∀ j, j < m → va' (g j) = va1 j) (h2 : ∀ k, k < n → (∀ j, j < m → g j ≠ k) → va' k = va k) : va_P D cl (ft_W n ad va') H1 := by
  intro k q hq
  obtain ⟨hkn, rfl⟩ := ft_of hq
  by_cases hx : ∃ j, j < m ∧ g j = k
  · obtain ⟨j, hj, rfl⟩ := hx
    rw [← ha j hj, h1 j hj]
    exact hP1 j _ (ft_get hj)
  · have hne : ∀ j, j < m → g j ≠ k := fun j hj e => hx ⟨j, hj, e⟩
    rw [h2 k hkn hne]
    have hat := hP k _ (ft_get hkn)
    refine hat.kept (hk _ hat.lt (fun ⟨j, hj, e⟩ => ?_))
    have e : ad k = ad' j := e
    rw [ha j hj] at e
    exact hne j hj (hD.1 (g j) k _ _ (ft_get (hg j hj)) (ft_get hkn) e.symm)
/-- a stretch of a row of numbers, as an array holds it -/
def ft_ar (r : Nat → Int32) (b n : Nat) : Nat → Int32 := fun j => if j < n then r (b + j) else 0
theorem ft_ar_get {r : Nat → Int32} {b n j : Nat} (h : j < n) : ft_ar r b n j = r (b + j) := if_pos h
theorem ft_ar_put {r : Nat → Int32} {b n k : Nat} (h : k < n) (x : Int32) : upd (ft_ar r b n) k x = ft_ar (va_up r (b + k) x) b n := by
  funext j
  simp only [upd, ft_ar, va_up]
  by_cases hj : j = k
  · subst hj; simp [h]
  · have : ¬ b + j = b + k := by omega
    simp [hj, this]
theorem ft_ar_out {r : Nat → Int32} {b n k : Nat} (h : k < b ∨ b + n ≤ k) (x : Int32) : ft_ar (va_up r k x) b n = ft_ar r b n := by
  funext j
  simp only [ft_ar, va_up]
  by_cases hj : j < n
  · have : ¬ b + j = k := by omega
    simp [this]
  · simp [hj]
theorem ft_ar_congr {r r' : Nat → Int32} {b n : Nat} (h : ∀ j, j < n → r (b + j) = r' (b + j)) : ft_ar r b n = ft_ar r' b n := by
  funext j
  simp only [ft_ar]
  by_cases hj : j < n
  · simp [hj, h j hj]
  · simp [hj]
/-- one step of a counter below its bound -/
theorem ft_step {v bnd : Int32} {i : Nat} (hi : v = nI i) (hm : i ≤ bnd.toNatClampNeg) (h : ¬ bnd ≤ v) : i + 1 ≤ bnd.toNatClampNeg := by
  subst hi
  have h1 : bnd.toInt < 2 ^ 31 := Int32.toInt_lt bnd
  have h2 : bnd.toNatClampNeg = bnd.toInt.toNat := rfl
  have h3 : i < 2 ^ 31 := by omega
  have h4 : (nI i).toInt = (i : Int) := nI_toInt h3
  rw [Int32.le_iff_toInt_le, h4] at h
  omega
