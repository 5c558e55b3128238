theorem o_X6_copyFrom (r : Nat → Int32) (b : Nat) (r2 : Nat → Int32) (b2 : Nat) : ∀ q, (q < b ∨ b + 17 ≤ q) → s_X6_copyFrom r b r2 b2 q = r q := by
  intro q hq
  rw [copyFrom_eq]
  exact ft_cp_out hq
/-- the cells of the trucks i of two Squares side by side -/
def ft_g2 (i : Nat) : Nat → Nat := fun j => if j < 3 then 5 + 3 * i + j else 23 + (5 + 3 * i + (j - 3))
theorem ft_g2_lt {i : Nat} (hi : i < 6) : ∀ j, j < 6 → ft_g2 i j < 46 := by
  intro j hj
  unfold ft_g2
  split <;> omega
theorem ft_g2_inj {i : Nat} : ∀ a b, a < 6 → b < 6 → ft_g2 i a = ft_g2 i b → a = b := by
  intro a b ha hb h
  unfold ft_g2 at h
  split at h <;> split at h <;> omega
theorem ft_g2_ad {ad ad2 : Nat → Nat} {i : Nat} (hi : i < 6) : ∀ j, j < 6 → ft_bl 3 (ft_at ad i) (ft_at ad2 i) j = ft_bl 23 ad ad2 (ft_g2 i j) := by
  intro j hj
  unfold ft_g2
  by_cases h : j < 3
  · rw [if_pos h, ft_bl_lo h, ft_bl_lo (by omega)]
  · rw [if_neg h, ft_bl_hi]
    show (if j < 3 then _ else _) = _
    rw [if_neg h]
theorem ft_g2_va {ad ad2 : Nat → Nat} {k : Nat → ClassId} {r r2 : Nat → Int32} {i : Nat} (hi : i < 6) : ∀ j, j < 6 → ft_bl 3 (ft_T (ft_at ad i) k r (51 + 17 * i)) (ft_T (ft_at ad2 i) k r2 (51 + 17 * i)) j = ft_bl 23 (ft_S ad k r) (ft_S ad2 k r2) (ft_g2 i j) := by
  intro j hj
  unfold ft_g2
  by_cases h : j < 3
  · rw [if_pos h, ft_bl_lo h, ft_bl_lo (by omega), ft_S_T h]
  · rw [if_neg h, ft_bl_hi, ft_S_T (by omega)]
    show (if j < 3 then _ else _) = _
    rw [if_neg h]
theorem ft_S2_P {D : va_G} {ad ad2 : Nat → Nat} {k : Nat → ClassId} {r r2 : Nat → Int32} {H : Heap} {i : Nat} (hP : va_P D vwCl (ft_WS2 ad k r ad2 r2) H) (hi : i < 6) : va_P D vwCl (ft_WT2 (ft_at ad i) k r (51 + 17 * i) (ft_at ad2 i) r2 (51 + 17 * i)) H :=
  ft_P_sub hP (ft_g2 i) (ft_g2_lt hi) (ft_g2_ad hi) (ft_g2_va hi)
theorem ft_S2_D {A : Nat → Prop} {ad ad2 : Nat → Nat} {k : Nat → ClassId} {r r2 : Nat → Int32} {i : Nat} (hD : va_D A (ft_WS2 ad k r ad2 r2)) (hi : i < 6) : va_D A (ft_WT2 (ft_at ad i) k r (51 + 17 * i) (ft_at ad2 i) r2 (51 + 17 * i)) :=
  ft_D_sub hD (ft_g2 i) (ft_g2_lt hi) ft_g2_inj (ft_g2_ad hi)
theorem ft_S2_A {A : Nat → Prop} {ad ad2 : Nat → Nat} {k : Nat → ClassId} {r r2 : Nat → Int32} {i : Nat} (hD : va_D A (ft_WS2 ad k r ad2 r2)) (hi : i < 6) : ∀ q, ft_A 6 (ft_bl 3 (ft_at ad i) (ft_at ad2 i)) q → A q :=
  ft_D_A hD (ft_g2 i) (ft_g2_lt hi) (ft_g2_ad hi)
theorem ft_S2_join {D : va_G} {A : Nat → Prop} {ad ad2 : Nat → Nat} {k : Nat → ClassId} {r r2 r' : Nat → Int32} {i : Nat} {H H1 : Heap} (hP : va_P D vwCl (ft_WS2 ad k r ad2 r2) H) (hD : va_D A (ft_WS2 ad k r ad2 r2)) (hi : i < 6) (hk : ∀ q : Nat, q < H.size → ¬ ft_A 6 (ft_bl 3 (ft_at ad i) (ft_at ad2 i)) q → H1[q]? = H[q]?) (hP1 : va_P D vwCl (ft_WT2 (ft_at ad i) k r' (51 + 17 * i) (ft_at ad2 i) r2 (51 + 17 * i)) H1) (hr : ∀ q, (q < 51 + 17 * i ∨ 51 + 17 * i + 17 ≤ q) → r' q = r q) : va_P D vwCl (ft_WS2 ad k r' ad2 r2) H1 := by
  refine ft_join hP hD (ft_g2 i) (ft_g2_lt hi) (ft_g2_ad hi) hk hP1 (fun j hj => (ft_g2_va hi j hj).symm) (fun x hx hne => ?_)
  by_cases h : x < 23
  · rw [ft_bl_lo h, ft_bl_lo h]
    refine ft_S_out hr x (fun y hy e => hne y (by omega) ?_)
    show (if y < 3 then 5 + 3 * i + y else _) = x
    rw [if_pos hy, e]
  · obtain ⟨z, rfl⟩ : ∃ z, x = 23 + z := ⟨x - 23, by omega⟩
    rw [ft_bl_hi, ft_bl_hi]
