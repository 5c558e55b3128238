theorem ft_cH_ad {D : va_G} {cl : List vw_C} {k : Nat → ClassId} {x : Nat} {F F' : Nat → Nat} {H : Heap} (h : ∀ y, y < 186 → F' y = F y) (hx : x < 186) (hP : va_at D cl (F x, ft_cH k 8 F x) H) : va_at D cl (F' x, ft_cH k 8 F' x) H := by
  by_cases h2 : x < 2
  · unfold ft_cH at hP ⊢
    rw [if_pos h2] at hP ⊢
    exact ft_hH_ad (fun y hy => h y (by omega)) h2 hP
  · unfold ft_cH at hP ⊢
    rw [if_neg h2] at hP ⊢
    have e1 : F x = (fun z => F (2 + 23 * ((x - 2) / 23) + z)) ((x - 2) % 23) := congrArg F (by omega)
    have e2 : F' x = (fun z => F' (2 + 23 * ((x - 2) / 23) + z)) ((x - 2) % 23) := congrArg F' (by omega)
    rw [e1] at hP
    rw [e2]
    exact ft_eH_ad (g := fun z => F (2 + 23 * ((x - 2) / 23) + z)) (g' := fun z => F' (2 + 23 * ((x - 2) / 23) + z)) (fun y hy => h _ (by omega)) (by omega) hP
theorem ft_cC_ad {D : va_G} {cl : List vw_C} {k : Nat → ClassId} {Z : Nat → Nat → Nat} {x : Nat} {F F' : Nat → Nat} {H : Heap} (h : ∀ y, y < 34 → F' y = F y) (hx : x < 34) (hP : va_at D cl (F x, ft_cC k Z 15 F x) H) : va_at D cl (F' x, ft_cC k Z 15 F' x) H := by
  by_cases h2 : x < 4
  · unfold ft_cC at hP ⊢
    rw [if_pos h2] at hP ⊢
    exact ft_hC_ad (fun y hy => h y (by omega)) h2 hP
  · unfold ft_cC at hP ⊢
    rw [if_neg h2] at hP ⊢
    have e1 : F x = (fun z => F (4 + 2 * ((x - 4) / 2) + z)) ((x - 4) % 2) := congrArg F (by omega)
    have e2 : F' x = (fun z => F' (4 + 2 * ((x - 4) / 2) + z)) ((x - 4) % 2) := congrArg F' (by omega)
    rw [e1] at hP
    rw [e2]
    exact ft_eC_ad (g := fun z => F (4 + 2 * ((x - 4) / 2) + z)) (g' := fun z => F' (4 + 2 * ((x - 4) / 2) + z)) (fun y hy => h _ (by omega)) (by omega) hP
theorem ft_Bk_ad {D : va_G} {cl : List vw_C} {k : Nat → ClassId} {u : ft_TB} {x : Nat} {F F' : Nat → Nat} {H : Heap} (h : ∀ y, y < 2 → F' y = F y) (hx : x < 2) (hP : va_at D cl (F x, ft_B F k u x) H) : va_at D cl (F' x, ft_B F' k u x) H := by
  match x, hx with
  | 0, _ => exact ft_ate (h 0 (by decide)) (by show (.inr (1, [.ref (F' 1), .int 0, .int u.1, .int u.2.1]) : va_E) = .inr (1, [.ref (F 1), .int 0, .int u.1, .int u.2.1]); rw [h 1 (by decide)]) hP
  | 1, _ => exact ft_ate (h 1 (by decide)) rfl hP
/-- a FoodTruckRota in the making: vs what its own cell holds -/
def ft_cR (k : Nat → ClassId) (Z : Nat → Nat → Nat) (vs : List Value) (F : Nat → Nat) : Nat → va_E := fun j => if j < 1 then .inr (9, vs) else if j < 24 then ft_S (fun x => F (1 + x)) k ft_r0 (j - 1) else if j < 47 then ft_S (fun x => F (24 + x)) k ft_r0 (j - 24) else if j < 70 then ft_S (fun x => F (47 + x)) k ft_r0 (j - 47) else if j < 256 then ft_cH k 8 (fun x => F (70 + x)) (j - 70) else if j < 290 then ft_cC k Z 15 (fun x => F (256 + x)) (j - 256) else ft_B (fun x => F (290 + x)) k (0, 0, 16, fun _ => 0) (j - 290)
set_option maxRecDepth 100000 in
theorem ft_cR_ad {D : va_G} {cl : List vw_C} {k : Nat → ClassId} {Z : Nat → Nat → Nat} {vs : List Value} {n j : Nat} {F F' : Nat → Nat} {H : Heap} (hn : n = 1 ∨ n = 24 ∨ n = 47 ∨ n = 70 ∨ n = 256 ∨ n = 290 ∨ n = 292) (h : ∀ y, y < n → F' y = F y) (hj : j < n) (hP : va_at D cl (F j, ft_cR k Z vs F j) H) : va_at D cl (F' j, ft_cR k Z vs F' j) H := by
  unfold ft_cR at hP ⊢
  by_cases h0 : j < 1
  · rw [if_pos h0] at hP ⊢
    exact ft_ate (h j hj) rfl hP
  rw [if_neg h0] at hP ⊢
  by_cases h1 : j < 24
  · rw [if_pos h1] at hP ⊢
    have e1 : F j = (fun x => F (1 + x)) (j - 1) := congrArg F (by omega)
    have e2 : F' j = (fun x => F' (1 + x)) (j - 1) := congrArg F' (by omega)
    rw [e1] at hP
    rw [e2]
    exact ft_S_ad (f := fun x => F (1 + x)) (f' := fun x => F' (1 + x)) (fun y hy => h _ (by omega)) (by omega) hP
  rw [if_neg h1] at hP ⊢
  by_cases h24 : j < 47
  · rw [if_pos h24] at hP ⊢
    have e1 : F j = (fun x => F (24 + x)) (j - 24) := congrArg F (by omega)
    have e2 : F' j = (fun x => F' (24 + x)) (j - 24) := congrArg F' (by omega)
    rw [e1] at hP
    rw [e2]
    exact ft_S_ad (f := fun x => F (24 + x)) (f' := fun x => F' (24 + x)) (fun y hy => h _ (by omega)) (by omega) hP
  rw [if_neg h24] at hP ⊢
  by_cases h47 : j < 70
  · rw [if_pos h47] at hP ⊢
    have e1 : F j = (fun x => F (47 + x)) (j - 47) := congrArg F (by omega)
    have e2 : F' j = (fun x => F' (47 + x)) (j - 47) := congrArg F' (by omega)
    rw [e1] at hP
    rw [e2]
    exact ft_S_ad (f := fun x => F (47 + x)) (f' := fun x => F' (47 + x)) (fun y hy => h _ (by omega)) (by omega) hP
  rw [if_neg h47] at hP ⊢
  by_cases h70 : j < 256
  · rw [if_pos h70] at hP ⊢
    have e1 : F j = (fun x => F (70 + x)) (j - 70) := congrArg F (by omega)
    have e2 : F' j = (fun x => F' (70 + x)) (j - 70) := congrArg F' (by omega)
    rw [e1] at hP
    rw [e2]
    exact ft_cH_ad (F := fun x => F (70 + x)) (F' := fun x => F' (70 + x)) (fun y hy => h _ (by omega)) (by omega) hP
  rw [if_neg h70] at hP ⊢
  by_cases h256 : j < 290
  · rw [if_pos h256] at hP ⊢
    have e1 : F j = (fun x => F (256 + x)) (j - 256) := congrArg F (by omega)
    have e2 : F' j = (fun x => F' (256 + x)) (j - 256) := congrArg F' (by omega)
    rw [e1] at hP
    rw [e2]
    exact ft_cC_ad (F := fun x => F (256 + x)) (F' := fun x => F' (256 + x)) (fun y hy => h _ (by omega)) (by omega) hP
  rw [if_neg h256] at hP ⊢
  have e1 : F j = (fun x => F (290 + x)) (j - 290) := congrArg F (by omega)
  have e2 : F' j = (fun x => F' (290 + x)) (j - 290) := congrArg F' (by omega)
  rw [e1] at hP
  rw [e2]
  exact ft_Bk_ad (F := fun x => F (290 + x)) (F' := fun x => F' (290 + x)) (fun y hy => h _ (by omega)) (by omega) hP
set_option maxRecDepth 100000 in
theorem ft_cR_go1 {D : va_G} {cl : List vw_C} {A : Nat → Prop} {k : Nat → ClassId} {Z : Nat → Nat → Nat} {vs : List Value} {q : Nat} {F g : Nat → Nat} {bl : va_E} {H H1 : Heap} (hP : va_P D cl (ft_W (1 + 1) (va_up F 1 q) (va_up (ft_cR k Z vs F) 1 bl)) H) (hD : va_D A (ft_W (1 + 1) (va_up F 1 q) (va_up (ft_cR k Z vs F) 1 bl))) (hk : ∀ x : Nat, x < H.size → ¬ ft_An 1 (fun _ => q) H.size x → H1[x]? = H[x]?) (hB : va_P D cl (ft_W 23 g (fun x => ft_S g k ft_r0 x)) H1) (hDB : va_D (ft_An 1 (fun _ => q) H.size) (ft_W 23 g (fun x => ft_S g k ft_r0 x))) (hA : ∀ x, H.size ≤ x → A x) : va_P D cl (ft_W 24 (ft_bl 1 F g) (ft_cR k Z vs (ft_bl 1 F g))) H1 ∧ va_D A (ft_W 24 (ft_bl 1 F g) (ft_cR k Z vs (ft_bl 1 F g))) := by
  have h := ft_app2 (n := 1) (m := 23) (g := g) (vb := fun x => ft_S g k ft_r0 x) hP hD hk hB hDB hA
  have hlo : ∀ y, y < 1 → ft_bl 1 F g y = F y := fun y hy => ft_bl_lo hy
  refine ⟨ft_P_im h.1 (fun j => j) (fun j hj => ⟨by omega, fun h9 => ?_⟩), ft_D_sub h.2 (fun j => j) (fun j hj => by omega) (fun _ _ _ _ e => e) (fun j hj => ?_)⟩
  · have h9 : va_at D cl (ft_bl 1 (va_up F 1 q) g j, ft_bl 1 (va_up (ft_cR k Z vs F) 1 bl) (fun x => ft_S g k ft_r0 x) j) H1 := h9
    by_cases h1 : j < 1
    · rw [ft_bl_lo h1, ft_bl_lo h1, va_up_ne _ _ (by omega), va_up_ne _ _ (by omega)] at h9
      exact ft_cR_ad (n := 1) (by omega) hlo h1 h9
    obtain ⟨x, hx, rfl⟩ : ∃ x, x < 23 ∧ j = 1 + x := ⟨j - 1, by omega, by omega⟩
    rw [ft_bl_hi, ft_bl_hi] at h9
    unfold ft_cR
    rw [if_neg (by omega)]
    rw [if_pos (by omega)]
    rw [show 1 + x - 1 = x by omega]
    exact ft_S_ad (f := g) (f' := fun x => ft_bl 1 F g (1 + x)) (fun y hy => ft_bl_hi) hx h9
  · by_cases h1 : j < 1
    · rw [ft_bl_lo h1, ft_bl_lo h1, va_up_ne _ _ (by omega)]
    · obtain ⟨x, rfl⟩ : ∃ x, j = 1 + x := ⟨j - 1, by omega⟩
      rw [ft_bl_hi, ft_bl_hi]
set_option maxRecDepth 100000 in
theorem ft_cR_go24 {D : va_G} {cl : List vw_C} {A : Nat → Prop} {k : Nat → ClassId} {Z : Nat → Nat → Nat} {vs : List Value} {q : Nat} {F g : Nat → Nat} {bl : va_E} {H H1 : Heap} (hP : va_P D cl (ft_W (24 + 1) (va_up F 24 q) (va_up (ft_cR k Z vs F) 24 bl)) H) (hD : va_D A (ft_W (24 + 1) (va_up F 24 q) (va_up (ft_cR k Z vs F) 24 bl))) (hk : ∀ x : Nat, x < H.size → ¬ ft_An 1 (fun _ => q) H.size x → H1[x]? = H[x]?) (hB : va_P D cl (ft_W 23 g (fun x => ft_S g k ft_r0 x)) H1) (hDB : va_D (ft_An 1 (fun _ => q) H.size) (ft_W 23 g (fun x => ft_S g k ft_r0 x))) (hA : ∀ x, H.size ≤ x → A x) : va_P D cl (ft_W 47 (ft_bl 24 F g) (ft_cR k Z vs (ft_bl 24 F g))) H1 ∧ va_D A (ft_W 47 (ft_bl 24 F g) (ft_cR k Z vs (ft_bl 24 F g))) := by
  have h := ft_app2 (n := 24) (m := 23) (g := g) (vb := fun x => ft_S g k ft_r0 x) hP hD hk hB hDB hA
  have hlo : ∀ y, y < 24 → ft_bl 24 F g y = F y := fun y hy => ft_bl_lo hy
  refine ⟨ft_P_im h.1 (fun j => j) (fun j hj => ⟨by omega, fun h9 => ?_⟩), ft_D_sub h.2 (fun j => j) (fun j hj => by omega) (fun _ _ _ _ e => e) (fun j hj => ?_)⟩
  · have h9 : va_at D cl (ft_bl 24 (va_up F 24 q) g j, ft_bl 24 (va_up (ft_cR k Z vs F) 24 bl) (fun x => ft_S g k ft_r0 x) j) H1 := h9
    by_cases h1 : j < 24
    · rw [ft_bl_lo h1, ft_bl_lo h1, va_up_ne _ _ (by omega), va_up_ne _ _ (by omega)] at h9
      exact ft_cR_ad (n := 24) (by omega) hlo h1 h9
    obtain ⟨x, hx, rfl⟩ : ∃ x, x < 23 ∧ j = 24 + x := ⟨j - 24, by omega, by omega⟩
    rw [ft_bl_hi, ft_bl_hi] at h9
    unfold ft_cR
    rw [if_neg (by omega)]
    rw [if_neg (by omega)]
    rw [if_pos (by omega)]
    rw [show 24 + x - 24 = x by omega]
    exact ft_S_ad (f := g) (f' := fun x => ft_bl 24 F g (24 + x)) (fun y hy => ft_bl_hi) hx h9
  · by_cases h1 : j < 24
    · rw [ft_bl_lo h1, ft_bl_lo h1, va_up_ne _ _ (by omega)]
    · obtain ⟨x, rfl⟩ : ∃ x, j = 24 + x := ⟨j - 24, by omega⟩
      rw [ft_bl_hi, ft_bl_hi]
set_option maxRecDepth 100000 in
theorem ft_cR_go47 {D : va_G} {cl : List vw_C} {A : Nat → Prop} {k : Nat → ClassId} {Z : Nat → Nat → Nat} {vs : List Value} {q : Nat} {F g : Nat → Nat} {bl : va_E} {H H1 : Heap} (hP : va_P D cl (ft_W (47 + 1) (va_up F 47 q) (va_up (ft_cR k Z vs F) 47 bl)) H) (hD : va_D A (ft_W (47 + 1) (va_up F 47 q) (va_up (ft_cR k Z vs F) 47 bl))) (hk : ∀ x : Nat, x < H.size → ¬ ft_An 1 (fun _ => q) H.size x → H1[x]? = H[x]?) (hB : va_P D cl (ft_W 23 g (fun x => ft_S g k ft_r0 x)) H1) (hDB : va_D (ft_An 1 (fun _ => q) H.size) (ft_W 23 g (fun x => ft_S g k ft_r0 x))) (hA : ∀ x, H.size ≤ x → A x) : va_P D cl (ft_W 70 (ft_bl 47 F g) (ft_cR k Z vs (ft_bl 47 F g))) H1 ∧ va_D A (ft_W 70 (ft_bl 47 F g) (ft_cR k Z vs (ft_bl 47 F g))) := by
  have h := ft_app2 (n := 47) (m := 23) (g := g) (vb := fun x => ft_S g k ft_r0 x) hP hD hk hB hDB hA
  have hlo : ∀ y, y < 47 → ft_bl 47 F g y = F y := fun y hy => ft_bl_lo hy
  refine ⟨ft_P_im h.1 (fun j => j) (fun j hj => ⟨by omega, fun h9 => ?_⟩), ft_D_sub h.2 (fun j => j) (fun j hj => by omega) (fun _ _ _ _ e => e) (fun j hj => ?_)⟩
  · have h9 : va_at D cl (ft_bl 47 (va_up F 47 q) g j, ft_bl 47 (va_up (ft_cR k Z vs F) 47 bl) (fun x => ft_S g k ft_r0 x) j) H1 := h9
    by_cases h1 : j < 47
    · rw [ft_bl_lo h1, ft_bl_lo h1, va_up_ne _ _ (by omega), va_up_ne _ _ (by omega)] at h9
      exact ft_cR_ad (n := 47) (by omega) hlo h1 h9
    obtain ⟨x, hx, rfl⟩ : ∃ x, x < 23 ∧ j = 47 + x := ⟨j - 47, by omega, by omega⟩
    rw [ft_bl_hi, ft_bl_hi] at h9
    unfold ft_cR
    rw [if_neg (by omega)]
    rw [if_neg (by omega)]
    rw [if_neg (by omega)]
    rw [if_pos (by omega)]
    rw [show 47 + x - 47 = x by omega]
    exact ft_S_ad (f := g) (f' := fun x => ft_bl 47 F g (47 + x)) (fun y hy => ft_bl_hi) hx h9
  · by_cases h1 : j < 47
    · rw [ft_bl_lo h1, ft_bl_lo h1, va_up_ne _ _ (by omega)]
    · obtain ⟨x, rfl⟩ : ∃ x, j = 47 + x := ⟨j - 47, by omega⟩
      rw [ft_bl_hi, ft_bl_hi]
set_option maxRecDepth 100000 in
theorem ft_cR_go70 {D : va_G} {cl : List vw_C} {A : Nat → Prop} {k : Nat → ClassId} {Z : Nat → Nat → Nat} {vs : List Value} {q : Nat} {F g : Nat → Nat} {bl : va_E} {H H1 : Heap} (hP : va_P D cl (ft_W (70 + 1) (va_up F 70 q) (va_up (ft_cR k Z vs F) 70 bl)) H) (hD : va_D A (ft_W (70 + 1) (va_up F 70 q) (va_up (ft_cR k Z vs F) 70 bl))) (hk : ∀ x : Nat, x < H.size → ¬ ft_An 1 (fun _ => q) H.size x → H1[x]? = H[x]?) (hB : va_P D cl (ft_W 186 g (fun x => ft_cH k 8 g x)) H1) (hDB : va_D (ft_An 1 (fun _ => q) H.size) (ft_W 186 g (fun x => ft_cH k 8 g x))) (hA : ∀ x, H.size ≤ x → A x) : va_P D cl (ft_W 256 (ft_bl 70 F g) (ft_cR k Z vs (ft_bl 70 F g))) H1 ∧ va_D A (ft_W 256 (ft_bl 70 F g) (ft_cR k Z vs (ft_bl 70 F g))) := by
  have h := ft_app2 (n := 70) (m := 186) (g := g) (vb := fun x => ft_cH k 8 g x) hP hD hk hB hDB hA
  have hlo : ∀ y, y < 70 → ft_bl 70 F g y = F y := fun y hy => ft_bl_lo hy
  refine ⟨ft_P_im h.1 (fun j => j) (fun j hj => ⟨by omega, fun h9 => ?_⟩), ft_D_sub h.2 (fun j => j) (fun j hj => by omega) (fun _ _ _ _ e => e) (fun j hj => ?_)⟩
  · have h9 : va_at D cl (ft_bl 70 (va_up F 70 q) g j, ft_bl 70 (va_up (ft_cR k Z vs F) 70 bl) (fun x => ft_cH k 8 g x) j) H1 := h9
    by_cases h1 : j < 70
    · rw [ft_bl_lo h1, ft_bl_lo h1, va_up_ne _ _ (by omega), va_up_ne _ _ (by omega)] at h9
      exact ft_cR_ad (n := 70) (by omega) hlo h1 h9
    obtain ⟨x, hx, rfl⟩ : ∃ x, x < 186 ∧ j = 70 + x := ⟨j - 70, by omega, by omega⟩
    rw [ft_bl_hi, ft_bl_hi] at h9
    unfold ft_cR
    rw [if_neg (by omega)]
    rw [if_neg (by omega)]
    rw [if_neg (by omega)]
    rw [if_neg (by omega)]
    rw [if_pos (by omega)]
    rw [show 70 + x - 70 = x by omega]
    exact ft_cH_ad (F := g) (F' := fun x => ft_bl 70 F g (70 + x)) (fun y hy => ft_bl_hi) hx h9
  · by_cases h1 : j < 70
    · rw [ft_bl_lo h1, ft_bl_lo h1, va_up_ne _ _ (by omega)]
    · obtain ⟨x, rfl⟩ : ∃ x, j = 70 + x := ⟨j - 70, by omega⟩
      rw [ft_bl_hi, ft_bl_hi]
set_option maxRecDepth 100000 in
theorem ft_cR_go256 {D : va_G} {cl : List vw_C} {A : Nat → Prop} {k : Nat → ClassId} {Z : Nat → Nat → Nat} {vs : List Value} {q : Nat} {F g : Nat → Nat} {bl : va_E} {H H1 : Heap} (hP : va_P D cl (ft_W (256 + 1) (va_up F 256 q) (va_up (ft_cR k Z vs F) 256 bl)) H) (hD : va_D A (ft_W (256 + 1) (va_up F 256 q) (va_up (ft_cR k Z vs F) 256 bl))) (hk : ∀ x : Nat, x < H.size → ¬ ft_An 1 (fun _ => q) H.size x → H1[x]? = H[x]?) (hB : va_P D cl (ft_W 34 g (fun x => ft_cC k Z 15 g x)) H1) (hDB : va_D (ft_An 1 (fun _ => q) H.size) (ft_W 34 g (fun x => ft_cC k Z 15 g x))) (hA : ∀ x, H.size ≤ x → A x) : va_P D cl (ft_W 290 (ft_bl 256 F g) (ft_cR k Z vs (ft_bl 256 F g))) H1 ∧ va_D A (ft_W 290 (ft_bl 256 F g) (ft_cR k Z vs (ft_bl 256 F g))) := by
  have h := ft_app2 (n := 256) (m := 34) (g := g) (vb := fun x => ft_cC k Z 15 g x) hP hD hk hB hDB hA
  have hlo : ∀ y, y < 256 → ft_bl 256 F g y = F y := fun y hy => ft_bl_lo hy
  refine ⟨ft_P_im h.1 (fun j => j) (fun j hj => ⟨by omega, fun h9 => ?_⟩), ft_D_sub h.2 (fun j => j) (fun j hj => by omega) (fun _ _ _ _ e => e) (fun j hj => ?_)⟩
  · have h9 : va_at D cl (ft_bl 256 (va_up F 256 q) g j, ft_bl 256 (va_up (ft_cR k Z vs F) 256 bl) (fun x => ft_cC k Z 15 g x) j) H1 := h9
    by_cases h1 : j < 256
    · rw [ft_bl_lo h1, ft_bl_lo h1, va_up_ne _ _ (by omega), va_up_ne _ _ (by omega)] at h9
      exact ft_cR_ad (n := 256) (by omega) hlo h1 h9
    obtain ⟨x, hx, rfl⟩ : ∃ x, x < 34 ∧ j = 256 + x := ⟨j - 256, by omega, by omega⟩
    rw [ft_bl_hi, ft_bl_hi] at h9
    unfold ft_cR
    rw [if_neg (by omega)]
    rw [if_neg (by omega)]
    rw [if_neg (by omega)]
    rw [if_neg (by omega)]
    rw [if_neg (by omega)]
    rw [if_pos (by omega)]
    rw [show 256 + x - 256 = x by omega]
    exact ft_cC_ad (F := g) (F' := fun x => ft_bl 256 F g (256 + x)) (fun y hy => ft_bl_hi) hx h9
  · by_cases h1 : j < 256
    · rw [ft_bl_lo h1, ft_bl_lo h1, va_up_ne _ _ (by omega)]
    · obtain ⟨x, rfl⟩ : ∃ x, j = 256 + x := ⟨j - 256, by omega⟩
      rw [ft_bl_hi, ft_bl_hi]
set_option maxRecDepth 100000 in
theorem ft_cR_go290 {D : va_G} {cl : List vw_C} {A : Nat → Prop} {k : Nat → ClassId} {Z : Nat → Nat → Nat} {vs : List Value} {q : Nat} {F g : Nat → Nat} {bl : va_E} {H H1 : Heap} (hP : va_P D cl (ft_W (290 + 1) (va_up F 290 q) (va_up (ft_cR k Z vs F) 290 bl)) H) (hD : va_D A (ft_W (290 + 1) (va_up F 290 q) (va_up (ft_cR k Z vs F) 290 bl))) (hk : ∀ x : Nat, x < H.size → ¬ ft_An 1 (fun _ => q) H.size x → H1[x]? = H[x]?) (hB : va_P D cl (ft_W 2 g (fun x => ft_B g k (0, 0, 16, fun _ => 0) x)) H1) (hDB : va_D (ft_An 1 (fun _ => q) H.size) (ft_W 2 g (fun x => ft_B g k (0, 0, 16, fun _ => 0) x))) (hA : ∀ x, H.size ≤ x → A x) : va_P D cl (ft_W 292 (ft_bl 290 F g) (ft_cR k Z vs (ft_bl 290 F g))) H1 ∧ va_D A (ft_W 292 (ft_bl 290 F g) (ft_cR k Z vs (ft_bl 290 F g))) := by
  have h := ft_app2 (n := 290) (m := 2) (g := g) (vb := fun x => ft_B g k (0, 0, 16, fun _ => 0) x) hP hD hk hB hDB hA
  have hlo : ∀ y, y < 290 → ft_bl 290 F g y = F y := fun y hy => ft_bl_lo hy
  refine ⟨ft_P_im h.1 (fun j => j) (fun j hj => ⟨by omega, fun h9 => ?_⟩), ft_D_sub h.2 (fun j => j) (fun j hj => by omega) (fun _ _ _ _ e => e) (fun j hj => ?_)⟩
  · have h9 : va_at D cl (ft_bl 290 (va_up F 290 q) g j, ft_bl 290 (va_up (ft_cR k Z vs F) 290 bl) (fun x => ft_B g k (0, 0, 16, fun _ => 0) x) j) H1 := h9
    by_cases h1 : j < 290
    · rw [ft_bl_lo h1, ft_bl_lo h1, va_up_ne _ _ (by omega), va_up_ne _ _ (by omega)] at h9
      exact ft_cR_ad (n := 290) (by omega) hlo h1 h9
    obtain ⟨x, hx, rfl⟩ : ∃ x, x < 2 ∧ j = 290 + x := ⟨j - 290, by omega, by omega⟩
    rw [ft_bl_hi, ft_bl_hi] at h9
    unfold ft_cR
    rw [if_neg (by omega)]
    rw [if_neg (by omega)]
    rw [if_neg (by omega)]
    rw [if_neg (by omega)]
    rw [if_neg (by omega)]
    rw [if_neg (by omega)]
    rw [show 290 + x - 290 = x by omega]
    exact ft_Bk_ad (F := g) (F' := fun x => ft_bl 290 F g (290 + x)) (fun y hy => ft_bl_hi) hx h9
  · by_cases h1 : j < 290
    · rw [ft_bl_lo h1, ft_bl_lo h1, va_up_ne _ _ (by omega)]
    · obtain ⟨x, rfl⟩ : ∃ x, j = 290 + x := ⟨j - 290, by omega⟩
      rw [ft_bl_hi, ft_bl_hi]
theorem ft_cR_vs {n : Nat} {k : Nat → ClassId} {Z : Nat → Nat → Nat} {vs vs' : List Value} {F : Nat → Nat} : (ft_W n F (ft_cR k Z vs F)).set 0 (F 0, .inr (9, vs')) = ft_W n F (ft_cR k Z vs' F) := by
  refine ft_set' (fun j _ => ?_)
  by_cases h : j = 0
  · subst h; rw [va_up_self]; rfl
  · rw [va_up_ne _ _ h]
    unfold ft_cR
    rw [if_neg (show ¬ j < 1 by omega), if_neg (show ¬ j < 1 by omega)]
def ft_pi : Nat → Nat := fun j => if j < 69 then j + 1 else if j < 253 then j + 3 else if j = 253 then 0 else if j = 254 then 70 else if j = 255 then 71 else if j = 256 then 256 else if j = 257 then 259 else if j = 258 then 257 else if j = 259 then 258 else if j = 260 then 290 else if j = 261 then 291 else j - 2
def ft_qi : Nat → Nat := fun j => if j = 0 then 253 else if j < 70 then j - 1 else if j = 70 then 254 else if j = 71 then 255 else if j < 256 then j - 3 else if j = 256 then 256 else if j = 257 then 258 else if j = 258 then 259 else if j = 259 then 257 else if j = 290 then 260 else if j = 291 then 261 else j + 2
theorem ft_pi_inv : ∀ j, j < 292 → ft_qi (ft_pi j) = j := by decide +kernel
theorem ft_pi_lt : ∀ j, j < 292 → ft_pi j < 292 := by decide +kernel
theorem ft_pi_inj : ∀ i j, i < 292 → j < 292 → ft_pi i = ft_pi j → i = j := by
  intro i j hi hj h
  rw [← ft_pi_inv i hi, h, ft_pi_inv j hj]
theorem ft_pi_hi {j : Nat} (h : 262 ≤ j) : ft_pi j = j - 2 := by
  unfold ft_pi
  rw [if_neg (by omega), if_neg (by omega), if_neg (by omega), if_neg (by omega), if_neg (by omega), if_neg (by omega), if_neg (by omega), if_neg (by omega), if_neg (by omega), if_neg (by omega), if_neg (by omega)]
/-- the state of a new FoodTruckRota -/
def ft_o0 : Nat → Int32 := fun i => if i = 1 ∨ i = 2 then -1 else 0
def ft_g0 : ft_G := ((16, fun _ => 0), (16, fun _ => 0), (fun _ => 0), fun _ _ => 0)
set_option maxRecDepth 100000 in
theorem ft_newR {D : va_G} {k : Nat → ClassId} {Z : Nat → Nat → Nat} {F : Nat → Nat} {H : Heap} (hP : va_P D vwCl (ft_W 292 F (ft_cR k Z [.ref (F 1), .ref (F 24), .ref (F 47), .ref (F 70), .ref (F 256), .ref (F 290), .int 0, .int (-1), .int (-1)] F)) H) : va_P D vwCl (ft_WR (fun j => F (ft_pi j)) k Z (fun _ => ft_r0) (fun i => i) ft_o0 ft_g0) H := by
  refine ft_P_im hP ft_pi (fun j hj => ⟨ft_pi_lt j hj, fun h => ?_⟩)
  by_cases h1 : j < 253
  · obtain ⟨s, x, hx, rfl⟩ : ∃ s x, x < 23 ∧ j = 23 * s + x := ⟨j / 23, j % 23, by omega, by omega⟩
    have hs : s < 11 := by omega
    rw [ft_R_at hs hx]
    have key : va_at D vwCl ((fun y => F (ft_pi (23 * s + y))) x, ft_S (fun y => F (ft_pi (23 * s + y))) k ft_r0 x) H := by
      by_cases h2 : s < 3
      · have e : ∀ y, y < 23 → ft_pi (23 * s + y) = 1 + 23 * s + y := fun y hy => by unfold ft_pi; rw [if_pos (by omega)]; omega
        rw [e x hx] at h
        have h3 : va_at D vwCl (F (1 + 23 * s + x), ft_S (fun y => F (1 + 23 * s + y)) k ft_r0 x) H := by
          unfold ft_cR at h
          rw [if_neg (by omega)] at h
          match s, h2 with
          | 0, _ => rw [if_pos (by omega), show 1 + 23 * 0 + x - 1 = x by omega] at h; exact h
          | 1, _ => rw [if_neg (by omega), if_pos (by omega), show 1 + 23 * 1 + x - 24 = x by omega] at h; exact h
          | 2, _ => rw [if_neg (by omega), if_neg (by omega), if_pos (by omega), show 1 + 23 * 2 + x - 47 = x by omega] at h; exact h
        exact ft_S_ad (f := fun y => F (1 + 23 * s + y)) (fun y hy => congrArg F (e y hy)) hx h3
      · have e : ∀ y, y < 23 → ft_pi (23 * s + y) = 72 + 23 * (s - 3) + y := fun y hy => by unfold ft_pi; rw [if_neg (by omega), if_pos (by omega)]; omega
        rw [e x hx] at h
        unfold ft_cR at h
        rw [if_neg (by omega), if_neg (by omega), if_neg (by omega), if_neg (by omega), if_pos (by omega)] at h
        unfold ft_cH at h
        rw [if_neg (by omega), show (72 + 23 * (s - 3) + x - 70 - 2) / 23 = s - 3 by omega, show (72 + 23 * (s - 3) + x - 70 - 2) % 23 = x by omega] at h
        exact ft_S_ad (f := fun y => F (70 + (2 + 23 * (s - 3) + y))) (f' := fun y => F (ft_pi (23 * s + y))) (fun y hy => congrArg F (by rw [e y hy]; omega)) hx (ft_ate (congrArg F (by omega)) rfl h)
    exact key
  · obtain ⟨y, rfl⟩ : ∃ y, j = 253 + y := ⟨j - 253, by omega⟩
    rw [ft_R_hi]
    match y, hj with
    | 0, _ => exact ft_ate rfl rfl h
    | 1, _ => exact ft_ate rfl rfl h
    | 2, _ => exact ft_atq (f := fun j => if j < 8 then some (F (70 + (2 + 23 * j))) else none) rfl (fun i hi => by
        show (if i < 8 then some (F (70 + (2 + 23 * i))) else none) = some (F (ft_pi (23 * (3 + i) + 0)))
        rw [if_pos hi]
        unfold ft_pi
        rw [if_neg (by omega), if_pos (by omega)]
        exact congrArg (fun z => some (F z)) (by omega)) h
    | 3, _ => exact ft_ate rfl rfl h
    | 4, _ => exact ft_atq (f := fun j => if j < 15 then some (F (256 + (4 + 2 * j))) else none) rfl (fun i hi => by
        show (if i < 15 then some (F (256 + (4 + 2 * i))) else none) = some (F (ft_pi (262 + 2 * i)))
        rw [if_pos hi]
        exact congrArg (fun z => some (F z)) (by rw [ft_pi_hi (by omega)]; omega)) h
    | 5, _ => exact ft_ate rfl rfl h
    | 6, _ => exact ft_ate rfl rfl h
    | 7, _ => exact ft_ate rfl rfl h
    | 8, _ => exact ft_ate rfl rfl h
    | z + 9, hj =>
      have e : ft_pi (253 + (z + 9)) = 260 + z := by rw [ft_pi_hi (by omega)]; omega
      rw [e] at h
      unfold ft_cR at h
      rw [if_neg (by omega), if_neg (by omega), if_neg (by omega), if_neg (by omega), if_neg (by omega), if_pos (by omega)] at h
      unfold ft_cC at h
      rw [if_neg (by omega), show (260 + z - 256 - 4) / 2 = z / 2 by omega, show (260 + z - 256 - 4) % 2 = z % 2 by omega] at h
      refine ft_ate (congrArg F e) ?_ h
      show (if z % 2 = 0 then (.inr (7, [.ref (Z 0 0), .ref (F (ft_pi (263 + 2 * (z / 2))))]) : va_E) else .inl (k 0, 3, .inl (fun _ => 0))) = _
      by_cases hz : z % 2 = 0
      · rw [if_pos hz, hz]
        show _ = (.inr (7, [.ref (Z 0 0), .ref (F (256 + (4 + 2 * (z / 2) + 1)))]) : va_E)
        rw [show ft_pi (263 + 2 * (z / 2)) = 256 + (4 + 2 * (z / 2) + 1) by rw [ft_pi_hi (by omega)]; omega]
      · rw [if_neg hz, show z % 2 = 1 by omega]
        rfl

set_option maxHeartbeats 4000000 in
set_option maxRecDepth 100000 in
theorem c_X7_init (l : Launch) (dC : va_G) (Z : Nat → Nat → Nat) (ad : Nat → Nat) (k : Nat → ClassId) (sz : Nat) : Met l yX7_init wsX7_init ({ frames := 4, cells := 291, slots := 2069, locals := 160 }) (ft_Pk dC k Z (ft_An 1 ad sz) [.ref (ad 0)] (ft_W 1 ad (fun _ => .inr (9, [.null, .null, .null, .null, .null, .null, .int 0, .int 0, .int 0]))) sz) (va_Qv (fun _ : Nat → Nat => True) (fun f t => f 253 = ad 0 ∧ va_P dC vwCl (ft_WR f k Z (fun _ => ft_r0) (fun i => i) ft_o0 ft_g0) t.heap ∧ va_D (ft_An 1 ad sz) (ft_WR f k Z (fun _ => ft_r0) (fun i => i) ft_o0 ft_g0)) (ft_An 1 ad sz)) 291 2069 (ft_An 1 ad sz) := by
  refine Met.ofW (cc := cX7_init) (maxL := 1) (ret := none) (by decide) rfl ?_
  intro p e s m args below meth c s₁ B hml hv
  obtain ⟨hargs, hP, hE, hD0, hsz, hO⟩ := hv
  have hK := hE.1
  subst hargs
  have hx := B.exec
  have hb := B.bytes
  have hr := B.returns
  have hin : meth.name = "<init>" := (name_of_methodNamed B.named B.method).1
  have hts := atoms_spec (ws := wsX7_init) B.pre
  have hown : s.vm.findClass RX7 = some m.cls := findClass_of_methodNamed B.named
  have hlocks := B.notSynchronized
  have hD : va_D (ft_An 1 ad sz) [(ad 0, (.inr (9, [.null, .null, .null, .null, .null, .null, .int 0, .int 0, .int 0]) : va_E))] := (ft_D_self hD0).weaken (fun _ _ _ h => Or.inl h)
  have hP : va_P dC vwCl [(ad 0, (.inr (9, [.null, .null, .null, .null, .null, .null, .int 0, .int 0, .int 0]) : va_E))] s.heap := hP
  have hS : va_S (ft_An 1 ad sz) s.heap s.heap [] := va_S.rf
  have hl := lv_entry ([.ref (ad 0)]) (n := 1) (Nat.le_of_ble_eq_true rfl)
  rw [lg_entry_eq]
  generalize (lg_sl ([.ref (ad 0)]) ++ List.replicate (1 - (lg_sl ([.ref (ad 0)])).length) Slot.unset).toArray = ls at hl ⊢
  have hl : lv_has ls 1 [(0, .ref (ad 0))] := hl
  refine lv_aload_n hx hb dX7_init_0 rfl (lv_at hl 0 rfl) ?_
  refine W.objInit hx hb hown (hts (.methodLink RX7 3 objectInit) (by decide +kernel)) (hts (.instanceMethod objectInit) (by decide +kernel)) (hts (.code objectInit ⟨#[0xb1]⟩ 1 none) (by decide +kernel)) rfl (by rw [hml]; exact hl.1) rfl dX7_init_1 (Nat.le_of_ble_eq_true rfl) (Nat.le_of_ble_eq_true rfl) ?_
  refine W.eq (g2 := F0 m 4 ls []) rfl ?_
  have hP : va_P dC vwCl (ft_W 1 (fun _ => ad 0) (ft_cR k Z [.null, .null, .null, .null, .null, .null, .int 0, .int 0, .int 0] (fun _ => ad 0))) s.heap := hP
  have hD : va_D (ft_An 1 ad sz) (ft_W 1 (fun _ => ad 0) (ft_cR k Z [.null, .null, .null, .null, .null, .null, .int 0, .int 0, .int 0] (fun _ => ad 0))) := hD
  generalize hF : (fun _ => ad 0 : Nat → Nat) = F at hP hD
  have hF0 : F 0 = ad 0 := by rw [← hF]
  refine lv_aload_n hx hb dX7_init_4 rfl (lv_at hl 0 rfl) ?_
  refine va_new hx hb hts (by decide +kernel) tyX4 tyX4_ok hown (hts (.classLink RX7 9 RX4) (by decide +kernel)) (hts (.instantiable RX4 12) (by decide +kernel)) (hts (.initialized RX4) (by decide +kernel)) hK.1 hP hD hS (fun z hz => Or.inr (Nat.le_trans hsz hz)) (ci := 6) rfl (fs := [.null, .null, .null, .null, .int 0, .int 0, .int 0, .int 0, .int 0, .int 0, .int 0, .int 0]) (by intro j hj; match j, hj with | 0, _ => rfl | 1, _ => rfl | 2, _ => rfl | 3, _ => rfl | 4, _ => rfl | 5, _ => rfl | 6, _ => rfl | 7, _ => rfl | 8, _ => rfl | 9, _ => rfl | 10, _ => rfl | 11, _ => rfl) (Nat.le_of_ble_eq_true rfl) (Nat.le_of_ble_eq_true rfl) dX7_init_5 (fun q0 Hq0 hP hD hS => ?_)
  rw [ft_snoc] at hP hD
  have hqs : sz ≤ q0 := ft_newq hD hF0 (by decide)
  have hsz1 : sz ≤ Hq0.size := Nat.le_trans hsz hS.1
  refine lv_dup hx hb dX7_init_8 rfl ?_
  refine va_callv (va_runI (As := []) (rest := [.ref q0, .ref (ad 0)]) ⟨hx, hb, hml, hown, hts⟩ (c_X4_init l dC Z (fun _ => q0) k Hq0.size) (cwI 0 hts gX7_init_X4_init rfl rfl rfl (hts (.initialized RX4) (by decide +kernel)) (hts (.methodLink RX7 11 yX4_init) (by decide +kernel)) (hts (.instanceMethod yX4_init) (by decide +kernel)) rfl (by decide +kernel) ⟨Nat.le_of_ble_eq_true rfl, Nat.le_of_ble_eq_true rfl⟩) (ft_preK1 (va_up_self _ _ _) (va_up_self _ _ _) hE hO hS (fun x h => ft_qA hqs hsz1 x h) hP hD) rfl rfl hl.1 rfl (lv_room (Nat.le_of_ble_eq_true rfl)) dX7_init_9 ⟨Nat.le_of_ble_eq_true rfl, Nat.le_of_ble_eq_true rfl⟩) hS (fun x _ h => ft_qA hqs hsz1 x h) (fun x h => ft_qA hqs hsz1 x h) (fun g0 t H2q0 locs2q0 ht hvm hw hB hz1 hk1 hS => ?_)
  obtain ⟨hg0, hBP, hBD⟩ := hB
  rw [ht] at hBP
  have hW := ft_cR_go1 hP hD hk1 hBP hBD (fun x hx8 => Or.inr (Nat.le_trans hsz1 hx8))
  obtain ⟨F1, hFn, hFq⟩ : ∃ F', F' = ft_bl 1 F g0 ∧ F' 1 = q0 := ⟨_, rfl, ft_bl_at.trans hg0⟩
  rw [← hFn] at hW
  have hc0 : F1 0 = F 0 := by rw [hFn]; exact ft_bl_lo (by decide)
  have hF0 : F1 0 = ad 0 := hc0.trans hF0
  obtain ⟨hP, hD⟩ := hW
  have h0 : (ft_W 24 F1 (ft_cR k Z [.null, .null, .null, .null, .null, .null, .int 0, .int 0, .int 0] F1))[0]? = some (ad 0, .inr (9, [.null, .null, .null, .null, .null, .null, .int 0, .int 0, .int 0])) := by rw [← hF0]; exact ft_get' (by decide) rfl
  refine va_putF (D := dC) (ci := 9) (v := .ref q0) (ty := .object "FoodTruckRota$Square") (C := RX7) (T := TX7) (N := 9) hx hb hts (by decide +kernel) tyX7 tyX7_ok nmX7 hown hK.1 hP hD hS 0 h0 rfl 0 (by decide) (hts (.fieldLink RX7 12 "FoodTruckRota" "square" "LFoodTruckRota$Square;") (by decide +kernel)) (fun _ h9 => h9) rfl hin rfl (by decide +kernel) rfl rfl (Nat.le_of_ble_eq_true rfl) dX7_init_12 (fun H locs hP hD hS => ?_)
  rw [← hF0, ← hFq] at hP hD
  have hP := ft_cast hP ft_cR_vs
  have hD := ft_castD hD ft_cR_vs
  have hP : va_P dC vwCl (ft_W 24 F1 (ft_cR k Z [.ref (F1 1), .null, .null, .null, .null, .null, .int 0, .int 0, .int 0] F1)) H := hP
  have hD : va_D (ft_An 1 ad sz) (ft_W 24 F1 (ft_cR k Z [.ref (F1 1), .null, .null, .null, .null, .null, .int 0, .int 0, .int 0] F1)) := hD
  refine lv_aload_n hx hb dX7_init_15 rfl (lv_at hl 0 rfl) ?_
  refine va_new hx hb hts (by decide +kernel) tyX4 tyX4_ok hown (hts (.classLink RX7 9 RX4) (by decide +kernel)) (hts (.instantiable RX4 12) (by decide +kernel)) (hts (.initialized RX4) (by decide +kernel)) hK.1 hP hD hS (fun z hz => Or.inr (Nat.le_trans hsz hz)) (ci := 6) rfl (fs := [.null, .null, .null, .null, .int 0, .int 0, .int 0, .int 0, .int 0, .int 0, .int 0, .int 0]) (by intro j hj; match j, hj with | 0, _ => rfl | 1, _ => rfl | 2, _ => rfl | 3, _ => rfl | 4, _ => rfl | 5, _ => rfl | 6, _ => rfl | 7, _ => rfl | 8, _ => rfl | 9, _ => rfl | 10, _ => rfl | 11, _ => rfl) (Nat.le_of_ble_eq_true rfl) (Nat.le_of_ble_eq_true rfl) dX7_init_16 (fun q1 Hq1 hP hD hS => ?_)
  rw [ft_snoc] at hP hD
  have hqs : sz ≤ q1 := ft_newq hD hF0 (by decide)
  have hsz1 : sz ≤ Hq1.size := Nat.le_trans hsz hS.1
  refine lv_dup hx hb dX7_init_19 rfl ?_
  refine va_callv (va_runI (As := []) (rest := [.ref q1, .ref (ad 0)]) ⟨hx, hb, hml, hown, hts⟩ (c_X4_init l dC Z (fun _ => q1) k Hq1.size) (cwI 0 hts gX7_init_X4_init rfl rfl rfl (hts (.initialized RX4) (by decide +kernel)) (hts (.methodLink RX7 11 yX4_init) (by decide +kernel)) (hts (.instanceMethod yX4_init) (by decide +kernel)) rfl (by decide +kernel) ⟨Nat.le_of_ble_eq_true rfl, Nat.le_of_ble_eq_true rfl⟩) (ft_preK1 (va_up_self _ _ _) (va_up_self _ _ _) hE hO hS (fun x h => ft_qA hqs hsz1 x h) hP hD) rfl rfl hl.1 rfl (lv_room (Nat.le_of_ble_eq_true rfl)) dX7_init_20 ⟨Nat.le_of_ble_eq_true rfl, Nat.le_of_ble_eq_true rfl⟩) hS (fun x _ h => ft_qA hqs hsz1 x h) (fun x h => ft_qA hqs hsz1 x h) (fun g1 t H2q1 locs2q1 ht hvm hw hB hz1 hk1 hS => ?_)
  obtain ⟨hg0, hBP, hBD⟩ := hB
  rw [ht] at hBP
  have hW := ft_cR_go24 hP hD hk1 hBP hBD (fun x hx8 => Or.inr (Nat.le_trans hsz1 hx8))
  obtain ⟨F2, hFn, hFq⟩ : ∃ F', F' = ft_bl 24 F1 g1 ∧ F' 24 = q1 := ⟨_, rfl, ft_bl_at.trans hg0⟩
  rw [← hFn] at hW
  have hc0 : F2 0 = F1 0 := by rw [hFn]; exact ft_bl_lo (by decide)
  have hc1 : F2 1 = F1 1 := by rw [hFn]; exact ft_bl_lo (by decide)
  have hF0 : F2 0 = ad 0 := hc0.trans hF0
  obtain ⟨hP, hD⟩ := hW
  rw [← hc1] at hP hD
  have h0 : (ft_W 47 F2 (ft_cR k Z [.ref (F2 1), .null, .null, .null, .null, .null, .int 0, .int 0, .int 0] F2))[0]? = some (ad 0, .inr (9, [.ref (F2 1), .null, .null, .null, .null, .null, .int 0, .int 0, .int 0])) := by rw [← hF0]; exact ft_get' (by decide) rfl
  refine va_putF (D := dC) (ci := 9) (v := .ref q1) (ty := .object "FoodTruckRota$Square") (C := RX7) (T := TX7) (N := 9) hx hb hts (by decide +kernel) tyX7 tyX7_ok nmX7 hown hK.1 hP hD hS 0 h0 rfl 1 (by decide) (hts (.fieldLink RX7 16 "FoodTruckRota" "draft" "LFoodTruckRota$Square;") (by decide +kernel)) (fun _ h9 => h9) rfl hin rfl (by decide +kernel) rfl rfl (Nat.le_of_ble_eq_true rfl) dX7_init_23 (fun H locs hP hD hS => ?_)
  rw [← hF0, ← hFq] at hP hD
  have hP := ft_cast hP ft_cR_vs
  have hD := ft_castD hD ft_cR_vs
  have hP : va_P dC vwCl (ft_W 47 F2 (ft_cR k Z [.ref (F2 1), .ref (F2 24), .null, .null, .null, .null, .int 0, .int 0, .int 0] F2)) H := hP
  have hD : va_D (ft_An 1 ad sz) (ft_W 47 F2 (ft_cR k Z [.ref (F2 1), .ref (F2 24), .null, .null, .null, .null, .int 0, .int 0, .int 0] F2)) := hD
  refine lv_aload_n hx hb dX7_init_26 rfl (lv_at hl 0 rfl) ?_
  refine va_new hx hb hts (by decide +kernel) tyX4 tyX4_ok hown (hts (.classLink RX7 9 RX4) (by decide +kernel)) (hts (.instantiable RX4 12) (by decide +kernel)) (hts (.initialized RX4) (by decide +kernel)) hK.1 hP hD hS (fun z hz => Or.inr (Nat.le_trans hsz hz)) (ci := 6) rfl (fs := [.null, .null, .null, .null, .int 0, .int 0, .int 0, .int 0, .int 0, .int 0, .int 0, .int 0]) (by intro j hj; match j, hj with | 0, _ => rfl | 1, _ => rfl | 2, _ => rfl | 3, _ => rfl | 4, _ => rfl | 5, _ => rfl | 6, _ => rfl | 7, _ => rfl | 8, _ => rfl | 9, _ => rfl | 10, _ => rfl | 11, _ => rfl) (Nat.le_of_ble_eq_true rfl) (Nat.le_of_ble_eq_true rfl) dX7_init_27 (fun q2 Hq2 hP hD hS => ?_)
  rw [ft_snoc] at hP hD
  have hqs : sz ≤ q2 := ft_newq hD hF0 (by decide)
  have hsz1 : sz ≤ Hq2.size := Nat.le_trans hsz hS.1
  refine lv_dup hx hb dX7_init_30 rfl ?_
  refine va_callv (va_runI (As := []) (rest := [.ref q2, .ref (ad 0)]) ⟨hx, hb, hml, hown, hts⟩ (c_X4_init l dC Z (fun _ => q2) k Hq2.size) (cwI 0 hts gX7_init_X4_init rfl rfl rfl (hts (.initialized RX4) (by decide +kernel)) (hts (.methodLink RX7 11 yX4_init) (by decide +kernel)) (hts (.instanceMethod yX4_init) (by decide +kernel)) rfl (by decide +kernel) ⟨Nat.le_of_ble_eq_true rfl, Nat.le_of_ble_eq_true rfl⟩) (ft_preK1 (va_up_self _ _ _) (va_up_self _ _ _) hE hO hS (fun x h => ft_qA hqs hsz1 x h) hP hD) rfl rfl hl.1 rfl (lv_room (Nat.le_of_ble_eq_true rfl)) dX7_init_31 ⟨Nat.le_of_ble_eq_true rfl, Nat.le_of_ble_eq_true rfl⟩) hS (fun x _ h => ft_qA hqs hsz1 x h) (fun x h => ft_qA hqs hsz1 x h) (fun g2 t H2q2 locs2q2 ht hvm hw hB hz1 hk1 hS => ?_)
  obtain ⟨hg0, hBP, hBD⟩ := hB
  rw [ht] at hBP
  have hW := ft_cR_go47 hP hD hk1 hBP hBD (fun x hx8 => Or.inr (Nat.le_trans hsz1 hx8))
  obtain ⟨F3, hFn, hFq⟩ : ∃ F', F' = ft_bl 47 F2 g2 ∧ F' 47 = q2 := ⟨_, rfl, ft_bl_at.trans hg0⟩
  rw [← hFn] at hW
  have hc0 : F3 0 = F2 0 := by rw [hFn]; exact ft_bl_lo (by decide)
  have hc1 : F3 1 = F2 1 := by rw [hFn]; exact ft_bl_lo (by decide)
  have hc24 : F3 24 = F2 24 := by rw [hFn]; exact ft_bl_lo (by decide)
  have hF0 : F3 0 = ad 0 := hc0.trans hF0
  obtain ⟨hP, hD⟩ := hW
  rw [← hc1, ← hc24] at hP hD
  have h0 : (ft_W 70 F3 (ft_cR k Z [.ref (F3 1), .ref (F3 24), .null, .null, .null, .null, .int 0, .int 0, .int 0] F3))[0]? = some (ad 0, .inr (9, [.ref (F3 1), .ref (F3 24), .null, .null, .null, .null, .int 0, .int 0, .int 0])) := by rw [← hF0]; exact ft_get' (by decide) rfl
  refine va_putF (D := dC) (ci := 9) (v := .ref q2) (ty := .object "FoodTruckRota$Square") (C := RX7) (T := TX7) (N := 9) hx hb hts (by decide +kernel) tyX7 tyX7_ok nmX7 hown hK.1 hP hD hS 0 h0 rfl 2 (by decide) (hts (.fieldLink RX7 19 "FoodTruckRota" "snapshot" "LFoodTruckRota$Square;") (by decide +kernel)) (fun _ h9 => h9) rfl hin rfl (by decide +kernel) rfl rfl (Nat.le_of_ble_eq_true rfl) dX7_init_34 (fun H locs hP hD hS => ?_)
  rw [← hF0, ← hFq] at hP hD
  have hP := ft_cast hP ft_cR_vs
  have hD := ft_castD hD ft_cR_vs
  have hP : va_P dC vwCl (ft_W 70 F3 (ft_cR k Z [.ref (F3 1), .ref (F3 24), .ref (F3 47), .null, .null, .null, .int 0, .int 0, .int 0] F3)) H := hP
  have hD : va_D (ft_An 1 ad sz) (ft_W 70 F3 (ft_cR k Z [.ref (F3 1), .ref (F3 24), .ref (F3 47), .null, .null, .null, .int 0, .int 0, .int 0] F3)) := hD
  refine lv_aload_n hx hb dX7_init_37 rfl (lv_at hl 0 rfl) ?_
  refine va_new hx hb hts (by decide +kernel) tyX2 tyX2_ok hown (hts (.classLink RX7 22 RX2) (by decide +kernel)) (hts (.instantiable RX2 2) (by decide +kernel)) (hts (.initialized RX2) (by decide +kernel)) hK.1 hP hD hS (fun z hz => Or.inr (Nat.le_trans hsz hz)) (ci := 4) rfl (fs := [.null, .int 0]) (by intro j hj; match j, hj with | 0, _ => rfl | 1, _ => rfl) (Nat.le_of_ble_eq_true rfl) (Nat.le_of_ble_eq_true rfl) dX7_init_38 (fun q3 Hq3 hP hD hS => ?_)
  rw [ft_snoc] at hP hD
  have hqs : sz ≤ q3 := ft_newq hD hF0 (by decide)
  have hsz1 : sz ≤ Hq3.size := Nat.le_trans hsz hS.1
  refine lv_dup hx hb dX7_init_41 rfl ?_
  refine va_callv (va_runI (As := []) (rest := [.ref q3, .ref (ad 0)]) ⟨hx, hb, hml, hown, hts⟩ (c_X2_init l dC Z (fun _ => q3) k Hq3.size) (cwI 0 hts gX7_init_X2_init rfl rfl rfl (hts (.initialized RX2) (by decide +kernel)) (hts (.methodLink RX7 24 yX2_init) (by decide +kernel)) (hts (.instanceMethod yX2_init) (by decide +kernel)) rfl (by decide +kernel) ⟨Nat.le_of_ble_eq_true rfl, Nat.le_of_ble_eq_true rfl⟩) (ft_preK1 (va_up_self _ _ _) (va_up_self _ _ _) hE hO hS (fun x h => ft_qA hqs hsz1 x h) hP hD) rfl rfl hl.1 rfl (lv_room (Nat.le_of_ble_eq_true rfl)) dX7_init_42 ⟨Nat.le_of_ble_eq_true rfl, Nat.le_of_ble_eq_true rfl⟩) hS (fun x _ h => ft_qA hqs hsz1 x h) (fun x h => ft_qA hqs hsz1 x h) (fun g3 t H2q3 locs2q3 ht hvm hw hB hz1 hk1 hS => ?_)
  obtain ⟨hg0, hBP, hBD⟩ := hB
  rw [ht] at hBP
  have hW := ft_cR_go70 hP hD hk1 hBP hBD (fun x hx8 => Or.inr (Nat.le_trans hsz1 hx8))
  obtain ⟨F4, hFn, hFq⟩ : ∃ F', F' = ft_bl 70 F3 g3 ∧ F' 70 = q3 := ⟨_, rfl, ft_bl_at.trans hg0⟩
  rw [← hFn] at hW
  have hc0 : F4 0 = F3 0 := by rw [hFn]; exact ft_bl_lo (by decide)
  have hc1 : F4 1 = F3 1 := by rw [hFn]; exact ft_bl_lo (by decide)
  have hc24 : F4 24 = F3 24 := by rw [hFn]; exact ft_bl_lo (by decide)
  have hc47 : F4 47 = F3 47 := by rw [hFn]; exact ft_bl_lo (by decide)
  have hF0 : F4 0 = ad 0 := hc0.trans hF0
  obtain ⟨hP, hD⟩ := hW
  rw [← hc1, ← hc24, ← hc47] at hP hD
  have h0 : (ft_W 256 F4 (ft_cR k Z [.ref (F4 1), .ref (F4 24), .ref (F4 47), .null, .null, .null, .int 0, .int 0, .int 0] F4))[0]? = some (ad 0, .inr (9, [.ref (F4 1), .ref (F4 24), .ref (F4 47), .null, .null, .null, .int 0, .int 0, .int 0])) := by rw [← hF0]; exact ft_get' (by decide) rfl
  refine va_putF (D := dC) (ci := 9) (v := .ref q3) (ty := .object "FoodTruckRota$History") (C := RX7) (T := TX7) (N := 9) hx hb hts (by decide +kernel) tyX7 tyX7_ok nmX7 hown hK.1 hP hD hS 0 h0 rfl 3 (by decide) (hts (.fieldLink RX7 25 "FoodTruckRota" "history" "LFoodTruckRota$History;") (by decide +kernel)) (fun _ h9 => h9) rfl hin rfl (by decide +kernel) rfl rfl (Nat.le_of_ble_eq_true rfl) dX7_init_45 (fun H locs hP hD hS => ?_)
  rw [← hF0, ← hFq] at hP hD
  have hP := ft_cast hP ft_cR_vs
  have hD := ft_castD hD ft_cR_vs
  have hP : va_P dC vwCl (ft_W 256 F4 (ft_cR k Z [.ref (F4 1), .ref (F4 24), .ref (F4 47), .ref (F4 70), .null, .null, .int 0, .int 0, .int 0] F4)) H := hP
  have hD : va_D (ft_An 1 ad sz) (ft_W 256 F4 (ft_cR k Z [.ref (F4 1), .ref (F4 24), .ref (F4 47), .ref (F4 70), .null, .null, .int 0, .int 0, .int 0] F4)) := hD
  refine lv_aload_n hx hb dX7_init_48 rfl (lv_at hl 0 rfl) ?_
  refine va_new hx hb hts (by decide +kernel) tyX3 tyX3_ok hown (hts (.classLink RX7 29 RX3) (by decide +kernel)) (hts (.instantiable RX3 4) (by decide +kernel)) (hts (.initialized RX3) (by decide +kernel)) hK.1 hP hD hS (fun z hz => Or.inr (Nat.le_trans hsz hz)) (ci := 5) rfl (fs := [.null, .null, .int 0, .int 0]) (by intro j hj; match j, hj with | 0, _ => rfl | 1, _ => rfl | 2, _ => rfl | 3, _ => rfl) (Nat.le_of_ble_eq_true rfl) (Nat.le_of_ble_eq_true rfl) dX7_init_49 (fun q4 Hq4 hP hD hS => ?_)
  rw [ft_snoc] at hP hD
  have hqs : sz ≤ q4 := ft_newq hD hF0 (by decide)
  have hsz1 : sz ≤ Hq4.size := Nat.le_trans hsz hS.1
  refine lv_dup hx hb dX7_init_52 rfl ?_
  refine va_callv (va_runI (As := []) (rest := [.ref q4, .ref (ad 0)]) ⟨hx, hb, hml, hown, hts⟩ (c_X3_init l dC Z (fun _ => q4) k Hq4.size) (cwI 0 hts gX7_init_X3_init rfl rfl rfl (hts (.initialized RX3) (by decide +kernel)) (hts (.methodLink RX7 31 yX3_init) (by decide +kernel)) (hts (.instanceMethod yX3_init) (by decide +kernel)) rfl (by decide +kernel) ⟨Nat.le_of_ble_eq_true rfl, Nat.le_of_ble_eq_true rfl⟩) (ft_preK1 (va_up_self _ _ _) (va_up_self _ _ _) hE hO hS (fun x h => ft_qA hqs hsz1 x h) hP hD) rfl rfl hl.1 rfl (lv_room (Nat.le_of_ble_eq_true rfl)) dX7_init_53 ⟨Nat.le_of_ble_eq_true rfl, Nat.le_of_ble_eq_true rfl⟩) hS (fun x _ h => ft_qA hqs hsz1 x h) (fun x h => ft_qA hqs hsz1 x h) (fun g4 t H2q4 locs2q4 ht hvm hw hB hz1 hk1 hS => ?_)
  obtain ⟨hg0, hBP, hBD⟩ := hB
  rw [ht] at hBP
  have hW := ft_cR_go256 hP hD hk1 hBP hBD (fun x hx8 => Or.inr (Nat.le_trans hsz1 hx8))
  obtain ⟨F5, hFn, hFq⟩ : ∃ F', F' = ft_bl 256 F4 g4 ∧ F' 256 = q4 := ⟨_, rfl, ft_bl_at.trans hg0⟩
  rw [← hFn] at hW
  have hc0 : F5 0 = F4 0 := by rw [hFn]; exact ft_bl_lo (by decide)
  have hc1 : F5 1 = F4 1 := by rw [hFn]; exact ft_bl_lo (by decide)
  have hc24 : F5 24 = F4 24 := by rw [hFn]; exact ft_bl_lo (by decide)
  have hc47 : F5 47 = F4 47 := by rw [hFn]; exact ft_bl_lo (by decide)
  have hc70 : F5 70 = F4 70 := by rw [hFn]; exact ft_bl_lo (by decide)
  have hF0 : F5 0 = ad 0 := hc0.trans hF0
  obtain ⟨hP, hD⟩ := hW
  rw [← hc1, ← hc24, ← hc47, ← hc70] at hP hD
  have h0 : (ft_W 290 F5 (ft_cR k Z [.ref (F5 1), .ref (F5 24), .ref (F5 47), .ref (F5 70), .null, .null, .int 0, .int 0, .int 0] F5))[0]? = some (ad 0, .inr (9, [.ref (F5 1), .ref (F5 24), .ref (F5 47), .ref (F5 70), .null, .null, .int 0, .int 0, .int 0])) := by rw [← hF0]; exact ft_get' (by decide) rfl
  refine va_putF (D := dC) (ci := 9) (v := .ref q4) (ty := .object "FoodTruckRota$Script") (C := RX7) (T := TX7) (N := 9) hx hb hts (by decide +kernel) tyX7 tyX7_ok nmX7 hown hK.1 hP hD hS 0 h0 rfl 4 (by decide) (hts (.fieldLink RX7 32 "FoodTruckRota" "script" "LFoodTruckRota$Script;") (by decide +kernel)) (fun _ h9 => h9) rfl hin rfl (by decide +kernel) rfl rfl (Nat.le_of_ble_eq_true rfl) dX7_init_56 (fun H locs hP hD hS => ?_)
  rw [← hF0, ← hFq] at hP hD
  have hP := ft_cast hP ft_cR_vs
  have hD := ft_castD hD ft_cR_vs
  have hP : va_P dC vwCl (ft_W 290 F5 (ft_cR k Z [.ref (F5 1), .ref (F5 24), .ref (F5 47), .ref (F5 70), .ref (F5 256), .null, .int 0, .int 0, .int 0] F5)) H := hP
  have hD : va_D (ft_An 1 ad sz) (ft_W 290 F5 (ft_cR k Z [.ref (F5 1), .ref (F5 24), .ref (F5 47), .ref (F5 70), .ref (F5 256), .null, .int 0, .int 0, .int 0] F5)) := hD
  refine lv_aload_n hx hb dX7_init_59 rfl (lv_at hl 0 rfl) ?_
  refine va_new hx hb hts (by decide +kernel) tyJ4 tyJ4_ok hown (hts (.classLink RX7 36 RJ4) (by decide +kernel)) (hts (.instantiable RJ4 4) (by decide +kernel)) (hts (.initialized RJ4) (by decide +kernel)) hK.1 hP hD hS (fun z hz => Or.inr (Nat.le_trans hsz hz)) (ci := 1) rfl (fs := [.null, .int 0, .int 0, .int 0]) (by intro j hj; match j, hj with | 0, _ => rfl | 1, _ => rfl | 2, _ => rfl | 3, _ => rfl) (Nat.le_of_ble_eq_true rfl) (Nat.le_of_ble_eq_true rfl) dX7_init_60 (fun q5 Hq5 hP hD hS => ?_)
  rw [ft_snoc] at hP hD
  have hqs : sz ≤ q5 := ft_newq hD hF0 (by decide)
  have hsz1 : sz ≤ Hq5.size := Nat.le_trans hsz hS.1
  refine lv_dup hx hb dX7_init_63 rfl ?_
  refine va_callv (va_runI (As := []) (rest := [.ref q5, .ref (ad 0)]) ⟨hx, hb, hml, hown, hts⟩ (c_J4_init_da8c8 l dC Z (fun _ => q5) k Hq5.size) (cwI 0 hts gX7_init_J4_init_da8c8 rfl rfl rfl (hts (.initialized RJ4) (by decide +kernel)) (hts (.methodLink RX7 38 yJ4_init_da8c8) (by decide +kernel)) (hts (.instanceMethod yJ4_init_da8c8) (by decide +kernel)) rfl (by decide +kernel) ⟨Nat.le_of_ble_eq_true rfl, Nat.le_of_ble_eq_true rfl⟩) (ft_preKh1 (va_up_self _ _ _) (va_up_self _ _ _) hE hS (fun x h => ft_qA hqs hsz1 x h) hP hD) rfl rfl hl.1 rfl (lv_room (Nat.le_of_ble_eq_true rfl)) dX7_init_64 ⟨Nat.le_of_ble_eq_true rfl, Nat.le_of_ble_eq_true rfl⟩) hS (fun x _ h => ft_qA hqs hsz1 x h) (fun x h => ft_qA hqs hsz1 x h) (fun g5 t H2q5 locs2q5 ht hvm hw hB hz1 hk1 hS => ?_)
  obtain ⟨hBs, hBP⟩ := hB
  rw [ht] at hBP
  have hql : q5 < Hq5.size := by
    have h9 := (hP 290 _ (ft_get' (by decide) rfl)).lt
    rw [va_up_self] at h9
    exact h9
  have hBD : va_D (ft_An 1 (fun _ => q5) Hq5.size) (ft_WB (va_up (fun _ => q5) 1 g5) k (0, 0, 16, fun _ => 0)) := ft_sbD hBs hql
  generalize hgg : va_up (fun _ => q5) 1 g5 = g' at hBP hBD
  have hg0 : g' 0 = q5 := by rw [← hgg]; rfl
  have hW := ft_cR_go290 hP hD hk1 hBP hBD (fun x hx8 => Or.inr (Nat.le_trans hsz1 hx8))
  obtain ⟨F6, hFn, hFq⟩ : ∃ F', F' = ft_bl 290 F5 g' ∧ F' 290 = q5 := ⟨_, rfl, ft_bl_at.trans hg0⟩
  rw [← hFn] at hW
  have hc0 : F6 0 = F5 0 := by rw [hFn]; exact ft_bl_lo (by decide)
  have hc1 : F6 1 = F5 1 := by rw [hFn]; exact ft_bl_lo (by decide)
  have hc24 : F6 24 = F5 24 := by rw [hFn]; exact ft_bl_lo (by decide)
  have hc47 : F6 47 = F5 47 := by rw [hFn]; exact ft_bl_lo (by decide)
  have hc70 : F6 70 = F5 70 := by rw [hFn]; exact ft_bl_lo (by decide)
  have hc256 : F6 256 = F5 256 := by rw [hFn]; exact ft_bl_lo (by decide)
  have hF0 : F6 0 = ad 0 := hc0.trans hF0
  obtain ⟨hP, hD⟩ := hW
  rw [← hc1, ← hc24, ← hc47, ← hc70, ← hc256] at hP hD
  have h0 : (ft_W 292 F6 (ft_cR k Z [.ref (F6 1), .ref (F6 24), .ref (F6 47), .ref (F6 70), .ref (F6 256), .null, .int 0, .int 0, .int 0] F6))[0]? = some (ad 0, .inr (9, [.ref (F6 1), .ref (F6 24), .ref (F6 47), .ref (F6 70), .ref (F6 256), .null, .int 0, .int 0, .int 0])) := by rw [← hF0]; exact ft_get' (by decide) rfl
  refine va_putF (D := dC) (ci := 9) (v := .ref q5) (ty := .object "java/lang/StringBuilder") (C := RX7) (T := TX7) (N := 9) hx hb hts (by decide +kernel) tyX7 tyX7_ok nmX7 hown hK.1 hP hD hS 0 h0 rfl 5 (by decide) (hts (.fieldLink RX7 39 "FoodTruckRota" "output" "Ljava/lang/StringBuilder;") (by decide +kernel)) (fun _ h9 => h9) rfl hin rfl (by decide +kernel) rfl rfl (Nat.le_of_ble_eq_true rfl) dX7_init_67 (fun H locs hP hD hS => ?_)
  rw [← hF0, ← hFq] at hP hD
  have hP := ft_cast hP ft_cR_vs
  have hD := ft_castD hD ft_cR_vs
  have hP : va_P dC vwCl (ft_W 292 F6 (ft_cR k Z [.ref (F6 1), .ref (F6 24), .ref (F6 47), .ref (F6 70), .ref (F6 256), .ref (F6 290), .int 0, .int 0, .int 0] F6)) H := hP
  have hD : va_D (ft_An 1 ad sz) (ft_W 292 F6 (ft_cR k Z [.ref (F6 1), .ref (F6 24), .ref (F6 47), .ref (F6 70), .ref (F6 256), .ref (F6 290), .int 0, .int 0, .int 0] F6)) := hD
  refine lv_aload_n hx hb dX7_init_70 rfl (lv_at hl 0 rfl) ?_
  refine lv_iconst (v := (-1)) hx hb dX7_init_71 (by decide) ?_
  have h0 : (ft_W 292 F6 (ft_cR k Z [.ref (F6 1), .ref (F6 24), .ref (F6 47), .ref (F6 70), .ref (F6 256), .ref (F6 290), .int 0, .int 0, .int 0] F6))[0]? = some (ad 0, .inr (9, [.ref (F6 1), .ref (F6 24), .ref (F6 47), .ref (F6 70), .ref (F6 256), .ref (F6 290), .int 0, .int 0, .int 0])) := by rw [← hF0]; exact ft_get' (by decide) rfl
  refine va_put (D := dC) (ci := 9) (v := .int (-1)) (ty := .int) (C := RX7) (T := TX7) (N := 9) hx hb hts (by decide +kernel) tyX7 tyX7_ok nmX7 hown hK.1 hP hD hS 0 h0 rfl 7 (by decide) (hts (.fieldLink RX7 43 "FoodTruckRota" "latestErrorPosition" "I") (by decide +kernel)) (fun _ h9 => h9) rfl (by decide +kernel) rfl rfl (Nat.le_of_ble_eq_true rfl) dX7_init_72 (fun H locs hP hD hS => ?_)
  rw [← hF0] at hP hD
  have hP := ft_cast hP ft_cR_vs
  have hD := ft_castD hD ft_cR_vs
  have hP : va_P dC vwCl (ft_W 292 F6 (ft_cR k Z [.ref (F6 1), .ref (F6 24), .ref (F6 47), .ref (F6 70), .ref (F6 256), .ref (F6 290), .int 0, .int (-1), .int 0] F6)) H := hP
  have hD : va_D (ft_An 1 ad sz) (ft_W 292 F6 (ft_cR k Z [.ref (F6 1), .ref (F6 24), .ref (F6 47), .ref (F6 70), .ref (F6 256), .ref (F6 290), .int 0, .int (-1), .int 0] F6)) := hD
  refine lv_aload_n hx hb dX7_init_75 rfl (lv_at hl 0 rfl) ?_
  refine lv_iconst (v := (-1)) hx hb dX7_init_76 (by decide) ?_
  have h0 : (ft_W 292 F6 (ft_cR k Z [.ref (F6 1), .ref (F6 24), .ref (F6 47), .ref (F6 70), .ref (F6 256), .ref (F6 290), .int 0, .int (-1), .int 0] F6))[0]? = some (ad 0, .inr (9, [.ref (F6 1), .ref (F6 24), .ref (F6 47), .ref (F6 70), .ref (F6 256), .ref (F6 290), .int 0, .int (-1), .int 0])) := by rw [← hF0]; exact ft_get' (by decide) rfl
  refine va_put (D := dC) (ci := 9) (v := .int (-1)) (ty := .int) (C := RX7) (T := TX7) (N := 9) hx hb hts (by decide +kernel) tyX7 tyX7_ok nmX7 hown hK.1 hP hD hS 0 h0 rfl 8 (by decide) (hts (.fieldLink RX7 47 "FoodTruckRota" "latestFailedCommand" "I") (by decide +kernel)) (fun _ h9 => h9) rfl (by decide +kernel) rfl rfl (Nat.le_of_ble_eq_true rfl) dX7_init_77 (fun H locs hP hD hS => ?_)
  rw [← hF0] at hP hD
  have hP := ft_cast hP ft_cR_vs
  have hD := ft_castD hD ft_cR_vs
  have hP : va_P dC vwCl (ft_W 292 F6 (ft_cR k Z [.ref (F6 1), .ref (F6 24), .ref (F6 47), .ref (F6 70), .ref (F6 256), .ref (F6 290), .int 0, .int (-1), .int (-1)] F6)) H := hP
  have hD : va_D (ft_An 1 ad sz) (ft_W 292 F6 (ft_cR k Z [.ref (F6 1), .ref (F6 24), .ref (F6 47), .ref (F6 70), .ref (F6 256), .ref (F6 290), .int 0, .int (-1), .int (-1)] F6)) := hD
  exact W.vret hx hb hr (fun t2 ht2 hW => ⟨⟨fun j => F6 (ft_pi j), rfl, trivial, hF0, ft_heap ht2 (ft_newR hP), ft_D_sub hD ft_pi ft_pi_lt ft_pi_inj (fun _ _ => rfl)⟩, hS.F ht2⟩) hS.2.2 dX7_init_80
