/-! the world of a FoodTruckRota: eleven Squares (0 present, 1 draft, 2 snapshot, 3.. the history's), the objects, two texts, fifteen steps -/
abbrev ft_G : Type := (Nat × (Nat → Int32)) × (Nat × (Nat → Int32)) × (Nat → Nat) × (Nat → Nat → Int32)
abbrev ft_sq (ad : Nat → Nat) (s : Nat) : Nat → Nat := fun j => ad (23 * s + j)
/-- the cells that are no Square's; o: 0 saved, 1 latestErrorPosition, 2 latestFailedCommand, 3 kept, 4 stepTotal, 5 position, 6 the text's count, 7 the output's, 8 and 9 their maybeLatin1 -/
def ft_R2 (ad : Nat → Nat) (k : Nat → ClassId) (Z : Nat → Nat → Nat) (pm : Nat → Nat) (o : Nat → Int32) (g : ft_G) : Nat → va_E := fun j => match j with
  | 0 => .inr (9, [.ref (ft_sq ad 0 0), .ref (ft_sq ad 1 0), .ref (ft_sq ad 2 0), .ref (ad 254), .ref (ad 256), .ref (ad 260), .int (o 0), .int (o 1), .int (o 2)])
  | 1 => .inr (4, [.ref (ad 255), .int (o 3)])
  | 2 => .inl (k 2, 8, .inr (.inr (.inr (.inr (fun i => some (ft_sq ad (3 + pm i) 0))))))
  | 3 => .inr (5, [.ref (ad 258), .ref (ad 257), .int (o 4), .int (o 5)])
  | 4 => .inl (k 3, 15, .inr (.inr (.inr (.inr (fun i => some (ad (262 + 2 * i)))))))
  | 5 => .inr (1, [.ref (ad 259), .int 0, .int (o 8), .int (o 6)])
  | 6 => .inl (k 4, g.1.1, .inl g.1.2)
  | 7 => .inr (1, [.ref (ad 261), .int 0, .int (o 9), .int (o 7)])
  | 8 => .inl (k 4, g.2.1.1, .inl g.2.1.2)
  | j + 9 => if j % 2 = 0 then .inr (7, [.ref (Z 0 (g.2.2.1 (j / 2))), .ref (ad (263 + 2 * (j / 2)))]) else .inl (k 0, 3, .inl (g.2.2.2 (j / 2)))
def ft_R (ad : Nat → Nat) (k : Nat → ClassId) (Z : Nat → Nat → Nat) (q : Nat → Nat → Int32) (pm : Nat → Nat) (o : Nat → Int32) (g : ft_G) : Nat → va_E := fun j => if j < 253 then ft_S (ft_sq ad (j / 23)) k (q (j / 23)) (j % 23) else ft_R2 ad k Z pm o g (j - 253)
abbrev ft_WR (ad : Nat → Nat) (k : Nat → ClassId) (Z : Nat → Nat → Nat) (q : Nat → Nat → Int32) (pm : Nat → Nat) (o : Nat → Int32) (g : ft_G) : va_W := ft_W 292 ad (ft_R ad k Z q pm o g)
theorem ft_R_at {ad : Nat → Nat} {k : Nat → ClassId} {Z : Nat → Nat → Nat} {q : Nat → Nat → Int32} {pm : Nat → Nat} {o : Nat → Int32} {g : ft_G} {s x : Nat} (hs : s < 11) (hx : x < 23) : ft_R ad k Z q pm o g (23 * s + x) = ft_S (ft_sq ad s) k (q s) x := by
  have h1 : (23 * s + x) / 23 = s := by omega
  have h2 : (23 * s + x) % 23 = x := by omega
  show (if 23 * s + x < 253 then ft_S (ft_sq ad ((23 * s + x) / 23)) k (q ((23 * s + x) / 23)) ((23 * s + x) % 23) else _) = _
  rw [if_pos (by omega), h1, h2]
theorem ft_R_hi {ad : Nat → Nat} {k : Nat → ClassId} {Z : Nat → Nat → Nat} {q : Nat → Nat → Int32} {pm : Nat → Nat} {o : Nat → Int32} {g : ft_G} {x : Nat} : ft_R ad k Z q pm o g (253 + x) = ft_R2 ad k Z pm o g x := by
  show (if 253 + x < 253 then _ else ft_R2 ad k Z pm o g (253 + x - 253)) = _
  rw [if_neg (by omega), Nat.add_sub_cancel_left]
/-- the Square s of it -/
theorem ft_R_S {D : va_G} {ad : Nat → Nat} {k : Nat → ClassId} {Z : Nat → Nat → Nat} {q : Nat → Nat → Int32} {pm : Nat → Nat} {o : Nat → Int32} {g : ft_G} {H : Heap} {s : Nat} (hP : va_P D vwCl (ft_WR ad k Z q pm o g) H) (hs : s < 11) : va_P D vwCl (ft_WS (ft_sq ad s) k (q s)) H :=
  ft_P_sub hP (fun j => 23 * s + j) (fun j hj => by omega) (fun _ _ => rfl) (fun j hj => (ft_R_at hs hj).symm)
theorem ft_R_D {A : Nat → Prop} {ad : Nat → Nat} {k : Nat → ClassId} {Z : Nat → Nat → Nat} {q : Nat → Nat → Int32} {pm : Nat → Nat} {o : Nat → Int32} {g : ft_G} {s : Nat} (hD : va_D A (ft_WR ad k Z q pm o g)) (hs : s < 11) : va_D A (ft_WS (ft_sq ad s) k (q s)) :=
  ft_D_sub hD (fun j => 23 * s + j) (fun j hj => by omega) (fun _ _ _ _ h => by omega) (fun _ _ => rfl)
theorem ft_R_A {ad : Nat → Nat} {s : Nat} (hs : s < 11) : ∀ x, ft_A 23 (ft_sq ad s) x → ft_A 292 ad x := by
  intro x ⟨j, h1, h2⟩
  exact ⟨23 * s + j, by omega, h2⟩
theorem ft_R_out {ad : Nat → Nat} {k : Nat → ClassId} {Z : Nat → Nat → Nat} {q : Nat → Nat → Int32} {pm : Nat → Nat} {o : Nat → Int32} {g : ft_G} {s : Nat} {r : Nat → Int32} {j : Nat} (hne : ∀ x, x < 23 → 23 * s + x ≠ j) : ft_R ad k Z (va_up q s r) pm o g j = ft_R ad k Z q pm o g j := by
  show (if j < 253 then ft_S (ft_sq ad (j / 23)) k (va_up q s r (j / 23)) (j % 23) else _) = (if j < 253 then _ else _)
  have h1 : j / 23 ≠ s := fun e => hne (j % 23) (by omega) (by omega)
  rw [va_up_ne _ _ h1]
theorem ft_R_join {D : va_G} {A : Nat → Prop} {ad : Nat → Nat} {k : Nat → ClassId} {Z : Nat → Nat → Nat} {q : Nat → Nat → Int32} {pm : Nat → Nat} {o : Nat → Int32} {g : ft_G} {s : Nat} {r : Nat → Int32} {H H1 : Heap} (hP : va_P D vwCl (ft_WR ad k Z q pm o g) H) (hD : va_D A (ft_WR ad k Z q pm o g)) (hs : s < 11) (hk : ∀ x : Nat, x < H.size → ¬ ft_A 23 (ft_sq ad s) x → H1[x]? = H[x]?) (hP1 : va_P D vwCl (ft_WS (ft_sq ad s) k r) H1) : va_P D vwCl (ft_WR ad k Z (va_up q s r) pm o g) H1 :=
  ft_join hP hD (fun j => 23 * s + j) (fun j hj => by omega) (fun _ _ => rfl) hk hP1 (fun j hj => by rw [ft_R_at hs hj, va_up_self]) (fun j _ hne => ft_R_out hne)
/-- two of its Squares side by side -/
def ft_g3 (a b : Nat) : Nat → Nat := fun j => if j < 23 then 23 * a + j else 23 * b + (j - 23)
theorem ft_g3_lt {a b : Nat} (ha : a < 11) (hb : b < 11) : ∀ j, j < 46 → ft_g3 a b j < 292 := by
  intro j hj
  unfold ft_g3
  split <;> omega
theorem ft_g3_inj {a b : Nat} (hab : a ≠ b) : ∀ i j, i < 46 → j < 46 → ft_g3 a b i = ft_g3 a b j → i = j := by
  intro i j hi hj h
  unfold ft_g3 at h
  split at h <;> split at h <;> omega
theorem ft_g3_ad {ad : Nat → Nat} {a b : Nat} : ∀ j, j < 46 → ft_bl 23 (ft_sq ad a) (ft_sq ad b) j = ad (ft_g3 a b j) := by
  intro j hj
  unfold ft_g3
  by_cases h : j < 23
  · rw [if_pos h, ft_bl_lo h]
  · rw [if_neg h]
    show (if j < 23 then _ else _) = _
    rw [if_neg h]
theorem ft_g3_va {ad : Nat → Nat} {k : Nat → ClassId} {Z : Nat → Nat → Nat} {q : Nat → Nat → Int32} {pm : Nat → Nat} {o : Nat → Int32} {g : ft_G} {a b : Nat} (ha : a < 11) (hb : b < 11) : ∀ j, j < 46 → ft_bl 23 (ft_S (ft_sq ad a) k (q a)) (ft_S (ft_sq ad b) k (q b)) j = ft_R ad k Z q pm o g (ft_g3 a b j) := by
  intro j hj
  unfold ft_g3
  by_cases h : j < 23
  · rw [if_pos h, ft_bl_lo h, ft_R_at ha h]
  · rw [if_neg h, ft_R_at hb (by omega)]
    show (if j < 23 then _ else _) = _
    rw [if_neg h]
theorem ft_R_P2 {D : va_G} {ad : Nat → Nat} {k : Nat → ClassId} {Z : Nat → Nat → Nat} {q : Nat → Nat → Int32} {pm : Nat → Nat} {o : Nat → Int32} {g : ft_G} {H : Heap} {a b : Nat} (hP : va_P D vwCl (ft_WR ad k Z q pm o g) H) (ha : a < 11) (hb : b < 11) : va_P D vwCl (ft_WS2 (ft_sq ad a) k (q a) (ft_sq ad b) (q b)) H :=
  ft_P_sub hP (ft_g3 a b) (ft_g3_lt ha hb) ft_g3_ad (ft_g3_va ha hb)
theorem ft_R_D2 {A : Nat → Prop} {ad : Nat → Nat} {k : Nat → ClassId} {Z : Nat → Nat → Nat} {q : Nat → Nat → Int32} {pm : Nat → Nat} {o : Nat → Int32} {g : ft_G} {a b : Nat} (hD : va_D A (ft_WR ad k Z q pm o g)) (ha : a < 11) (hb : b < 11) (hab : a ≠ b) : va_D A (ft_WS2 (ft_sq ad a) k (q a) (ft_sq ad b) (q b)) :=
  ft_D_sub hD (ft_g3 a b) (ft_g3_lt ha hb) (ft_g3_inj hab) ft_g3_ad
theorem ft_R_A2 {ad : Nat → Nat} {a b : Nat} (ha : a < 11) (hb : b < 11) : ∀ x, ft_A 46 (ft_bl 23 (ft_sq ad a) (ft_sq ad b)) x → ft_A 292 ad x := by
  intro x ⟨j, h1, h2⟩
  exact ⟨ft_g3 a b j, ft_g3_lt ha hb j h1, by rw [h2, ft_g3_ad j h1]⟩
theorem ft_R_join2 {D : va_G} {A : Nat → Prop} {ad : Nat → Nat} {k : Nat → ClassId} {Z : Nat → Nat → Nat} {q : Nat → Nat → Int32} {pm : Nat → Nat} {o : Nat → Int32} {g : ft_G} {a b : Nat} {r : Nat → Int32} {H H1 : Heap} (hP : va_P D vwCl (ft_WR ad k Z q pm o g) H) (hD : va_D A (ft_WR ad k Z q pm o g)) (ha : a < 11) (hb : b < 11) (hab : a ≠ b) (hk : ∀ x : Nat, x < H.size → ¬ ft_A 46 (ft_bl 23 (ft_sq ad a) (ft_sq ad b)) x → H1[x]? = H[x]?) (hP1 : va_P D vwCl (ft_WS2 (ft_sq ad a) k r (ft_sq ad b) (q b)) H1) : va_P D vwCl (ft_WR ad k Z (va_up q a r) pm o g) H1 := by
  refine ft_join hP hD (ft_g3 a b) (ft_g3_lt ha hb) ft_g3_ad hk hP1 (fun j hj => ?_) (fun j _ hne => ft_R_out (fun x hx e => hne x (by omega) ?_))
  · have h := (ft_g3_va (ad := ad) (k := k) (Z := Z) (q := va_up q a r) (pm := pm) (o := o) (g := g) ha hb j hj).symm
    rw [va_up_self, va_up_ne _ _ (Ne.symm hab)] at h
    exact h
  · show (if x < 23 then 23 * a + x else _) = j
    rw [if_pos hx, e]
/-! methods that may throw -/
def ft_xl (E : String) : List Cond := [.castable E E, .declares (Bundle.initS "java/lang/RuntimeException"), .declares (Bundle.initS "java/lang/Exception"), .declares (Bundle.initS "java/lang/Throwable")]
theorem ft_xw {D : va_G} {k : Nat → ClassId} {Z : Nat → Nat → Nat} {A : Nat → Prop} {s : State} {args : Array Value} (hE : ft_E D k Z A s) (E : String) (hm : E ∈ ft_exc) : ∀ w ∈ ft_xl E, w.before args s = true :=
  vx_c (va_Nw.use rfl (hE.2.1.1 E hm)) (vx_c (va_Nw.use rfl (hE.2.1.2.2 _ (by decide +kernel))) (vx_c (va_Nw.use rfl (hE.2.1.2.2 _ (by decide +kernel))) (vx_c (va_Nw.use rfl (hE.2.1.2.2 _ (by decide +kernel))) vx_n)))
def ft_xb {α β : Type} (r : Except String α) (f : α → Except String β) : Except String β := match r with
  | .ok a => f a
  | .error e => .error e
theorem ft_xb_ok {α β : Type} {r : Except String α} {a : α} {f : α → Except String β} {F : Except String β} (h : r = .ok a) (hs : ft_xb r f = F) : f a = F := by rw [h] at hs; exact hs
theorem ft_xb_err {α β : Type} {r : Except String α} {e : String} {f : α → Except String β} {F : Except String β} (h : r = .error e) (hs : ft_xb r f = F) : F = .error e := by rw [h] at hs; exact hs.symm
/-- what a method that looks only answers, or throws -/
def ft_Qx (r : Except String Int32) : Array Value → State → Outcome → State → Prop := va_Qi (fun (z : Int32) (_ : Unit) => r = .ok z) (fun _ _ => True) (fun _ => False)
def ft_Qxv (r : Except String Unit) : Array Value → State → Outcome → State → Prop := va_Qv (fun (_ : Unit) => r = .ok ()) (fun _ _ => True) (fun _ => False)
def ft_Xx {α : Type} (r : Except String α) : String → State → State → Prop := vx_X (fun (_ : Unit) => True) (fun E _ _ => r = .error E) (fun _ => False)
theorem ft_Sm {A : Nat → Prop} {H0 H : Heap} {locs : List Loc} (h : va_S (fun _ => False) H0 H locs) : va_S A H0 H locs := ⟨h.1, fun q h1 _ => h.2.1 q h1 (fun z => z), fun l hl => (h.2.2 l hl).elim⟩
theorem ft_Fx {s t : State} {H : Heap} {locs : List Loc} (hS : va_S (fun _ => False) s.heap H locs) (h1 : H.size ≤ t.heap.size) (h2 : ∀ q : Nat, q < H.size → t.heap[q]? = H[q]?) : va_F (fun _ => False) s t := ⟨Nat.le_trans hS.1 h1, fun q hq hn => by rw [h2 q (Nat.lt_of_lt_of_le hq hS.1)]; exact hS.2.1 q hq hn⟩
theorem ft_keep {D : va_G} {cl : List vw_C} {ws : va_W} {H H1 : Heap} (hP : va_P D cl ws H) (hk : ∀ q : Nat, q < H.size → ¬ False → H1[q]? = H[q]?) : va_P D cl ws H1 := hP.kept (fun k q hq => hk q.1 ((hP k q hq).lt) (fun z => z))
theorem ft_preVg {D : va_G} {k : Nat → ClassId} {Z : Nat → Nat → Nat} {A B : Nat → Prop} {s : State} {H : Heap} {locs : List Loc} {C : String} {T : u_T} {N b ci q0 : Nat} {As : List Value} {ws : va_W} {fs : List Value} (hE : ft_E D k Z A s) (hS : va_S A s.heap H locs) (hAB : ∀ q, B q → A q) (hP : va_P D vwCl ws H) (hc : vwCl[ci]? = some (C, T, N)) (h0 : ws[q0]? = some (b, .inr (ci, fs))) : PreV s H C b (ft_Pe D k Z B (.ref b :: As) ws) As :=
  ⟨ft_Pe.blind, va_recv hE.1.1 hP hc h0, fun U hU hW => ⟨rfl, by rw [hU]; exact hP, hE.go hS hAB hU hW⟩⟩
theorem ft_preSo {D : va_G} {k : Nat → ClassId} {Z : Nat → Nat → Nat} {A B : Nat → Prop} {s : State} {H : Heap} {locs : List Loc} {As : List Value} (hE : ft_E D k Z A s) (hS : va_S A s.heap H locs) (hAB : ∀ q, B q → A q) : PreS s H (ft_Po D k Z B As) As := ⟨ft_Po.blind, fun U hU hW => ⟨rfl, hE.go hS hAB hU hW⟩⟩
