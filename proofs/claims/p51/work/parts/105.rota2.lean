/-! writing methods of the whole object -/
abbrev ft_St : Type := (Nat → Nat → Int32) × (Nat → Nat) × (Nat → Int32)
theorem ft_R_set2 {ad : Nat → Nat} {k : Nat → ClassId} {Z : Nat → Nat → Nat} {q : Nat → Nat → Int32} {pm pm' : Nat → Nat} {o o' : Nat → Int32} {g g' : ft_G} {x : Nat} {e : va_E} (h : ∀ y, y < 39 → va_up (ft_R2 ad k Z pm o g) x e y = ft_R2 ad k Z pm' o' g' y) : (ft_WR ad k Z q pm o g).set (253 + x) (ad (253 + x), e) = ft_WR ad k Z q pm' o' g' := by
  refine ft_set' (fun j hj => ?_)
  by_cases hl : j < 253
  · rw [va_up_ne _ _ (by omega)]
    show (if j < 253 then _ else _) = (if j < 253 then _ else _)
    rw [if_pos hl, if_pos hl]
  · obtain ⟨y, rfl⟩ : ∃ y, j = 253 + y := ⟨j - 253, by omega⟩
    rw [ft_R_hi, ← h y (by omega)]
    by_cases hy : y = x
    · subst hy; rw [va_up_self, va_up_self]
    · rw [va_up_ne _ _ (by omega), va_up_ne _ _ hy, ft_R_hi]

theorem ft_R_p0 {ad : Nat → Nat} {k : Nat → ClassId} {Z : Nat → Nat → Nat} {q : Nat → Nat → Int32} {pm : Nat → Nat} {o : Nat → Int32} {g : ft_G} {v : Int32} : (ft_WR ad k Z q pm o g).set (253 + 0) (ad (253 + 0), .inr (9, [.ref (ft_sq ad 0 0), .ref (ft_sq ad 1 0), .ref (ft_sq ad 2 0), .ref (ad 254), .ref (ad 256), .ref (ad 260), .int v, .int (o 1), .int (o 2)])) = ft_WR ad k Z q pm (va_up o 0 v) g := by
  refine ft_R_set2 (fun y hy => ?_)
  match y, hy with
  | 0, _ => rw [va_up_self]; simp [ft_R2, va_up]
  | 1, _ => rw [va_up_ne _ _ (by decide)]; simp [ft_R2, va_up]
  | 2, _ => rw [va_up_ne _ _ (by decide)]; rfl
  | 3, _ => rw [va_up_ne _ _ (by decide)]; simp [ft_R2, va_up]
  | 4, _ => rw [va_up_ne _ _ (by decide)]; rfl
  | 5, _ => rw [va_up_ne _ _ (by decide)]; simp [ft_R2, va_up]
  | 6, _ => rw [va_up_ne _ _ (by decide)]; rfl
  | 7, _ => rw [va_up_ne _ _ (by decide)]; simp [ft_R2, va_up]
  | 8, _ => rw [va_up_ne _ _ (by decide)]; rfl
  | y + 9, _ => rw [va_up_ne _ _ (by omega)]; rfl
theorem ft_R_p1 {ad : Nat → Nat} {k : Nat → ClassId} {Z : Nat → Nat → Nat} {q : Nat → Nat → Int32} {pm : Nat → Nat} {o : Nat → Int32} {g : ft_G} {v : Int32} : (ft_WR ad k Z q pm o g).set (253 + 0) (ad (253 + 0), .inr (9, [.ref (ft_sq ad 0 0), .ref (ft_sq ad 1 0), .ref (ft_sq ad 2 0), .ref (ad 254), .ref (ad 256), .ref (ad 260), .int (o 0), .int v, .int (o 2)])) = ft_WR ad k Z q pm (va_up o 1 v) g := by
  refine ft_R_set2 (fun y hy => ?_)
  match y, hy with
  | 0, _ => rw [va_up_self]; simp [ft_R2, va_up]
  | 1, _ => rw [va_up_ne _ _ (by decide)]; simp [ft_R2, va_up]
  | 2, _ => rw [va_up_ne _ _ (by decide)]; rfl
  | 3, _ => rw [va_up_ne _ _ (by decide)]; simp [ft_R2, va_up]
  | 4, _ => rw [va_up_ne _ _ (by decide)]; rfl
  | 5, _ => rw [va_up_ne _ _ (by decide)]; simp [ft_R2, va_up]
  | 6, _ => rw [va_up_ne _ _ (by decide)]; rfl
  | 7, _ => rw [va_up_ne _ _ (by decide)]; simp [ft_R2, va_up]
  | 8, _ => rw [va_up_ne _ _ (by decide)]; rfl
  | y + 9, _ => rw [va_up_ne _ _ (by omega)]; rfl
theorem ft_R_p2 {ad : Nat → Nat} {k : Nat → ClassId} {Z : Nat → Nat → Nat} {q : Nat → Nat → Int32} {pm : Nat → Nat} {o : Nat → Int32} {g : ft_G} {v : Int32} : (ft_WR ad k Z q pm o g).set (253 + 0) (ad (253 + 0), .inr (9, [.ref (ft_sq ad 0 0), .ref (ft_sq ad 1 0), .ref (ft_sq ad 2 0), .ref (ad 254), .ref (ad 256), .ref (ad 260), .int (o 0), .int (o 1), .int v])) = ft_WR ad k Z q pm (va_up o 2 v) g := by
  refine ft_R_set2 (fun y hy => ?_)
  match y, hy with
  | 0, _ => rw [va_up_self]; simp [ft_R2, va_up]
  | 1, _ => rw [va_up_ne _ _ (by decide)]; simp [ft_R2, va_up]
  | 2, _ => rw [va_up_ne _ _ (by decide)]; rfl
  | 3, _ => rw [va_up_ne _ _ (by decide)]; simp [ft_R2, va_up]
  | 4, _ => rw [va_up_ne _ _ (by decide)]; rfl
  | 5, _ => rw [va_up_ne _ _ (by decide)]; simp [ft_R2, va_up]
  | 6, _ => rw [va_up_ne _ _ (by decide)]; rfl
  | 7, _ => rw [va_up_ne _ _ (by decide)]; simp [ft_R2, va_up]
  | 8, _ => rw [va_up_ne _ _ (by decide)]; rfl
  | y + 9, _ => rw [va_up_ne _ _ (by omega)]; rfl
theorem ft_R_p3 {ad : Nat → Nat} {k : Nat → ClassId} {Z : Nat → Nat → Nat} {q : Nat → Nat → Int32} {pm : Nat → Nat} {o : Nat → Int32} {g : ft_G} {v : Int32} : (ft_WR ad k Z q pm o g).set (253 + 1) (ad (253 + 1), .inr (4, [.ref (ad 255), .int v])) = ft_WR ad k Z q pm (va_up o 3 v) g := by
  refine ft_R_set2 (fun y hy => ?_)
  match y, hy with
  | 0, _ => rw [va_up_ne _ _ (by decide)]; simp [ft_R2, va_up]
  | 1, _ => rw [va_up_self]; simp [ft_R2, va_up]
  | 2, _ => rw [va_up_ne _ _ (by decide)]; rfl
  | 3, _ => rw [va_up_ne _ _ (by decide)]; simp [ft_R2, va_up]
  | 4, _ => rw [va_up_ne _ _ (by decide)]; rfl
  | 5, _ => rw [va_up_ne _ _ (by decide)]; simp [ft_R2, va_up]
  | 6, _ => rw [va_up_ne _ _ (by decide)]; rfl
  | 7, _ => rw [va_up_ne _ _ (by decide)]; simp [ft_R2, va_up]
  | 8, _ => rw [va_up_ne _ _ (by decide)]; rfl
  | y + 9, _ => rw [va_up_ne _ _ (by omega)]; rfl
theorem ft_R_p4 {ad : Nat → Nat} {k : Nat → ClassId} {Z : Nat → Nat → Nat} {q : Nat → Nat → Int32} {pm : Nat → Nat} {o : Nat → Int32} {g : ft_G} {v : Int32} : (ft_WR ad k Z q pm o g).set (253 + 3) (ad (253 + 3), .inr (5, [.ref (ad 258), .ref (ad 257), .int v, .int (o 5)])) = ft_WR ad k Z q pm (va_up o 4 v) g := by
  refine ft_R_set2 (fun y hy => ?_)
  match y, hy with
  | 0, _ => rw [va_up_ne _ _ (by decide)]; simp [ft_R2, va_up]
  | 1, _ => rw [va_up_ne _ _ (by decide)]; simp [ft_R2, va_up]
  | 2, _ => rw [va_up_ne _ _ (by decide)]; rfl
  | 3, _ => rw [va_up_self]; simp [ft_R2, va_up]
  | 4, _ => rw [va_up_ne _ _ (by decide)]; rfl
  | 5, _ => rw [va_up_ne _ _ (by decide)]; simp [ft_R2, va_up]
  | 6, _ => rw [va_up_ne _ _ (by decide)]; rfl
  | 7, _ => rw [va_up_ne _ _ (by decide)]; simp [ft_R2, va_up]
  | 8, _ => rw [va_up_ne _ _ (by decide)]; rfl
  | y + 9, _ => rw [va_up_ne _ _ (by omega)]; rfl
theorem ft_R_p5 {ad : Nat → Nat} {k : Nat → ClassId} {Z : Nat → Nat → Nat} {q : Nat → Nat → Int32} {pm : Nat → Nat} {o : Nat → Int32} {g : ft_G} {v : Int32} : (ft_WR ad k Z q pm o g).set (253 + 3) (ad (253 + 3), .inr (5, [.ref (ad 258), .ref (ad 257), .int (o 4), .int v])) = ft_WR ad k Z q pm (va_up o 5 v) g := by
  refine ft_R_set2 (fun y hy => ?_)
  match y, hy with
  | 0, _ => rw [va_up_ne _ _ (by decide)]; simp [ft_R2, va_up]
  | 1, _ => rw [va_up_ne _ _ (by decide)]; simp [ft_R2, va_up]
  | 2, _ => rw [va_up_ne _ _ (by decide)]; rfl
  | 3, _ => rw [va_up_self]; simp [ft_R2, va_up]
  | 4, _ => rw [va_up_ne _ _ (by decide)]; rfl
  | 5, _ => rw [va_up_ne _ _ (by decide)]; simp [ft_R2, va_up]
  | 6, _ => rw [va_up_ne _ _ (by decide)]; rfl
  | 7, _ => rw [va_up_ne _ _ (by decide)]; simp [ft_R2, va_up]
  | 8, _ => rw [va_up_ne _ _ (by decide)]; rfl
  | y + 9, _ => rw [va_up_ne _ _ (by omega)]; rfl
theorem ft_R_e {ad : Nat → Nat} {k : Nat → ClassId} {Z : Nat → Nat → Nat} {q : Nat → Nat → Int32} {pm : Nat → Nat} {o : Nat → Int32} {g : ft_G} {i n : Nat} : (ft_WR ad k Z q pm o g).set (253 + 2) (ad (253 + 2), .inl (k 2, 8, .inr (.inr (.inr (.inr (va_up (fun i => some (ft_sq ad (3 + pm i) 0)) i (some (ft_sq ad (3 + n) 0)))))))) = ft_WR ad k Z q (va_up pm i n) o g := by
  refine ft_R_set2 (fun y hy => ?_)
  match y, hy with
  | 0, _ => rw [va_up_ne _ _ (by decide)]; rfl
  | 1, _ => rw [va_up_ne _ _ (by decide)]; rfl
  | 2, _ => 
    rw [va_up_self]
    refine congrArg (fun f => (.inl (k 2, 8, .inr (.inr (.inr (.inr f)))) : va_E)) (funext fun j => ?_)
    by_cases hj : j = i
    · subst hj; rw [va_up_self, va_up_self]
    · rw [va_up_ne _ _ hj, va_up_ne _ _ hj]
  | 3, _ => rw [va_up_ne _ _ (by decide)]; rfl
  | 4, _ => rw [va_up_ne _ _ (by decide)]; rfl
  | 5, _ => rw [va_up_ne _ _ (by decide)]; rfl
  | 6, _ => rw [va_up_ne _ _ (by decide)]; rfl
  | 7, _ => rw [va_up_ne _ _ (by decide)]; rfl
  | 8, _ => rw [va_up_ne _ _ (by decide)]; rfl
  | y + 9, _ => rw [va_up_ne _ _ (by omega)]; rfl
/-- results with the state behind them -/
def ft_xs {α β σ : Type} (r : Except String α) (u : σ) (f : α → Except String β × σ) : Except String β × σ := match r with
  | .ok a => f a
  | .error e => (.error e, u)
theorem ft_xs_ok {α β σ : Type} {r : Except String α} {a : α} {u : σ} {f : α → Except String β × σ} {F : Except String β × σ} (h : r = .ok a) (hs : ft_xs r u f = F) : f a = F := by rw [h] at hs; exact hs
theorem ft_xs_err {α β σ : Type} {r : Except String α} {e : String} {u : σ} {f : α → Except String β × σ} {F : Except String β × σ} (h : r = .error e) (hs : ft_xs r u f = F) : F = (.error e, u) := by rw [h] at hs; exact hs.symm
def ft_xt {α β σ : Type} (r : Except String α × σ) (f : α → σ → Except String β × σ) : Except String β × σ := match r with
  | (.ok a, u) => f a u
  | (.error e, u) => (.error e, u)
theorem ft_xt_ok {α β σ : Type} {r : Except String α × σ} {a : α} {u : σ} {f : α → σ → Except String β × σ} {F : Except String β × σ} (h : r = (.ok a, u)) (hs : ft_xt r f = F) : f a u = F := by rw [h] at hs; exact hs
theorem ft_xt_err {α β σ : Type} {r : Except String α × σ} {e : String} {u : σ} {f : α → σ → Except String β × σ} {F : Except String β × σ} (h : r = (.error e, u)) (hs : ft_xt r f = F) : F = (.error e, u) := by rw [h] at hs; exact hs.symm
theorem ft_preVh {D : va_G} {k : Nat → ClassId} {Z : Nat → Nat → Nat} {A B A' : Nat → Prop} {s : State} {H : Heap} {locs : List Loc} {C : String} {T : u_T} {N b ci q0 : Nat} {As : List Value} {ws : va_W} {fs : List Value} (hE : ft_E D k Z A s) (hS : va_S A s.heap H locs) (hAB : ∀ q, B q → A q) (hP : va_P D vwCl ws H) (hD : va_D A' ws) (hc : vwCl[ci]? = some (C, T, N)) (h0 : ws[q0]? = some (b, .inr (ci, fs))) : PreV s H C b (ft_Pf D k Z B (.ref b :: As) ws) As :=
  ⟨ft_Pf.blind, va_recv hE.1.1 hP hc h0, fun U hU hW => ⟨rfl, by rw [hU]; exact hP, hE.go hS hAB hU hW, hD.weaken (fun _ _ _ _ => trivial)⟩⟩
theorem ft_Fa {A : Nat → Prop} {s t : State} {H : Heap} {locs : List Loc} (hS : va_S A s.heap H locs) (h1 : H.size ≤ t.heap.size) (h2 : ∀ q : Nat, q < H.size → t.heap[q]? = H[q]?) : va_F A s t := ⟨Nat.le_trans hS.1 h1, fun q hq hn => by rw [h2 q (Nat.lt_of_lt_of_le hq hS.1)]; exact hS.2.1 q hq hn⟩
theorem ft_heap2 {D : va_G} {cl : List vw_C} {ws : va_W} {t : State} {H : Heap} (h : va_P D cl ws H) (h2 : ∀ q : Nat, q < H.size → t.heap[q]? = H[q]?) : va_P D cl ws t.heap := h.kept (fun k q hq => h2 q.1 (h k q hq).lt)
