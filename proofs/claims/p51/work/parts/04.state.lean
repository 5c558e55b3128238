/-! the words that tie nest mates: they ride beside every world -/
def ft_nF : List (String × Nat × String × String × String × String) := [(RX4, 120, "FoodTruckRota$Truck", "portions", "[I", "FoodTruckRota"), (RX7, 144, "FoodTruckRota$Truck", "queued", "I", "FoodTruckRota"), (RX4, 184, "FoodTruckRota$Truck", "queued", "I", "FoodTruckRota"), (RX7, 150, "FoodTruckRota$Truck", "minutesToGo", "I", "FoodTruckRota"), (RX4, 193, "FoodTruckRota$Truck", "minutesToGo", "I", "FoodTruckRota"), (RX7, 104, "FoodTruckRota$Truck", "earned", "I", "FoodTruckRota"), (RX4, 202, "FoodTruckRota$Truck", "earned", "I", "FoodTruckRota"), (RX4, 129, "FoodTruckRota$Truck", "permitBits", "I", "FoodTruckRota"), (RX7, 94, "FoodTruckRota$Square", "trucks", "[LFoodTruckRota$Truck;", "FoodTruckRota"), (RX7, 107, "FoodTruckRota$Square", "prices", "[I", "FoodTruckRota"), (RX7, 194, "FoodTruckRota$Square", "sold", "[I", "FoodTruckRota"), (RX7, 84, "FoodTruckRota$Square", "truckTotal", "I", "FoodTruckRota"), (RX7, 173, "FoodTruckRota$Square", "dayCounter", "I", "FoodTruckRota"), (RX7, 176, "FoodTruckRota$Square", "minuteCounter", "I", "FoodTruckRota"), (RX7, 179, "FoodTruckRota$Square", "customersPerMinute", "I", "FoodTruckRota"), (RX7, 182, "FoodTruckRota$Square", "arrived", "I", "FoodTruckRota"), (RX7, 185, "FoodTruckRota$Square", "served", "I", "FoodTruckRota"), (RX7, 188, "FoodTruckRota$Square", "disappointed", "I", "FoodTruckRota"), (RX7, 191, "FoodTruckRota$Square", "lost", "I", "FoodTruckRota"), (RX7, 289, "FoodTruckRota$History", "kept", "I", "FoodTruckRota"), (RX3, 48, "FoodTruckRota$Step", "command", "LFoodTruckRota$Command;", "FoodTruckRota"), (RX7, 264, "FoodTruckRota$Step", "command", "LFoodTruckRota$Command;", "FoodTruckRota"), (RX3, 61, "FoodTruckRota$Step", "arguments", "[I", "FoodTruckRota"), (RX7, 269, "FoodTruckRota$Step", "arguments", "[I", "FoodTruckRota"), (RX7, 241, "FoodTruckRota$Script", "text", "Ljava/lang/StringBuilder;", "FoodTruckRota"), (RX7, 260, "FoodTruckRota$Script", "steps", "[LFoodTruckRota$Step;", "FoodTruckRota"), (RX7, 257, "FoodTruckRota$Script", "stepTotal", "I", "FoodTruckRota"), (RX7, 252, "FoodTruckRota$Script", "position", "I", "FoodTruckRota"), (RX3, 79, "FoodTruckRota$Command", "ALL", "[LFoodTruckRota$Command;", "FoodTruckRota"), (RX3, 83, "FoodTruckRota$Command", "word", "Ljava/lang/String;", "FoodTruckRota"), (RX3, 65, "FoodTruckRota$Command", "argumentTotal", "I", "FoodTruckRota"), (RX3, 68, "FoodTruckRota$Command", "endsWithNumber", "Z", "FoodTruckRota")]
def ft_nM : List (String × Nat × MethodName × String) := [(RX4, 31, yX6_init, "FoodTruckRota"), (RX3, 24, yX5_init, "FoodTruckRota"), (RX4, 117, yX7_isDish, "FoodTruckRota"), (RX4, 123, yX7_isWeekday, "FoodTruckRota"), (RX6, 41, yX7_isWeekday, "FoodTruckRota"), (RX4, 144, yX7_isPitch, "FoodTruckRota"), (RX4, 199, yX7_minutesFor, "FoodTruckRota"), (RX6, 37, yX7_isDish, "FoodTruckRota"), (RX6, 48, yX7_minutesFor, "FoodTruckRota")]
def ft_N (U : State) : Prop := (∀ q ∈ ft_nF, va_Nw (.fieldLinkNest q.1 q.2.1 q.2.2.1 q.2.2.2.1 q.2.2.2.2.1 q.2.2.2.2.2) U) ∧ ∀ q ∈ ft_nM, va_Nw (.methodLinkNest q.1 q.2.1 q.2.2.1 q.2.2.2) U
theorem ft_N.same {u U : State} (h : u.vm = U.vm) (hN : ft_N u) : ft_N U := ⟨fun q hq => va_Nw.same rfl h (hN.1 q hq), fun q hq => va_Nw.same rfl h (hN.2 q hq)⟩
theorem ft_N.warm {s U : State} (hW : s.WarmedH U.vm) (hN : ft_N s) : ft_N U := ⟨fun q hq => va_Nw.warmF hW (hN.1 q hq), fun q hq => va_Nw.warmM hW (hN.2 q hq)⟩
/-- the classes of the arrays: k 0 int[], k 1 Truck[], k 2 Square[], k 3 Step[], k 4 byte[] -/
abbrev ft_tys (k : Nat → ClassId) : List (ClassId × FieldType) := [(k 0, .int), (k 1, .object RX6), (k 2, .object RX4), (k 3, .object RX5), (k 4, .byte)]
/-- what the tables say, the same for every world -/
def ft_K (D : va_G) (k : Nat → ClassId) (U : State) : Prop := va_K D vwCl (ft_tys k) U ∧ ft_N U
theorem ft_K.same {D : va_G} {k : Nat → ClassId} {u U : State} (h : u.vm = U.vm) (hK : ft_K D k u) : ft_K D k U := ⟨va_K.moved (by rw [h]; exact Vm.Alike.refl U.vm) hK.1, hK.2.same h⟩
theorem ft_K.warm {D : va_G} {k : Nat → ClassId} {s U : State} (hW : s.WarmedH U.vm) (hK : ft_K D k s) : ft_K D k U := ⟨va_K.moved hW.alike hK.1, hK.2.warm hW⟩
theorem ft_nl {args : Array Value} {s : State} (hN : ft_N s) (j : Nat) {a : String} {i : Nat} {b n d h : String} (hj : ft_nF[j]? = some (a, i, b, n, d, h)) : (Cond.fieldLinkNest a i b n d h).before args s = true := va_Nw.use rfl (hN.1 _ (List.mem_of_getElem? hj))
theorem ft_nm {s : State} (hN : ft_N s) (j : Nat) {a : String} {i : Nat} {x : MethodName} {h : String} (hj : ft_nM[j]? = some (a, i, x, h)) : va_Nw (.methodLinkNest a i x h) s := hN.2 _ (List.mem_of_getElem? hj)
/-- a start that only looks at a world; one that may write it -/
def ft_Pc (D : va_G) (k : Nat → ClassId) (av : List Value) (ws : va_W) : Array Value → State → Prop := va_Pc av (fun U => va_P D vwCl ws U.heap ∧ ft_K D k U)
def ft_Pd (D : va_G) (k : Nat → ClassId) (av : List Value) (ws : va_W) : Array Value → State → Prop := va_Pc av (fun U => va_P D vwCl ws U.heap ∧ ft_K D k U ∧ va_D (fun _ => True) ws)
def ft_Pn (av : List Value) : Array Value → State → Prop := va_Pc av (fun _ => True)
theorem ft_Pc.blind {D : va_G} {k : Nat → ClassId} {av : List Value} {ws : va_W} : FrameBlind (ft_Pc D k av ws) := fun _ U _ _ q => ⟨q.1, q.2.1, q.2.2.same (u := U) rfl⟩
theorem ft_Pd.blind {D : va_G} {k : Nat → ClassId} {av : List Value} {ws : va_W} : FrameBlind (ft_Pd D k av ws) := fun _ U _ _ q => ⟨q.1, q.2.1, q.2.2.1.same (u := U) rfl, q.2.2.2⟩
theorem ft_Pn.blind {av : List Value} : FrameBlind (ft_Pn av) := fun _ _ _ _ q => q
theorem ft_preVc {D : va_G} {k : Nat → ClassId} {s : State} {H : Heap} {C : String} {T : u_T} {N b ci : Nat} {As : List Value} {ws : va_W} {fs : List Value} (hK : ft_K D k s) (hP : va_P D vwCl ws H) (hc : vwCl[ci]? = some (C, T, N)) (h0 : ws[0]? = some (b, .inr (ci, fs))) : PreV s H C b (ft_Pc D k (.ref b :: As) ws) As :=
  ⟨ft_Pc.blind, va_recv hK.1 hP hc h0, fun U hU hW => ⟨rfl, by rw [hU]; exact hP, hK.warm hW⟩⟩
theorem ft_preVd {D : va_G} {k : Nat → ClassId} {s : State} {H : Heap} {C : String} {T : u_T} {N b ci : Nat} {As : List Value} {ws : va_W} {fs : List Value} {A : Nat → Prop} (hK : ft_K D k s) (hP : va_P D vwCl ws H) (hD : va_D A ws) (hc : vwCl[ci]? = some (C, T, N)) (h0 : ws[0]? = some (b, .inr (ci, fs))) : PreV s H C b (ft_Pd D k (.ref b :: As) ws) As :=
  ⟨ft_Pd.blind, va_recv hK.1 hP hc h0, fun U hU hW => ⟨rfl, by rw [hU]; exact hP, hK.warm hW, hD.weaken (fun _ _ _ _ => trivial)⟩⟩
theorem ft_preSn {s : State} {H : Heap} {As : List Value} : PreS s H (ft_Pn As) As := ⟨ft_Pn.blind, fun _ _ _ => ⟨rfl, trivial⟩⟩
theorem ft_cast {D : va_G} {cl : List vw_C} {w w' : va_W} {H : Heap} (h : va_P D cl w H) (e : w = w') : va_P D cl w' H := e ▸ h
theorem ft_castD {A : Nat → Prop} {w w' : va_W} (h : va_D A w) (e : w = w') : va_D A w' := e ▸ h
theorem ft_heap {D : va_G} {cl : List vw_C} {ws : va_W} {t : State} {H : Heap} (ht : t.heap = H) (h : va_P D cl ws H) : va_P D cl ws t.heap := by rw [ht]; exact h
/-- an answer of a method that changes nothing -/
theorem ft_endi {post : Int32 → Prop} {s t : State} {as : Array Value} {v : Int32} (hp : post v) (ht : t.heap = s.heap) : vp_Si post as s (.returned (some (.int v))) t := ⟨v, rfl, hp, ht⟩
abbrev tn (x : Int32) : Nat := x.toNatClampNeg
theorem ft_tn {x : Int32} {n : Nat} (h : vp_in x n) : tn x < n := Nat.lt_of_not_le (fun q => h (Or.inr q))
/-- a Truck's cells: the object, its portions, its wishes; its numbers are the 17 of the row r from b on: earned, minutesToGo, queued, permitBits, 4 portions, 9 wishes -/
def ft_T (ad : Nat → Nat) (k : Nat → ClassId) (r : Nat → Int32) (b : Nat) : Nat → va_E := fun j => match j with
  | 0 => .inr (8, [.ref (ad 1), .ref (ad 2), .int (r (b + 2)), .int (r (b + 1)), .int (r (b + 0)), .int (r (b + 3))])
  | 1 => .inl (k 0, 4, .inl (ft_ar r (b + 4) 4))
  | _ => .inl (k 0, 9, .inl (ft_ar r (b + 8) 9))
abbrev ft_WT (ad : Nat → Nat) (k : Nat → ClassId) (r : Nat → Int32) (b : Nat) : va_W := ft_W 3 ad (ft_T ad k r b)
theorem ft_T_congr {ad : Nat → Nat} {k : Nat → ClassId} {r r' : Nat → Int32} {b : Nat} (h : ∀ x, x < 17 → r (b + x) = r' (b + x)) (j : Nat) : ft_T ad k r b j = ft_T ad k r' b j := by
  match j with
  | 0 => simp only [ft_T, h 0 (by omega), h 1 (by omega), h 2 (by omega), h 3 (by omega)]
  | 1 => exact congrArg (fun f => (.inl (k 0, 4, .inl f) : va_E)) (ft_ar_congr (fun x hx => by have := h (4 + x) (by omega); rwa [← Nat.add_assoc] at this))
  | j + 2 => exact congrArg (fun f => (.inl (k 0, 9, .inl f) : va_E)) (ft_ar_congr (fun x hx => by have := h (8 + x) (by omega); rwa [← Nat.add_assoc] at this))
theorem ft_T_p {ad : Nat → Nat} {k : Nat → ClassId} {r : Nat → Int32} {b f : Nat} {v : Int32} (hf : f < 4) (fs : List Value) (hfs : fs = [.ref (ad 1), .ref (ad 2), .int (va_up r (b + f) v (b + 2)), .int (va_up r (b + f) v (b + 1)), .int (va_up r (b + f) v (b + 0)), .int (va_up r (b + f) v (b + 3))]) : (ft_WT ad k r b).set 0 (ad 0, .inr (8, fs)) = ft_WT ad k (va_up r (b + f) v) b := by
  refine ft_set' (fun j hj => ?_)
  match j, hj with
  | 0, _ => rw [va_up_self, hfs]; rfl
  | 1, _ => rw [va_up_ne _ _ (by decide)]; simp only [ft_T]; rw [ft_ar_out (by omega)]
  | 2, _ => rw [va_up_ne _ _ (by decide)]; simp only [ft_T]; rw [ft_ar_out (by omega)]
theorem ft_T_p2 {ad : Nat → Nat} {k : Nat → ClassId} {r : Nat → Int32} {b : Nat} {v : Int32} : (ft_WT ad k r b).set 0 (ad 0, .inr (8, [.ref (ad 1), .ref (ad 2), .int v, .int (r (b + 1)), .int (r (b + 0)), .int (r (b + 3))])) = ft_WT ad k (va_up r (b + 2) v) b := ft_T_p (f := 2) (by decide) _ (by simp [va_up])
theorem ft_T_p1 {ad : Nat → Nat} {k : Nat → ClassId} {r : Nat → Int32} {b : Nat} {v : Int32} : (ft_WT ad k r b).set 0 (ad 0, .inr (8, [.ref (ad 1), .ref (ad 2), .int (r (b + 2)), .int v, .int (r (b + 0)), .int (r (b + 3))])) = ft_WT ad k (va_up r (b + 1) v) b := ft_T_p (f := 1) (by decide) _ (by simp [va_up])
theorem ft_T_p0 {ad : Nat → Nat} {k : Nat → ClassId} {r : Nat → Int32} {b : Nat} {v : Int32} : (ft_WT ad k r b).set 0 (ad 0, .inr (8, [.ref (ad 1), .ref (ad 2), .int (r (b + 2)), .int (r (b + 1)), .int v, .int (r (b + 3))])) = ft_WT ad k (va_up r (b + 0) v) b := ft_T_p (f := 0) (by decide) _ (by simp [va_up])
theorem ft_T_p3 {ad : Nat → Nat} {k : Nat → ClassId} {r : Nat → Int32} {b : Nat} {v : Int32} : (ft_WT ad k r b).set 0 (ad 0, .inr (8, [.ref (ad 1), .ref (ad 2), .int (r (b + 2)), .int (r (b + 1)), .int (r (b + 0)), .int v])) = ft_WT ad k (va_up r (b + 3) v) b := ft_T_p (f := 3) (by decide) _ (by simp [va_up])
theorem ft_T_a1 {ad : Nat → Nat} {k : Nat → ClassId} {r : Nat → Int32} {b i : Nat} {v : Int32} (hi : i < 4) : (ft_WT ad k r b).set 1 (ad 1, .inl (k 0, 4, .inl (upd (ft_ar r (b + 4) 4) i v))) = ft_WT ad k (va_up r (b + 4 + i) v) b := by
  refine ft_set' (fun j hj => ?_)
  match j, hj with
  | 0, _ => rw [va_up_ne _ _ (by decide)]; simp only [ft_T, va_up]; simp [show ¬ b + 2 = b + 4 + i by omega, show ¬ b + 1 = b + 4 + i by omega, show ¬ b = b + 4 + i by omega, show ¬ b + 3 = b + 4 + i by omega]
  | 1, _ => rw [va_up_self, ft_ar_put hi]; rfl
  | 2, _ => rw [va_up_ne _ _ (by decide)]; simp only [ft_T]; rw [ft_ar_out (by omega)]
theorem ft_T_a2 {ad : Nat → Nat} {k : Nat → ClassId} {r : Nat → Int32} {b i : Nat} {v : Int32} (hi : i < 9) : (ft_WT ad k r b).set 2 (ad 2, .inl (k 0, 9, .inl (upd (ft_ar r (b + 8) 9) i v))) = ft_WT ad k (va_up r (b + 8 + i) v) b := by
  refine ft_set' (fun j hj => ?_)
  match j, hj with
  | 0, _ => rw [va_up_ne _ _ (by decide)]; simp only [ft_T, va_up]; simp [show ¬ b + 2 = b + 8 + i by omega, show ¬ b + 1 = b + 8 + i by omega, show ¬ b = b + 8 + i by omega, show ¬ b + 3 = b + 8 + i by omega]
  | 1, _ => rw [va_up_ne _ _ (by decide)]; simp only [ft_T]; rw [ft_ar_out (by omega)]
  | 2, _ => rw [va_up_self, ft_ar_put hi]; rfl
/-- two worlds side by side -/
def ft_bl {α : Type} (n : Nat) (f g : Nat → α) : Nat → α := fun j => if j < n then f j else g (j - n)
theorem ft_bl_lo {α : Type} {n j : Nat} {f g : Nat → α} (h : j < n) : ft_bl n f g j = f j := if_pos h
theorem ft_bl_hi {α : Type} {n j : Nat} {f g : Nat → α} : ft_bl n f g (n + j) = g j := by
  show (if n + j < n then f (n + j) else g (n + j - n)) = g j
  rw [if_neg (by omega), Nat.add_sub_cancel_left]
theorem ft_bl_set {n m x : Nat} {ad ad2 : Nat → Nat} {va va' vb : Nat → va_E} {e : va_E} (hx : x < n) (h : (ft_W n ad va).set x (ad x, e) = ft_W n ad va') : (ft_W (n + m) (ft_bl n ad ad2) (ft_bl n va vb)).set x (ad x, e) = ft_W (n + m) (ft_bl n ad ad2) (ft_bl n va' vb) := by
  have hT : ∀ y, y < n → va_up va x e y = va' y := by
    intro y hy
    have h1 : (ft_W n ad (va_up va x e))[y]? = (ft_W n ad va')[y]? := by rw [← h, ft_set]
    rw [ft_get hy, ft_get hy] at h1
    exact (Prod.mk.inj (Option.some.inj h1)).2
  have h0 : ad x = ft_bl n ad ad2 x := (ft_bl_lo hx).symm
  rw [h0]
  refine ft_set' (fun j _ => ?_)
  by_cases hj : j < n
  · rw [ft_bl_lo hj, ← hT j hj]
    by_cases hxj : j = x
    · subst hxj; rw [va_up_self, va_up_self]
    · rw [va_up_ne _ _ hxj, va_up_ne _ _ hxj, ft_bl_lo hj]
  · have e1 : j = n + (j - n) := by omega
    rw [va_up_ne _ _ (by omega), e1, ft_bl_hi, ft_bl_hi]
/-- r, but on the stretch from lo on what r2 has from lo2 on -/
def ft_cp (r : Nat → Int32) (lo : Nat) (r2 : Nat → Int32) (lo2 n : Nat) : Nat → Int32 := fun q => if lo ≤ q ∧ q < lo + n then r2 (lo2 + (q - lo)) else r q
theorem ft_cp_in {r r2 : Nat → Int32} {lo lo2 n j : Nat} (h : j < n) : ft_cp r lo r2 lo2 n (lo + j) = r2 (lo2 + j) := by
  show (if lo ≤ lo + j ∧ lo + j < lo + n then r2 (lo2 + (lo + j - lo)) else r (lo + j)) = _
  rw [if_pos ⟨by omega, by omega⟩, Nat.add_sub_cancel_left]
theorem ft_cp_out {r r2 : Nat → Int32} {lo lo2 n q : Nat} (h : q < lo ∨ lo + n ≤ q) : ft_cp r lo r2 lo2 n q = r q := if_neg (by omega)
theorem ft_ar_cp {r r2 : Nat → Int32} {lo lo2 n : Nat} : va_cpy (ft_ar r2 lo2 n) (ft_ar r lo n) 0 0 n = ft_ar (ft_cp r lo r2 lo2 n) lo n := by
  funext j
  simp only [va_cpy, ft_ar]
  by_cases h : j < n
  · rw [if_pos ⟨by omega, by omega⟩, if_pos (by omega), if_pos h, ft_cp_in h]
    simp
  · rw [if_neg (by omega), if_neg h, if_neg h]
theorem ft_ar_cpo {r r2 : Nat → Int32} {lo lo2 n b m : Nat} (h : b + m ≤ lo ∨ lo + n ≤ b) : ft_ar (ft_cp r lo r2 lo2 n) b m = ft_ar r b m := ft_ar_congr (fun j hj => ft_cp_out (by omega))
theorem ft_T_c1 {ad : Nat → Nat} {k : Nat → ClassId} {r r2 : Nat → Int32} {b b2 : Nat} : (ft_WT ad k r b).set 1 (ad 1, .inl (k 0, 4, .inl (va_cpy (ft_ar r2 (b2 + 4) 4) (ft_ar r (b + 4) 4) 0 0 4))) = ft_WT ad k (ft_cp r (b + 4) r2 (b2 + 4) 4) b := by
  refine ft_set' (fun j hj => ?_)
  match j, hj with
  | 0, _ => rw [va_up_ne _ _ (by decide)]; simp only [ft_T]; rw [ft_cp_out (by omega), ft_cp_out (by omega), ft_cp_out (by omega), ft_cp_out (by omega)]
  | 1, _ => rw [va_up_self, ft_ar_cp]; rfl
  | 2, _ => rw [va_up_ne _ _ (by decide)]; simp only [ft_T]; rw [ft_ar_cpo (by omega)]
theorem ft_T_c2 {ad : Nat → Nat} {k : Nat → ClassId} {r r2 : Nat → Int32} {b b2 : Nat} : (ft_WT ad k r b).set 2 (ad 2, .inl (k 0, 9, .inl (va_cpy (ft_ar r2 (b2 + 8) 9) (ft_ar r (b + 8) 9) 0 0 9))) = ft_WT ad k (ft_cp r (b + 8) r2 (b2 + 8) 9) b := by
  refine ft_set' (fun j hj => ?_)
  match j, hj with
  | 0, _ => rw [va_up_ne _ _ (by decide)]; simp only [ft_T]; rw [ft_cp_out (by omega), ft_cp_out (by omega), ft_cp_out (by omega), ft_cp_out (by omega)]
  | 1, _ => rw [va_up_ne _ _ (by decide)]; simp only [ft_T]; rw [ft_ar_cpo (by omega)]
  | 2, _ => rw [va_up_self, ft_ar_cp]; rfl
abbrev ft_WT2 (ad : Nat → Nat) (k : Nat → ClassId) (r : Nat → Int32) (b : Nat) (ad2 : Nat → Nat) (r2 : Nat → Int32) (b2 : Nat) : va_W := ft_W 6 (ft_bl 3 ad ad2) (ft_bl 3 (ft_T ad k r b) (ft_T ad2 k r2 b2))
def ft_Pc2 (D : va_G) (k : Nat → ClassId) (av : List Value) (ws ws2 : va_W) : Array Value → State → Prop := va_Pc av (fun U => va_P D vwCl ws U.heap ∧ va_P D vwCl ws2 U.heap ∧ ft_K D k U)
theorem ft_Pc2.blind {D : va_G} {k : Nat → ClassId} {av : List Value} {ws ws2 : va_W} : FrameBlind (ft_Pc2 D k av ws ws2) := fun _ U _ _ q => ⟨q.1, q.2.1, q.2.2.1, q.2.2.2.same (u := U) rfl⟩
theorem ft_preVc2 {D : va_G} {k : Nat → ClassId} {s : State} {H : Heap} {C : String} {T : u_T} {N b ci : Nat} {As : List Value} {ws ws2 : va_W} {fs : List Value} (hK : ft_K D k s) (hP : va_P D vwCl ws H) (hP2 : va_P D vwCl ws2 H) (hc : vwCl[ci]? = some (C, T, N)) (h0 : ws[0]? = some (b, .inr (ci, fs))) : PreV s H C b (ft_Pc2 D k (.ref b :: As) ws ws2) As :=
  ⟨ft_Pc2.blind, va_recv hK.1 hP hc h0, fun U hU hW => ⟨rfl, by rw [hU]; exact hP, by rw [hU]; exact hP2, hK.warm hW⟩⟩
/-- the address of the truck i's cells in a Square's world -/
abbrev ft_at (ad : Nat → Nat) (i : Nat) : Nat → Nat := fun j => ad (5 + 3 * i + j)
/-- a Square's cells: the object, its row of trucks, holders, prices, sold, and six trucks; its numbers are the 153 of the row r: truckTotal, dayCounter, minuteCounter, customersPerMinute, arrived, served, disappointed, lost, 4 prices, 4 sold, 35 holders, 6 trucks -/
def ft_S (ad : Nat → Nat) (k : Nat → ClassId) (r : Nat → Int32) : Nat → va_E := fun j => match j with
  | 0 => .inr (6, [.ref (ad 1), .ref (ad 2), .ref (ad 3), .ref (ad 4), .int (r 0), .int (r 1), .int (r 2), .int (r 3), .int (r 4), .int (r 5), .int (r 6), .int (r 7)])
  | 1 => .inl (k 1, 6, .inr (.inr (.inr (.inr (fun i => some (ad (5 + 3 * i)))))))
  | 2 => .inl (k 0, 35, .inl (ft_ar r 16 35))
  | 3 => .inl (k 0, 4, .inl (ft_ar r 8 4))
  | 4 => .inl (k 0, 4, .inl (ft_ar r 12 4))
  | j + 5 => ft_T (ft_at ad (j / 3)) k r (51 + 17 * (j / 3)) (j % 3)
abbrev ft_WS (ad : Nat → Nat) (k : Nat → ClassId) (r : Nat → Int32) : va_W := ft_W 23 ad (ft_S ad k r)
abbrev ft_WS2 (ad : Nat → Nat) (k : Nat → ClassId) (r : Nat → Int32) (ad2 : Nat → Nat) (r2 : Nat → Int32) : va_W := ft_W 46 (ft_bl 23 ad ad2) (ft_bl 23 (ft_S ad k r) (ft_S ad2 k r2))
theorem ft_S_T {ad : Nat → Nat} {k : Nat → ClassId} {r : Nat → Int32} {i x : Nat} (hx : x < 3) : ft_S ad k r (5 + 3 * i + x) = ft_T (ft_at ad i) k r (51 + 17 * i) x := by
  have e : 5 + 3 * i + x = (3 * i + x) + 5 := by omega
  have h1 : (3 * i + x) / 3 = i := by omega
  have h2 : (3 * i + x) % 3 = x := by omega
  rw [e]
  show ft_T (ft_at ad ((3 * i + x) / 3)) k r (51 + 17 * ((3 * i + x) / 3)) ((3 * i + x) % 3) = _
  rw [h1, h2]
/-- the truck i's world out of its Square's -/
theorem ft_S_P {D : va_G} {ad : Nat → Nat} {k : Nat → ClassId} {r : Nat → Int32} {H : Heap} {i : Nat} (hP : va_P D vwCl (ft_WS ad k r) H) (hi : i < 6) : va_P D vwCl (ft_WT (ft_at ad i) k r (51 + 17 * i)) H :=
  ft_P_sub hP (fun j => 5 + 3 * i + j) (fun j hj => by omega) (fun _ _ => rfl) (fun j hj => (ft_S_T hj).symm)
theorem ft_S_D {A : Nat → Prop} {ad : Nat → Nat} {k : Nat → ClassId} {r : Nat → Int32} {i : Nat} (hD : va_D A (ft_WS ad k r)) (hi : i < 6) : va_D A (ft_WT (ft_at ad i) k r (51 + 17 * i)) :=
  ft_D_sub hD (fun j => 5 + 3 * i + j) (fun j hj => by omega) (fun _ _ _ _ h => by omega) (fun _ _ => rfl)
theorem ft_S_A {A : Nat → Prop} {ad : Nat → Nat} {k : Nat → ClassId} {r : Nat → Int32} {i : Nat} (hD : va_D A (ft_WS ad k r)) (hi : i < 6) : ∀ q, ft_A 3 (ft_at ad i) q → A q :=
  ft_D_A hD (fun j => 5 + 3 * i + j) (fun j hj => by omega) (fun _ _ => rfl)
/-- a row that differs from r in the truck i's numbers alone: the Square's other cells are the same -/
theorem ft_S_out {ad : Nat → Nat} {k : Nat → ClassId} {r r' : Nat → Int32} {i : Nat} (hr : ∀ q, (q < 51 + 17 * i ∨ 51 + 17 * i + 17 ≤ q) → r' q = r q) (j : Nat) (hne : ∀ x, x < 3 → 5 + 3 * i + x ≠ j) : ft_S ad k r' j = ft_S ad k r j := by
  match j, hne with
  | 0, _ => simp only [ft_S, hr 0 (by omega), hr 1 (by omega), hr 2 (by omega), hr 3 (by omega), hr 4 (by omega), hr 5 (by omega), hr 6 (by omega), hr 7 (by omega)]
  | 1, _ => rfl
  | 2, _ => simp only [ft_S]; rw [ft_ar_congr (fun x hx => hr (16 + x) (by omega))]
  | 3, _ => simp only [ft_S]; rw [ft_ar_congr (fun x hx => hr (8 + x) (by omega))]
  | 4, _ => simp only [ft_S]; rw [ft_ar_congr (fun x hx => hr (12 + x) (by omega))]
  | j + 5, hne =>
    show ft_T (ft_at ad (j / 3)) k r' (51 + 17 * (j / 3)) (j % 3) = ft_T (ft_at ad (j / 3)) k r (51 + 17 * (j / 3)) (j % 3)
    have hij : j / 3 ≠ i := by
      intro e
      have := hne (j % 3) (by omega)
      omega
    exact ft_T_congr (fun x hx => hr _ (by omega)) _
/-- behind a call on the truck i -/
theorem ft_S_join {D : va_G} {A : Nat → Prop} {ad : Nat → Nat} {k : Nat → ClassId} {r r' : Nat → Int32} {i : Nat} {H H1 : Heap} (hP : va_P D vwCl (ft_WS ad k r) H) (hD : va_D A (ft_WS ad k r)) (hi : i < 6) (hk : ∀ q : Nat, q < H.size → ¬ ft_A 3 (ft_at ad i) q → H1[q]? = H[q]?) (hP1 : va_P D vwCl (ft_WT (ft_at ad i) k r' (51 + 17 * i)) H1) (hr : ∀ q, (q < 51 + 17 * i ∨ 51 + 17 * i + 17 ≤ q) → r' q = r q) : va_P D vwCl (ft_WS ad k r') H1 :=
  ft_join hP hD (fun j => 5 + 3 * i + j) (fun j hj => by omega) (fun _ _ => rfl) hk hP1 (fun j hj => ft_S_T hj) (fun j _ hne => ft_S_out hr j hne)
/-- a cell of the truck i, written from the Square's world -/
theorem ft_S_upT {ad : Nat → Nat} {k : Nat → ClassId} {r r' : Nat → Int32} {i x : Nat} {e : va_E} (hx : x < 3) (he : (ft_WT (ft_at ad i) k r (51 + 17 * i)).set x (ft_at ad i x, e) = ft_WT (ft_at ad i) k r' (51 + 17 * i)) (hr : ∀ q, (q < 51 + 17 * i ∨ 51 + 17 * i + 17 ≤ q) → r' q = r q) : (ft_WS ad k r).set (5 + 3 * i + x) (ad (5 + 3 * i + x), e) = ft_WS ad k r' := by
  have hT : ∀ y, y < 3 → va_up (ft_T (ft_at ad i) k r (51 + 17 * i)) x e y = ft_T (ft_at ad i) k r' (51 + 17 * i) y := by
    intro y hy
    have h1 : (ft_W 3 (ft_at ad i) (va_up (ft_T (ft_at ad i) k r (51 + 17 * i)) x e))[y]? = (ft_WT (ft_at ad i) k r' (51 + 17 * i))[y]? := by rw [← he, ft_set]
    rw [ft_get hy, ft_get hy] at h1
    exact (Prod.mk.inj (Option.some.inj h1)).2
  refine ft_set' (fun j hj => ?_)
  by_cases h : ∃ y, y < 3 ∧ 5 + 3 * i + y = j
  · obtain ⟨y, hy, rfl⟩ := h
    rw [ft_S_T hy, ← hT y hy]
    by_cases hxy : y = x
    · subst hxy; rw [va_up_self, va_up_self]
    · rw [va_up_ne _ _ hxy, va_up_ne _ _ (by omega), ft_S_T hy]
  · have hne : ∀ y, y < 3 → 5 + 3 * i + y ≠ j := fun y hy e => h ⟨y, hy, e⟩
    rw [ft_S_out hr j hne, va_up_ne _ _ (fun e => hne x hx e.symm)]
theorem ft_up_out {r : Nat → Int32} {a lo n : Nat} {v : Int32} (h1 : lo ≤ a) (h2 : a < lo + n) : ∀ q, (q < lo ∨ lo + n ≤ q) → va_up r a v q = r q := fun q hq => va_up_ne _ _ (by omega)

theorem ft_S_p0 {ad : Nat → Nat} {k : Nat → ClassId} {r : Nat → Int32} {v : Int32} : (ft_WS ad k r).set 0 (ad 0, .inr (6, [.ref (ad 1), .ref (ad 2), .ref (ad 3), .ref (ad 4), .int v, .int (r 1), .int (r 2), .int (r 3), .int (r 4), .int (r 5), .int (r 6), .int (r 7)])) = ft_WS ad k (va_up r 0 v) := by
  refine ft_set' (fun j hj => ?_)
  match j, hj with
  | 0, _ => rw [va_up_self]; simp [ft_S, va_up]
  | 1, _ => rw [va_up_ne _ _ (by decide)]; rfl
  | 2, _ => rw [va_up_ne _ _ (by decide)]; simp only [ft_S]; rw [ft_ar_out (by omega)]
  | 3, _ => rw [va_up_ne _ _ (by decide)]; simp only [ft_S]; rw [ft_ar_out (by omega)]
  | 4, _ => rw [va_up_ne _ _ (by decide)]; simp only [ft_S]; rw [ft_ar_out (by omega)]
  | j + 5, _ =>
    rw [va_up_ne _ _ (by omega)]
    exact ft_T_congr (fun x hx => (va_up_ne _ _ (by omega)).symm) _
theorem ft_S_p1 {ad : Nat → Nat} {k : Nat → ClassId} {r : Nat → Int32} {v : Int32} : (ft_WS ad k r).set 0 (ad 0, .inr (6, [.ref (ad 1), .ref (ad 2), .ref (ad 3), .ref (ad 4), .int (r 0), .int v, .int (r 2), .int (r 3), .int (r 4), .int (r 5), .int (r 6), .int (r 7)])) = ft_WS ad k (va_up r 1 v) := by
  refine ft_set' (fun j hj => ?_)
  match j, hj with
  | 0, _ => rw [va_up_self]; simp [ft_S, va_up]
  | 1, _ => rw [va_up_ne _ _ (by decide)]; rfl
  | 2, _ => rw [va_up_ne _ _ (by decide)]; simp only [ft_S]; rw [ft_ar_out (by omega)]
  | 3, _ => rw [va_up_ne _ _ (by decide)]; simp only [ft_S]; rw [ft_ar_out (by omega)]
  | 4, _ => rw [va_up_ne _ _ (by decide)]; simp only [ft_S]; rw [ft_ar_out (by omega)]
  | j + 5, _ =>
    rw [va_up_ne _ _ (by omega)]
    exact ft_T_congr (fun x hx => (va_up_ne _ _ (by omega)).symm) _
theorem ft_S_p2 {ad : Nat → Nat} {k : Nat → ClassId} {r : Nat → Int32} {v : Int32} : (ft_WS ad k r).set 0 (ad 0, .inr (6, [.ref (ad 1), .ref (ad 2), .ref (ad 3), .ref (ad 4), .int (r 0), .int (r 1), .int v, .int (r 3), .int (r 4), .int (r 5), .int (r 6), .int (r 7)])) = ft_WS ad k (va_up r 2 v) := by
  refine ft_set' (fun j hj => ?_)
  match j, hj with
  | 0, _ => rw [va_up_self]; simp [ft_S, va_up]
  | 1, _ => rw [va_up_ne _ _ (by decide)]; rfl
  | 2, _ => rw [va_up_ne _ _ (by decide)]; simp only [ft_S]; rw [ft_ar_out (by omega)]
  | 3, _ => rw [va_up_ne _ _ (by decide)]; simp only [ft_S]; rw [ft_ar_out (by omega)]
  | 4, _ => rw [va_up_ne _ _ (by decide)]; simp only [ft_S]; rw [ft_ar_out (by omega)]
  | j + 5, _ =>
    rw [va_up_ne _ _ (by omega)]
    exact ft_T_congr (fun x hx => (va_up_ne _ _ (by omega)).symm) _
theorem ft_S_p3 {ad : Nat → Nat} {k : Nat → ClassId} {r : Nat → Int32} {v : Int32} : (ft_WS ad k r).set 0 (ad 0, .inr (6, [.ref (ad 1), .ref (ad 2), .ref (ad 3), .ref (ad 4), .int (r 0), .int (r 1), .int (r 2), .int v, .int (r 4), .int (r 5), .int (r 6), .int (r 7)])) = ft_WS ad k (va_up r 3 v) := by
  refine ft_set' (fun j hj => ?_)
  match j, hj with
  | 0, _ => rw [va_up_self]; simp [ft_S, va_up]
  | 1, _ => rw [va_up_ne _ _ (by decide)]; rfl
  | 2, _ => rw [va_up_ne _ _ (by decide)]; simp only [ft_S]; rw [ft_ar_out (by omega)]
  | 3, _ => rw [va_up_ne _ _ (by decide)]; simp only [ft_S]; rw [ft_ar_out (by omega)]
  | 4, _ => rw [va_up_ne _ _ (by decide)]; simp only [ft_S]; rw [ft_ar_out (by omega)]
  | j + 5, _ =>
    rw [va_up_ne _ _ (by omega)]
    exact ft_T_congr (fun x hx => (va_up_ne _ _ (by omega)).symm) _
theorem ft_S_p4 {ad : Nat → Nat} {k : Nat → ClassId} {r : Nat → Int32} {v : Int32} : (ft_WS ad k r).set 0 (ad 0, .inr (6, [.ref (ad 1), .ref (ad 2), .ref (ad 3), .ref (ad 4), .int (r 0), .int (r 1), .int (r 2), .int (r 3), .int v, .int (r 5), .int (r 6), .int (r 7)])) = ft_WS ad k (va_up r 4 v) := by
  refine ft_set' (fun j hj => ?_)
  match j, hj with
  | 0, _ => rw [va_up_self]; simp [ft_S, va_up]
  | 1, _ => rw [va_up_ne _ _ (by decide)]; rfl
  | 2, _ => rw [va_up_ne _ _ (by decide)]; simp only [ft_S]; rw [ft_ar_out (by omega)]
  | 3, _ => rw [va_up_ne _ _ (by decide)]; simp only [ft_S]; rw [ft_ar_out (by omega)]
  | 4, _ => rw [va_up_ne _ _ (by decide)]; simp only [ft_S]; rw [ft_ar_out (by omega)]
  | j + 5, _ =>
    rw [va_up_ne _ _ (by omega)]
    exact ft_T_congr (fun x hx => (va_up_ne _ _ (by omega)).symm) _
theorem ft_S_p5 {ad : Nat → Nat} {k : Nat → ClassId} {r : Nat → Int32} {v : Int32} : (ft_WS ad k r).set 0 (ad 0, .inr (6, [.ref (ad 1), .ref (ad 2), .ref (ad 3), .ref (ad 4), .int (r 0), .int (r 1), .int (r 2), .int (r 3), .int (r 4), .int v, .int (r 6), .int (r 7)])) = ft_WS ad k (va_up r 5 v) := by
  refine ft_set' (fun j hj => ?_)
  match j, hj with
  | 0, _ => rw [va_up_self]; simp [ft_S, va_up]
  | 1, _ => rw [va_up_ne _ _ (by decide)]; rfl
  | 2, _ => rw [va_up_ne _ _ (by decide)]; simp only [ft_S]; rw [ft_ar_out (by omega)]
  | 3, _ => rw [va_up_ne _ _ (by decide)]; simp only [ft_S]; rw [ft_ar_out (by omega)]
  | 4, _ => rw [va_up_ne _ _ (by decide)]; simp only [ft_S]; rw [ft_ar_out (by omega)]
  | j + 5, _ =>
    rw [va_up_ne _ _ (by omega)]
    exact ft_T_congr (fun x hx => (va_up_ne _ _ (by omega)).symm) _
theorem ft_S_p6 {ad : Nat → Nat} {k : Nat → ClassId} {r : Nat → Int32} {v : Int32} : (ft_WS ad k r).set 0 (ad 0, .inr (6, [.ref (ad 1), .ref (ad 2), .ref (ad 3), .ref (ad 4), .int (r 0), .int (r 1), .int (r 2), .int (r 3), .int (r 4), .int (r 5), .int v, .int (r 7)])) = ft_WS ad k (va_up r 6 v) := by
  refine ft_set' (fun j hj => ?_)
  match j, hj with
  | 0, _ => rw [va_up_self]; simp [ft_S, va_up]
  | 1, _ => rw [va_up_ne _ _ (by decide)]; rfl
  | 2, _ => rw [va_up_ne _ _ (by decide)]; simp only [ft_S]; rw [ft_ar_out (by omega)]
  | 3, _ => rw [va_up_ne _ _ (by decide)]; simp only [ft_S]; rw [ft_ar_out (by omega)]
  | 4, _ => rw [va_up_ne _ _ (by decide)]; simp only [ft_S]; rw [ft_ar_out (by omega)]
  | j + 5, _ =>
    rw [va_up_ne _ _ (by omega)]
    exact ft_T_congr (fun x hx => (va_up_ne _ _ (by omega)).symm) _
theorem ft_S_p7 {ad : Nat → Nat} {k : Nat → ClassId} {r : Nat → Int32} {v : Int32} : (ft_WS ad k r).set 0 (ad 0, .inr (6, [.ref (ad 1), .ref (ad 2), .ref (ad 3), .ref (ad 4), .int (r 0), .int (r 1), .int (r 2), .int (r 3), .int (r 4), .int (r 5), .int (r 6), .int v])) = ft_WS ad k (va_up r 7 v) := by
  refine ft_set' (fun j hj => ?_)
  match j, hj with
  | 0, _ => rw [va_up_self]; simp [ft_S, va_up]
  | 1, _ => rw [va_up_ne _ _ (by decide)]; rfl
  | 2, _ => rw [va_up_ne _ _ (by decide)]; simp only [ft_S]; rw [ft_ar_out (by omega)]
  | 3, _ => rw [va_up_ne _ _ (by decide)]; simp only [ft_S]; rw [ft_ar_out (by omega)]
  | 4, _ => rw [va_up_ne _ _ (by decide)]; simp only [ft_S]; rw [ft_ar_out (by omega)]
  | j + 5, _ =>
    rw [va_up_ne _ _ (by omega)]
    exact ft_T_congr (fun x hx => (va_up_ne _ _ (by omega)).symm) _
theorem ft_S_ah {ad : Nat → Nat} {k : Nat → ClassId} {r : Nat → Int32} {i : Nat} {v : Int32} (hi : i < 35) : (ft_WS ad k r).set 2 (ad 2, .inl (k 0, 35, .inl (upd (ft_ar r 16 35) i v))) = ft_WS ad k (va_up r (16 + i) v) := by
  refine ft_set' (fun j hj => ?_)
  match j, hj with
  | 0, _ => rw [va_up_ne _ _ (by decide)]; simp only [ft_S, va_up]; simp [show ¬ 0 = 16 + i by omega, show ¬ 1 = 16 + i by omega, show ¬ 2 = 16 + i by omega, show ¬ 3 = 16 + i by omega, show ¬ 4 = 16 + i by omega, show ¬ 5 = 16 + i by omega, show ¬ 6 = 16 + i by omega, show ¬ 7 = 16 + i by omega]
  | 1, _ => rw [va_up_ne _ _ (by decide)]; rfl
  | 2, _ => rw [va_up_self, ft_ar_put hi]; rfl
  | 3, _ => rw [va_up_ne _ _ (by decide)]; simp only [ft_S]; rw [ft_ar_out (by omega)]
  | 4, _ => rw [va_up_ne _ _ (by decide)]; simp only [ft_S]; rw [ft_ar_out (by omega)]
  | j + 5, _ =>
    rw [va_up_ne _ _ (by omega)]
    exact ft_T_congr (fun x hx => (va_up_ne _ _ (by omega)).symm) _
theorem ft_S_aq {ad : Nat → Nat} {k : Nat → ClassId} {r : Nat → Int32} {i : Nat} {v : Int32} (hi : i < 4) : (ft_WS ad k r).set 3 (ad 3, .inl (k 0, 4, .inl (upd (ft_ar r 8 4) i v))) = ft_WS ad k (va_up r (8 + i) v) := by
  refine ft_set' (fun j hj => ?_)
  match j, hj with
  | 0, _ => rw [va_up_ne _ _ (by decide)]; simp only [ft_S, va_up]; simp [show ¬ 0 = 8 + i by omega, show ¬ 1 = 8 + i by omega, show ¬ 2 = 8 + i by omega, show ¬ 3 = 8 + i by omega, show ¬ 4 = 8 + i by omega, show ¬ 5 = 8 + i by omega, show ¬ 6 = 8 + i by omega, show ¬ 7 = 8 + i by omega]
  | 1, _ => rw [va_up_ne _ _ (by decide)]; rfl
  | 2, _ => rw [va_up_ne _ _ (by decide)]; simp only [ft_S]; rw [ft_ar_out (by omega)]
  | 3, _ => rw [va_up_self, ft_ar_put hi]; rfl
  | 4, _ => rw [va_up_ne _ _ (by decide)]; simp only [ft_S]; rw [ft_ar_out (by omega)]
  | j + 5, _ =>
    rw [va_up_ne _ _ (by omega)]
    exact ft_T_congr (fun x hx => (va_up_ne _ _ (by omega)).symm) _
theorem ft_S_as {ad : Nat → Nat} {k : Nat → ClassId} {r : Nat → Int32} {i : Nat} {v : Int32} (hi : i < 4) : (ft_WS ad k r).set 4 (ad 4, .inl (k 0, 4, .inl (upd (ft_ar r 12 4) i v))) = ft_WS ad k (va_up r (12 + i) v) := by
  refine ft_set' (fun j hj => ?_)
  match j, hj with
  | 0, _ => rw [va_up_ne _ _ (by decide)]; simp only [ft_S, va_up]; simp [show ¬ 0 = 12 + i by omega, show ¬ 1 = 12 + i by omega, show ¬ 2 = 12 + i by omega, show ¬ 3 = 12 + i by omega, show ¬ 4 = 12 + i by omega, show ¬ 5 = 12 + i by omega, show ¬ 6 = 12 + i by omega, show ¬ 7 = 12 + i by omega]
  | 1, _ => rw [va_up_ne _ _ (by decide)]; rfl
  | 2, _ => rw [va_up_ne _ _ (by decide)]; simp only [ft_S]; rw [ft_ar_out (by omega)]
  | 3, _ => rw [va_up_ne _ _ (by decide)]; simp only [ft_S]; rw [ft_ar_out (by omega)]
  | 4, _ => rw [va_up_self, ft_ar_put hi]; rfl
  | j + 5, _ =>
    rw [va_up_ne _ _ (by omega)]
    exact ft_T_congr (fun x hx => (va_up_ne _ _ (by omega)).symm) _
theorem ft_S_ch {ad : Nat → Nat} {k : Nat → ClassId} {r r2 : Nat → Int32} : (ft_WS ad k r).set 2 (ad 2, .inl (k 0, 35, .inl (va_cpy (ft_ar r2 16 35) (ft_ar r 16 35) 0 0 35))) = ft_WS ad k (ft_cp r 16 r2 16 35) := by
  refine ft_set' (fun j hj => ?_)
  match j, hj with
  | 0, _ => rw [va_up_ne _ _ (by decide)]; simp only [ft_S]; rw [ft_cp_out (by omega), ft_cp_out (by omega), ft_cp_out (by omega), ft_cp_out (by omega), ft_cp_out (by omega), ft_cp_out (by omega), ft_cp_out (by omega), ft_cp_out (by omega)]
  | 1, _ => rw [va_up_ne _ _ (by decide)]; rfl
  | 2, _ => rw [va_up_self, ft_ar_cp]; rfl
  | 3, _ => rw [va_up_ne _ _ (by decide)]; simp only [ft_S]; rw [ft_ar_cpo (by omega)]
  | 4, _ => rw [va_up_ne _ _ (by decide)]; simp only [ft_S]; rw [ft_ar_cpo (by omega)]
  | j + 5, _ =>
    rw [va_up_ne _ _ (by omega)]
    exact ft_T_congr (fun x hx => (ft_cp_out (by omega)).symm) _
theorem ft_S_cq {ad : Nat → Nat} {k : Nat → ClassId} {r r2 : Nat → Int32} : (ft_WS ad k r).set 3 (ad 3, .inl (k 0, 4, .inl (va_cpy (ft_ar r2 8 4) (ft_ar r 8 4) 0 0 4))) = ft_WS ad k (ft_cp r 8 r2 8 4) := by
  refine ft_set' (fun j hj => ?_)
  match j, hj with
  | 0, _ => rw [va_up_ne _ _ (by decide)]; simp only [ft_S]; rw [ft_cp_out (by omega), ft_cp_out (by omega), ft_cp_out (by omega), ft_cp_out (by omega), ft_cp_out (by omega), ft_cp_out (by omega), ft_cp_out (by omega), ft_cp_out (by omega)]
  | 1, _ => rw [va_up_ne _ _ (by decide)]; rfl
  | 2, _ => rw [va_up_ne _ _ (by decide)]; simp only [ft_S]; rw [ft_ar_cpo (by omega)]
  | 3, _ => rw [va_up_self, ft_ar_cp]; rfl
  | 4, _ => rw [va_up_ne _ _ (by decide)]; simp only [ft_S]; rw [ft_ar_cpo (by omega)]
  | j + 5, _ =>
    rw [va_up_ne _ _ (by omega)]
    exact ft_T_congr (fun x hx => (ft_cp_out (by omega)).symm) _
theorem ft_S_cs {ad : Nat → Nat} {k : Nat → ClassId} {r r2 : Nat → Int32} : (ft_WS ad k r).set 4 (ad 4, .inl (k 0, 4, .inl (va_cpy (ft_ar r2 12 4) (ft_ar r 12 4) 0 0 4))) = ft_WS ad k (ft_cp r 12 r2 12 4) := by
  refine ft_set' (fun j hj => ?_)
  match j, hj with
  | 0, _ => rw [va_up_ne _ _ (by decide)]; simp only [ft_S]; rw [ft_cp_out (by omega), ft_cp_out (by omega), ft_cp_out (by omega), ft_cp_out (by omega), ft_cp_out (by omega), ft_cp_out (by omega), ft_cp_out (by omega), ft_cp_out (by omega)]
  | 1, _ => rw [va_up_ne _ _ (by decide)]; rfl
  | 2, _ => rw [va_up_ne _ _ (by decide)]; simp only [ft_S]; rw [ft_ar_cpo (by omega)]
  | 3, _ => rw [va_up_ne _ _ (by decide)]; simp only [ft_S]; rw [ft_ar_cpo (by omega)]
  | 4, _ => rw [va_up_self, ft_ar_cp]; rfl
  | j + 5, _ =>
    rw [va_up_ne _ _ (by omega)]
    exact ft_T_congr (fun x hx => (ft_cp_out (by omega)).symm) _
