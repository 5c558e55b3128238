/-! what every start of an own method knows besides its world -/
def ft_exc : List String := ["java/lang/IndexOutOfBoundsException", "java/lang/IllegalArgumentException", "java/lang/IllegalStateException", "java/lang/UnsupportedOperationException", "java/util/NoSuchElementException", "java/lang/ArithmeticException"]
def ft_str : List (String × Nat × String) := [(RX7, 304, "no such truck, dish or pitch"), (RX7, 306, "an argument is out of its range"), (RX7, 310, "the truck has no permit for this day of the week"), (RX7, 313, "the pitch is not assigned on this day of the week"), (RX7, 315, "the state does not allow this change"), (RX7, 255, "the script does not have the required form"), (RX7, 275, "a command of the script failed"), (RX7, 337, "there is none"), (RX7, 286, "there is nothing to undo"), (RX7, 296, "there is no snapshot"), (RX7, 239, "the character code is not between 32 and 126"), (RX7, 246, "the script buffer is full"), (RX7, 325, "no such dish"), (RX7, 330, "no such pitch"), (RX7, 335, "weekday is not between 0 and 6"), (RX7, 320, "no such truck"), (RX7, 199, "there are no trucks"), (RX7, 205, "no customer has arrived"), (RX7, 232, "no such index in the output text"), (RX7, 158, "minutes is not between 0 and 60")]
def ft_chain : List String := ["java/lang/RuntimeException", "java/lang/Exception", "java/lang/Throwable"]
/-- words on the tables that are no good words: an exception's class castable to itself, the texts of the throws -/
def ft_M (U : State) : Prop := (∀ E ∈ ft_exc, va_Nw (.castable E E) U) ∧ (∀ q ∈ ft_str, ∃ a, vk_R q.1 q.2.1 q.2.2 a U) ∧ ∀ E ∈ ft_chain, va_Nw (.declares (Bundle.initS E)) U
theorem ft_M.same {u U : State} (h : u.vm = U.vm) (hM : ft_M u) : ft_M U := ⟨fun E hE => va_Nw.same rfl h (hM.1 E hE), fun q hq => by
  obtain ⟨a, ha⟩ := hM.2.1 q hq
  exact ⟨a, vk_R.same h.symm ha⟩, fun E hE => va_Nw.same rfl h (hM.2.2 E hE)⟩
theorem ft_M.warm {s U : State} (hW : s.WarmedH U.vm) (hM : ft_M s) : ft_M U := ⟨fun E hE => va_Nw.warmC hW (hM.1 E hE), fun q hq => by
  obtain ⟨a, ha⟩ := hM.2.1 q hq
  exact ⟨a, vk_R.warm hW ha⟩, fun E hE => va_Nw.warmD hW (hM.2.2 E hE)⟩
abbrev ft_enN : List String := ["TRUCK", "STOCK", "PRICE", "PERMIT", "REVOKE", "ASSIGN", "FREE", "WEATHER", "WAIT"]
abbrev ft_enF : List (String × String × String × List Int32) := [("java/lang/Enum", "ordinal", "I", [0, 1, 2, 3, 4, 5, 6, 7, 8]), ("FoodTruckRota$Command", "argumentTotal", "I", [0, 3, 2, 2, 2, 3, 2, 1, 1]), ("FoodTruckRota$Command", "endsWithNumber", "Z", [0, 1, 1, 0, 0, 0, 0, 0, 1])]

abbrev ft_wln : List Nat := [5, 5, 5, 6, 6, 6, 4, 7, 4]
abbrev ft_wby : List (List Int32) := [[116, 114, 117, 99, 107], [115, 116, 111, 99, 107], [112, 114, 105, 99, 101], [112, 101, 114, 109, 105, 116], [114, 101, 118, 111, 107, 101], [97, 115, 115, 105, 103, 110], [102, 114, 101, 101], [119, 101, 97, 116, 104, 101, 114], [119, 97, 105, 116]]
/-- what lies in the heap outside the worlds and is never written: enum constants (Z 0), their texts (Z 1, bytes Z 2), static rows (Z 3) -/
def ft_H (Z : Nat → Nat → Nat) (A : Nat → Prop) (U : State) (H : Heap) : Prop := (va_En RX1 "LFoodTruckRota$Command;" ft_enN ft_enF (Z 0) A U H) ∧ (va_Ef 9 RX1 "word" "Ljava/lang/String;" (fun i => .ref (Z 1 i)) (Z 0) A U H) ∧ (vk_S 9 ft_wln ft_wby (Z 1) (Z 2) A U H) ∧ (va_Z RX1 "ALL" "[LFoodTruckRota$Command;" (.ref (Z 3 0)) A U H) ∧ (va_T (.object RX1) (Z 3 0) 9 (fun j => .ref (Z 0 j)) A U H) ∧ (va_Z RX0 "$SwitchMap$FoodTruckRota$Command" "[I" (.ref (Z 3 1)) A U H) ∧ (va_T .int (Z 3 1) 9 (fun j => .int (if j < 8 then nI (j + 1) else 0)) A U H) ∧ (va_Z "java/lang/String" "COMPACT_STRINGS" "Z" (.int 1) A U H) ∧ (vx_Zq Bundle.tN "UNASSIGNED_STACK" Bundle.steD A U H) ∧ (vx_Zq Bundle.tN "SUPPRESSED_SENTINEL" Bundle.listD A U H) ∧ (va_Z "java/lang/Integer" "DigitOnes" "[B" (.ref (Z 3 2)) A U H) ∧ (va_T .byte (Z 3 2) 100 (fun j => .int (nI (48 + j % 10))) A U H) ∧ (va_Z "java/lang/Integer" "DigitTens" "[B" (.ref (Z 3 3)) A U H) ∧ (va_T .byte (Z 3 3) 100 (fun j => .int (nI (48 + j / 10))) A U H) ∧ (va_Zq "jdk/internal/util/Preconditions" "SIOOBE_FORMATTER" "Ljava/util/function/BiFunction;" A U H)
theorem ft_H.moved {Z : Nat → Nat → Nat} {A : Nat → Prop} {u U : State} {H : Heap} (hv : u.vm.Alike U.vm) (h : ft_H Z A u H) : ft_H Z A U H := by
  obtain ⟨h0, h1, h2, h3, h4, h5, h6, h7, h8, h9, h10, h11, h12, h13, h14⟩ := h
  exact ⟨va_En.moved hv h0, fun i hi => va_OF.moved hv (h1 i hi), vk_S.moved hv h2, va_Z.moved hv h3, va_T.moved hv h4, va_Z.moved hv h5, va_T.moved hv h6, va_Z.moved hv h7, vx_Zq.moved hv h8, vx_Zq.moved hv h9, va_Z.moved hv h10, va_T.moved hv h11, va_Z.moved hv h12, va_T.moved hv h13, va_Zq.moved hv h14⟩
theorem ft_H.kept {Z : Nat → Nat → Nat} {A : Nat → Prop} {U : State} {H H1 : Heap} (h : ft_H Z A U H) (hq : ∀ a : Nat, a < H.size → ¬ A a → H1[a]? = H[a]?) : ft_H Z A U H1 := by
  obtain ⟨h0, h1, h2, h3, h4, h5, h6, h7, h8, h9, h10, h11, h12, h13, h14⟩ := h
  exact ⟨h0.kept hq, fun i hi => (h1 i hi).kept hq, h2.kept hq, h3.kept hq, h4.kept hq, h5.kept hq, h6.kept hq, h7.kept hq, h8.kept hq, h9.kept hq, h10.kept hq, h11.kept hq, h12.kept hq, h13.kept hq, h14.kept hq⟩
theorem ft_H.narrow {Z : Nat → Nat → Nat} {A B : Nat → Prop} {U : State} {H : Heap} (h : ft_H Z A U H) (hAB : ∀ q, B q → A q) : ft_H Z B U H := by
  obtain ⟨h0, h1, h2, h3, h4, h5, h6, h7, h8, h9, h10, h11, h12, h13, h14⟩ := h
  exact ⟨h0.narrow hAB, fun i hi => (h1 i hi).narrow hAB, h2.narrow hAB, h3.narrow hAB, h4.narrow hAB, h5.narrow hAB, h6.narrow hAB, h7.narrow hAB, h8.narrow hAB, h9.narrow hAB, h10.narrow hAB, h11.narrow hAB, h12.narrow hAB, h13.narrow hAB, h14.narrow hAB⟩
theorem ft_H.en {Z : Nat → Nat → Nat} {A : Nat → Prop} {U : State} {H : Heap} (h : ft_H Z A U H) : va_En RX1 "LFoodTruckRota$Command;" ft_enN ft_enF (Z 0) A U H := h.1
theorem ft_H.wd {Z : Nat → Nat → Nat} {A : Nat → Prop} {U : State} {H : Heap} (h : ft_H Z A U H) : va_Ef 9 RX1 "word" "Ljava/lang/String;" (fun i => .ref (Z 1 i)) (Z 0) A U H := h.2.1
theorem ft_H.st {Z : Nat → Nat → Nat} {A : Nat → Prop} {U : State} {H : Heap} (h : ft_H Z A U H) : vk_S 9 ft_wln ft_wby (Z 1) (Z 2) A U H := h.2.2.1
theorem ft_H.al {Z : Nat → Nat → Nat} {A : Nat → Prop} {U : State} {H : Heap} (h : ft_H Z A U H) : va_Z RX1 "ALL" "[LFoodTruckRota$Command;" (.ref (Z 3 0)) A U H := h.2.2.2.1
theorem ft_H.at {Z : Nat → Nat → Nat} {A : Nat → Prop} {U : State} {H : Heap} (h : ft_H Z A U H) : va_T (.object RX1) (Z 3 0) 9 (fun j => .ref (Z 0 j)) A U H := h.2.2.2.2.1
theorem ft_H.sw {Z : Nat → Nat → Nat} {A : Nat → Prop} {U : State} {H : Heap} (h : ft_H Z A U H) : va_Z RX0 "$SwitchMap$FoodTruckRota$Command" "[I" (.ref (Z 3 1)) A U H := h.2.2.2.2.2.1
theorem ft_H.swt {Z : Nat → Nat → Nat} {A : Nat → Prop} {U : State} {H : Heap} (h : ft_H Z A U H) : va_T .int (Z 3 1) 9 (fun j => .int (if j < 8 then nI (j + 1) else 0)) A U H := h.2.2.2.2.2.2.1
theorem ft_H.cs {Z : Nat → Nat → Nat} {A : Nat → Prop} {U : State} {H : Heap} (h : ft_H Z A U H) : va_Z "java/lang/String" "COMPACT_STRINGS" "Z" (.int 1) A U H := h.2.2.2.2.2.2.2.1
theorem ft_H.us {Z : Nat → Nat → Nat} {A : Nat → Prop} {U : State} {H : Heap} (h : ft_H Z A U H) : vx_Zq Bundle.tN "UNASSIGNED_STACK" Bundle.steD A U H := h.2.2.2.2.2.2.2.2.1
theorem ft_H.ss {Z : Nat → Nat → Nat} {A : Nat → Prop} {U : State} {H : Heap} (h : ft_H Z A U H) : vx_Zq Bundle.tN "SUPPRESSED_SENTINEL" Bundle.listD A U H := h.2.2.2.2.2.2.2.2.2.1
theorem ft_H.d1 {Z : Nat → Nat → Nat} {A : Nat → Prop} {U : State} {H : Heap} (h : ft_H Z A U H) : va_Z "java/lang/Integer" "DigitOnes" "[B" (.ref (Z 3 2)) A U H := h.2.2.2.2.2.2.2.2.2.2.1
theorem ft_H.d1t {Z : Nat → Nat → Nat} {A : Nat → Prop} {U : State} {H : Heap} (h : ft_H Z A U H) : va_T .byte (Z 3 2) 100 (fun j => .int (nI (48 + j % 10))) A U H := h.2.2.2.2.2.2.2.2.2.2.2.1
theorem ft_H.d2 {Z : Nat → Nat → Nat} {A : Nat → Prop} {U : State} {H : Heap} (h : ft_H Z A U H) : va_Z "java/lang/Integer" "DigitTens" "[B" (.ref (Z 3 3)) A U H := h.2.2.2.2.2.2.2.2.2.2.2.2.1
theorem ft_H.d2t {Z : Nat → Nat → Nat} {A : Nat → Prop} {U : State} {H : Heap} (h : ft_H Z A U H) : va_T .byte (Z 3 3) 100 (fun j => .int (nI (48 + j / 10))) A U H := h.2.2.2.2.2.2.2.2.2.2.2.2.2.1
theorem ft_H.sf {Z : Nat → Nat → Nat} {A : Nat → Prop} {U : State} {H : Heap} (h : ft_H Z A U H) : va_Zq "jdk/internal/util/Preconditions" "SIOOBE_FORMATTER" "Ljava/util/function/BiFunction;" A U H := h.2.2.2.2.2.2.2.2.2.2.2.2.2.2
/-- the whole: the tables, and the heap outside A -/
def ft_E (D : va_G) (k : Nat → ClassId) (Z : Nat → Nat → Nat) (A : Nat → Prop) (U : State) : Prop := ft_K D k U ∧ ft_M U ∧ ft_H Z A U U.heap
theorem ft_E.same {D : va_G} {k : Nat → ClassId} {Z : Nat → Nat → Nat} {A : Nat → Prop} {u U : State} (h : u.vm = U.vm) (hh : u.heap = U.heap) (hE : ft_E D k Z A u) : ft_E D k Z A U := ⟨hE.1.same h, hE.2.1.same h, by rw [← hh]; exact ft_H.moved (by rw [h]; exact Vm.Alike.refl U.vm) hE.2.2⟩
theorem ft_E.go {D : va_G} {k : Nat → ClassId} {Z : Nat → Nat → Nat} {A B : Nat → Prop} {s U : State} {H : Heap} {locs : List Loc} (hE : ft_E D k Z A s) (hS : va_S A s.heap H locs) (hAB : ∀ q, B q → A q) (hU : U.heap = H) (hW : s.WarmedH U.vm) : ft_E D k Z B U := by
  refine ⟨hE.1.warm hW, hE.2.1.warm hW, ?_⟩
  rw [hU]
  exact ((ft_H.moved hW.alike hE.2.2).kept hS.2.1).narrow hAB
/-- starts of methods that want it: looking, writing -/
def ft_Pe (D : va_G) (k : Nat → ClassId) (Z : Nat → Nat → Nat) (A : Nat → Prop) (av : List Value) (ws : va_W) : Array Value → State → Prop := va_Pc av (fun U => va_P D vwCl ws U.heap ∧ ft_E D k Z A U)
def ft_Pf (D : va_G) (k : Nat → ClassId) (Z : Nat → Nat → Nat) (A : Nat → Prop) (av : List Value) (ws : va_W) : Array Value → State → Prop := va_Pc av (fun U => va_P D vwCl ws U.heap ∧ ft_E D k Z A U ∧ va_D (fun _ => True) ws)
theorem ft_Pe.blind {D : va_G} {k : Nat → ClassId} {Z : Nat → Nat → Nat} {A : Nat → Prop} {av : List Value} {ws : va_W} : FrameBlind (ft_Pe D k Z A av ws) := fun _ U _ _ q => ⟨q.1, q.2.1, q.2.2.same (u := U) rfl rfl⟩
theorem ft_Pf.blind {D : va_G} {k : Nat → ClassId} {Z : Nat → Nat → Nat} {A : Nat → Prop} {av : List Value} {ws : va_W} : FrameBlind (ft_Pf D k Z A av ws) := fun _ U _ _ q => ⟨q.1, q.2.1, q.2.2.1.same (u := U) rfl rfl, q.2.2.2⟩
theorem ft_preVe {D : va_G} {k : Nat → ClassId} {Z : Nat → Nat → Nat} {A B : Nat → Prop} {s : State} {H : Heap} {locs : List Loc} {C : String} {T : u_T} {N b ci : Nat} {As : List Value} {ws : va_W} {fs : List Value} (hE : ft_E D k Z A s) (hS : va_S A s.heap H locs) (hAB : ∀ q, B q → A q) (hP : va_P D vwCl ws H) (hc : vwCl[ci]? = some (C, T, N)) (h0 : ws[0]? = some (b, .inr (ci, fs))) : PreV s H C b (ft_Pe D k Z B (.ref b :: As) ws) As :=
  ⟨ft_Pe.blind, va_recv hE.1.1 hP hc h0, fun U hU hW => ⟨rfl, by rw [hU]; exact hP, hE.go hS hAB hU hW⟩⟩
theorem ft_preVf {D : va_G} {k : Nat → ClassId} {Z : Nat → Nat → Nat} {A B A' : Nat → Prop} {s : State} {H : Heap} {locs : List Loc} {C : String} {T : u_T} {N b ci : Nat} {As : List Value} {ws : va_W} {fs : List Value} (hE : ft_E D k Z A s) (hS : va_S A s.heap H locs) (hAB : ∀ q, B q → A q) (hP : va_P D vwCl ws H) (hD : va_D A' ws) (hc : vwCl[ci]? = some (C, T, N)) (h0 : ws[0]? = some (b, .inr (ci, fs))) : PreV s H C b (ft_Pf D k Z B (.ref b :: As) ws) As :=
  ⟨ft_Pf.blind, va_recv hE.1.1 hP hc h0, fun U hU hW => ⟨rfl, by rw [hU]; exact hP, hE.go hS hAB hU hW, hD.weaken (fun _ _ _ _ => trivial)⟩⟩

