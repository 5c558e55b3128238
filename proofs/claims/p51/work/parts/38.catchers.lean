theorem ft_xb_e {α β : Type} {r : Except String α} {f : α → Except String β} {E : String} (h : ft_xb r f = .error E) : r = .error E ∨ ∃ a, r = .ok a ∧ f a = .error E := by
  cases r with
  | ok a => exact Or.inr ⟨a, rfl, h⟩
  | error e => exact Or.inl (by rw [Except.error.inj (show (Except.error e : Except String β) = .error E from h)])

def w_addTruck (σ : ft_Sg)  : Int32 × ft_Sg := match (l_addTruck σ).1 with
  | .ok z => (z, (l_addTruck σ).2)
  | .error _ => ((-100000000), (l_addTruck σ).2)
set_option maxHeartbeats 4000000 in
set_option maxRecDepth 100000 in
theorem d_L_addTruck (l : Launch) (hl0 : l.stackTraces = false) (D : va_G) (Z : Nat → Nat → Nat) (k : Nat → ClassId) (sz : ft_SZ) (a : Nat) (σ : ft_Sg) (hpm : ∀ i, i < 8 → σ.2.1 i < 8) (hEx : ∀ E, (l_addTruck σ).1 = .error E → E ∈ ["java/lang/IllegalStateException"]) : Met l yL_addTruck wsL_addTruck ({ frames := 9, cells := 1, slots := 6, locals := 209 }) (ft_PM D k Z sz a σ [.ref a]) (ft_QLw D k Z sz a (w_addTruck σ)) 1 6 (ft_AL sz) := by
  refine va_MetW (cc := cL_addTruck) (maxL := 3) (ret := (some .int)) (hh := [(3, 8, 11, 17)]) (by decide) rfl ?_
  intro p e s m args below meth c s₁ B hml hv
  obtain ⟨hargs, hP, hEL, hz⟩ := hv
  have hE := hEL.1
  subst hargs
  have hx := B.exec
  have hb := B.bytes
  have hr := B.returns
  have hts := atoms_spec (ws := wsL_addTruck) B.pre
  have hown : s.vm.findClass RL = some m.cls := findClass_of_methodNamed B.named
  have hlocks := B.notSynchronized
  have htab : c.exceptionTable.toList = tableOf [(3, 8, 11, 17)] := vx_table (x := yL_addTruck) B (hts _ List.mem_cons_self)
  have hS : va_S (ft_AL sz) s.heap s.heap [] := va_S.rf
  have hl := lv_entry ([.ref a]) (n := 3) (Nat.le_of_ble_eq_true rfl)
  rw [lg_entry_eq]
  generalize (lg_sl ([.ref a]) ++ List.replicate (3 - (lg_sl ([.ref a])).length) Slot.unset).toArray = ls at hl ⊢
  have hl : lv_has ls 3 [(0, .ref a)] := hl
  refine lv_ldc hx hb hown (hts (.constant RL 10 (-100000000)) (by decide +kernel)) dL_addTruck_0 ?_
  refine lv_istore_n (lv' := [(1, .int (-100000000)), (0, .ref a)]) hx hb dL_addTruck_2 rfl hl (by decide) rfl (fun ls hl => ?_)
  refine lv_aload_n hx hb dL_addTruck_3 rfl (lv_at hl 1 rfl) ?_
  refine vx_calli (vx_runV (As := []) (rest := []) ⟨hx, hb, hml, hown, hts⟩ (cl_addTruck l hl0 D Z k sz a σ  hpm) (cwV 0 hts gL_addTruck_X7_addTruck rfl rfl rfl (by decide +kernel) ⟨Nat.le_of_ble_eq_true rfl, Nat.le_of_ble_eq_true rfl⟩) (ft_preL hE hz hS hP) rfl rfl hl.1 rfl (lv_room (Nat.le_of_ble_eq_true rfl)) dL_addTruck_4 ⟨Nat.le_of_ble_eq_true rfl, Nat.le_of_ble_eq_true rfl⟩) hS (fun _ _ h => h) (fun _ h => h) (fun _ _ h => h) (fun E ce q9 u t H1 locs1 ht hvm hu hB hz1 hk1 hS1 hc1 hc2 hc3 => ?_) (fun z u t H1 locs1 ht hvm hw hB hz1 hk1 hS1 => ?_)
  · obtain ⟨hB1, hB2⟩ := hB
    rw [ht] at hB2
    have hm9 := hEx E (congrArg Prod.fst hB1).symm
    rcases List.mem_cons.mp hm9 with rfl | hm9
    · refine vx_catch hown (tableOf []) ⟨3, 8, 11, 17⟩ (tableOf []) (htab.trans rfl) (fun y9 hy9 => ?_) rfl (by decide) (va_Nw.use rfl (hEL.2.2.2.2 (17, "java/lang/IllegalStateException") (by decide +kernel))) (va_Nw.use rfl (hE.2.1.1 "java/lang/IllegalStateException" (by decide +kernel))) hc1 hc2 hc3 ?_
      · have hy9 : y9 ∈ ([] : List ExceptionTableEntry) := hy9
        exact absurd hy9 List.not_mem_nil
      refine W.eq (g2 := F0 m 11 ls [.ref q9]) rfl ?_
      refine lv_astore_n (lv' := [(2, .ref q9), (1, .int (-100000000)), (0, .ref a)]) hx hb dL_addTruck_11 rfl hl (by decide) rfl (fun ls hl => ?_)
      refine lv_ldc hx hb hown (hts (.constant RL 10 (-100000000)) (by decide +kernel)) dL_addTruck_12 ?_
      exact W.iret (v := (-100000000)) hx hb hr (fun t2 ht2 hW => ⟨⟨(-100000000), u, rfl, (show ((-100000000), u) = w_addTruck σ  from (show w_addTruck σ  = ((-100000000), u) by unfold w_addTruck; rw [← hB1]).symm), by show ft_LW D k Z sz a _ t2.heap; rw [ht2]; exact hB2⟩, hS1.F ht2⟩) hS1.2.2 dL_addTruck_14
    exact absurd hm9 List.not_mem_nil
  rw [ht] at hB
  refine lv_istore_n (lv' := [(1, .int z), (0, .ref a)]) hx hb dL_addTruck_7 rfl hl (by decide) rfl (fun ls hl => ?_)
  refine lv_goto (tgt := 15) hx hb dL_addTruck_8 (by decide) ?_
  refine lv_iload_n hx hb dL_addTruck_15 rfl (lv_at hl 0 rfl) ?_
  exact W.iret (v := z) hx hb hr (fun t2 ht2 hW => ⟨⟨z, u, rfl, (show (z, u) = w_addTruck σ  by unfold w_addTruck; rw [← hw]), by show ft_LW D k Z sz a _ t2.heap; rw [ht2]; exact hB⟩, hS1.F ht2⟩) hS1.2.2 dL_addTruck_16
def w_addStock (σ : ft_Sg) (x1 : Int32) (x2 : Int32) (x3 : Int32) : Int32 × ft_Sg := match (l_addStock σ x1 x2 x3).1 with
  | .ok z => (z, (l_addStock σ x1 x2 x3).2)
  | .error _ => ((-100000000), (l_addStock σ x1 x2 x3).2)
set_option maxHeartbeats 4000000 in
set_option maxRecDepth 100000 in
theorem d_L_addStock (l : Launch) (hl0 : l.stackTraces = false) (D : va_G) (Z : Nat → Nat → Nat) (k : Nat → ClassId) (sz : ft_SZ) (a : Nat) (σ : ft_Sg) (x1 : Int32) (x2 : Int32) (x3 : Int32) (hpm : ∀ i, i < 8 → σ.2.1 i < 8) (hEx : ∀ E, (l_addStock σ x1 x2 x3).1 = .error E → E ∈ ["java/lang/IndexOutOfBoundsException", "java/lang/IllegalArgumentException", "java/lang/IllegalStateException"]) : Met l yL_addStock wsL_addStock ({ frames := 9, cells := 1, slots := 6, locals := 212 }) (ft_PM D k Z sz a σ [.ref a, .int x1, .int x2, .int x3]) (ft_QLw D k Z sz a (w_addStock σ x1 x2 x3)) 1 6 (ft_AL sz) := by
  refine va_MetW (cc := cL_addStock) (maxL := 6) (ret := (some .int)) (hh := [(4, 13, 16, 23), (4, 13, 21, 25), (4, 13, 26, 17)]) (by decide) rfl ?_
  intro p e s m args below meth c s₁ B hml hv
  obtain ⟨hargs, hP, hEL, hz⟩ := hv
  have hE := hEL.1
  subst hargs
  have hx := B.exec
  have hb := B.bytes
  have hr := B.returns
  have hts := atoms_spec (ws := wsL_addStock) B.pre
  have hown : s.vm.findClass RL = some m.cls := findClass_of_methodNamed B.named
  have hlocks := B.notSynchronized
  have htab : c.exceptionTable.toList = tableOf [(4, 13, 16, 23), (4, 13, 21, 25), (4, 13, 26, 17)] := vx_table (x := yL_addStock) B (hts _ List.mem_cons_self)
  have hS : va_S (ft_AL sz) s.heap s.heap [] := va_S.rf
  have hl := lv_entry ([.ref a, .int x1, .int x2, .int x3]) (n := 6) (Nat.le_of_ble_eq_true rfl)
  rw [lg_entry_eq]
  generalize (lg_sl ([.ref a, .int x1, .int x2, .int x3]) ++ List.replicate (6 - (lg_sl ([.ref a, .int x1, .int x2, .int x3])).length) Slot.unset).toArray = ls at hl ⊢
  have hl : lv_has ls 6 [(0, .ref a), (1, .int x1), (2, .int x2), (3, .int x3)] := hl
  refine lv_ldc hx hb hown (hts (.constant RL 10 (-100000000)) (by decide +kernel)) dL_addStock_0 ?_
  refine lv_istore (lv' := [(4, .int (-100000000)), (0, .ref a), (1, .int x1), (2, .int x2), (3, .int x3)]) hx hb dL_addStock_2 hl (by decide) rfl (fun ls hl => ?_)
  refine lv_aload_n hx hb dL_addStock_4 rfl (lv_at hl 1 rfl) ?_
  refine lv_iload_n hx hb dL_addStock_5 rfl (lv_at hl 2 rfl) ?_
  refine lv_iload_n hx hb dL_addStock_6 rfl (lv_at hl 3 rfl) ?_
  refine lv_iload_n hx hb dL_addStock_7 rfl (lv_at hl 4 rfl) ?_
  refine vx_calli (vx_runV (As := [.int x1, .int x2, .int x3]) (rest := []) ⟨hx, hb, hml, hown, hts⟩ (cl_addStock l hl0 D Z k sz a σ x1 x2 x3 hpm) (cwV 3 hts gL_addStock_X7_addStock rfl rfl rfl (by decide +kernel) ⟨Nat.le_of_ble_eq_true rfl, Nat.le_of_ble_eq_true rfl⟩) (ft_preL hE hz hS hP) rfl rfl hl.1 rfl (lv_room (Nat.le_of_ble_eq_true rfl)) dL_addStock_8 ⟨Nat.le_of_ble_eq_true rfl, Nat.le_of_ble_eq_true rfl⟩) hS (fun _ _ h => h) (fun _ h => h) (fun _ _ h => h) (fun E ce q9 u t H1 locs1 ht hvm hu hB hz1 hk1 hS1 hc1 hc2 hc3 => ?_) (fun z u t H1 locs1 ht hvm hw hB hz1 hk1 hS1 => ?_)
  · obtain ⟨hB1, hB2⟩ := hB
    rw [ht] at hB2
    have hm9 := hEx E (congrArg Prod.fst hB1).symm
    rcases List.mem_cons.mp hm9 with rfl | hm9
    · refine vx_catch hown (tableOf []) ⟨4, 13, 16, 23⟩ (tableOf [(4, 13, 21, 25), (4, 13, 26, 17)]) (htab.trans rfl) (fun y9 hy9 => ?_) rfl (by decide) (va_Nw.use rfl (hEL.2.2.2.2 (23, "java/lang/IndexOutOfBoundsException") (by decide +kernel))) (va_Nw.use rfl (hE.2.1.1 "java/lang/IndexOutOfBoundsException" (by decide +kernel))) hc1 hc2 hc3 ?_
      · have hy9 : y9 ∈ ([] : List ExceptionTableEntry) := hy9
        exact absurd hy9 List.not_mem_nil
      refine W.eq (g2 := F0 m 16 ls [.ref q9]) rfl ?_
      refine lv_astore (lv' := [(5, .ref q9), (4, .int (-100000000)), (0, .ref a), (1, .int x1), (2, .int x2), (3, .int x3)]) hx hb dL_addStock_16 hl (by decide) rfl (fun ls hl => ?_)
      refine lv_ldc hx hb hown (hts (.constant RL 10 (-100000000)) (by decide +kernel)) dL_addStock_18 ?_
      exact W.iret (v := (-100000000)) hx hb hr (fun t2 ht2 hW => ⟨⟨(-100000000), u, rfl, (show ((-100000000), u) = w_addStock σ x1 x2 x3 from (show w_addStock σ x1 x2 x3 = ((-100000000), u) by unfold w_addStock; rw [← hB1]).symm), by show ft_LW D k Z sz a _ t2.heap; rw [ht2]; exact hB2⟩, hS1.F ht2⟩) hS1.2.2 dL_addStock_20
    rcases List.mem_cons.mp hm9 with rfl | hm9
    · refine vx_catch hown (tableOf [(4, 13, 16, 23)]) ⟨4, 13, 21, 25⟩ (tableOf [(4, 13, 26, 17)]) (htab.trans rfl) (fun y9 hy9 => ?_) rfl (by decide) (va_Nw.use rfl (hEL.2.2.2.2 (25, "java/lang/IllegalArgumentException") (by decide +kernel))) (va_Nw.use rfl (hE.2.1.1 "java/lang/IllegalArgumentException" (by decide +kernel))) hc1 hc2 hc3 ?_
      · have hy9 : y9 ∈ ([⟨4, 13, 16, 23⟩] : List ExceptionTableEntry) := hy9
        rcases List.mem_cons.mp hy9 with rfl | hy9
        · exact Or.inr ⟨by decide, _, va_Nw.use rfl (hEL.2.2.2.2 (23, "java/lang/IndexOutOfBoundsException") (by decide +kernel)), hEL.2.1 _ (by decide +kernel) _ (by decide +kernel) (by decide)⟩
        exact absurd hy9 List.not_mem_nil
      refine W.eq (g2 := F0 m 21 ls [.ref q9]) rfl ?_
      refine lv_astore (lv' := [(5, .ref q9), (4, .int (-100000000)), (0, .ref a), (1, .int x1), (2, .int x2), (3, .int x3)]) hx hb dL_addStock_21 hl (by decide) rfl (fun ls hl => ?_)
      refine lv_ldc hx hb hown (hts (.constant RL 10 (-100000000)) (by decide +kernel)) dL_addStock_23 ?_
      exact W.iret (v := (-100000000)) hx hb hr (fun t2 ht2 hW => ⟨⟨(-100000000), u, rfl, (show ((-100000000), u) = w_addStock σ x1 x2 x3 from (show w_addStock σ x1 x2 x3 = ((-100000000), u) by unfold w_addStock; rw [← hB1]).symm), by show ft_LW D k Z sz a _ t2.heap; rw [ht2]; exact hB2⟩, hS1.F ht2⟩) hS1.2.2 dL_addStock_25
    rcases List.mem_cons.mp hm9 with rfl | hm9
    · refine vx_catch hown (tableOf [(4, 13, 16, 23), (4, 13, 21, 25)]) ⟨4, 13, 26, 17⟩ (tableOf []) (htab.trans rfl) (fun y9 hy9 => ?_) rfl (by decide) (va_Nw.use rfl (hEL.2.2.2.2 (17, "java/lang/IllegalStateException") (by decide +kernel))) (va_Nw.use rfl (hE.2.1.1 "java/lang/IllegalStateException" (by decide +kernel))) hc1 hc2 hc3 ?_
      · have hy9 : y9 ∈ ([⟨4, 13, 16, 23⟩, ⟨4, 13, 21, 25⟩] : List ExceptionTableEntry) := hy9
        rcases List.mem_cons.mp hy9 with rfl | hy9
        · exact Or.inr ⟨by decide, _, va_Nw.use rfl (hEL.2.2.2.2 (23, "java/lang/IndexOutOfBoundsException") (by decide +kernel)), hEL.2.1 _ (by decide +kernel) _ (by decide +kernel) (by decide)⟩
        rcases List.mem_cons.mp hy9 with rfl | hy9
        · exact Or.inr ⟨by decide, _, va_Nw.use rfl (hEL.2.2.2.2 (25, "java/lang/IllegalArgumentException") (by decide +kernel)), hEL.2.1 _ (by decide +kernel) _ (by decide +kernel) (by decide)⟩
        exact absurd hy9 List.not_mem_nil
      refine W.eq (g2 := F0 m 26 ls [.ref q9]) rfl ?_
      refine lv_astore (lv' := [(5, .ref q9), (4, .int (-100000000)), (0, .ref a), (1, .int x1), (2, .int x2), (3, .int x3)]) hx hb dL_addStock_26 hl (by decide) rfl (fun ls hl => ?_)
      refine lv_ldc hx hb hown (hts (.constant RL 10 (-100000000)) (by decide +kernel)) dL_addStock_28 ?_
      exact W.iret (v := (-100000000)) hx hb hr (fun t2 ht2 hW => ⟨⟨(-100000000), u, rfl, (show ((-100000000), u) = w_addStock σ x1 x2 x3 from (show w_addStock σ x1 x2 x3 = ((-100000000), u) by unfold w_addStock; rw [← hB1]).symm), by show ft_LW D k Z sz a _ t2.heap; rw [ht2]; exact hB2⟩, hS1.F ht2⟩) hS1.2.2 dL_addStock_30
    exact absurd hm9 List.not_mem_nil
  rw [ht] at hB
  refine lv_istore (lv' := [(4, .int z), (0, .ref a), (1, .int x1), (2, .int x2), (3, .int x3)]) hx hb dL_addStock_11 hl (by decide) rfl (fun ls hl => ?_)
  refine lv_goto (tgt := 31) hx hb dL_addStock_13 (by decide) ?_
  refine lv_iload hx hb dL_addStock_31 (lv_at hl 0 rfl) ?_
  exact W.iret (v := z) hx hb hr (fun t2 ht2 hW => ⟨⟨z, u, rfl, (show (z, u) = w_addStock σ x1 x2 x3 by unfold w_addStock; rw [← hw]), by show ft_LW D k Z sz a _ t2.heap; rw [ht2]; exact hB⟩, hS1.F ht2⟩) hS1.2.2 dL_addStock_33
def w_setPrice (σ : ft_Sg) (x1 : Int32) (x2 : Int32) : Int32 × ft_Sg := match (l_setPrice σ x1 x2).1 with
  | .ok z => (z, (l_setPrice σ x1 x2).2)
  | .error _ => ((-100000000), (l_setPrice σ x1 x2).2)
set_option maxHeartbeats 4000000 in
set_option maxRecDepth 100000 in
theorem d_L_setPrice (l : Launch) (hl0 : l.stackTraces = false) (D : va_G) (Z : Nat → Nat → Nat) (k : Nat → ClassId) (sz : ft_SZ) (a : Nat) (σ : ft_Sg) (x1 : Int32) (x2 : Int32) (hpm : ∀ i, i < 8 → σ.2.1 i < 8) (hEx : ∀ E, (l_setPrice σ x1 x2).1 = .error E → E ∈ ["java/lang/IndexOutOfBoundsException", "java/lang/IllegalArgumentException"]) : Met l yL_setPrice wsL_setPrice ({ frames := 9, cells := 1, slots := 6, locals := 211 }) (ft_PM D k Z sz a σ [.ref a, .int x1, .int x2]) (ft_QLw D k Z sz a (w_setPrice σ x1 x2)) 1 6 (ft_AL sz) := by
  refine va_MetW (cc := cL_setPrice) (maxL := 5) (ret := (some .int)) (hh := [(3, 10, 13, 23), (3, 10, 18, 25)]) (by decide) rfl ?_
  intro p e s m args below meth c s₁ B hml hv
  obtain ⟨hargs, hP, hEL, hz⟩ := hv
  have hE := hEL.1
  subst hargs
  have hx := B.exec
  have hb := B.bytes
  have hr := B.returns
  have hts := atoms_spec (ws := wsL_setPrice) B.pre
  have hown : s.vm.findClass RL = some m.cls := findClass_of_methodNamed B.named
  have hlocks := B.notSynchronized
  have htab : c.exceptionTable.toList = tableOf [(3, 10, 13, 23), (3, 10, 18, 25)] := vx_table (x := yL_setPrice) B (hts _ List.mem_cons_self)
  have hS : va_S (ft_AL sz) s.heap s.heap [] := va_S.rf
  have hl := lv_entry ([.ref a, .int x1, .int x2]) (n := 5) (Nat.le_of_ble_eq_true rfl)
  rw [lg_entry_eq]
  generalize (lg_sl ([.ref a, .int x1, .int x2]) ++ List.replicate (5 - (lg_sl ([.ref a, .int x1, .int x2])).length) Slot.unset).toArray = ls at hl ⊢
  have hl : lv_has ls 5 [(0, .ref a), (1, .int x1), (2, .int x2)] := hl
  refine lv_ldc hx hb hown (hts (.constant RL 10 (-100000000)) (by decide +kernel)) dL_setPrice_0 ?_
  refine lv_istore_n (lv' := [(3, .int (-100000000)), (0, .ref a), (1, .int x1), (2, .int x2)]) hx hb dL_setPrice_2 rfl hl (by decide) rfl (fun ls hl => ?_)
  refine lv_aload_n hx hb dL_setPrice_3 rfl (lv_at hl 1 rfl) ?_
  refine lv_iload_n hx hb dL_setPrice_4 rfl (lv_at hl 2 rfl) ?_
  refine lv_iload_n hx hb dL_setPrice_5 rfl (lv_at hl 3 rfl) ?_
  refine vx_calli (vx_runV (As := [.int x1, .int x2]) (rest := []) ⟨hx, hb, hml, hown, hts⟩ (cl_setPrice l hl0 D Z k sz a σ x1 x2 hpm) (cwV 2 hts gL_setPrice_X7_setPrice rfl rfl rfl (by decide +kernel) ⟨Nat.le_of_ble_eq_true rfl, Nat.le_of_ble_eq_true rfl⟩) (ft_preL hE hz hS hP) rfl rfl hl.1 rfl (lv_room (Nat.le_of_ble_eq_true rfl)) dL_setPrice_6 ⟨Nat.le_of_ble_eq_true rfl, Nat.le_of_ble_eq_true rfl⟩) hS (fun _ _ h => h) (fun _ h => h) (fun _ _ h => h) (fun E ce q9 u t H1 locs1 ht hvm hu hB hz1 hk1 hS1 hc1 hc2 hc3 => ?_) (fun z u t H1 locs1 ht hvm hw hB hz1 hk1 hS1 => ?_)
  · obtain ⟨hB1, hB2⟩ := hB
    rw [ht] at hB2
    have hm9 := hEx E (congrArg Prod.fst hB1).symm
    rcases List.mem_cons.mp hm9 with rfl | hm9
    · refine vx_catch hown (tableOf []) ⟨3, 10, 13, 23⟩ (tableOf [(3, 10, 18, 25)]) (htab.trans rfl) (fun y9 hy9 => ?_) rfl (by decide) (va_Nw.use rfl (hEL.2.2.2.2 (23, "java/lang/IndexOutOfBoundsException") (by decide +kernel))) (va_Nw.use rfl (hE.2.1.1 "java/lang/IndexOutOfBoundsException" (by decide +kernel))) hc1 hc2 hc3 ?_
      · have hy9 : y9 ∈ ([] : List ExceptionTableEntry) := hy9
        exact absurd hy9 List.not_mem_nil
      refine W.eq (g2 := F0 m 13 ls [.ref q9]) rfl ?_
      refine lv_astore (lv' := [(4, .ref q9), (3, .int (-100000000)), (0, .ref a), (1, .int x1), (2, .int x2)]) hx hb dL_setPrice_13 hl (by decide) rfl (fun ls hl => ?_)
      refine lv_ldc hx hb hown (hts (.constant RL 10 (-100000000)) (by decide +kernel)) dL_setPrice_15 ?_
      exact W.iret (v := (-100000000)) hx hb hr (fun t2 ht2 hW => ⟨⟨(-100000000), u, rfl, (show ((-100000000), u) = w_setPrice σ x1 x2 from (show w_setPrice σ x1 x2 = ((-100000000), u) by unfold w_setPrice; rw [← hB1]).symm), by show ft_LW D k Z sz a _ t2.heap; rw [ht2]; exact hB2⟩, hS1.F ht2⟩) hS1.2.2 dL_setPrice_17
    rcases List.mem_cons.mp hm9 with rfl | hm9
    · refine vx_catch hown (tableOf [(3, 10, 13, 23)]) ⟨3, 10, 18, 25⟩ (tableOf []) (htab.trans rfl) (fun y9 hy9 => ?_) rfl (by decide) (va_Nw.use rfl (hEL.2.2.2.2 (25, "java/lang/IllegalArgumentException") (by decide +kernel))) (va_Nw.use rfl (hE.2.1.1 "java/lang/IllegalArgumentException" (by decide +kernel))) hc1 hc2 hc3 ?_
      · have hy9 : y9 ∈ ([⟨3, 10, 13, 23⟩] : List ExceptionTableEntry) := hy9
        rcases List.mem_cons.mp hy9 with rfl | hy9
        · exact Or.inr ⟨by decide, _, va_Nw.use rfl (hEL.2.2.2.2 (23, "java/lang/IndexOutOfBoundsException") (by decide +kernel)), hEL.2.1 _ (by decide +kernel) _ (by decide +kernel) (by decide)⟩
        exact absurd hy9 List.not_mem_nil
      refine W.eq (g2 := F0 m 18 ls [.ref q9]) rfl ?_
      refine lv_astore (lv' := [(4, .ref q9), (3, .int (-100000000)), (0, .ref a), (1, .int x1), (2, .int x2)]) hx hb dL_setPrice_18 hl (by decide) rfl (fun ls hl => ?_)
      refine lv_ldc hx hb hown (hts (.constant RL 10 (-100000000)) (by decide +kernel)) dL_setPrice_20 ?_
      exact W.iret (v := (-100000000)) hx hb hr (fun t2 ht2 hW => ⟨⟨(-100000000), u, rfl, (show ((-100000000), u) = w_setPrice σ x1 x2 from (show w_setPrice σ x1 x2 = ((-100000000), u) by unfold w_setPrice; rw [← hB1]).symm), by show ft_LW D k Z sz a _ t2.heap; rw [ht2]; exact hB2⟩, hS1.F ht2⟩) hS1.2.2 dL_setPrice_22
    exact absurd hm9 List.not_mem_nil
  rw [ht] at hB
  refine lv_istore_n (lv' := [(3, .int z), (0, .ref a), (1, .int x1), (2, .int x2)]) hx hb dL_setPrice_9 rfl hl (by decide) rfl (fun ls hl => ?_)
  refine lv_goto (tgt := 23) hx hb dL_setPrice_10 (by decide) ?_
  refine lv_iload_n hx hb dL_setPrice_23 rfl (lv_at hl 0 rfl) ?_
  exact W.iret (v := z) hx hb hr (fun t2 ht2 hW => ⟨⟨z, u, rfl, (show (z, u) = w_setPrice σ x1 x2 by unfold w_setPrice; rw [← hw]), by show ft_LW D k Z sz a _ t2.heap; rw [ht2]; exact hB⟩, hS1.F ht2⟩) hS1.2.2 dL_setPrice_24
def w_grantPermit (σ : ft_Sg) (x1 : Int32) (x2 : Int32) : Int32 × ft_Sg := match (l_grantPermit σ x1 x2).1 with
  | .ok z => (z, (l_grantPermit σ x1 x2).2)
  | .error _ => ((-100000000), (l_grantPermit σ x1 x2).2)
set_option maxHeartbeats 4000000 in
set_option maxRecDepth 100000 in
theorem d_L_grantPermit (l : Launch) (hl0 : l.stackTraces = false) (D : va_G) (Z : Nat → Nat → Nat) (k : Nat → ClassId) (sz : ft_SZ) (a : Nat) (σ : ft_Sg) (x1 : Int32) (x2 : Int32) (hpm : ∀ i, i < 8 → σ.2.1 i < 8) (hEx : ∀ E, (l_grantPermit σ x1 x2).1 = .error E → E ∈ ["java/lang/IndexOutOfBoundsException", "java/lang/IllegalArgumentException", "java/lang/IllegalStateException"]) : Met l yL_grantPermit wsL_grantPermit ({ frames := 9, cells := 1, slots := 6, locals := 211 }) (ft_PM D k Z sz a σ [.ref a, .int x1, .int x2]) (ft_QLw D k Z sz a (w_grantPermit σ x1 x2)) 1 6 (ft_AL sz) := by
  refine va_MetW (cc := cL_grantPermit) (maxL := 5) (ret := (some .int)) (hh := [(3, 10, 13, 23), (3, 10, 18, 25), (3, 10, 23, 17)]) (by decide) rfl ?_
  intro p e s m args below meth c s₁ B hml hv
  obtain ⟨hargs, hP, hEL, hz⟩ := hv
  have hE := hEL.1
  subst hargs
  have hx := B.exec
  have hb := B.bytes
  have hr := B.returns
  have hts := atoms_spec (ws := wsL_grantPermit) B.pre
  have hown : s.vm.findClass RL = some m.cls := findClass_of_methodNamed B.named
  have hlocks := B.notSynchronized
  have htab : c.exceptionTable.toList = tableOf [(3, 10, 13, 23), (3, 10, 18, 25), (3, 10, 23, 17)] := vx_table (x := yL_grantPermit) B (hts _ List.mem_cons_self)
  have hS : va_S (ft_AL sz) s.heap s.heap [] := va_S.rf
  have hl := lv_entry ([.ref a, .int x1, .int x2]) (n := 5) (Nat.le_of_ble_eq_true rfl)
  rw [lg_entry_eq]
  generalize (lg_sl ([.ref a, .int x1, .int x2]) ++ List.replicate (5 - (lg_sl ([.ref a, .int x1, .int x2])).length) Slot.unset).toArray = ls at hl ⊢
  have hl : lv_has ls 5 [(0, .ref a), (1, .int x1), (2, .int x2)] := hl
  refine lv_ldc hx hb hown (hts (.constant RL 10 (-100000000)) (by decide +kernel)) dL_grantPermit_0 ?_
  refine lv_istore_n (lv' := [(3, .int (-100000000)), (0, .ref a), (1, .int x1), (2, .int x2)]) hx hb dL_grantPermit_2 rfl hl (by decide) rfl (fun ls hl => ?_)
  refine lv_aload_n hx hb dL_grantPermit_3 rfl (lv_at hl 1 rfl) ?_
  refine lv_iload_n hx hb dL_grantPermit_4 rfl (lv_at hl 2 rfl) ?_
  refine lv_iload_n hx hb dL_grantPermit_5 rfl (lv_at hl 3 rfl) ?_
  refine vx_calli (vx_runV (As := [.int x1, .int x2]) (rest := []) ⟨hx, hb, hml, hown, hts⟩ (cl_grantPermit l hl0 D Z k sz a σ x1 x2 hpm) (cwV 2 hts gL_grantPermit_X7_grantPermit rfl rfl rfl (by decide +kernel) ⟨Nat.le_of_ble_eq_true rfl, Nat.le_of_ble_eq_true rfl⟩) (ft_preL hE hz hS hP) rfl rfl hl.1 rfl (lv_room (Nat.le_of_ble_eq_true rfl)) dL_grantPermit_6 ⟨Nat.le_of_ble_eq_true rfl, Nat.le_of_ble_eq_true rfl⟩) hS (fun _ _ h => h) (fun _ h => h) (fun _ _ h => h) (fun E ce q9 u t H1 locs1 ht hvm hu hB hz1 hk1 hS1 hc1 hc2 hc3 => ?_) (fun z u t H1 locs1 ht hvm hw hB hz1 hk1 hS1 => ?_)
  · obtain ⟨hB1, hB2⟩ := hB
    rw [ht] at hB2
    have hm9 := hEx E (congrArg Prod.fst hB1).symm
    rcases List.mem_cons.mp hm9 with rfl | hm9
    · refine vx_catch hown (tableOf []) ⟨3, 10, 13, 23⟩ (tableOf [(3, 10, 18, 25), (3, 10, 23, 17)]) (htab.trans rfl) (fun y9 hy9 => ?_) rfl (by decide) (va_Nw.use rfl (hEL.2.2.2.2 (23, "java/lang/IndexOutOfBoundsException") (by decide +kernel))) (va_Nw.use rfl (hE.2.1.1 "java/lang/IndexOutOfBoundsException" (by decide +kernel))) hc1 hc2 hc3 ?_
      · have hy9 : y9 ∈ ([] : List ExceptionTableEntry) := hy9
        exact absurd hy9 List.not_mem_nil
      refine W.eq (g2 := F0 m 13 ls [.ref q9]) rfl ?_
      refine lv_astore (lv' := [(4, .ref q9), (3, .int (-100000000)), (0, .ref a), (1, .int x1), (2, .int x2)]) hx hb dL_grantPermit_13 hl (by decide) rfl (fun ls hl => ?_)
      refine lv_ldc hx hb hown (hts (.constant RL 10 (-100000000)) (by decide +kernel)) dL_grantPermit_15 ?_
      exact W.iret (v := (-100000000)) hx hb hr (fun t2 ht2 hW => ⟨⟨(-100000000), u, rfl, (show ((-100000000), u) = w_grantPermit σ x1 x2 from (show w_grantPermit σ x1 x2 = ((-100000000), u) by unfold w_grantPermit; rw [← hB1]).symm), by show ft_LW D k Z sz a _ t2.heap; rw [ht2]; exact hB2⟩, hS1.F ht2⟩) hS1.2.2 dL_grantPermit_17
    rcases List.mem_cons.mp hm9 with rfl | hm9
    · refine vx_catch hown (tableOf [(3, 10, 13, 23)]) ⟨3, 10, 18, 25⟩ (tableOf [(3, 10, 23, 17)]) (htab.trans rfl) (fun y9 hy9 => ?_) rfl (by decide) (va_Nw.use rfl (hEL.2.2.2.2 (25, "java/lang/IllegalArgumentException") (by decide +kernel))) (va_Nw.use rfl (hE.2.1.1 "java/lang/IllegalArgumentException" (by decide +kernel))) hc1 hc2 hc3 ?_
      · have hy9 : y9 ∈ ([⟨3, 10, 13, 23⟩] : List ExceptionTableEntry) := hy9
        rcases List.mem_cons.mp hy9 with rfl | hy9
        · exact Or.inr ⟨by decide, _, va_Nw.use rfl (hEL.2.2.2.2 (23, "java/lang/IndexOutOfBoundsException") (by decide +kernel)), hEL.2.1 _ (by decide +kernel) _ (by decide +kernel) (by decide)⟩
        exact absurd hy9 List.not_mem_nil
      refine W.eq (g2 := F0 m 18 ls [.ref q9]) rfl ?_
      refine lv_astore (lv' := [(4, .ref q9), (3, .int (-100000000)), (0, .ref a), (1, .int x1), (2, .int x2)]) hx hb dL_grantPermit_18 hl (by decide) rfl (fun ls hl => ?_)
      refine lv_ldc hx hb hown (hts (.constant RL 10 (-100000000)) (by decide +kernel)) dL_grantPermit_20 ?_
      exact W.iret (v := (-100000000)) hx hb hr (fun t2 ht2 hW => ⟨⟨(-100000000), u, rfl, (show ((-100000000), u) = w_grantPermit σ x1 x2 from (show w_grantPermit σ x1 x2 = ((-100000000), u) by unfold w_grantPermit; rw [← hB1]).symm), by show ft_LW D k Z sz a _ t2.heap; rw [ht2]; exact hB2⟩, hS1.F ht2⟩) hS1.2.2 dL_grantPermit_22
    rcases List.mem_cons.mp hm9 with rfl | hm9
    · refine vx_catch hown (tableOf [(3, 10, 13, 23), (3, 10, 18, 25)]) ⟨3, 10, 23, 17⟩ (tableOf []) (htab.trans rfl) (fun y9 hy9 => ?_) rfl (by decide) (va_Nw.use rfl (hEL.2.2.2.2 (17, "java/lang/IllegalStateException") (by decide +kernel))) (va_Nw.use rfl (hE.2.1.1 "java/lang/IllegalStateException" (by decide +kernel))) hc1 hc2 hc3 ?_
      · have hy9 : y9 ∈ ([⟨3, 10, 13, 23⟩, ⟨3, 10, 18, 25⟩] : List ExceptionTableEntry) := hy9
        rcases List.mem_cons.mp hy9 with rfl | hy9
        · exact Or.inr ⟨by decide, _, va_Nw.use rfl (hEL.2.2.2.2 (23, "java/lang/IndexOutOfBoundsException") (by decide +kernel)), hEL.2.1 _ (by decide +kernel) _ (by decide +kernel) (by decide)⟩
        rcases List.mem_cons.mp hy9 with rfl | hy9
        · exact Or.inr ⟨by decide, _, va_Nw.use rfl (hEL.2.2.2.2 (25, "java/lang/IllegalArgumentException") (by decide +kernel)), hEL.2.1 _ (by decide +kernel) _ (by decide +kernel) (by decide)⟩
        exact absurd hy9 List.not_mem_nil
      refine W.eq (g2 := F0 m 23 ls [.ref q9]) rfl ?_
      refine lv_astore (lv' := [(4, .ref q9), (3, .int (-100000000)), (0, .ref a), (1, .int x1), (2, .int x2)]) hx hb dL_grantPermit_23 hl (by decide) rfl (fun ls hl => ?_)
      refine lv_ldc hx hb hown (hts (.constant RL 10 (-100000000)) (by decide +kernel)) dL_grantPermit_25 ?_
      exact W.iret (v := (-100000000)) hx hb hr (fun t2 ht2 hW => ⟨⟨(-100000000), u, rfl, (show ((-100000000), u) = w_grantPermit σ x1 x2 from (show w_grantPermit σ x1 x2 = ((-100000000), u) by unfold w_grantPermit; rw [← hB1]).symm), by show ft_LW D k Z sz a _ t2.heap; rw [ht2]; exact hB2⟩, hS1.F ht2⟩) hS1.2.2 dL_grantPermit_27
    exact absurd hm9 List.not_mem_nil
  rw [ht] at hB
  refine lv_istore_n (lv' := [(3, .int z), (0, .ref a), (1, .int x1), (2, .int x2)]) hx hb dL_grantPermit_9 rfl hl (by decide) rfl (fun ls hl => ?_)
  refine lv_goto (tgt := 28) hx hb dL_grantPermit_10 (by decide) ?_
  refine lv_iload_n hx hb dL_grantPermit_28 rfl (lv_at hl 0 rfl) ?_
  exact W.iret (v := z) hx hb hr (fun t2 ht2 hW => ⟨⟨z, u, rfl, (show (z, u) = w_grantPermit σ x1 x2 by unfold w_grantPermit; rw [← hw]), by show ft_LW D k Z sz a _ t2.heap; rw [ht2]; exact hB⟩, hS1.F ht2⟩) hS1.2.2 dL_grantPermit_29
def w_revokePermit (σ : ft_Sg) (x1 : Int32) (x2 : Int32) : Int32 × ft_Sg := match (l_revokePermit σ x1 x2).1 with
  | .ok z => (if z = 0 then 0 else 1, (l_revokePermit σ x1 x2).2)
  | .error _ => ((-100000000), (l_revokePermit σ x1 x2).2)
set_option maxHeartbeats 4000000 in
set_option maxRecDepth 100000 in
theorem d_L_revokePermit (l : Launch) (hl0 : l.stackTraces = false) (D : va_G) (Z : Nat → Nat → Nat) (k : Nat → ClassId) (sz : ft_SZ) (a : Nat) (σ : ft_Sg) (x1 : Int32) (x2 : Int32) (hpm : ∀ i, i < 8 → σ.2.1 i < 8) (hEx : ∀ E, (l_revokePermit σ x1 x2).1 = .error E → E ∈ ["java/lang/IndexOutOfBoundsException", "java/lang/IllegalArgumentException", "java/lang/IllegalStateException"]) : Met l yL_revokePermit wsL_revokePermit ({ frames := 9, cells := 1, slots := 6, locals := 211 }) (ft_PM D k Z sz a σ [.ref a, .int x1, .int x2]) (ft_QLw D k Z sz a (w_revokePermit σ x1 x2)) 1 6 (ft_AL sz) := by
  refine va_MetW (cc := cL_revokePermit) (maxL := 5) (ret := (some .int)) (hh := [(3, 18, 21, 23), (3, 18, 26, 25), (3, 18, 31, 17)]) (by decide) rfl ?_
  intro p e s m args below meth c s₁ B hml hv
  obtain ⟨hargs, hP, hEL, hz⟩ := hv
  have hE := hEL.1
  subst hargs
  have hx := B.exec
  have hb := B.bytes
  have hr := B.returns
  have hts := atoms_spec (ws := wsL_revokePermit) B.pre
  have hown : s.vm.findClass RL = some m.cls := findClass_of_methodNamed B.named
  have hlocks := B.notSynchronized
  have htab : c.exceptionTable.toList = tableOf [(3, 18, 21, 23), (3, 18, 26, 25), (3, 18, 31, 17)] := vx_table (x := yL_revokePermit) B (hts _ List.mem_cons_self)
  have hS : va_S (ft_AL sz) s.heap s.heap [] := va_S.rf
  have hl := lv_entry ([.ref a, .int x1, .int x2]) (n := 5) (Nat.le_of_ble_eq_true rfl)
  rw [lg_entry_eq]
  generalize (lg_sl ([.ref a, .int x1, .int x2]) ++ List.replicate (5 - (lg_sl ([.ref a, .int x1, .int x2])).length) Slot.unset).toArray = ls at hl ⊢
  have hl : lv_has ls 5 [(0, .ref a), (1, .int x1), (2, .int x2)] := hl
  refine lv_ldc hx hb hown (hts (.constant RL 10 (-100000000)) (by decide +kernel)) dL_revokePermit_0 ?_
  refine lv_istore_n (lv' := [(3, .int (-100000000)), (0, .ref a), (1, .int x1), (2, .int x2)]) hx hb dL_revokePermit_2 rfl hl (by decide) rfl (fun ls hl => ?_)
  refine lv_aload_n hx hb dL_revokePermit_3 rfl (lv_at hl 1 rfl) ?_
  refine lv_iload_n hx hb dL_revokePermit_4 rfl (lv_at hl 2 rfl) ?_
  refine lv_iload_n hx hb dL_revokePermit_5 rfl (lv_at hl 3 rfl) ?_
  refine vx_calli (vx_runV (As := [.int x1, .int x2]) (rest := []) ⟨hx, hb, hml, hown, hts⟩ (cl_revokePermit l hl0 D Z k sz a σ x1 x2 hpm) (cwV 2 hts gL_revokePermit_X7_revokePermit rfl rfl rfl (by decide +kernel) ⟨Nat.le_of_ble_eq_true rfl, Nat.le_of_ble_eq_true rfl⟩) (ft_preL hE hz hS hP) rfl rfl hl.1 rfl (lv_room (Nat.le_of_ble_eq_true rfl)) dL_revokePermit_6 ⟨Nat.le_of_ble_eq_true rfl, Nat.le_of_ble_eq_true rfl⟩) hS (fun _ _ h => h) (fun _ h => h) (fun _ _ h => h) (fun E ce q9 u t H1 locs1 ht hvm hu hB hz1 hk1 hS1 hc1 hc2 hc3 => ?_) (fun z u t H1 locs1 ht hvm hw hB hz1 hk1 hS1 => ?_)
  · obtain ⟨hB1, hB2⟩ := hB
    rw [ht] at hB2
    have hm9 := hEx E (congrArg Prod.fst hB1).symm
    rcases List.mem_cons.mp hm9 with rfl | hm9
    · refine vx_catch hown (tableOf []) ⟨3, 18, 21, 23⟩ (tableOf [(3, 18, 26, 25), (3, 18, 31, 17)]) (htab.trans rfl) (fun y9 hy9 => ?_) rfl (by decide) (va_Nw.use rfl (hEL.2.2.2.2 (23, "java/lang/IndexOutOfBoundsException") (by decide +kernel))) (va_Nw.use rfl (hE.2.1.1 "java/lang/IndexOutOfBoundsException" (by decide +kernel))) hc1 hc2 hc3 ?_
      · have hy9 : y9 ∈ ([] : List ExceptionTableEntry) := hy9
        exact absurd hy9 List.not_mem_nil
      refine W.eq (g2 := F0 m 21 ls [.ref q9]) rfl ?_
      refine lv_astore (lv' := [(4, .ref q9), (3, .int (-100000000)), (0, .ref a), (1, .int x1), (2, .int x2)]) hx hb dL_revokePermit_21 hl (by decide) rfl (fun ls hl => ?_)
      refine lv_ldc hx hb hown (hts (.constant RL 10 (-100000000)) (by decide +kernel)) dL_revokePermit_23 ?_
      exact W.iret (v := (-100000000)) hx hb hr (fun t2 ht2 hW => ⟨⟨(-100000000), u, rfl, (show ((-100000000), u) = w_revokePermit σ x1 x2 from (show w_revokePermit σ x1 x2 = ((-100000000), u) by unfold w_revokePermit; rw [← hB1]).symm), by show ft_LW D k Z sz a _ t2.heap; rw [ht2]; exact hB2⟩, hS1.F ht2⟩) hS1.2.2 dL_revokePermit_25
    rcases List.mem_cons.mp hm9 with rfl | hm9
    · refine vx_catch hown (tableOf [(3, 18, 21, 23)]) ⟨3, 18, 26, 25⟩ (tableOf [(3, 18, 31, 17)]) (htab.trans rfl) (fun y9 hy9 => ?_) rfl (by decide) (va_Nw.use rfl (hEL.2.2.2.2 (25, "java/lang/IllegalArgumentException") (by decide +kernel))) (va_Nw.use rfl (hE.2.1.1 "java/lang/IllegalArgumentException" (by decide +kernel))) hc1 hc2 hc3 ?_
      · have hy9 : y9 ∈ ([⟨3, 18, 21, 23⟩] : List ExceptionTableEntry) := hy9
        rcases List.mem_cons.mp hy9 with rfl | hy9
        · exact Or.inr ⟨by decide, _, va_Nw.use rfl (hEL.2.2.2.2 (23, "java/lang/IndexOutOfBoundsException") (by decide +kernel)), hEL.2.1 _ (by decide +kernel) _ (by decide +kernel) (by decide)⟩
        exact absurd hy9 List.not_mem_nil
      refine W.eq (g2 := F0 m 26 ls [.ref q9]) rfl ?_
      refine lv_astore (lv' := [(4, .ref q9), (3, .int (-100000000)), (0, .ref a), (1, .int x1), (2, .int x2)]) hx hb dL_revokePermit_26 hl (by decide) rfl (fun ls hl => ?_)
      refine lv_ldc hx hb hown (hts (.constant RL 10 (-100000000)) (by decide +kernel)) dL_revokePermit_28 ?_
      exact W.iret (v := (-100000000)) hx hb hr (fun t2 ht2 hW => ⟨⟨(-100000000), u, rfl, (show ((-100000000), u) = w_revokePermit σ x1 x2 from (show w_revokePermit σ x1 x2 = ((-100000000), u) by unfold w_revokePermit; rw [← hB1]).symm), by show ft_LW D k Z sz a _ t2.heap; rw [ht2]; exact hB2⟩, hS1.F ht2⟩) hS1.2.2 dL_revokePermit_30
    rcases List.mem_cons.mp hm9 with rfl | hm9
    · refine vx_catch hown (tableOf [(3, 18, 21, 23), (3, 18, 26, 25)]) ⟨3, 18, 31, 17⟩ (tableOf []) (htab.trans rfl) (fun y9 hy9 => ?_) rfl (by decide) (va_Nw.use rfl (hEL.2.2.2.2 (17, "java/lang/IllegalStateException") (by decide +kernel))) (va_Nw.use rfl (hE.2.1.1 "java/lang/IllegalStateException" (by decide +kernel))) hc1 hc2 hc3 ?_
      · have hy9 : y9 ∈ ([⟨3, 18, 21, 23⟩, ⟨3, 18, 26, 25⟩] : List ExceptionTableEntry) := hy9
        rcases List.mem_cons.mp hy9 with rfl | hy9
        · exact Or.inr ⟨by decide, _, va_Nw.use rfl (hEL.2.2.2.2 (23, "java/lang/IndexOutOfBoundsException") (by decide +kernel)), hEL.2.1 _ (by decide +kernel) _ (by decide +kernel) (by decide)⟩
        rcases List.mem_cons.mp hy9 with rfl | hy9
        · exact Or.inr ⟨by decide, _, va_Nw.use rfl (hEL.2.2.2.2 (25, "java/lang/IllegalArgumentException") (by decide +kernel)), hEL.2.1 _ (by decide +kernel) _ (by decide +kernel) (by decide)⟩
        exact absurd hy9 List.not_mem_nil
      refine W.eq (g2 := F0 m 31 ls [.ref q9]) rfl ?_
      refine lv_astore (lv' := [(4, .ref q9), (3, .int (-100000000)), (0, .ref a), (1, .int x1), (2, .int x2)]) hx hb dL_revokePermit_31 hl (by decide) rfl (fun ls hl => ?_)
      refine lv_ldc hx hb hown (hts (.constant RL 10 (-100000000)) (by decide +kernel)) dL_revokePermit_33 ?_
      exact W.iret (v := (-100000000)) hx hb hr (fun t2 ht2 hW => ⟨⟨(-100000000), u, rfl, (show ((-100000000), u) = w_revokePermit σ x1 x2 from (show w_revokePermit σ x1 x2 = ((-100000000), u) by unfold w_revokePermit; rw [← hB1]).symm), by show ft_LW D k Z sz a _ t2.heap; rw [ht2]; exact hB2⟩, hS1.F ht2⟩) hS1.2.2 dL_revokePermit_35
    exact absurd hm9 List.not_mem_nil
  rw [ht] at hB
  refine lv_if_eq (tgt := 16) hx hb dL_revokePermit_9 (by decide) (fun c9 => ?_) (fun c9 => ?_)
  · refine lv_iconst (v := 0) hx hb dL_revokePermit_16 (by decide) ?_
    refine lv_istore_n (lv' := [(3, .int 0), (0, .ref a), (1, .int x1), (2, .int x2)]) hx hb dL_revokePermit_17 rfl hl (by decide) rfl (fun ls hl => ?_)
    refine lv_goto (tgt := 36) hx hb dL_revokePermit_18 (by decide) ?_
    refine lv_iload_n hx hb dL_revokePermit_36 rfl (lv_at hl 0 rfl) ?_
    exact W.iret (v := 0) hx hb hr (fun t2 ht2 hW => ⟨⟨0, u, rfl, (show (0, u) = w_revokePermit σ x1 x2 by unfold w_revokePermit; rw [← hw]; exact congrArg (fun y => (y, u)) (if_pos c9).symm), by show ft_LW D k Z sz a _ t2.heap; rw [ht2]; exact hB⟩, hS1.F ht2⟩) hS1.2.2 dL_revokePermit_37
  · refine lv_iconst (v := 1) hx hb dL_revokePermit_12 (by decide) ?_
    refine lv_goto (tgt := 17) hx hb dL_revokePermit_13 (by decide) ?_
    refine lv_istore_n (lv' := [(3, .int 1), (0, .ref a), (1, .int x1), (2, .int x2)]) hx hb dL_revokePermit_17 rfl hl (by decide) rfl (fun ls hl => ?_)
    refine lv_goto (tgt := 36) hx hb dL_revokePermit_18 (by decide) ?_
    refine lv_iload_n hx hb dL_revokePermit_36 rfl (lv_at hl 0 rfl) ?_
    exact W.iret (v := 1) hx hb hr (fun t2 ht2 hW => ⟨⟨1, u, rfl, (show (1, u) = w_revokePermit σ x1 x2 by unfold w_revokePermit; rw [← hw]; exact congrArg (fun y => (y, u)) (if_neg c9).symm), by show ft_LW D k Z sz a _ t2.heap; rw [ht2]; exact hB⟩, hS1.F ht2⟩) hS1.2.2 dL_revokePermit_37
def w_assign (σ : ft_Sg) (x1 : Int32) (x2 : Int32) (x3 : Int32) : Int32 × ft_Sg := match (l_assign σ x1 x2 x3).1 with
  | .ok z => (z, (l_assign σ x1 x2 x3).2)
  | .error _ => ((-100000000), (l_assign σ x1 x2 x3).2)
set_option maxHeartbeats 4000000 in
set_option maxRecDepth 100000 in
theorem d_L_assign (l : Launch) (hl0 : l.stackTraces = false) (D : va_G) (Z : Nat → Nat → Nat) (k : Nat → ClassId) (sz : ft_SZ) (a : Nat) (σ : ft_Sg) (x1 : Int32) (x2 : Int32) (x3 : Int32) (hpm : ∀ i, i < 8 → σ.2.1 i < 8) (hEx : ∀ E, (l_assign σ x1 x2 x3).1 = .error E → E ∈ ["java/lang/IndexOutOfBoundsException", "java/lang/IllegalArgumentException", "java/lang/UnsupportedOperationException", "java/lang/IllegalStateException"]) : Met l yL_assign wsL_assign ({ frames := 9, cells := 1, slots := 6, locals := 212 }) (ft_PM D k Z sz a σ [.ref a, .int x1, .int x2, .int x3]) (ft_QLw D k Z sz a (w_assign σ x1 x2 x3)) 1 6 (ft_AL sz) := by
  refine va_MetW (cc := cL_assign) (maxL := 6) (ret := (some .int)) (hh := [(4, 13, 16, 23), (4, 13, 21, 25), (4, 13, 26, 41), (4, 13, 31, 17)]) (by decide) rfl ?_
  intro p e s m args below meth c s₁ B hml hv
  obtain ⟨hargs, hP, hEL, hz⟩ := hv
  have hE := hEL.1
  subst hargs
  have hx := B.exec
  have hb := B.bytes
  have hr := B.returns
  have hts := atoms_spec (ws := wsL_assign) B.pre
  have hown : s.vm.findClass RL = some m.cls := findClass_of_methodNamed B.named
  have hlocks := B.notSynchronized
  have htab : c.exceptionTable.toList = tableOf [(4, 13, 16, 23), (4, 13, 21, 25), (4, 13, 26, 41), (4, 13, 31, 17)] := vx_table (x := yL_assign) B (hts _ List.mem_cons_self)
  have hS : va_S (ft_AL sz) s.heap s.heap [] := va_S.rf
  have hl := lv_entry ([.ref a, .int x1, .int x2, .int x3]) (n := 6) (Nat.le_of_ble_eq_true rfl)
  rw [lg_entry_eq]
  generalize (lg_sl ([.ref a, .int x1, .int x2, .int x3]) ++ List.replicate (6 - (lg_sl ([.ref a, .int x1, .int x2, .int x3])).length) Slot.unset).toArray = ls at hl ⊢
  have hl : lv_has ls 6 [(0, .ref a), (1, .int x1), (2, .int x2), (3, .int x3)] := hl
  refine lv_ldc hx hb hown (hts (.constant RL 10 (-100000000)) (by decide +kernel)) dL_assign_0 ?_
  refine lv_istore (lv' := [(4, .int (-100000000)), (0, .ref a), (1, .int x1), (2, .int x2), (3, .int x3)]) hx hb dL_assign_2 hl (by decide) rfl (fun ls hl => ?_)
  refine lv_aload_n hx hb dL_assign_4 rfl (lv_at hl 1 rfl) ?_
  refine lv_iload_n hx hb dL_assign_5 rfl (lv_at hl 2 rfl) ?_
  refine lv_iload_n hx hb dL_assign_6 rfl (lv_at hl 3 rfl) ?_
  refine lv_iload_n hx hb dL_assign_7 rfl (lv_at hl 4 rfl) ?_
  refine vx_calli (vx_runV (As := [.int x1, .int x2, .int x3]) (rest := []) ⟨hx, hb, hml, hown, hts⟩ (cl_assign l hl0 D Z k sz a σ x1 x2 x3 hpm) (cwV 3 hts gL_assign_X7_assign rfl rfl rfl (by decide +kernel) ⟨Nat.le_of_ble_eq_true rfl, Nat.le_of_ble_eq_true rfl⟩) (ft_preL hE hz hS hP) rfl rfl hl.1 rfl (lv_room (Nat.le_of_ble_eq_true rfl)) dL_assign_8 ⟨Nat.le_of_ble_eq_true rfl, Nat.le_of_ble_eq_true rfl⟩) hS (fun _ _ h => h) (fun _ h => h) (fun _ _ h => h) (fun E ce q9 u t H1 locs1 ht hvm hu hB hz1 hk1 hS1 hc1 hc2 hc3 => ?_) (fun z u t H1 locs1 ht hvm hw hB hz1 hk1 hS1 => ?_)
  · obtain ⟨hB1, hB2⟩ := hB
    rw [ht] at hB2
    have hm9 := hEx E (congrArg Prod.fst hB1).symm
    rcases List.mem_cons.mp hm9 with rfl | hm9
    · refine vx_catch hown (tableOf []) ⟨4, 13, 16, 23⟩ (tableOf [(4, 13, 21, 25), (4, 13, 26, 41), (4, 13, 31, 17)]) (htab.trans rfl) (fun y9 hy9 => ?_) rfl (by decide) (va_Nw.use rfl (hEL.2.2.2.2 (23, "java/lang/IndexOutOfBoundsException") (by decide +kernel))) (va_Nw.use rfl (hE.2.1.1 "java/lang/IndexOutOfBoundsException" (by decide +kernel))) hc1 hc2 hc3 ?_
      · have hy9 : y9 ∈ ([] : List ExceptionTableEntry) := hy9
        exact absurd hy9 List.not_mem_nil
      refine W.eq (g2 := F0 m 16 ls [.ref q9]) rfl ?_
      refine lv_astore (lv' := [(5, .ref q9), (4, .int (-100000000)), (0, .ref a), (1, .int x1), (2, .int x2), (3, .int x3)]) hx hb dL_assign_16 hl (by decide) rfl (fun ls hl => ?_)
      refine lv_ldc hx hb hown (hts (.constant RL 10 (-100000000)) (by decide +kernel)) dL_assign_18 ?_
      exact W.iret (v := (-100000000)) hx hb hr (fun t2 ht2 hW => ⟨⟨(-100000000), u, rfl, (show ((-100000000), u) = w_assign σ x1 x2 x3 from (show w_assign σ x1 x2 x3 = ((-100000000), u) by unfold w_assign; rw [← hB1]).symm), by show ft_LW D k Z sz a _ t2.heap; rw [ht2]; exact hB2⟩, hS1.F ht2⟩) hS1.2.2 dL_assign_20
    rcases List.mem_cons.mp hm9 with rfl | hm9
    · refine vx_catch hown (tableOf [(4, 13, 16, 23)]) ⟨4, 13, 21, 25⟩ (tableOf [(4, 13, 26, 41), (4, 13, 31, 17)]) (htab.trans rfl) (fun y9 hy9 => ?_) rfl (by decide) (va_Nw.use rfl (hEL.2.2.2.2 (25, "java/lang/IllegalArgumentException") (by decide +kernel))) (va_Nw.use rfl (hE.2.1.1 "java/lang/IllegalArgumentException" (by decide +kernel))) hc1 hc2 hc3 ?_
      · have hy9 : y9 ∈ ([⟨4, 13, 16, 23⟩] : List ExceptionTableEntry) := hy9
        rcases List.mem_cons.mp hy9 with rfl | hy9
        · exact Or.inr ⟨by decide, _, va_Nw.use rfl (hEL.2.2.2.2 (23, "java/lang/IndexOutOfBoundsException") (by decide +kernel)), hEL.2.1 _ (by decide +kernel) _ (by decide +kernel) (by decide)⟩
        exact absurd hy9 List.not_mem_nil
      refine W.eq (g2 := F0 m 21 ls [.ref q9]) rfl ?_
      refine lv_astore (lv' := [(5, .ref q9), (4, .int (-100000000)), (0, .ref a), (1, .int x1), (2, .int x2), (3, .int x3)]) hx hb dL_assign_21 hl (by decide) rfl (fun ls hl => ?_)
      refine lv_ldc hx hb hown (hts (.constant RL 10 (-100000000)) (by decide +kernel)) dL_assign_23 ?_
      exact W.iret (v := (-100000000)) hx hb hr (fun t2 ht2 hW => ⟨⟨(-100000000), u, rfl, (show ((-100000000), u) = w_assign σ x1 x2 x3 from (show w_assign σ x1 x2 x3 = ((-100000000), u) by unfold w_assign; rw [← hB1]).symm), by show ft_LW D k Z sz a _ t2.heap; rw [ht2]; exact hB2⟩, hS1.F ht2⟩) hS1.2.2 dL_assign_25
    rcases List.mem_cons.mp hm9 with rfl | hm9
    · refine vx_catch hown (tableOf [(4, 13, 16, 23), (4, 13, 21, 25)]) ⟨4, 13, 26, 41⟩ (tableOf [(4, 13, 31, 17)]) (htab.trans rfl) (fun y9 hy9 => ?_) rfl (by decide) (va_Nw.use rfl (hEL.2.2.2.2 (41, "java/lang/UnsupportedOperationException") (by decide +kernel))) (va_Nw.use rfl (hE.2.1.1 "java/lang/UnsupportedOperationException" (by decide +kernel))) hc1 hc2 hc3 ?_
      · have hy9 : y9 ∈ ([⟨4, 13, 16, 23⟩, ⟨4, 13, 21, 25⟩] : List ExceptionTableEntry) := hy9
        rcases List.mem_cons.mp hy9 with rfl | hy9
        · exact Or.inr ⟨by decide, _, va_Nw.use rfl (hEL.2.2.2.2 (23, "java/lang/IndexOutOfBoundsException") (by decide +kernel)), hEL.2.1 _ (by decide +kernel) _ (by decide +kernel) (by decide)⟩
        rcases List.mem_cons.mp hy9 with rfl | hy9
        · exact Or.inr ⟨by decide, _, va_Nw.use rfl (hEL.2.2.2.2 (25, "java/lang/IllegalArgumentException") (by decide +kernel)), hEL.2.1 _ (by decide +kernel) _ (by decide +kernel) (by decide)⟩
        exact absurd hy9 List.not_mem_nil
      refine W.eq (g2 := F0 m 26 ls [.ref q9]) rfl ?_
      refine lv_astore (lv' := [(5, .ref q9), (4, .int (-100000000)), (0, .ref a), (1, .int x1), (2, .int x2), (3, .int x3)]) hx hb dL_assign_26 hl (by decide) rfl (fun ls hl => ?_)
      refine lv_ldc hx hb hown (hts (.constant RL 10 (-100000000)) (by decide +kernel)) dL_assign_28 ?_
      exact W.iret (v := (-100000000)) hx hb hr (fun t2 ht2 hW => ⟨⟨(-100000000), u, rfl, (show ((-100000000), u) = w_assign σ x1 x2 x3 from (show w_assign σ x1 x2 x3 = ((-100000000), u) by unfold w_assign; rw [← hB1]).symm), by show ft_LW D k Z sz a _ t2.heap; rw [ht2]; exact hB2⟩, hS1.F ht2⟩) hS1.2.2 dL_assign_30
    rcases List.mem_cons.mp hm9 with rfl | hm9
    · refine vx_catch hown (tableOf [(4, 13, 16, 23), (4, 13, 21, 25), (4, 13, 26, 41)]) ⟨4, 13, 31, 17⟩ (tableOf []) (htab.trans rfl) (fun y9 hy9 => ?_) rfl (by decide) (va_Nw.use rfl (hEL.2.2.2.2 (17, "java/lang/IllegalStateException") (by decide +kernel))) (va_Nw.use rfl (hE.2.1.1 "java/lang/IllegalStateException" (by decide +kernel))) hc1 hc2 hc3 ?_
      · have hy9 : y9 ∈ ([⟨4, 13, 16, 23⟩, ⟨4, 13, 21, 25⟩, ⟨4, 13, 26, 41⟩] : List ExceptionTableEntry) := hy9
        rcases List.mem_cons.mp hy9 with rfl | hy9
        · exact Or.inr ⟨by decide, _, va_Nw.use rfl (hEL.2.2.2.2 (23, "java/lang/IndexOutOfBoundsException") (by decide +kernel)), hEL.2.1 _ (by decide +kernel) _ (by decide +kernel) (by decide)⟩
        rcases List.mem_cons.mp hy9 with rfl | hy9
        · exact Or.inr ⟨by decide, _, va_Nw.use rfl (hEL.2.2.2.2 (25, "java/lang/IllegalArgumentException") (by decide +kernel)), hEL.2.1 _ (by decide +kernel) _ (by decide +kernel) (by decide)⟩
        rcases List.mem_cons.mp hy9 with rfl | hy9
        · exact Or.inr ⟨by decide, _, va_Nw.use rfl (hEL.2.2.2.2 (41, "java/lang/UnsupportedOperationException") (by decide +kernel)), hEL.2.1 _ (by decide +kernel) _ (by decide +kernel) (by decide)⟩
        exact absurd hy9 List.not_mem_nil
      refine W.eq (g2 := F0 m 31 ls [.ref q9]) rfl ?_
      refine lv_astore (lv' := [(5, .ref q9), (4, .int (-100000000)), (0, .ref a), (1, .int x1), (2, .int x2), (3, .int x3)]) hx hb dL_assign_31 hl (by decide) rfl (fun ls hl => ?_)
      refine lv_ldc hx hb hown (hts (.constant RL 10 (-100000000)) (by decide +kernel)) dL_assign_33 ?_
      exact W.iret (v := (-100000000)) hx hb hr (fun t2 ht2 hW => ⟨⟨(-100000000), u, rfl, (show ((-100000000), u) = w_assign σ x1 x2 x3 from (show w_assign σ x1 x2 x3 = ((-100000000), u) by unfold w_assign; rw [← hB1]).symm), by show ft_LW D k Z sz a _ t2.heap; rw [ht2]; exact hB2⟩, hS1.F ht2⟩) hS1.2.2 dL_assign_35
    exact absurd hm9 List.not_mem_nil
  rw [ht] at hB
  refine lv_istore (lv' := [(4, .int z), (0, .ref a), (1, .int x1), (2, .int x2), (3, .int x3)]) hx hb dL_assign_11 hl (by decide) rfl (fun ls hl => ?_)
  refine lv_goto (tgt := 36) hx hb dL_assign_13 (by decide) ?_
  refine lv_iload hx hb dL_assign_36 (lv_at hl 0 rfl) ?_
  exact W.iret (v := z) hx hb hr (fun t2 ht2 hW => ⟨⟨z, u, rfl, (show (z, u) = w_assign σ x1 x2 x3 by unfold w_assign; rw [← hw]), by show ft_LW D k Z sz a _ t2.heap; rw [ht2]; exact hB⟩, hS1.F ht2⟩) hS1.2.2 dL_assign_38
def w_release (σ : ft_Sg) (x1 : Int32) (x2 : Int32) : Int32 × ft_Sg := match (l_release σ x1 x2).1 with
  | .ok z => (z, (l_release σ x1 x2).2)
  | .error _ => ((-100000000), (l_release σ x1 x2).2)
set_option maxHeartbeats 4000000 in
set_option maxRecDepth 100000 in
theorem d_L_release (l : Launch) (hl0 : l.stackTraces = false) (D : va_G) (Z : Nat → Nat → Nat) (k : Nat → ClassId) (sz : ft_SZ) (a : Nat) (σ : ft_Sg) (x1 : Int32) (x2 : Int32) (hpm : ∀ i, i < 8 → σ.2.1 i < 8) (hEx : ∀ E, (l_release σ x1 x2).1 = .error E → E ∈ ["java/lang/IndexOutOfBoundsException", "java/lang/IllegalArgumentException", "java/util/NoSuchElementException"]) : Met l yL_release wsL_release ({ frames := 9, cells := 1, slots := 6, locals := 211 }) (ft_PM D k Z sz a σ [.ref a, .int x1, .int x2]) (ft_QLw D k Z sz a (w_release σ x1 x2)) 1 6 (ft_AL sz) := by
  refine va_MetW (cc := cL_release) (maxL := 5) (ret := (some .int)) (hh := [(3, 10, 13, 23), (3, 10, 18, 25), (3, 10, 23, 46)]) (by decide) rfl ?_
  intro p e s m args below meth c s₁ B hml hv
  obtain ⟨hargs, hP, hEL, hz⟩ := hv
  have hE := hEL.1
  subst hargs
  have hx := B.exec
  have hb := B.bytes
  have hr := B.returns
  have hts := atoms_spec (ws := wsL_release) B.pre
  have hown : s.vm.findClass RL = some m.cls := findClass_of_methodNamed B.named
  have hlocks := B.notSynchronized
  have htab : c.exceptionTable.toList = tableOf [(3, 10, 13, 23), (3, 10, 18, 25), (3, 10, 23, 46)] := vx_table (x := yL_release) B (hts _ List.mem_cons_self)
  have hS : va_S (ft_AL sz) s.heap s.heap [] := va_S.rf
  have hl := lv_entry ([.ref a, .int x1, .int x2]) (n := 5) (Nat.le_of_ble_eq_true rfl)
  rw [lg_entry_eq]
  generalize (lg_sl ([.ref a, .int x1, .int x2]) ++ List.replicate (5 - (lg_sl ([.ref a, .int x1, .int x2])).length) Slot.unset).toArray = ls at hl ⊢
  have hl : lv_has ls 5 [(0, .ref a), (1, .int x1), (2, .int x2)] := hl
  refine lv_ldc hx hb hown (hts (.constant RL 10 (-100000000)) (by decide +kernel)) dL_release_0 ?_
  refine lv_istore_n (lv' := [(3, .int (-100000000)), (0, .ref a), (1, .int x1), (2, .int x2)]) hx hb dL_release_2 rfl hl (by decide) rfl (fun ls hl => ?_)
  refine lv_aload_n hx hb dL_release_3 rfl (lv_at hl 1 rfl) ?_
  refine lv_iload_n hx hb dL_release_4 rfl (lv_at hl 2 rfl) ?_
  refine lv_iload_n hx hb dL_release_5 rfl (lv_at hl 3 rfl) ?_
  refine vx_calli (vx_runV (As := [.int x1, .int x2]) (rest := []) ⟨hx, hb, hml, hown, hts⟩ (cl_release l hl0 D Z k sz a σ x1 x2 hpm) (cwV 2 hts gL_release_X7_release rfl rfl rfl (by decide +kernel) ⟨Nat.le_of_ble_eq_true rfl, Nat.le_of_ble_eq_true rfl⟩) (ft_preL hE hz hS hP) rfl rfl hl.1 rfl (lv_room (Nat.le_of_ble_eq_true rfl)) dL_release_6 ⟨Nat.le_of_ble_eq_true rfl, Nat.le_of_ble_eq_true rfl⟩) hS (fun _ _ h => h) (fun _ h => h) (fun _ _ h => h) (fun E ce q9 u t H1 locs1 ht hvm hu hB hz1 hk1 hS1 hc1 hc2 hc3 => ?_) (fun z u t H1 locs1 ht hvm hw hB hz1 hk1 hS1 => ?_)
  · obtain ⟨hB1, hB2⟩ := hB
    rw [ht] at hB2
    have hm9 := hEx E (congrArg Prod.fst hB1).symm
    rcases List.mem_cons.mp hm9 with rfl | hm9
    · refine vx_catch hown (tableOf []) ⟨3, 10, 13, 23⟩ (tableOf [(3, 10, 18, 25), (3, 10, 23, 46)]) (htab.trans rfl) (fun y9 hy9 => ?_) rfl (by decide) (va_Nw.use rfl (hEL.2.2.2.2 (23, "java/lang/IndexOutOfBoundsException") (by decide +kernel))) (va_Nw.use rfl (hE.2.1.1 "java/lang/IndexOutOfBoundsException" (by decide +kernel))) hc1 hc2 hc3 ?_
      · have hy9 : y9 ∈ ([] : List ExceptionTableEntry) := hy9
        exact absurd hy9 List.not_mem_nil
      refine W.eq (g2 := F0 m 13 ls [.ref q9]) rfl ?_
      refine lv_astore (lv' := [(4, .ref q9), (3, .int (-100000000)), (0, .ref a), (1, .int x1), (2, .int x2)]) hx hb dL_release_13 hl (by decide) rfl (fun ls hl => ?_)
      refine lv_ldc hx hb hown (hts (.constant RL 10 (-100000000)) (by decide +kernel)) dL_release_15 ?_
      exact W.iret (v := (-100000000)) hx hb hr (fun t2 ht2 hW => ⟨⟨(-100000000), u, rfl, (show ((-100000000), u) = w_release σ x1 x2 from (show w_release σ x1 x2 = ((-100000000), u) by unfold w_release; rw [← hB1]).symm), by show ft_LW D k Z sz a _ t2.heap; rw [ht2]; exact hB2⟩, hS1.F ht2⟩) hS1.2.2 dL_release_17
    rcases List.mem_cons.mp hm9 with rfl | hm9
    · refine vx_catch hown (tableOf [(3, 10, 13, 23)]) ⟨3, 10, 18, 25⟩ (tableOf [(3, 10, 23, 46)]) (htab.trans rfl) (fun y9 hy9 => ?_) rfl (by decide) (va_Nw.use rfl (hEL.2.2.2.2 (25, "java/lang/IllegalArgumentException") (by decide +kernel))) (va_Nw.use rfl (hE.2.1.1 "java/lang/IllegalArgumentException" (by decide +kernel))) hc1 hc2 hc3 ?_
      · have hy9 : y9 ∈ ([⟨3, 10, 13, 23⟩] : List ExceptionTableEntry) := hy9
        rcases List.mem_cons.mp hy9 with rfl | hy9
        · exact Or.inr ⟨by decide, _, va_Nw.use rfl (hEL.2.2.2.2 (23, "java/lang/IndexOutOfBoundsException") (by decide +kernel)), hEL.2.1 _ (by decide +kernel) _ (by decide +kernel) (by decide)⟩
        exact absurd hy9 List.not_mem_nil
      refine W.eq (g2 := F0 m 18 ls [.ref q9]) rfl ?_
      refine lv_astore (lv' := [(4, .ref q9), (3, .int (-100000000)), (0, .ref a), (1, .int x1), (2, .int x2)]) hx hb dL_release_18 hl (by decide) rfl (fun ls hl => ?_)
      refine lv_ldc hx hb hown (hts (.constant RL 10 (-100000000)) (by decide +kernel)) dL_release_20 ?_
      exact W.iret (v := (-100000000)) hx hb hr (fun t2 ht2 hW => ⟨⟨(-100000000), u, rfl, (show ((-100000000), u) = w_release σ x1 x2 from (show w_release σ x1 x2 = ((-100000000), u) by unfold w_release; rw [← hB1]).symm), by show ft_LW D k Z sz a _ t2.heap; rw [ht2]; exact hB2⟩, hS1.F ht2⟩) hS1.2.2 dL_release_22
    rcases List.mem_cons.mp hm9 with rfl | hm9
    · refine vx_catch hown (tableOf [(3, 10, 13, 23), (3, 10, 18, 25)]) ⟨3, 10, 23, 46⟩ (tableOf []) (htab.trans rfl) (fun y9 hy9 => ?_) rfl (by decide) (va_Nw.use rfl (hEL.2.2.2.2 (46, "java/util/NoSuchElementException") (by decide +kernel))) (va_Nw.use rfl (hE.2.1.1 "java/util/NoSuchElementException" (by decide +kernel))) hc1 hc2 hc3 ?_
      · have hy9 : y9 ∈ ([⟨3, 10, 13, 23⟩, ⟨3, 10, 18, 25⟩] : List ExceptionTableEntry) := hy9
        rcases List.mem_cons.mp hy9 with rfl | hy9
        · exact Or.inr ⟨by decide, _, va_Nw.use rfl (hEL.2.2.2.2 (23, "java/lang/IndexOutOfBoundsException") (by decide +kernel)), hEL.2.1 _ (by decide +kernel) _ (by decide +kernel) (by decide)⟩
        rcases List.mem_cons.mp hy9 with rfl | hy9
        · exact Or.inr ⟨by decide, _, va_Nw.use rfl (hEL.2.2.2.2 (25, "java/lang/IllegalArgumentException") (by decide +kernel)), hEL.2.1 _ (by decide +kernel) _ (by decide +kernel) (by decide)⟩
        exact absurd hy9 List.not_mem_nil
      refine W.eq (g2 := F0 m 23 ls [.ref q9]) rfl ?_
      refine lv_astore (lv' := [(4, .ref q9), (3, .int (-100000000)), (0, .ref a), (1, .int x1), (2, .int x2)]) hx hb dL_release_23 hl (by decide) rfl (fun ls hl => ?_)
      refine lv_ldc hx hb hown (hts (.constant RL 10 (-100000000)) (by decide +kernel)) dL_release_25 ?_
      exact W.iret (v := (-100000000)) hx hb hr (fun t2 ht2 hW => ⟨⟨(-100000000), u, rfl, (show ((-100000000), u) = w_release σ x1 x2 from (show w_release σ x1 x2 = ((-100000000), u) by unfold w_release; rw [← hB1]).symm), by show ft_LW D k Z sz a _ t2.heap; rw [ht2]; exact hB2⟩, hS1.F ht2⟩) hS1.2.2 dL_release_27
    exact absurd hm9 List.not_mem_nil
  rw [ht] at hB
  refine lv_istore_n (lv' := [(3, .int z), (0, .ref a), (1, .int x1), (2, .int x2)]) hx hb dL_release_9 rfl hl (by decide) rfl (fun ls hl => ?_)
  refine lv_goto (tgt := 28) hx hb dL_release_10 (by decide) ?_
  refine lv_iload_n hx hb dL_release_28 rfl (lv_at hl 0 rfl) ?_
  exact W.iret (v := z) hx hb hr (fun t2 ht2 hW => ⟨⟨z, u, rfl, (show (z, u) = w_release σ x1 x2 by unfold w_release; rw [← hw]), by show ft_LW D k Z sz a _ t2.heap; rw [ht2]; exact hB⟩, hS1.F ht2⟩) hS1.2.2 dL_release_29
def w_setWeather (σ : ft_Sg) (x1 : Int32) : Int32 × ft_Sg := match (l_setWeather σ x1).1 with
  | .ok z => (z, (l_setWeather σ x1).2)
  | .error _ => ((-100000000), (l_setWeather σ x1).2)
set_option maxHeartbeats 4000000 in
set_option maxRecDepth 100000 in
theorem d_L_setWeather (l : Launch) (hl0 : l.stackTraces = false) (D : va_G) (Z : Nat → Nat → Nat) (k : Nat → ClassId) (sz : ft_SZ) (a : Nat) (σ : ft_Sg) (x1 : Int32) (hpm : ∀ i, i < 8 → σ.2.1 i < 8) (hEx : ∀ E, (l_setWeather σ x1).1 = .error E → E ∈ ["java/lang/IllegalArgumentException"]) : Met l yL_setWeather wsL_setWeather ({ frames := 9, cells := 1, slots := 6, locals := 210 }) (ft_PM D k Z sz a σ [.ref a, .int x1]) (ft_QLw D k Z sz a (w_setWeather σ x1)) 1 6 (ft_AL sz) := by
  refine va_MetW (cc := cL_setWeather) (maxL := 4) (ret := (some .int)) (hh := [(3, 9, 12, 25)]) (by decide) rfl ?_
  intro p e s m args below meth c s₁ B hml hv
  obtain ⟨hargs, hP, hEL, hz⟩ := hv
  have hE := hEL.1
  subst hargs
  have hx := B.exec
  have hb := B.bytes
  have hr := B.returns
  have hts := atoms_spec (ws := wsL_setWeather) B.pre
  have hown : s.vm.findClass RL = some m.cls := findClass_of_methodNamed B.named
  have hlocks := B.notSynchronized
  have htab : c.exceptionTable.toList = tableOf [(3, 9, 12, 25)] := vx_table (x := yL_setWeather) B (hts _ List.mem_cons_self)
  have hS : va_S (ft_AL sz) s.heap s.heap [] := va_S.rf
  have hl := lv_entry ([.ref a, .int x1]) (n := 4) (Nat.le_of_ble_eq_true rfl)
  rw [lg_entry_eq]
  generalize (lg_sl ([.ref a, .int x1]) ++ List.replicate (4 - (lg_sl ([.ref a, .int x1])).length) Slot.unset).toArray = ls at hl ⊢
  have hl : lv_has ls 4 [(0, .ref a), (1, .int x1)] := hl
  refine lv_ldc hx hb hown (hts (.constant RL 10 (-100000000)) (by decide +kernel)) dL_setWeather_0 ?_
  refine lv_istore_n (lv' := [(2, .int (-100000000)), (0, .ref a), (1, .int x1)]) hx hb dL_setWeather_2 rfl hl (by decide) rfl (fun ls hl => ?_)
  refine lv_aload_n hx hb dL_setWeather_3 rfl (lv_at hl 1 rfl) ?_
  refine lv_iload_n hx hb dL_setWeather_4 rfl (lv_at hl 2 rfl) ?_
  refine vx_calli (vx_runV (As := [.int x1]) (rest := []) ⟨hx, hb, hml, hown, hts⟩ (cl_setWeather l hl0 D Z k sz a σ x1 hpm) (cwV 1 hts gL_setWeather_X7_setWeather rfl rfl rfl (by decide +kernel) ⟨Nat.le_of_ble_eq_true rfl, Nat.le_of_ble_eq_true rfl⟩) (ft_preL hE hz hS hP) rfl rfl hl.1 rfl (lv_room (Nat.le_of_ble_eq_true rfl)) dL_setWeather_5 ⟨Nat.le_of_ble_eq_true rfl, Nat.le_of_ble_eq_true rfl⟩) hS (fun _ _ h => h) (fun _ h => h) (fun _ _ h => h) (fun E ce q9 u t H1 locs1 ht hvm hu hB hz1 hk1 hS1 hc1 hc2 hc3 => ?_) (fun z u t H1 locs1 ht hvm hw hB hz1 hk1 hS1 => ?_)
  · obtain ⟨hB1, hB2⟩ := hB
    rw [ht] at hB2
    have hm9 := hEx E (congrArg Prod.fst hB1).symm
    rcases List.mem_cons.mp hm9 with rfl | hm9
    · refine vx_catch hown (tableOf []) ⟨3, 9, 12, 25⟩ (tableOf []) (htab.trans rfl) (fun y9 hy9 => ?_) rfl (by decide) (va_Nw.use rfl (hEL.2.2.2.2 (25, "java/lang/IllegalArgumentException") (by decide +kernel))) (va_Nw.use rfl (hE.2.1.1 "java/lang/IllegalArgumentException" (by decide +kernel))) hc1 hc2 hc3 ?_
      · have hy9 : y9 ∈ ([] : List ExceptionTableEntry) := hy9
        exact absurd hy9 List.not_mem_nil
      refine W.eq (g2 := F0 m 12 ls [.ref q9]) rfl ?_
      refine lv_astore_n (lv' := [(3, .ref q9), (2, .int (-100000000)), (0, .ref a), (1, .int x1)]) hx hb dL_setWeather_12 rfl hl (by decide) rfl (fun ls hl => ?_)
      refine lv_ldc hx hb hown (hts (.constant RL 10 (-100000000)) (by decide +kernel)) dL_setWeather_13 ?_
      exact W.iret (v := (-100000000)) hx hb hr (fun t2 ht2 hW => ⟨⟨(-100000000), u, rfl, (show ((-100000000), u) = w_setWeather σ x1 from (show w_setWeather σ x1 = ((-100000000), u) by unfold w_setWeather; rw [← hB1]).symm), by show ft_LW D k Z sz a _ t2.heap; rw [ht2]; exact hB2⟩, hS1.F ht2⟩) hS1.2.2 dL_setWeather_15
    exact absurd hm9 List.not_mem_nil
  rw [ht] at hB
  refine lv_istore_n (lv' := [(2, .int z), (0, .ref a), (1, .int x1)]) hx hb dL_setWeather_8 rfl hl (by decide) rfl (fun ls hl => ?_)
  refine lv_goto (tgt := 16) hx hb dL_setWeather_9 (by decide) ?_
  refine lv_iload_n hx hb dL_setWeather_16 rfl (lv_at hl 0 rfl) ?_
  exact W.iret (v := z) hx hb hr (fun t2 ht2 hW => ⟨⟨z, u, rfl, (show (z, u) = w_setWeather σ x1 by unfold w_setWeather; rw [← hw]), by show ft_LW D k Z sz a _ t2.heap; rw [ht2]; exact hB⟩, hS1.F ht2⟩) hS1.2.2 dL_setWeather_17
def w_advance (σ : ft_Sg) (x1 : Int32) : Int32 × ft_Sg := match (l_advance σ x1).1 with
  | .ok z => (z, (l_advance σ x1).2)
  | .error _ => ((-100000000), (l_advance σ x1).2)
set_option maxHeartbeats 4000000 in
set_option maxRecDepth 100000 in
theorem d_L_advance (l : Launch) (hl0 : l.stackTraces = false) (D : va_G) (Z : Nat → Nat → Nat) (k : Nat → ClassId) (sz : ft_SZ) (a : Nat) (σ : ft_Sg) (x1 : Int32) (hpm : ∀ i, i < 8 → σ.2.1 i < 8) (hEx : ∀ E, (l_advance σ x1).1 = .error E → E ∈ ["java/lang/IllegalArgumentException"]) : Met l yL_advance wsL_advance ({ frames := 9, cells := 1, slots := 6, locals := 210 }) (ft_PM D k Z sz a σ [.ref a, .int x1]) (ft_QLw D k Z sz a (w_advance σ x1)) 1 6 (ft_AL sz) := by
  refine va_MetW (cc := cL_advance) (maxL := 4) (ret := (some .int)) (hh := [(3, 9, 12, 25)]) (by decide) rfl ?_
  intro p e s m args below meth c s₁ B hml hv
  obtain ⟨hargs, hP, hEL, hz⟩ := hv
  have hE := hEL.1
  subst hargs
  have hx := B.exec
  have hb := B.bytes
  have hr := B.returns
  have hts := atoms_spec (ws := wsL_advance) B.pre
  have hown : s.vm.findClass RL = some m.cls := findClass_of_methodNamed B.named
  have hlocks := B.notSynchronized
  have htab : c.exceptionTable.toList = tableOf [(3, 9, 12, 25)] := vx_table (x := yL_advance) B (hts _ List.mem_cons_self)
  have hS : va_S (ft_AL sz) s.heap s.heap [] := va_S.rf
  have hl := lv_entry ([.ref a, .int x1]) (n := 4) (Nat.le_of_ble_eq_true rfl)
  rw [lg_entry_eq]
  generalize (lg_sl ([.ref a, .int x1]) ++ List.replicate (4 - (lg_sl ([.ref a, .int x1])).length) Slot.unset).toArray = ls at hl ⊢
  have hl : lv_has ls 4 [(0, .ref a), (1, .int x1)] := hl
  refine lv_ldc hx hb hown (hts (.constant RL 10 (-100000000)) (by decide +kernel)) dL_advance_0 ?_
  refine lv_istore_n (lv' := [(2, .int (-100000000)), (0, .ref a), (1, .int x1)]) hx hb dL_advance_2 rfl hl (by decide) rfl (fun ls hl => ?_)
  refine lv_aload_n hx hb dL_advance_3 rfl (lv_at hl 1 rfl) ?_
  refine lv_iload_n hx hb dL_advance_4 rfl (lv_at hl 2 rfl) ?_
  refine vx_calli (vx_runV (As := [.int x1]) (rest := []) ⟨hx, hb, hml, hown, hts⟩ (cl_advance l hl0 D Z k sz a σ x1 hpm) (cwV 1 hts gL_advance_X7_advance rfl rfl rfl (by decide +kernel) ⟨Nat.le_of_ble_eq_true rfl, Nat.le_of_ble_eq_true rfl⟩) (ft_preL hE hz hS hP) rfl rfl hl.1 rfl (lv_room (Nat.le_of_ble_eq_true rfl)) dL_advance_5 ⟨Nat.le_of_ble_eq_true rfl, Nat.le_of_ble_eq_true rfl⟩) hS (fun _ _ h => h) (fun _ h => h) (fun _ _ h => h) (fun E ce q9 u t H1 locs1 ht hvm hu hB hz1 hk1 hS1 hc1 hc2 hc3 => ?_) (fun z u t H1 locs1 ht hvm hw hB hz1 hk1 hS1 => ?_)
  · obtain ⟨hB1, hB2⟩ := hB
    rw [ht] at hB2
    have hm9 := hEx E (congrArg Prod.fst hB1).symm
    rcases List.mem_cons.mp hm9 with rfl | hm9
    · refine vx_catch hown (tableOf []) ⟨3, 9, 12, 25⟩ (tableOf []) (htab.trans rfl) (fun y9 hy9 => ?_) rfl (by decide) (va_Nw.use rfl (hEL.2.2.2.2 (25, "java/lang/IllegalArgumentException") (by decide +kernel))) (va_Nw.use rfl (hE.2.1.1 "java/lang/IllegalArgumentException" (by decide +kernel))) hc1 hc2 hc3 ?_
      · have hy9 : y9 ∈ ([] : List ExceptionTableEntry) := hy9
        exact absurd hy9 List.not_mem_nil
      refine W.eq (g2 := F0 m 12 ls [.ref q9]) rfl ?_
      refine lv_astore_n (lv' := [(3, .ref q9), (2, .int (-100000000)), (0, .ref a), (1, .int x1)]) hx hb dL_advance_12 rfl hl (by decide) rfl (fun ls hl => ?_)
      refine lv_ldc hx hb hown (hts (.constant RL 10 (-100000000)) (by decide +kernel)) dL_advance_13 ?_
      exact W.iret (v := (-100000000)) hx hb hr (fun t2 ht2 hW => ⟨⟨(-100000000), u, rfl, (show ((-100000000), u) = w_advance σ x1 from (show w_advance σ x1 = ((-100000000), u) by unfold w_advance; rw [← hB1]).symm), by show ft_LW D k Z sz a _ t2.heap; rw [ht2]; exact hB2⟩, hS1.F ht2⟩) hS1.2.2 dL_advance_15
    exact absurd hm9 List.not_mem_nil
  rw [ht] at hB
  refine lv_istore_n (lv' := [(2, .int z), (0, .ref a), (1, .int x1)]) hx hb dL_advance_8 rfl hl (by decide) rfl (fun ls hl => ?_)
  refine lv_goto (tgt := 16) hx hb dL_advance_9 (by decide) ?_
  refine lv_iload_n hx hb dL_advance_16 rfl (lv_at hl 0 rfl) ?_
  exact W.iret (v := z) hx hb hr (fun t2 ht2 hW => ⟨⟨z, u, rfl, (show (z, u) = w_advance σ x1 by unfold w_advance; rw [← hw]), by show ft_LW D k Z sz a _ t2.heap; rw [ht2]; exact hB⟩, hS1.F ht2⟩) hS1.2.2 dL_advance_17
def w_truckAt (σ : ft_Sg) (x1 : Int32) (x2 : Int32) : Int32 := match (l_truckAt σ x1 x2) with
  | .ok z => z
  | .error _ => (-1000)
set_option maxHeartbeats 4000000 in
set_option maxRecDepth 100000 in
theorem d_L_truckAt (l : Launch) (hl0 : l.stackTraces = false) (D : va_G) (Z : Nat → Nat → Nat) (k : Nat → ClassId) (sz : ft_SZ) (a : Nat) (σ : ft_Sg) (x1 : Int32) (x2 : Int32) (hEx : ∀ E, (l_truckAt σ x1 x2) = .error E → E ∈ ["java/lang/IndexOutOfBoundsException", "java/lang/IllegalArgumentException", "java/util/NoSuchElementException"]) : Met l yL_truckAt wsL_truckAt ({ frames := 8, cells := 3, slots := 18, locals := 152 }) (ft_PM D k Z sz a σ [.ref a, .int x1, .int x2]) (ft_QWr D k Z sz a σ (w_truckAt σ x1 x2)) 3 18 (ft_AL sz) := by
  refine va_MetW (cc := cL_truckAt) (maxL := 5) (ret := (some .int)) (hh := [(4, 11, 14, 23), (4, 11, 20, 25), (4, 11, 26, 46)]) (by decide) rfl ?_
  intro p e s m args below meth c s₁ B hml hv
  obtain ⟨hargs, hP, hEL, hz⟩ := hv
  have hE := hEL.1
  subst hargs
  have hx := B.exec
  have hb := B.bytes
  have hr := B.returns
  have hts := atoms_spec (ws := wsL_truckAt) B.pre
  have hown : s.vm.findClass RL = some m.cls := findClass_of_methodNamed B.named
  have hlocks := B.notSynchronized
  have htab : c.exceptionTable.toList = tableOf [(4, 11, 14, 23), (4, 11, 20, 25), (4, 11, 26, 46)] := vx_table (x := yL_truckAt) B (hts _ List.mem_cons_self)
  have hS : va_S (ft_AL sz) s.heap s.heap [] := va_S.rf
  have hl := lv_entry ([.ref a, .int x1, .int x2]) (n := 5) (Nat.le_of_ble_eq_true rfl)
  rw [lg_entry_eq]
  generalize (lg_sl ([.ref a, .int x1, .int x2]) ++ List.replicate (5 - (lg_sl ([.ref a, .int x1, .int x2])).length) Slot.unset).toArray = ls at hl ⊢
  have hl : lv_has ls 5 [(0, .ref a), (1, .int x1), (2, .int x2)] := hl
  refine lv_sipush (v := (-1000)) hx hb dL_truckAt_0 (by decide) ?_
  refine lv_istore_n (lv' := [(3, .int (-1000)), (0, .ref a), (1, .int x1), (2, .int x2)]) hx hb dL_truckAt_3 rfl hl (by decide) rfl (fun ls hl => ?_)
  refine lv_aload_n hx hb dL_truckAt_4 rfl (lv_at hl 1 rfl) ?_
  refine lv_iload_n hx hb dL_truckAt_5 rfl (lv_at hl 2 rfl) ?_
  refine lv_iload_n hx hb dL_truckAt_6 rfl (lv_at hl 3 rfl) ?_
  refine vx_calli (vx_runV (As := [.int x1, .int x2]) (rest := []) ⟨hx, hb, hml, hown, hts⟩ (cl_truckAt l hl0 D Z k sz a σ x1 x2) (cwV 2 hts gL_truckAt_X7_truckAt rfl rfl rfl (by decide +kernel) ⟨Nat.le_of_ble_eq_true rfl, Nat.le_of_ble_eq_true rfl⟩) (ft_preL hE hz hS hP) rfl rfl hl.1 rfl (lv_room (Nat.le_of_ble_eq_true rfl)) dL_truckAt_7 ⟨Nat.le_of_ble_eq_true rfl, Nat.le_of_ble_eq_true rfl⟩) hS (fun _ _ h => h) (fun _ h => h) (fun _ _ h => h) (fun E ce q9 u t H1 locs1 ht hvm hu hB hz1 hk1 hS1 hc1 hc2 hc3 => ?_) (fun z u t H1 locs1 ht hvm hw hB hz1 hk1 hS1 => ?_)
  · obtain ⟨hB1, hB2⟩ := hB
    rw [ht] at hB2
    have hm9 := hEx E hB1
    rcases List.mem_cons.mp hm9 with rfl | hm9
    · refine vx_catch hown (tableOf []) ⟨4, 11, 14, 23⟩ (tableOf [(4, 11, 20, 25), (4, 11, 26, 46)]) (htab.trans rfl) (fun y9 hy9 => ?_) rfl (by decide) (va_Nw.use rfl (hEL.2.2.2.2 (23, "java/lang/IndexOutOfBoundsException") (by decide +kernel))) (va_Nw.use rfl (hE.2.1.1 "java/lang/IndexOutOfBoundsException" (by decide +kernel))) hc1 hc2 hc3 ?_
      · have hy9 : y9 ∈ ([] : List ExceptionTableEntry) := hy9
        exact absurd hy9 List.not_mem_nil
      refine W.eq (g2 := F0 m 14 ls [.ref q9]) rfl ?_
      refine lv_astore (lv' := [(4, .ref q9), (3, .int (-1000)), (0, .ref a), (1, .int x1), (2, .int x2)]) hx hb dL_truckAt_14 hl (by decide) rfl (fun ls hl => ?_)
      refine lv_sipush (v := (-1000)) hx hb dL_truckAt_16 (by decide) ?_
      exact W.iret (v := (-1000)) hx hb hr (fun t2 ht2 hW => ⟨⟨(-1000), (), rfl, (show w_truckAt σ x1 x2 = (-1000) by unfold w_truckAt; rw [hB1]).symm, by show ft_LW D k Z sz a _ t2.heap; rw [ht2]; exact hB2⟩, hS1.F ht2⟩) hS1.2.2 dL_truckAt_19
    rcases List.mem_cons.mp hm9 with rfl | hm9
    · refine vx_catch hown (tableOf [(4, 11, 14, 23)]) ⟨4, 11, 20, 25⟩ (tableOf [(4, 11, 26, 46)]) (htab.trans rfl) (fun y9 hy9 => ?_) rfl (by decide) (va_Nw.use rfl (hEL.2.2.2.2 (25, "java/lang/IllegalArgumentException") (by decide +kernel))) (va_Nw.use rfl (hE.2.1.1 "java/lang/IllegalArgumentException" (by decide +kernel))) hc1 hc2 hc3 ?_
      · have hy9 : y9 ∈ ([⟨4, 11, 14, 23⟩] : List ExceptionTableEntry) := hy9
        rcases List.mem_cons.mp hy9 with rfl | hy9
        · exact Or.inr ⟨by decide, _, va_Nw.use rfl (hEL.2.2.2.2 (23, "java/lang/IndexOutOfBoundsException") (by decide +kernel)), hEL.2.1 _ (by decide +kernel) _ (by decide +kernel) (by decide)⟩
        exact absurd hy9 List.not_mem_nil
      refine W.eq (g2 := F0 m 20 ls [.ref q9]) rfl ?_
      refine lv_astore (lv' := [(4, .ref q9), (3, .int (-1000)), (0, .ref a), (1, .int x1), (2, .int x2)]) hx hb dL_truckAt_20 hl (by decide) rfl (fun ls hl => ?_)
      refine lv_sipush (v := (-1000)) hx hb dL_truckAt_22 (by decide) ?_
      exact W.iret (v := (-1000)) hx hb hr (fun t2 ht2 hW => ⟨⟨(-1000), (), rfl, (show w_truckAt σ x1 x2 = (-1000) by unfold w_truckAt; rw [hB1]).symm, by show ft_LW D k Z sz a _ t2.heap; rw [ht2]; exact hB2⟩, hS1.F ht2⟩) hS1.2.2 dL_truckAt_25
    rcases List.mem_cons.mp hm9 with rfl | hm9
    · refine vx_catch hown (tableOf [(4, 11, 14, 23), (4, 11, 20, 25)]) ⟨4, 11, 26, 46⟩ (tableOf []) (htab.trans rfl) (fun y9 hy9 => ?_) rfl (by decide) (va_Nw.use rfl (hEL.2.2.2.2 (46, "java/util/NoSuchElementException") (by decide +kernel))) (va_Nw.use rfl (hE.2.1.1 "java/util/NoSuchElementException" (by decide +kernel))) hc1 hc2 hc3 ?_
      · have hy9 : y9 ∈ ([⟨4, 11, 14, 23⟩, ⟨4, 11, 20, 25⟩] : List ExceptionTableEntry) := hy9
        rcases List.mem_cons.mp hy9 with rfl | hy9
        · exact Or.inr ⟨by decide, _, va_Nw.use rfl (hEL.2.2.2.2 (23, "java/lang/IndexOutOfBoundsException") (by decide +kernel)), hEL.2.1 _ (by decide +kernel) _ (by decide +kernel) (by decide)⟩
        rcases List.mem_cons.mp hy9 with rfl | hy9
        · exact Or.inr ⟨by decide, _, va_Nw.use rfl (hEL.2.2.2.2 (25, "java/lang/IllegalArgumentException") (by decide +kernel)), hEL.2.1 _ (by decide +kernel) _ (by decide +kernel) (by decide)⟩
        exact absurd hy9 List.not_mem_nil
      refine W.eq (g2 := F0 m 26 ls [.ref q9]) rfl ?_
      refine lv_astore (lv' := [(4, .ref q9), (3, .int (-1000)), (0, .ref a), (1, .int x1), (2, .int x2)]) hx hb dL_truckAt_26 hl (by decide) rfl (fun ls hl => ?_)
      refine lv_sipush (v := (-1000)) hx hb dL_truckAt_28 (by decide) ?_
      exact W.iret (v := (-1000)) hx hb hr (fun t2 ht2 hW => ⟨⟨(-1000), (), rfl, (show w_truckAt σ x1 x2 = (-1000) by unfold w_truckAt; rw [hB1]).symm, by show ft_LW D k Z sz a _ t2.heap; rw [ht2]; exact hB2⟩, hS1.F ht2⟩) hS1.2.2 dL_truckAt_31
    exact absurd hm9 List.not_mem_nil
  rw [ht] at hB
  refine lv_istore_n (lv' := [(3, .int z), (0, .ref a), (1, .int x1), (2, .int x2)]) hx hb dL_truckAt_10 rfl hl (by decide) rfl (fun ls hl => ?_)
  refine lv_goto (tgt := 32) hx hb dL_truckAt_11 (by decide) ?_
  refine lv_iload_n hx hb dL_truckAt_32 rfl (lv_at hl 0 rfl) ?_
  exact W.iret (v := z) hx hb hr (fun t2 ht2 hW => ⟨⟨z, (), rfl, (show z = w_truckAt σ x1 x2 by unfold w_truckAt; rw [hw]), by show ft_LW D k Z sz a _ t2.heap; rw [ht2]; exact hB⟩, hS1.F ht2⟩) hS1.2.2 dL_truckAt_33
def w_pitchOf (σ : ft_Sg) (x1 : Int32) (x2 : Int32) : Int32 := match (l_pitchOf σ x1 x2) with
  | .ok z => z
  | .error _ => (-1000)
set_option maxHeartbeats 4000000 in
set_option maxRecDepth 100000 in
theorem d_L_pitchOf (l : Launch) (hl0 : l.stackTraces = false) (D : va_G) (Z : Nat → Nat → Nat) (k : Nat → ClassId) (sz : ft_SZ) (a : Nat) (σ : ft_Sg) (x1 : Int32) (x2 : Int32) (hEx : ∀ E, (l_pitchOf σ x1 x2) = .error E → E ∈ ["java/lang/IndexOutOfBoundsException", "java/lang/IllegalArgumentException", "java/util/NoSuchElementException"]) : Met l yL_pitchOf wsL_pitchOf ({ frames := 8, cells := 3, slots := 18, locals := 153 }) (ft_PM D k Z sz a σ [.ref a, .int x1, .int x2]) (ft_QWr D k Z sz a σ (w_pitchOf σ x1 x2)) 3 18 (ft_AL sz) := by
  refine va_MetW (cc := cL_pitchOf) (maxL := 5) (ret := (some .int)) (hh := [(4, 11, 14, 23), (4, 11, 20, 25), (4, 11, 26, 46)]) (by decide) rfl ?_
  intro p e s m args below meth c s₁ B hml hv
  obtain ⟨hargs, hP, hEL, hz⟩ := hv
  have hE := hEL.1
  subst hargs
  have hx := B.exec
  have hb := B.bytes
  have hr := B.returns
  have hts := atoms_spec (ws := wsL_pitchOf) B.pre
  have hown : s.vm.findClass RL = some m.cls := findClass_of_methodNamed B.named
  have hlocks := B.notSynchronized
  have htab : c.exceptionTable.toList = tableOf [(4, 11, 14, 23), (4, 11, 20, 25), (4, 11, 26, 46)] := vx_table (x := yL_pitchOf) B (hts _ List.mem_cons_self)
  have hS : va_S (ft_AL sz) s.heap s.heap [] := va_S.rf
  have hl := lv_entry ([.ref a, .int x1, .int x2]) (n := 5) (Nat.le_of_ble_eq_true rfl)
  rw [lg_entry_eq]
  generalize (lg_sl ([.ref a, .int x1, .int x2]) ++ List.replicate (5 - (lg_sl ([.ref a, .int x1, .int x2])).length) Slot.unset).toArray = ls at hl ⊢
  have hl : lv_has ls 5 [(0, .ref a), (1, .int x1), (2, .int x2)] := hl
  refine lv_sipush (v := (-1000)) hx hb dL_pitchOf_0 (by decide) ?_
  refine lv_istore_n (lv' := [(3, .int (-1000)), (0, .ref a), (1, .int x1), (2, .int x2)]) hx hb dL_pitchOf_3 rfl hl (by decide) rfl (fun ls hl => ?_)
  refine lv_aload_n hx hb dL_pitchOf_4 rfl (lv_at hl 1 rfl) ?_
  refine lv_iload_n hx hb dL_pitchOf_5 rfl (lv_at hl 2 rfl) ?_
  refine lv_iload_n hx hb dL_pitchOf_6 rfl (lv_at hl 3 rfl) ?_
  refine vx_calli (vx_runV (As := [.int x1, .int x2]) (rest := []) ⟨hx, hb, hml, hown, hts⟩ (cl_pitchOf l hl0 D Z k sz a σ x1 x2) (cwV 2 hts gL_pitchOf_X7_pitchOf rfl rfl rfl (by decide +kernel) ⟨Nat.le_of_ble_eq_true rfl, Nat.le_of_ble_eq_true rfl⟩) (ft_preL hE hz hS hP) rfl rfl hl.1 rfl (lv_room (Nat.le_of_ble_eq_true rfl)) dL_pitchOf_7 ⟨Nat.le_of_ble_eq_true rfl, Nat.le_of_ble_eq_true rfl⟩) hS (fun _ _ h => h) (fun _ h => h) (fun _ _ h => h) (fun E ce q9 u t H1 locs1 ht hvm hu hB hz1 hk1 hS1 hc1 hc2 hc3 => ?_) (fun z u t H1 locs1 ht hvm hw hB hz1 hk1 hS1 => ?_)
  · obtain ⟨hB1, hB2⟩ := hB
    rw [ht] at hB2
    have hm9 := hEx E hB1
    rcases List.mem_cons.mp hm9 with rfl | hm9
    · refine vx_catch hown (tableOf []) ⟨4, 11, 14, 23⟩ (tableOf [(4, 11, 20, 25), (4, 11, 26, 46)]) (htab.trans rfl) (fun y9 hy9 => ?_) rfl (by decide) (va_Nw.use rfl (hEL.2.2.2.2 (23, "java/lang/IndexOutOfBoundsException") (by decide +kernel))) (va_Nw.use rfl (hE.2.1.1 "java/lang/IndexOutOfBoundsException" (by decide +kernel))) hc1 hc2 hc3 ?_
      · have hy9 : y9 ∈ ([] : List ExceptionTableEntry) := hy9
        exact absurd hy9 List.not_mem_nil
      refine W.eq (g2 := F0 m 14 ls [.ref q9]) rfl ?_
      refine lv_astore (lv' := [(4, .ref q9), (3, .int (-1000)), (0, .ref a), (1, .int x1), (2, .int x2)]) hx hb dL_pitchOf_14 hl (by decide) rfl (fun ls hl => ?_)
      refine lv_sipush (v := (-1000)) hx hb dL_pitchOf_16 (by decide) ?_
      exact W.iret (v := (-1000)) hx hb hr (fun t2 ht2 hW => ⟨⟨(-1000), (), rfl, (show w_pitchOf σ x1 x2 = (-1000) by unfold w_pitchOf; rw [hB1]).symm, by show ft_LW D k Z sz a _ t2.heap; rw [ht2]; exact hB2⟩, hS1.F ht2⟩) hS1.2.2 dL_pitchOf_19
    rcases List.mem_cons.mp hm9 with rfl | hm9
    · refine vx_catch hown (tableOf [(4, 11, 14, 23)]) ⟨4, 11, 20, 25⟩ (tableOf [(4, 11, 26, 46)]) (htab.trans rfl) (fun y9 hy9 => ?_) rfl (by decide) (va_Nw.use rfl (hEL.2.2.2.2 (25, "java/lang/IllegalArgumentException") (by decide +kernel))) (va_Nw.use rfl (hE.2.1.1 "java/lang/IllegalArgumentException" (by decide +kernel))) hc1 hc2 hc3 ?_
      · have hy9 : y9 ∈ ([⟨4, 11, 14, 23⟩] : List ExceptionTableEntry) := hy9
        rcases List.mem_cons.mp hy9 with rfl | hy9
        · exact Or.inr ⟨by decide, _, va_Nw.use rfl (hEL.2.2.2.2 (23, "java/lang/IndexOutOfBoundsException") (by decide +kernel)), hEL.2.1 _ (by decide +kernel) _ (by decide +kernel) (by decide)⟩
        exact absurd hy9 List.not_mem_nil
      refine W.eq (g2 := F0 m 20 ls [.ref q9]) rfl ?_
      refine lv_astore (lv' := [(4, .ref q9), (3, .int (-1000)), (0, .ref a), (1, .int x1), (2, .int x2)]) hx hb dL_pitchOf_20 hl (by decide) rfl (fun ls hl => ?_)
      refine lv_sipush (v := (-1000)) hx hb dL_pitchOf_22 (by decide) ?_
      exact W.iret (v := (-1000)) hx hb hr (fun t2 ht2 hW => ⟨⟨(-1000), (), rfl, (show w_pitchOf σ x1 x2 = (-1000) by unfold w_pitchOf; rw [hB1]).symm, by show ft_LW D k Z sz a _ t2.heap; rw [ht2]; exact hB2⟩, hS1.F ht2⟩) hS1.2.2 dL_pitchOf_25
    rcases List.mem_cons.mp hm9 with rfl | hm9
    · refine vx_catch hown (tableOf [(4, 11, 14, 23), (4, 11, 20, 25)]) ⟨4, 11, 26, 46⟩ (tableOf []) (htab.trans rfl) (fun y9 hy9 => ?_) rfl (by decide) (va_Nw.use rfl (hEL.2.2.2.2 (46, "java/util/NoSuchElementException") (by decide +kernel))) (va_Nw.use rfl (hE.2.1.1 "java/util/NoSuchElementException" (by decide +kernel))) hc1 hc2 hc3 ?_
      · have hy9 : y9 ∈ ([⟨4, 11, 14, 23⟩, ⟨4, 11, 20, 25⟩] : List ExceptionTableEntry) := hy9
        rcases List.mem_cons.mp hy9 with rfl | hy9
        · exact Or.inr ⟨by decide, _, va_Nw.use rfl (hEL.2.2.2.2 (23, "java/lang/IndexOutOfBoundsException") (by decide +kernel)), hEL.2.1 _ (by decide +kernel) _ (by decide +kernel) (by decide)⟩
        rcases List.mem_cons.mp hy9 with rfl | hy9
        · exact Or.inr ⟨by decide, _, va_Nw.use rfl (hEL.2.2.2.2 (25, "java/lang/IllegalArgumentException") (by decide +kernel)), hEL.2.1 _ (by decide +kernel) _ (by decide +kernel) (by decide)⟩
        exact absurd hy9 List.not_mem_nil
      refine W.eq (g2 := F0 m 26 ls [.ref q9]) rfl ?_
      refine lv_astore (lv' := [(4, .ref q9), (3, .int (-1000)), (0, .ref a), (1, .int x1), (2, .int x2)]) hx hb dL_pitchOf_26 hl (by decide) rfl (fun ls hl => ?_)
      refine lv_sipush (v := (-1000)) hx hb dL_pitchOf_28 (by decide) ?_
      exact W.iret (v := (-1000)) hx hb hr (fun t2 ht2 hW => ⟨⟨(-1000), (), rfl, (show w_pitchOf σ x1 x2 = (-1000) by unfold w_pitchOf; rw [hB1]).symm, by show ft_LW D k Z sz a _ t2.heap; rw [ht2]; exact hB2⟩, hS1.F ht2⟩) hS1.2.2 dL_pitchOf_31
    exact absurd hm9 List.not_mem_nil
  rw [ht] at hB
  refine lv_istore_n (lv' := [(3, .int z), (0, .ref a), (1, .int x1), (2, .int x2)]) hx hb dL_pitchOf_10 rfl hl (by decide) rfl (fun ls hl => ?_)
  refine lv_goto (tgt := 32) hx hb dL_pitchOf_11 (by decide) ?_
  refine lv_iload_n hx hb dL_pitchOf_32 rfl (lv_at hl 0 rfl) ?_
  exact W.iret (v := z) hx hb hr (fun t2 ht2 hW => ⟨⟨z, (), rfl, (show z = w_pitchOf σ x1 x2 by unfold w_pitchOf; rw [hw]), by show ft_LW D k Z sz a _ t2.heap; rw [ht2]; exact hB⟩, hS1.F ht2⟩) hS1.2.2 dL_pitchOf_33
def w_firstFreeDay (σ : ft_Sg) (x1 : Int32) : Int32 := match (l_firstFreeDay σ x1) with
  | .ok z => z
  | .error _ => (-1000)
set_option maxHeartbeats 4000000 in
set_option maxRecDepth 100000 in
theorem d_L_firstFreeDay (l : Launch) (hl0 : l.stackTraces = false) (D : va_G) (Z : Nat → Nat → Nat) (k : Nat → ClassId) (sz : ft_SZ) (a : Nat) (σ : ft_Sg) (x1 : Int32) (hEx : ∀ E, (l_firstFreeDay σ x1) = .error E → E ∈ ["java/lang/IndexOutOfBoundsException", "java/util/NoSuchElementException"]) : Met l yL_firstFreeDay wsL_firstFreeDay ({ frames := 8, cells := 2, slots := 12, locals := 152 }) (ft_PM D k Z sz a σ [.ref a, .int x1]) (ft_QWr D k Z sz a σ (w_firstFreeDay σ x1)) 2 12 (ft_AL sz) := by
  refine va_MetW (cc := cL_firstFreeDay) (maxL := 4) (ret := (some .int)) (hh := [(4, 10, 13, 23), (4, 10, 18, 46)]) (by decide) rfl ?_
  intro p e s m args below meth c s₁ B hml hv
  obtain ⟨hargs, hP, hEL, hz⟩ := hv
  have hE := hEL.1
  subst hargs
  have hx := B.exec
  have hb := B.bytes
  have hr := B.returns
  have hts := atoms_spec (ws := wsL_firstFreeDay) B.pre
  have hown : s.vm.findClass RL = some m.cls := findClass_of_methodNamed B.named
  have hlocks := B.notSynchronized
  have htab : c.exceptionTable.toList = tableOf [(4, 10, 13, 23), (4, 10, 18, 46)] := vx_table (x := yL_firstFreeDay) B (hts _ List.mem_cons_self)
  have hS : va_S (ft_AL sz) s.heap s.heap [] := va_S.rf
  have hl := lv_entry ([.ref a, .int x1]) (n := 4) (Nat.le_of_ble_eq_true rfl)
  rw [lg_entry_eq]
  generalize (lg_sl ([.ref a, .int x1]) ++ List.replicate (4 - (lg_sl ([.ref a, .int x1])).length) Slot.unset).toArray = ls at hl ⊢
  have hl : lv_has ls 4 [(0, .ref a), (1, .int x1)] := hl
  refine lv_sipush (v := (-1000)) hx hb dL_firstFreeDay_0 (by decide) ?_
  refine lv_istore_n (lv' := [(2, .int (-1000)), (0, .ref a), (1, .int x1)]) hx hb dL_firstFreeDay_3 rfl hl (by decide) rfl (fun ls hl => ?_)
  refine lv_aload_n hx hb dL_firstFreeDay_4 rfl (lv_at hl 1 rfl) ?_
  refine lv_iload_n hx hb dL_firstFreeDay_5 rfl (lv_at hl 2 rfl) ?_
  refine vx_calli (vx_runV (As := [.int x1]) (rest := []) ⟨hx, hb, hml, hown, hts⟩ (cl_firstFreeDay l hl0 D Z k sz a σ x1) (cwV 1 hts gL_firstFreeDay_X7_firstFreeDay rfl rfl rfl (by decide +kernel) ⟨Nat.le_of_ble_eq_true rfl, Nat.le_of_ble_eq_true rfl⟩) (ft_preL hE hz hS hP) rfl rfl hl.1 rfl (lv_room (Nat.le_of_ble_eq_true rfl)) dL_firstFreeDay_6 ⟨Nat.le_of_ble_eq_true rfl, Nat.le_of_ble_eq_true rfl⟩) hS (fun _ _ h => h) (fun _ h => h) (fun _ _ h => h) (fun E ce q9 u t H1 locs1 ht hvm hu hB hz1 hk1 hS1 hc1 hc2 hc3 => ?_) (fun z u t H1 locs1 ht hvm hw hB hz1 hk1 hS1 => ?_)
  · obtain ⟨hB1, hB2⟩ := hB
    rw [ht] at hB2
    have hm9 := hEx E hB1
    rcases List.mem_cons.mp hm9 with rfl | hm9
    · refine vx_catch hown (tableOf []) ⟨4, 10, 13, 23⟩ (tableOf [(4, 10, 18, 46)]) (htab.trans rfl) (fun y9 hy9 => ?_) rfl (by decide) (va_Nw.use rfl (hEL.2.2.2.2 (23, "java/lang/IndexOutOfBoundsException") (by decide +kernel))) (va_Nw.use rfl (hE.2.1.1 "java/lang/IndexOutOfBoundsException" (by decide +kernel))) hc1 hc2 hc3 ?_
      · have hy9 : y9 ∈ ([] : List ExceptionTableEntry) := hy9
        exact absurd hy9 List.not_mem_nil
      refine W.eq (g2 := F0 m 13 ls [.ref q9]) rfl ?_
      refine lv_astore_n (lv' := [(3, .ref q9), (2, .int (-1000)), (0, .ref a), (1, .int x1)]) hx hb dL_firstFreeDay_13 rfl hl (by decide) rfl (fun ls hl => ?_)
      refine lv_sipush (v := (-1000)) hx hb dL_firstFreeDay_14 (by decide) ?_
      exact W.iret (v := (-1000)) hx hb hr (fun t2 ht2 hW => ⟨⟨(-1000), (), rfl, (show w_firstFreeDay σ x1 = (-1000) by unfold w_firstFreeDay; rw [hB1]).symm, by show ft_LW D k Z sz a _ t2.heap; rw [ht2]; exact hB2⟩, hS1.F ht2⟩) hS1.2.2 dL_firstFreeDay_17
    rcases List.mem_cons.mp hm9 with rfl | hm9
    · refine vx_catch hown (tableOf [(4, 10, 13, 23)]) ⟨4, 10, 18, 46⟩ (tableOf []) (htab.trans rfl) (fun y9 hy9 => ?_) rfl (by decide) (va_Nw.use rfl (hEL.2.2.2.2 (46, "java/util/NoSuchElementException") (by decide +kernel))) (va_Nw.use rfl (hE.2.1.1 "java/util/NoSuchElementException" (by decide +kernel))) hc1 hc2 hc3 ?_
      · have hy9 : y9 ∈ ([⟨4, 10, 13, 23⟩] : List ExceptionTableEntry) := hy9
        rcases List.mem_cons.mp hy9 with rfl | hy9
        · exact Or.inr ⟨by decide, _, va_Nw.use rfl (hEL.2.2.2.2 (23, "java/lang/IndexOutOfBoundsException") (by decide +kernel)), hEL.2.1 _ (by decide +kernel) _ (by decide +kernel) (by decide)⟩
        exact absurd hy9 List.not_mem_nil
      refine W.eq (g2 := F0 m 18 ls [.ref q9]) rfl ?_
      refine lv_astore_n (lv' := [(3, .ref q9), (2, .int (-1000)), (0, .ref a), (1, .int x1)]) hx hb dL_firstFreeDay_18 rfl hl (by decide) rfl (fun ls hl => ?_)
      refine lv_sipush (v := (-1000)) hx hb dL_firstFreeDay_19 (by decide) ?_
      exact W.iret (v := (-1000)) hx hb hr (fun t2 ht2 hW => ⟨⟨(-1000), (), rfl, (show w_firstFreeDay σ x1 = (-1000) by unfold w_firstFreeDay; rw [hB1]).symm, by show ft_LW D k Z sz a _ t2.heap; rw [ht2]; exact hB2⟩, hS1.F ht2⟩) hS1.2.2 dL_firstFreeDay_22
    exact absurd hm9 List.not_mem_nil
  rw [ht] at hB
  refine lv_istore_n (lv' := [(2, .int z), (0, .ref a), (1, .int x1)]) hx hb dL_firstFreeDay_9 rfl hl (by decide) rfl (fun ls hl => ?_)
  refine lv_goto (tgt := 23) hx hb dL_firstFreeDay_10 (by decide) ?_
  refine lv_iload_n hx hb dL_firstFreeDay_23 rfl (lv_at hl 0 rfl) ?_
  exact W.iret (v := z) hx hb hr (fun t2 ht2 hW => ⟨⟨z, (), rfl, (show z = w_firstFreeDay σ x1 by unfold w_firstFreeDay; rw [hw]), by show ft_LW D k Z sz a _ t2.heap; rw [ht2]; exact hB⟩, hS1.F ht2⟩) hS1.2.2 dL_firstFreeDay_24
def w_firstFreePitch (σ : ft_Sg) (x1 : Int32) : Int32 := match (l_firstFreePitch σ x1) with
  | .ok z => z
  | .error _ => (-1000)
set_option maxHeartbeats 4000000 in
set_option maxRecDepth 100000 in
theorem d_L_firstFreePitch (l : Launch) (hl0 : l.stackTraces = false) (D : va_G) (Z : Nat → Nat → Nat) (k : Nat → ClassId) (sz : ft_SZ) (a : Nat) (σ : ft_Sg) (x1 : Int32) (hEx : ∀ E, (l_firstFreePitch σ x1) = .error E → E ∈ ["java/lang/IllegalArgumentException", "java/util/NoSuchElementException"]) : Met l yL_firstFreePitch wsL_firstFreePitch ({ frames := 8, cells := 2, slots := 12, locals := 151 }) (ft_PM D k Z sz a σ [.ref a, .int x1]) (ft_QWr D k Z sz a σ (w_firstFreePitch σ x1)) 2 12 (ft_AL sz) := by
  refine va_MetW (cc := cL_firstFreePitch) (maxL := 4) (ret := (some .int)) (hh := [(4, 10, 13, 25), (4, 10, 18, 46)]) (by decide) rfl ?_
  intro p e s m args below meth c s₁ B hml hv
  obtain ⟨hargs, hP, hEL, hz⟩ := hv
  have hE := hEL.1
  subst hargs
  have hx := B.exec
  have hb := B.bytes
  have hr := B.returns
  have hts := atoms_spec (ws := wsL_firstFreePitch) B.pre
  have hown : s.vm.findClass RL = some m.cls := findClass_of_methodNamed B.named
  have hlocks := B.notSynchronized
  have htab : c.exceptionTable.toList = tableOf [(4, 10, 13, 25), (4, 10, 18, 46)] := vx_table (x := yL_firstFreePitch) B (hts _ List.mem_cons_self)
  have hS : va_S (ft_AL sz) s.heap s.heap [] := va_S.rf
  have hl := lv_entry ([.ref a, .int x1]) (n := 4) (Nat.le_of_ble_eq_true rfl)
  rw [lg_entry_eq]
  generalize (lg_sl ([.ref a, .int x1]) ++ List.replicate (4 - (lg_sl ([.ref a, .int x1])).length) Slot.unset).toArray = ls at hl ⊢
  have hl : lv_has ls 4 [(0, .ref a), (1, .int x1)] := hl
  refine lv_sipush (v := (-1000)) hx hb dL_firstFreePitch_0 (by decide) ?_
  refine lv_istore_n (lv' := [(2, .int (-1000)), (0, .ref a), (1, .int x1)]) hx hb dL_firstFreePitch_3 rfl hl (by decide) rfl (fun ls hl => ?_)
  refine lv_aload_n hx hb dL_firstFreePitch_4 rfl (lv_at hl 1 rfl) ?_
  refine lv_iload_n hx hb dL_firstFreePitch_5 rfl (lv_at hl 2 rfl) ?_
  refine vx_calli (vx_runV (As := [.int x1]) (rest := []) ⟨hx, hb, hml, hown, hts⟩ (cl_firstFreePitch l hl0 D Z k sz a σ x1) (cwV 1 hts gL_firstFreePitch_X7_firstFreePitch rfl rfl rfl (by decide +kernel) ⟨Nat.le_of_ble_eq_true rfl, Nat.le_of_ble_eq_true rfl⟩) (ft_preL hE hz hS hP) rfl rfl hl.1 rfl (lv_room (Nat.le_of_ble_eq_true rfl)) dL_firstFreePitch_6 ⟨Nat.le_of_ble_eq_true rfl, Nat.le_of_ble_eq_true rfl⟩) hS (fun _ _ h => h) (fun _ h => h) (fun _ _ h => h) (fun E ce q9 u t H1 locs1 ht hvm hu hB hz1 hk1 hS1 hc1 hc2 hc3 => ?_) (fun z u t H1 locs1 ht hvm hw hB hz1 hk1 hS1 => ?_)
  · obtain ⟨hB1, hB2⟩ := hB
    rw [ht] at hB2
    have hm9 := hEx E hB1
    rcases List.mem_cons.mp hm9 with rfl | hm9
    · refine vx_catch hown (tableOf []) ⟨4, 10, 13, 25⟩ (tableOf [(4, 10, 18, 46)]) (htab.trans rfl) (fun y9 hy9 => ?_) rfl (by decide) (va_Nw.use rfl (hEL.2.2.2.2 (25, "java/lang/IllegalArgumentException") (by decide +kernel))) (va_Nw.use rfl (hE.2.1.1 "java/lang/IllegalArgumentException" (by decide +kernel))) hc1 hc2 hc3 ?_
      · have hy9 : y9 ∈ ([] : List ExceptionTableEntry) := hy9
        exact absurd hy9 List.not_mem_nil
      refine W.eq (g2 := F0 m 13 ls [.ref q9]) rfl ?_
      refine lv_astore_n (lv' := [(3, .ref q9), (2, .int (-1000)), (0, .ref a), (1, .int x1)]) hx hb dL_firstFreePitch_13 rfl hl (by decide) rfl (fun ls hl => ?_)
      refine lv_sipush (v := (-1000)) hx hb dL_firstFreePitch_14 (by decide) ?_
      exact W.iret (v := (-1000)) hx hb hr (fun t2 ht2 hW => ⟨⟨(-1000), (), rfl, (show w_firstFreePitch σ x1 = (-1000) by unfold w_firstFreePitch; rw [hB1]).symm, by show ft_LW D k Z sz a _ t2.heap; rw [ht2]; exact hB2⟩, hS1.F ht2⟩) hS1.2.2 dL_firstFreePitch_17
    rcases List.mem_cons.mp hm9 with rfl | hm9
    · refine vx_catch hown (tableOf [(4, 10, 13, 25)]) ⟨4, 10, 18, 46⟩ (tableOf []) (htab.trans rfl) (fun y9 hy9 => ?_) rfl (by decide) (va_Nw.use rfl (hEL.2.2.2.2 (46, "java/util/NoSuchElementException") (by decide +kernel))) (va_Nw.use rfl (hE.2.1.1 "java/util/NoSuchElementException" (by decide +kernel))) hc1 hc2 hc3 ?_
      · have hy9 : y9 ∈ ([⟨4, 10, 13, 25⟩] : List ExceptionTableEntry) := hy9
        rcases List.mem_cons.mp hy9 with rfl | hy9
        · exact Or.inr ⟨by decide, _, va_Nw.use rfl (hEL.2.2.2.2 (25, "java/lang/IllegalArgumentException") (by decide +kernel)), hEL.2.1 _ (by decide +kernel) _ (by decide +kernel) (by decide)⟩
        exact absurd hy9 List.not_mem_nil
      refine W.eq (g2 := F0 m 18 ls [.ref q9]) rfl ?_
      refine lv_astore_n (lv' := [(3, .ref q9), (2, .int (-1000)), (0, .ref a), (1, .int x1)]) hx hb dL_firstFreePitch_18 rfl hl (by decide) rfl (fun ls hl => ?_)
      refine lv_sipush (v := (-1000)) hx hb dL_firstFreePitch_19 (by decide) ?_
      exact W.iret (v := (-1000)) hx hb hr (fun t2 ht2 hW => ⟨⟨(-1000), (), rfl, (show w_firstFreePitch σ x1 = (-1000) by unfold w_firstFreePitch; rw [hB1]).symm, by show ft_LW D k Z sz a _ t2.heap; rw [ht2]; exact hB2⟩, hS1.F ht2⟩) hS1.2.2 dL_firstFreePitch_22
    exact absurd hm9 List.not_mem_nil
  rw [ht] at hB
  refine lv_istore_n (lv' := [(2, .int z), (0, .ref a), (1, .int x1)]) hx hb dL_firstFreePitch_9 rfl hl (by decide) rfl (fun ls hl => ?_)
  refine lv_goto (tgt := 23) hx hb dL_firstFreePitch_10 (by decide) ?_
  refine lv_iload_n hx hb dL_firstFreePitch_23 rfl (lv_at hl 0 rfl) ?_
  exact W.iret (v := z) hx hb hr (fun t2 ht2 hW => ⟨⟨z, (), rfl, (show z = w_firstFreePitch σ x1 by unfold w_firstFreePitch; rw [hw]), by show ft_LW D k Z sz a _ t2.heap; rw [ht2]; exact hB⟩, hS1.F ht2⟩) hS1.2.2 dL_firstFreePitch_24
def w_wantedDish (σ : ft_Sg) (x1 : Int32) (x2 : Int32) : Int32 := match (l_wantedDish σ x1 x2) with
  | .ok z => z
  | .error _ => (-1000)
set_option maxHeartbeats 4000000 in
set_option maxRecDepth 100000 in
theorem d_L_wantedDish (l : Launch) (hl0 : l.stackTraces = false) (D : va_G) (Z : Nat → Nat → Nat) (k : Nat → ClassId) (sz : ft_SZ) (a : Nat) (σ : ft_Sg) (x1 : Int32) (x2 : Int32) (hEx : ∀ E, (l_wantedDish σ x1 x2) = .error E → E ∈ ["java/lang/IndexOutOfBoundsException", "java/util/NoSuchElementException"]) : Met l yL_wantedDish wsL_wantedDish ({ frames := 8, cells := 2, slots := 12, locals := 153 }) (ft_PM D k Z sz a σ [.ref a, .int x1, .int x2]) (ft_QWr D k Z sz a σ (w_wantedDish σ x1 x2)) 2 12 (ft_AL sz) := by
  refine va_MetW (cc := cL_wantedDish) (maxL := 5) (ret := (some .int)) (hh := [(4, 11, 14, 23), (4, 11, 20, 46)]) (by decide) rfl ?_
  intro p e s m args below meth c s₁ B hml hv
  obtain ⟨hargs, hP, hEL, hz⟩ := hv
  have hE := hEL.1
  subst hargs
  have hx := B.exec
  have hb := B.bytes
  have hr := B.returns
  have hts := atoms_spec (ws := wsL_wantedDish) B.pre
  have hown : s.vm.findClass RL = some m.cls := findClass_of_methodNamed B.named
  have hlocks := B.notSynchronized
  have htab : c.exceptionTable.toList = tableOf [(4, 11, 14, 23), (4, 11, 20, 46)] := vx_table (x := yL_wantedDish) B (hts _ List.mem_cons_self)
  have hS : va_S (ft_AL sz) s.heap s.heap [] := va_S.rf
  have hl := lv_entry ([.ref a, .int x1, .int x2]) (n := 5) (Nat.le_of_ble_eq_true rfl)
  rw [lg_entry_eq]
  generalize (lg_sl ([.ref a, .int x1, .int x2]) ++ List.replicate (5 - (lg_sl ([.ref a, .int x1, .int x2])).length) Slot.unset).toArray = ls at hl ⊢
  have hl : lv_has ls 5 [(0, .ref a), (1, .int x1), (2, .int x2)] := hl
  refine lv_sipush (v := (-1000)) hx hb dL_wantedDish_0 (by decide) ?_
  refine lv_istore_n (lv' := [(3, .int (-1000)), (0, .ref a), (1, .int x1), (2, .int x2)]) hx hb dL_wantedDish_3 rfl hl (by decide) rfl (fun ls hl => ?_)
  refine lv_aload_n hx hb dL_wantedDish_4 rfl (lv_at hl 1 rfl) ?_
  refine lv_iload_n hx hb dL_wantedDish_5 rfl (lv_at hl 2 rfl) ?_
  refine lv_iload_n hx hb dL_wantedDish_6 rfl (lv_at hl 3 rfl) ?_
  refine vx_calli (vx_runV (As := [.int x1, .int x2]) (rest := []) ⟨hx, hb, hml, hown, hts⟩ (cl_wantedDish l hl0 D Z k sz a σ x1 x2) (cwV 2 hts gL_wantedDish_X7_wantedDish rfl rfl rfl (by decide +kernel) ⟨Nat.le_of_ble_eq_true rfl, Nat.le_of_ble_eq_true rfl⟩) (ft_preL hE hz hS hP) rfl rfl hl.1 rfl (lv_room (Nat.le_of_ble_eq_true rfl)) dL_wantedDish_7 ⟨Nat.le_of_ble_eq_true rfl, Nat.le_of_ble_eq_true rfl⟩) hS (fun _ _ h => h) (fun _ h => h) (fun _ _ h => h) (fun E ce q9 u t H1 locs1 ht hvm hu hB hz1 hk1 hS1 hc1 hc2 hc3 => ?_) (fun z u t H1 locs1 ht hvm hw hB hz1 hk1 hS1 => ?_)
  · obtain ⟨hB1, hB2⟩ := hB
    rw [ht] at hB2
    have hm9 := hEx E hB1
    rcases List.mem_cons.mp hm9 with rfl | hm9
    · refine vx_catch hown (tableOf []) ⟨4, 11, 14, 23⟩ (tableOf [(4, 11, 20, 46)]) (htab.trans rfl) (fun y9 hy9 => ?_) rfl (by decide) (va_Nw.use rfl (hEL.2.2.2.2 (23, "java/lang/IndexOutOfBoundsException") (by decide +kernel))) (va_Nw.use rfl (hE.2.1.1 "java/lang/IndexOutOfBoundsException" (by decide +kernel))) hc1 hc2 hc3 ?_
      · have hy9 : y9 ∈ ([] : List ExceptionTableEntry) := hy9
        exact absurd hy9 List.not_mem_nil
      refine W.eq (g2 := F0 m 14 ls [.ref q9]) rfl ?_
      refine lv_astore (lv' := [(4, .ref q9), (3, .int (-1000)), (0, .ref a), (1, .int x1), (2, .int x2)]) hx hb dL_wantedDish_14 hl (by decide) rfl (fun ls hl => ?_)
      refine lv_sipush (v := (-1000)) hx hb dL_wantedDish_16 (by decide) ?_
      exact W.iret (v := (-1000)) hx hb hr (fun t2 ht2 hW => ⟨⟨(-1000), (), rfl, (show w_wantedDish σ x1 x2 = (-1000) by unfold w_wantedDish; rw [hB1]).symm, by show ft_LW D k Z sz a _ t2.heap; rw [ht2]; exact hB2⟩, hS1.F ht2⟩) hS1.2.2 dL_wantedDish_19
    rcases List.mem_cons.mp hm9 with rfl | hm9
    · refine vx_catch hown (tableOf [(4, 11, 14, 23)]) ⟨4, 11, 20, 46⟩ (tableOf []) (htab.trans rfl) (fun y9 hy9 => ?_) rfl (by decide) (va_Nw.use rfl (hEL.2.2.2.2 (46, "java/util/NoSuchElementException") (by decide +kernel))) (va_Nw.use rfl (hE.2.1.1 "java/util/NoSuchElementException" (by decide +kernel))) hc1 hc2 hc3 ?_
      · have hy9 : y9 ∈ ([⟨4, 11, 14, 23⟩] : List ExceptionTableEntry) := hy9
        rcases List.mem_cons.mp hy9 with rfl | hy9
        · exact Or.inr ⟨by decide, _, va_Nw.use rfl (hEL.2.2.2.2 (23, "java/lang/IndexOutOfBoundsException") (by decide +kernel)), hEL.2.1 _ (by decide +kernel) _ (by decide +kernel) (by decide)⟩
        exact absurd hy9 List.not_mem_nil
      refine W.eq (g2 := F0 m 20 ls [.ref q9]) rfl ?_
      refine lv_astore (lv' := [(4, .ref q9), (3, .int (-1000)), (0, .ref a), (1, .int x1), (2, .int x2)]) hx hb dL_wantedDish_20 hl (by decide) rfl (fun ls hl => ?_)
      refine lv_sipush (v := (-1000)) hx hb dL_wantedDish_22 (by decide) ?_
      exact W.iret (v := (-1000)) hx hb hr (fun t2 ht2 hW => ⟨⟨(-1000), (), rfl, (show w_wantedDish σ x1 x2 = (-1000) by unfold w_wantedDish; rw [hB1]).symm, by show ft_LW D k Z sz a _ t2.heap; rw [ht2]; exact hB2⟩, hS1.F ht2⟩) hS1.2.2 dL_wantedDish_25
    exact absurd hm9 List.not_mem_nil
  rw [ht] at hB
  refine lv_istore_n (lv' := [(3, .int z), (0, .ref a), (1, .int x1), (2, .int x2)]) hx hb dL_wantedDish_10 rfl hl (by decide) rfl (fun ls hl => ?_)
  refine lv_goto (tgt := 26) hx hb dL_wantedDish_11 (by decide) ?_
  refine lv_iload_n hx hb dL_wantedDish_26 rfl (lv_at hl 0 rfl) ?_
  exact W.iret (v := z) hx hb hr (fun t2 ht2 hW => ⟨⟨z, (), rfl, (show z = w_wantedDish σ x1 x2 by unfold w_wantedDish; rw [hw]), by show ft_LW D k Z sz a _ t2.heap; rw [ht2]; exact hB⟩, hS1.F ht2⟩) hS1.2.2 dL_wantedDish_27
def w_truckByCoins (σ : ft_Sg) (x1 : Int32) : Int32 := match (l_truckByCoins σ x1) with
  | .ok z => z
  | .error _ => (-1000)
set_option maxHeartbeats 4000000 in
set_option maxRecDepth 100000 in
theorem d_L_truckByCoins (l : Launch) (hl0 : l.stackTraces = false) (D : va_G) (Z : Nat → Nat → Nat) (k : Nat → ClassId) (sz : ft_SZ) (a : Nat) (σ : ft_Sg) (x1 : Int32) (hEx : ∀ E, (l_truckByCoins σ x1) = .error E → E ∈ ["java/util/NoSuchElementException"]) : Met l yL_truckByCoins wsL_truckByCoins ({ frames := 8, cells := 1, slots := 6, locals := 151 }) (ft_PM D k Z sz a σ [.ref a, .int x1]) (ft_QWr D k Z sz a σ (w_truckByCoins σ x1)) 1 6 (ft_AL sz) := by
  refine va_MetW (cc := cL_truckByCoins) (maxL := 4) (ret := (some .int)) (hh := [(4, 10, 13, 46)]) (by decide) rfl ?_
  intro p e s m args below meth c s₁ B hml hv
  obtain ⟨hargs, hP, hEL, hz⟩ := hv
  have hE := hEL.1
  subst hargs
  have hx := B.exec
  have hb := B.bytes
  have hr := B.returns
  have hts := atoms_spec (ws := wsL_truckByCoins) B.pre
  have hown : s.vm.findClass RL = some m.cls := findClass_of_methodNamed B.named
  have hlocks := B.notSynchronized
  have htab : c.exceptionTable.toList = tableOf [(4, 10, 13, 46)] := vx_table (x := yL_truckByCoins) B (hts _ List.mem_cons_self)
  have hS : va_S (ft_AL sz) s.heap s.heap [] := va_S.rf
  have hl := lv_entry ([.ref a, .int x1]) (n := 4) (Nat.le_of_ble_eq_true rfl)
  rw [lg_entry_eq]
  generalize (lg_sl ([.ref a, .int x1]) ++ List.replicate (4 - (lg_sl ([.ref a, .int x1])).length) Slot.unset).toArray = ls at hl ⊢
  have hl : lv_has ls 4 [(0, .ref a), (1, .int x1)] := hl
  refine lv_sipush (v := (-1000)) hx hb dL_truckByCoins_0 (by decide) ?_
  refine lv_istore_n (lv' := [(2, .int (-1000)), (0, .ref a), (1, .int x1)]) hx hb dL_truckByCoins_3 rfl hl (by decide) rfl (fun ls hl => ?_)
  refine lv_aload_n hx hb dL_truckByCoins_4 rfl (lv_at hl 1 rfl) ?_
  refine lv_iload_n hx hb dL_truckByCoins_5 rfl (lv_at hl 2 rfl) ?_
  refine vx_calli (vx_runV (As := [.int x1]) (rest := []) ⟨hx, hb, hml, hown, hts⟩ (cl_truckByCoins l hl0 D Z k sz a σ x1) (cwV 1 hts gL_truckByCoins_X7_truckByCoins rfl rfl rfl (by decide +kernel) ⟨Nat.le_of_ble_eq_true rfl, Nat.le_of_ble_eq_true rfl⟩) (ft_preL hE hz hS hP) rfl rfl hl.1 rfl (lv_room (Nat.le_of_ble_eq_true rfl)) dL_truckByCoins_6 ⟨Nat.le_of_ble_eq_true rfl, Nat.le_of_ble_eq_true rfl⟩) hS (fun _ _ h => h) (fun _ h => h) (fun _ _ h => h) (fun E ce q9 u t H1 locs1 ht hvm hu hB hz1 hk1 hS1 hc1 hc2 hc3 => ?_) (fun z u t H1 locs1 ht hvm hw hB hz1 hk1 hS1 => ?_)
  · obtain ⟨hB1, hB2⟩ := hB
    rw [ht] at hB2
    have hm9 := hEx E hB1
    rcases List.mem_cons.mp hm9 with rfl | hm9
    · refine vx_catch hown (tableOf []) ⟨4, 10, 13, 46⟩ (tableOf []) (htab.trans rfl) (fun y9 hy9 => ?_) rfl (by decide) (va_Nw.use rfl (hEL.2.2.2.2 (46, "java/util/NoSuchElementException") (by decide +kernel))) (va_Nw.use rfl (hE.2.1.1 "java/util/NoSuchElementException" (by decide +kernel))) hc1 hc2 hc3 ?_
      · have hy9 : y9 ∈ ([] : List ExceptionTableEntry) := hy9
        exact absurd hy9 List.not_mem_nil
      refine W.eq (g2 := F0 m 13 ls [.ref q9]) rfl ?_
      refine lv_astore_n (lv' := [(3, .ref q9), (2, .int (-1000)), (0, .ref a), (1, .int x1)]) hx hb dL_truckByCoins_13 rfl hl (by decide) rfl (fun ls hl => ?_)
      refine lv_sipush (v := (-1000)) hx hb dL_truckByCoins_14 (by decide) ?_
      exact W.iret (v := (-1000)) hx hb hr (fun t2 ht2 hW => ⟨⟨(-1000), (), rfl, (show w_truckByCoins σ x1 = (-1000) by unfold w_truckByCoins; rw [hB1]).symm, by show ft_LW D k Z sz a _ t2.heap; rw [ht2]; exact hB2⟩, hS1.F ht2⟩) hS1.2.2 dL_truckByCoins_17
    exact absurd hm9 List.not_mem_nil
  rw [ht] at hB
  refine lv_istore_n (lv' := [(2, .int z), (0, .ref a), (1, .int x1)]) hx hb dL_truckByCoins_9 rfl hl (by decide) rfl (fun ls hl => ?_)
  refine lv_goto (tgt := 18) hx hb dL_truckByCoins_10 (by decide) ?_
  refine lv_iload_n hx hb dL_truckByCoins_18 rfl (lv_at hl 0 rfl) ?_
  exact W.iret (v := z) hx hb hr (fun t2 ht2 hW => ⟨⟨z, (), rfl, (show z = w_truckByCoins σ x1 by unfold w_truckByCoins; rw [hw]), by show ft_LW D k Z sz a _ t2.heap; rw [ht2]; exact hB⟩, hS1.F ht2⟩) hS1.2.2 dL_truckByCoins_19
def w_runScript (σ : ft_Sg)  : Int32 × ft_Sg := match (l_runScript σ).1 with
  | .ok z => (z, (l_runScript σ).2)
  | .error _ => ((-100000000), (l_runScript σ).2)
set_option maxHeartbeats 4000000 in
set_option maxRecDepth 100000 in
theorem d_L_runScript (l : Launch) (hl0 : l.stackTraces = false) (D : va_G) (Z : Nat → Nat → Nat) (k : Nat → ClassId) (sz : ft_SZ) (a : Nat) (σ : ft_Sg) (hpm : ∀ i, i < 8 → σ.2.1 i < 8) (hok : ft_ok259 σ.2.2.1 σ.2.2.2 60) (hg9 : ∀ n, n < 15 → σ.2.2.2.2.2.1 n < 9) (hEx : ∀ E, (l_runScript σ).1 = .error E → E ∈ ["java/lang/IllegalArgumentException", "java/lang/IllegalStateException"]) : Met l yL_runScript wsL_runScript ({ frames := 10, cells := 1, slots := 6, locals := 245 }) (ft_PM D k Z sz a σ [.ref a]) (ft_QLw D k Z sz a (w_runScript σ)) 1 6 (ft_AL sz) := by
  refine va_MetW (cc := cL_runScript) (maxL := 3) (ret := (some .int)) (hh := [(3, 8, 11, 25), (3, 8, 15, 17)]) (by decide) rfl ?_
  intro p e s m args below meth c s₁ B hml hv
  obtain ⟨hargs, hP, hEL, hz⟩ := hv
  have hE := hEL.1
  subst hargs
  have hx := B.exec
  have hb := B.bytes
  have hr := B.returns
  have hts := atoms_spec (ws := wsL_runScript) B.pre
  have hown : s.vm.findClass RL = some m.cls := findClass_of_methodNamed B.named
  have hlocks := B.notSynchronized
  have htab : c.exceptionTable.toList = tableOf [(3, 8, 11, 25), (3, 8, 15, 17)] := vx_table (x := yL_runScript) B (hts _ List.mem_cons_self)
  have hS : va_S (ft_AL sz) s.heap s.heap [] := va_S.rf
  have hl := lv_entry ([.ref a]) (n := 3) (Nat.le_of_ble_eq_true rfl)
  rw [lg_entry_eq]
  generalize (lg_sl ([.ref a]) ++ List.replicate (3 - (lg_sl ([.ref a])).length) Slot.unset).toArray = ls at hl ⊢
  have hl : lv_has ls 3 [(0, .ref a)] := hl
  refine lv_ldc hx hb hown (hts (.constant RL 10 (-100000000)) (by decide +kernel)) dL_runScript_0 ?_
  refine lv_istore_n (lv' := [(1, .int (-100000000)), (0, .ref a)]) hx hb dL_runScript_2 rfl hl (by decide) rfl (fun ls hl => ?_)
  refine lv_aload_n hx hb dL_runScript_3 rfl (lv_at hl 1 rfl) ?_
  refine vx_calli (vx_runV (As := []) (rest := []) ⟨hx, hb, hml, hown, hts⟩ (cl_runScript l hl0 D Z k sz a σ  hpm hok hg9) (cwV 0 hts gL_runScript_X7_runScript rfl rfl rfl (by decide +kernel) ⟨Nat.le_of_ble_eq_true rfl, Nat.le_of_ble_eq_true rfl⟩) (ft_preL hE hz hS hP) rfl rfl hl.1 rfl (lv_room (Nat.le_of_ble_eq_true rfl)) dL_runScript_4 ⟨Nat.le_of_ble_eq_true rfl, Nat.le_of_ble_eq_true rfl⟩) hS (fun _ _ h => h) (fun _ h => h) (fun _ _ h => h) (fun E ce q9 u t H1 locs1 ht hvm hu hB hz1 hk1 hS1 hc1 hc2 hc3 => ?_) (fun z u t H1 locs1 ht hvm hw hB hz1 hk1 hS1 => ?_)
  · obtain ⟨hB1, hB2⟩ := hB
    rw [ht] at hB2
    have hm9 := hEx E (congrArg Prod.fst hB1).symm
    rcases List.mem_cons.mp hm9 with rfl | hm9
    · refine vx_catch hown (tableOf []) ⟨3, 8, 11, 25⟩ (tableOf [(3, 8, 15, 17)]) (htab.trans rfl) (fun y9 hy9 => ?_) rfl (by decide) (va_Nw.use rfl (hEL.2.2.2.2 (25, "java/lang/IllegalArgumentException") (by decide +kernel))) (va_Nw.use rfl (hE.2.1.1 "java/lang/IllegalArgumentException" (by decide +kernel))) hc1 hc2 hc3 ?_
      · have hy9 : y9 ∈ ([] : List ExceptionTableEntry) := hy9
        exact absurd hy9 List.not_mem_nil
      refine W.eq (g2 := F0 m 11 ls [.ref q9]) rfl ?_
      refine lv_astore_n (lv' := [(2, .ref q9), (1, .int (-100000000)), (0, .ref a)]) hx hb dL_runScript_11 rfl hl (by decide) rfl (fun ls hl => ?_)
      refine lv_ldc hx hb hown (hts (.constant RL 10 (-100000000)) (by decide +kernel)) dL_runScript_12 ?_
      exact W.iret (v := (-100000000)) hx hb hr (fun t2 ht2 hW => ⟨⟨(-100000000), u, rfl, (show ((-100000000), u) = w_runScript σ  from (show w_runScript σ  = ((-100000000), u) by unfold w_runScript; rw [← hB1]).symm), by show ft_LW D k Z sz a _ t2.heap; rw [ht2]; exact hB2⟩, hS1.F ht2⟩) hS1.2.2 dL_runScript_14
    rcases List.mem_cons.mp hm9 with rfl | hm9
    · refine vx_catch hown (tableOf [(3, 8, 11, 25)]) ⟨3, 8, 15, 17⟩ (tableOf []) (htab.trans rfl) (fun y9 hy9 => ?_) rfl (by decide) (va_Nw.use rfl (hEL.2.2.2.2 (17, "java/lang/IllegalStateException") (by decide +kernel))) (va_Nw.use rfl (hE.2.1.1 "java/lang/IllegalStateException" (by decide +kernel))) hc1 hc2 hc3 ?_
      · have hy9 : y9 ∈ ([⟨3, 8, 11, 25⟩] : List ExceptionTableEntry) := hy9
        rcases List.mem_cons.mp hy9 with rfl | hy9
        · exact Or.inr ⟨by decide, _, va_Nw.use rfl (hEL.2.2.2.2 (25, "java/lang/IllegalArgumentException") (by decide +kernel)), hEL.2.1 _ (by decide +kernel) _ (by decide +kernel) (by decide)⟩
        exact absurd hy9 List.not_mem_nil
      refine W.eq (g2 := F0 m 15 ls [.ref q9]) rfl ?_
      refine lv_astore_n (lv' := [(2, .ref q9), (1, .int (-100000000)), (0, .ref a)]) hx hb dL_runScript_15 rfl hl (by decide) rfl (fun ls hl => ?_)
      refine lv_ldc hx hb hown (hts (.constant RL 10 (-100000000)) (by decide +kernel)) dL_runScript_16 ?_
      exact W.iret (v := (-100000000)) hx hb hr (fun t2 ht2 hW => ⟨⟨(-100000000), u, rfl, (show ((-100000000), u) = w_runScript σ  from (show w_runScript σ  = ((-100000000), u) by unfold w_runScript; rw [← hB1]).symm), by show ft_LW D k Z sz a _ t2.heap; rw [ht2]; exact hB2⟩, hS1.F ht2⟩) hS1.2.2 dL_runScript_18
    exact absurd hm9 List.not_mem_nil
  rw [ht] at hB
  refine lv_istore_n (lv' := [(1, .int z), (0, .ref a)]) hx hb dL_runScript_7 rfl hl (by decide) rfl (fun ls hl => ?_)
  refine lv_goto (tgt := 19) hx hb dL_runScript_8 (by decide) ?_
  refine lv_iload_n hx hb dL_runScript_19 rfl (lv_at hl 0 rfl) ?_
  exact W.iret (v := z) hx hb hr (fun t2 ht2 hW => ⟨⟨z, u, rfl, (show (z, u) = w_runScript σ  by unfold w_runScript; rw [← hw]), by show ft_LW D k Z sz a _ t2.heap; rw [ht2]; exact hB⟩, hS1.F ht2⟩) hS1.2.2 dL_runScript_20
def w_failedCommand (σ : ft_Sg)  : Int32 := match (l_failedCommand σ) with
  | .ok z => z
  | .error _ => (-1000)
set_option maxHeartbeats 4000000 in
set_option maxRecDepth 100000 in
theorem d_L_failedCommand (l : Launch) (hl0 : l.stackTraces = false) (D : va_G) (Z : Nat → Nat → Nat) (k : Nat → ClassId) (sz : ft_SZ) (a : Nat) (σ : ft_Sg) (hEx : ∀ E, (l_failedCommand σ) = .error E → E ∈ ["java/util/NoSuchElementException"]) : Met l yL_failedCommand wsL_failedCommand ({ frames := 8, cells := 1, slots := 6, locals := 150 }) (ft_PM D k Z sz a σ [.ref a]) (ft_QWr D k Z sz a σ (w_failedCommand σ)) 1 6 (ft_AL sz) := by
  refine va_MetW (cc := cL_failedCommand) (maxL := 3) (ret := (some .int)) (hh := [(4, 9, 12, 46)]) (by decide) rfl ?_
  intro p e s m args below meth c s₁ B hml hv
  obtain ⟨hargs, hP, hEL, hz⟩ := hv
  have hE := hEL.1
  subst hargs
  have hx := B.exec
  have hb := B.bytes
  have hr := B.returns
  have hts := atoms_spec (ws := wsL_failedCommand) B.pre
  have hown : s.vm.findClass RL = some m.cls := findClass_of_methodNamed B.named
  have hlocks := B.notSynchronized
  have htab : c.exceptionTable.toList = tableOf [(4, 9, 12, 46)] := vx_table (x := yL_failedCommand) B (hts _ List.mem_cons_self)
  have hS : va_S (ft_AL sz) s.heap s.heap [] := va_S.rf
  have hl := lv_entry ([.ref a]) (n := 3) (Nat.le_of_ble_eq_true rfl)
  rw [lg_entry_eq]
  generalize (lg_sl ([.ref a]) ++ List.replicate (3 - (lg_sl ([.ref a])).length) Slot.unset).toArray = ls at hl ⊢
  have hl : lv_has ls 3 [(0, .ref a)] := hl
  refine lv_sipush (v := (-1000)) hx hb dL_failedCommand_0 (by decide) ?_
  refine lv_istore_n (lv' := [(1, .int (-1000)), (0, .ref a)]) hx hb dL_failedCommand_3 rfl hl (by decide) rfl (fun ls hl => ?_)
  refine lv_aload_n hx hb dL_failedCommand_4 rfl (lv_at hl 1 rfl) ?_
  refine vx_calli (vx_runV (As := []) (rest := []) ⟨hx, hb, hml, hown, hts⟩ (cl_failedCommand l hl0 D Z k sz a σ) (cwV 0 hts gL_failedCommand_X7_failedCommand rfl rfl rfl (by decide +kernel) ⟨Nat.le_of_ble_eq_true rfl, Nat.le_of_ble_eq_true rfl⟩) (ft_preL hE hz hS hP) rfl rfl hl.1 rfl (lv_room (Nat.le_of_ble_eq_true rfl)) dL_failedCommand_5 ⟨Nat.le_of_ble_eq_true rfl, Nat.le_of_ble_eq_true rfl⟩) hS (fun _ _ h => h) (fun _ h => h) (fun _ _ h => h) (fun E ce q9 u t H1 locs1 ht hvm hu hB hz1 hk1 hS1 hc1 hc2 hc3 => ?_) (fun z u t H1 locs1 ht hvm hw hB hz1 hk1 hS1 => ?_)
  · obtain ⟨hB1, hB2⟩ := hB
    rw [ht] at hB2
    have hm9 := hEx E hB1
    rcases List.mem_cons.mp hm9 with rfl | hm9
    · refine vx_catch hown (tableOf []) ⟨4, 9, 12, 46⟩ (tableOf []) (htab.trans rfl) (fun y9 hy9 => ?_) rfl (by decide) (va_Nw.use rfl (hEL.2.2.2.2 (46, "java/util/NoSuchElementException") (by decide +kernel))) (va_Nw.use rfl (hE.2.1.1 "java/util/NoSuchElementException" (by decide +kernel))) hc1 hc2 hc3 ?_
      · have hy9 : y9 ∈ ([] : List ExceptionTableEntry) := hy9
        exact absurd hy9 List.not_mem_nil
      refine W.eq (g2 := F0 m 12 ls [.ref q9]) rfl ?_
      refine lv_astore_n (lv' := [(2, .ref q9), (1, .int (-1000)), (0, .ref a)]) hx hb dL_failedCommand_12 rfl hl (by decide) rfl (fun ls hl => ?_)
      refine lv_sipush (v := (-1000)) hx hb dL_failedCommand_13 (by decide) ?_
      exact W.iret (v := (-1000)) hx hb hr (fun t2 ht2 hW => ⟨⟨(-1000), (), rfl, (show w_failedCommand σ  = (-1000) by unfold w_failedCommand; rw [hB1]).symm, by show ft_LW D k Z sz a _ t2.heap; rw [ht2]; exact hB2⟩, hS1.F ht2⟩) hS1.2.2 dL_failedCommand_16
    exact absurd hm9 List.not_mem_nil
  rw [ht] at hB
  refine lv_istore_n (lv' := [(1, .int z), (0, .ref a)]) hx hb dL_failedCommand_8 rfl hl (by decide) rfl (fun ls hl => ?_)
  refine lv_goto (tgt := 17) hx hb dL_failedCommand_9 (by decide) ?_
  refine lv_iload_n hx hb dL_failedCommand_17 rfl (lv_at hl 0 rfl) ?_
  exact W.iret (v := z) hx hb hr (fun t2 ht2 hW => ⟨⟨z, (), rfl, (show z = w_failedCommand σ  by unfold w_failedCommand; rw [hw]), by show ft_LW D k Z sz a _ t2.heap; rw [ht2]; exact hB⟩, hS1.F ht2⟩) hS1.2.2 dL_failedCommand_18
def w_undo (σ : ft_Sg)  : Int32 × ft_Sg := match (l_undo σ).1 with
  | .ok z => (z, (l_undo σ).2)
  | .error _ => ((-100000000), (l_undo σ).2)
set_option maxHeartbeats 4000000 in
set_option maxRecDepth 100000 in
theorem d_L_undo (l : Launch) (hl0 : l.stackTraces = false) (D : va_G) (Z : Nat → Nat → Nat) (k : Nat → ClassId) (sz : ft_SZ) (a : Nat) (σ : ft_Sg) (hpm : ∀ i, i < 8 → σ.2.1 i < 8) (hEx : ∀ E, (l_undo σ).1 = .error E → E ∈ ["java/util/NoSuchElementException"]) : Met l yL_undo wsL_undo ({ frames := 7, cells := 1, slots := 6, locals := 164 }) (ft_PM D k Z sz a σ [.ref a]) (ft_QLw D k Z sz a (w_undo σ)) 1 6 (ft_AL sz) := by
  refine va_MetW (cc := cL_undo) (maxL := 3) (ret := (some .int)) (hh := [(3, 8, 11, 46)]) (by decide) rfl ?_
  intro p e s m args below meth c s₁ B hml hv
  obtain ⟨hargs, hP, hEL, hz⟩ := hv
  have hE := hEL.1
  subst hargs
  have hx := B.exec
  have hb := B.bytes
  have hr := B.returns
  have hts := atoms_spec (ws := wsL_undo) B.pre
  have hown : s.vm.findClass RL = some m.cls := findClass_of_methodNamed B.named
  have hlocks := B.notSynchronized
  have htab : c.exceptionTable.toList = tableOf [(3, 8, 11, 46)] := vx_table (x := yL_undo) B (hts _ List.mem_cons_self)
  have hS : va_S (ft_AL sz) s.heap s.heap [] := va_S.rf
  have hl := lv_entry ([.ref a]) (n := 3) (Nat.le_of_ble_eq_true rfl)
  rw [lg_entry_eq]
  generalize (lg_sl ([.ref a]) ++ List.replicate (3 - (lg_sl ([.ref a])).length) Slot.unset).toArray = ls at hl ⊢
  have hl : lv_has ls 3 [(0, .ref a)] := hl
  refine lv_ldc hx hb hown (hts (.constant RL 10 (-100000000)) (by decide +kernel)) dL_undo_0 ?_
  refine lv_istore_n (lv' := [(1, .int (-100000000)), (0, .ref a)]) hx hb dL_undo_2 rfl hl (by decide) rfl (fun ls hl => ?_)
  refine lv_aload_n hx hb dL_undo_3 rfl (lv_at hl 1 rfl) ?_
  refine vx_calli (vx_runV (As := []) (rest := []) ⟨hx, hb, hml, hown, hts⟩ (cl_undo l hl0 D Z k sz a σ  hpm) (cwV 0 hts gL_undo_X7_undo rfl rfl rfl (by decide +kernel) ⟨Nat.le_of_ble_eq_true rfl, Nat.le_of_ble_eq_true rfl⟩) (ft_preL hE hz hS hP) rfl rfl hl.1 rfl (lv_room (Nat.le_of_ble_eq_true rfl)) dL_undo_4 ⟨Nat.le_of_ble_eq_true rfl, Nat.le_of_ble_eq_true rfl⟩) hS (fun _ _ h => h) (fun _ h => h) (fun _ _ h => h) (fun E ce q9 u t H1 locs1 ht hvm hu hB hz1 hk1 hS1 hc1 hc2 hc3 => ?_) (fun z u t H1 locs1 ht hvm hw hB hz1 hk1 hS1 => ?_)
  · obtain ⟨hB1, hB2⟩ := hB
    rw [ht] at hB2
    have hm9 := hEx E (congrArg Prod.fst hB1).symm
    rcases List.mem_cons.mp hm9 with rfl | hm9
    · refine vx_catch hown (tableOf []) ⟨3, 8, 11, 46⟩ (tableOf []) (htab.trans rfl) (fun y9 hy9 => ?_) rfl (by decide) (va_Nw.use rfl (hEL.2.2.2.2 (46, "java/util/NoSuchElementException") (by decide +kernel))) (va_Nw.use rfl (hE.2.1.1 "java/util/NoSuchElementException" (by decide +kernel))) hc1 hc2 hc3 ?_
      · have hy9 : y9 ∈ ([] : List ExceptionTableEntry) := hy9
        exact absurd hy9 List.not_mem_nil
      refine W.eq (g2 := F0 m 11 ls [.ref q9]) rfl ?_
      refine lv_astore_n (lv' := [(2, .ref q9), (1, .int (-100000000)), (0, .ref a)]) hx hb dL_undo_11 rfl hl (by decide) rfl (fun ls hl => ?_)
      refine lv_ldc hx hb hown (hts (.constant RL 10 (-100000000)) (by decide +kernel)) dL_undo_12 ?_
      exact W.iret (v := (-100000000)) hx hb hr (fun t2 ht2 hW => ⟨⟨(-100000000), u, rfl, (show ((-100000000), u) = w_undo σ  from (show w_undo σ  = ((-100000000), u) by unfold w_undo; rw [← hB1]).symm), by show ft_LW D k Z sz a _ t2.heap; rw [ht2]; exact hB2⟩, hS1.F ht2⟩) hS1.2.2 dL_undo_14
    exact absurd hm9 List.not_mem_nil
  rw [ht] at hB
  refine lv_istore_n (lv' := [(1, .int z), (0, .ref a)]) hx hb dL_undo_7 rfl hl (by decide) rfl (fun ls hl => ?_)
  refine lv_goto (tgt := 15) hx hb dL_undo_8 (by decide) ?_
  refine lv_iload_n hx hb dL_undo_15 rfl (lv_at hl 0 rfl) ?_
  exact W.iret (v := z) hx hb hr (fun t2 ht2 hW => ⟨⟨z, u, rfl, (show (z, u) = w_undo σ  by unfold w_undo; rw [← hw]), by show ft_LW D k Z sz a _ t2.heap; rw [ht2]; exact hB⟩, hS1.F ht2⟩) hS1.2.2 dL_undo_16
def w_restore (σ : ft_Sg)  : Int32 × ft_Sg := match (l_restore σ).1 with
  | .ok z => (z, (l_restore σ).2)
  | .error _ => ((-100000000), (l_restore σ).2)
set_option maxHeartbeats 4000000 in
set_option maxRecDepth 100000 in
theorem d_L_restore (l : Launch) (hl0 : l.stackTraces = false) (D : va_G) (Z : Nat → Nat → Nat) (k : Nat → ClassId) (sz : ft_SZ) (a : Nat) (σ : ft_Sg) (hEx : ∀ E, (l_restore σ).1 = .error E → E ∈ ["java/lang/IllegalStateException"]) : Met l yL_restore wsL_restore ({ frames := 7, cells := 1, slots := 6, locals := 143 }) (ft_PM D k Z sz a σ [.ref a]) (ft_QLw D k Z sz a (w_restore σ)) 1 6 (ft_AL sz) := by
  refine va_MetW (cc := cL_restore) (maxL := 3) (ret := (some .int)) (hh := [(3, 8, 11, 17)]) (by decide) rfl ?_
  intro p e s m args below meth c s₁ B hml hv
  obtain ⟨hargs, hP, hEL, hz⟩ := hv
  have hE := hEL.1
  subst hargs
  have hx := B.exec
  have hb := B.bytes
  have hr := B.returns
  have hts := atoms_spec (ws := wsL_restore) B.pre
  have hown : s.vm.findClass RL = some m.cls := findClass_of_methodNamed B.named
  have hlocks := B.notSynchronized
  have htab : c.exceptionTable.toList = tableOf [(3, 8, 11, 17)] := vx_table (x := yL_restore) B (hts _ List.mem_cons_self)
  have hS : va_S (ft_AL sz) s.heap s.heap [] := va_S.rf
  have hl := lv_entry ([.ref a]) (n := 3) (Nat.le_of_ble_eq_true rfl)
  rw [lg_entry_eq]
  generalize (lg_sl ([.ref a]) ++ List.replicate (3 - (lg_sl ([.ref a])).length) Slot.unset).toArray = ls at hl ⊢
  have hl : lv_has ls 3 [(0, .ref a)] := hl
  refine lv_ldc hx hb hown (hts (.constant RL 10 (-100000000)) (by decide +kernel)) dL_restore_0 ?_
  refine lv_istore_n (lv' := [(1, .int (-100000000)), (0, .ref a)]) hx hb dL_restore_2 rfl hl (by decide) rfl (fun ls hl => ?_)
  refine lv_aload_n hx hb dL_restore_3 rfl (lv_at hl 1 rfl) ?_
  refine vx_calli (vx_runV (As := []) (rest := []) ⟨hx, hb, hml, hown, hts⟩ (cl_restore l hl0 D Z k sz a σ) (cwV 0 hts gL_restore_X7_restore rfl rfl rfl (by decide +kernel) ⟨Nat.le_of_ble_eq_true rfl, Nat.le_of_ble_eq_true rfl⟩) (ft_preL hE hz hS hP) rfl rfl hl.1 rfl (lv_room (Nat.le_of_ble_eq_true rfl)) dL_restore_4 ⟨Nat.le_of_ble_eq_true rfl, Nat.le_of_ble_eq_true rfl⟩) hS (fun _ _ h => h) (fun _ h => h) (fun _ _ h => h) (fun E ce q9 u t H1 locs1 ht hvm hu hB hz1 hk1 hS1 hc1 hc2 hc3 => ?_) (fun z u t H1 locs1 ht hvm hw hB hz1 hk1 hS1 => ?_)
  · obtain ⟨hB1, hB2⟩ := hB
    rw [ht] at hB2
    have hm9 := hEx E (congrArg Prod.fst hB1).symm
    rcases List.mem_cons.mp hm9 with rfl | hm9
    · refine vx_catch hown (tableOf []) ⟨3, 8, 11, 17⟩ (tableOf []) (htab.trans rfl) (fun y9 hy9 => ?_) rfl (by decide) (va_Nw.use rfl (hEL.2.2.2.2 (17, "java/lang/IllegalStateException") (by decide +kernel))) (va_Nw.use rfl (hE.2.1.1 "java/lang/IllegalStateException" (by decide +kernel))) hc1 hc2 hc3 ?_
      · have hy9 : y9 ∈ ([] : List ExceptionTableEntry) := hy9
        exact absurd hy9 List.not_mem_nil
      refine W.eq (g2 := F0 m 11 ls [.ref q9]) rfl ?_
      refine lv_astore_n (lv' := [(2, .ref q9), (1, .int (-100000000)), (0, .ref a)]) hx hb dL_restore_11 rfl hl (by decide) rfl (fun ls hl => ?_)
      refine lv_ldc hx hb hown (hts (.constant RL 10 (-100000000)) (by decide +kernel)) dL_restore_12 ?_
      exact W.iret (v := (-100000000)) hx hb hr (fun t2 ht2 hW => ⟨⟨(-100000000), u, rfl, (show ((-100000000), u) = w_restore σ  from (show w_restore σ  = ((-100000000), u) by unfold w_restore; rw [← hB1]).symm), by show ft_LW D k Z sz a _ t2.heap; rw [ht2]; exact hB2⟩, hS1.F ht2⟩) hS1.2.2 dL_restore_14
    exact absurd hm9 List.not_mem_nil
  rw [ht] at hB
  refine lv_istore_n (lv' := [(1, .int z), (0, .ref a)]) hx hb dL_restore_7 rfl hl (by decide) rfl (fun ls hl => ?_)
  refine lv_goto (tgt := 15) hx hb dL_restore_8 (by decide) ?_
  refine lv_iload_n hx hb dL_restore_15 rfl (lv_at hl 0 rfl) ?_
  exact W.iret (v := z) hx hb hr (fun t2 ht2 hW => ⟨⟨z, u, rfl, (show (z, u) = w_restore σ  by unfold w_restore; rw [← hw]), by show ft_LW D k Z sz a _ t2.heap; rw [ht2]; exact hB⟩, hS1.F ht2⟩) hS1.2.2 dL_restore_16
def w_put (σ : ft_Sg) (x1 : Int32) : Int32 × ft_Sg := match (l_type σ x1).1 with
  | .ok z => (1, (l_type σ x1).2)
  | .error _ => (0, (l_type σ x1).2)
set_option maxHeartbeats 4000000 in
set_option maxRecDepth 100000 in
theorem d_L_put (l : Launch) (hl0 : l.stackTraces = false) (D : va_G) (Z : Nat → Nat → Nat) (k : Nat → ClassId) (sz : ft_SZ) (a : Nat) (σ : ft_Sg) (x1 : Int32) (hpm : ∀ i, i < 8 → σ.2.1 i < 8) (hok : ft_ok259 σ.2.2.1 σ.2.2.2 60) (hEx : ∀ E, (l_type σ x1).1 = .error E → E ∈ ["java/lang/IllegalStateException"]) : Met l yL_put wsL_put ({ frames := 7, cells := 1, slots := 150, locals := 263 }) (ft_PM D k Z sz a σ [.ref a, .int x1]) (ft_QLw D k Z sz a (w_put σ x1)) 1 150 (ft_AL sz) := by
  refine va_MetW (cc := cL_put) (maxL := 3) (ret := (some .boolean)) (hh := [(0, 6, 9, 17)]) (by decide) rfl ?_
  intro p e s m args below meth c s₁ B hml hv
  obtain ⟨hargs, hP, hEL, hz⟩ := hv
  have hE := hEL.1
  subst hargs
  have hx := B.exec
  have hb := B.bytes
  have hr := B.returns
  have hts := atoms_spec (ws := wsL_put) B.pre
  have hown : s.vm.findClass RL = some m.cls := findClass_of_methodNamed B.named
  have hlocks := B.notSynchronized
  have htab : c.exceptionTable.toList = tableOf [(0, 6, 9, 17)] := vx_table (x := yL_put) B (hts _ List.mem_cons_self)
  have hS : va_S (ft_AL sz) s.heap s.heap [] := va_S.rf
  have hl := lv_entry ([.ref a, .int x1]) (n := 3) (Nat.le_of_ble_eq_true rfl)
  rw [lg_entry_eq]
  generalize (lg_sl ([.ref a, .int x1]) ++ List.replicate (3 - (lg_sl ([.ref a, .int x1])).length) Slot.unset).toArray = ls at hl ⊢
  have hl : lv_has ls 3 [(0, .ref a), (1, .int x1)] := hl
  refine lv_aload_n hx hb dL_put_0 rfl (lv_at hl 0 rfl) ?_
  refine lv_iload_n hx hb dL_put_1 rfl (lv_at hl 1 rfl) ?_
  refine vx_calli (vx_runV (As := [.int x1]) (rest := []) ⟨hx, hb, hml, hown, hts⟩ (cl_type l hl0 D Z k sz a σ x1 hpm hok) (cwV 1 hts gL_put_X7_type rfl rfl rfl (by decide +kernel) ⟨Nat.le_of_ble_eq_true rfl, Nat.le_of_ble_eq_true rfl⟩) (ft_preL hE hz hS hP) rfl rfl hl.1 rfl (lv_room (Nat.le_of_ble_eq_true rfl)) dL_put_2 ⟨Nat.le_of_ble_eq_true rfl, Nat.le_of_ble_eq_true rfl⟩) hS (fun _ _ h => h) (fun _ h => h) (fun _ _ h => h) (fun E ce q9 u t H1 locs1 ht hvm hu hB hz1 hk1 hS1 hc1 hc2 hc3 => ?_) (fun z u t H1 locs1 ht hvm hw hB hz1 hk1 hS1 => ?_)
  · obtain ⟨hB1, hB2⟩ := hB
    rw [ht] at hB2
    have hm9 := hEx E (congrArg Prod.fst hB1).symm
    rcases List.mem_cons.mp hm9 with rfl | hm9
    · refine vx_catch hown (tableOf []) ⟨0, 6, 9, 17⟩ (tableOf []) (htab.trans rfl) (fun y9 hy9 => ?_) rfl (by decide) (va_Nw.use rfl (hEL.2.2.2.2 (17, "java/lang/IllegalStateException") (by decide +kernel))) (va_Nw.use rfl (hE.2.1.1 "java/lang/IllegalStateException" (by decide +kernel))) hc1 hc2 hc3 ?_
      · have hy9 : y9 ∈ ([] : List ExceptionTableEntry) := hy9
        exact absurd hy9 List.not_mem_nil
      refine W.eq (g2 := F0 m 9 ls [.ref q9]) rfl ?_
      refine lv_astore_n (lv' := [(2, .ref q9), (0, .ref a), (1, .int x1)]) hx hb dL_put_9 rfl hl (by decide) rfl (fun ls hl => ?_)
      refine lv_iconst (v := 0) hx hb dL_put_10 (by decide) ?_
      exact W.zret (v := 0) hx hb hr rfl (fun t2 ht2 hW => ⟨⟨0, u, rfl, (show (0, u) = w_put σ x1 from (show w_put σ x1 = (0, u) by unfold w_put; rw [← hB1]).symm), by show ft_LW D k Z sz a _ t2.heap; rw [ht2]; exact hB2⟩, hS1.F ht2⟩) hS1.2.2 dL_put_11
    exact absurd hm9 List.not_mem_nil
  rw [ht] at hB
  refine lv_pop hx hb dL_put_5 rfl ?_
  refine lv_goto (tgt := 12) hx hb dL_put_6 (by decide) ?_
  refine lv_iconst (v := 1) hx hb dL_put_12 (by decide) ?_
  exact W.zret (v := 1) hx hb hr rfl (fun t2 ht2 hW => ⟨⟨1, u, rfl, (show (1, u) = w_put σ x1 by unfold w_put; rw [← hw]), by show ft_LW D k Z sz a _ t2.heap; rw [ht2]; exact hB⟩, hS1.F ht2⟩) hS1.2.2 dL_put_13
