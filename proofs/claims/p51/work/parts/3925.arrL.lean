def ft_ud (f : Nat → Int32) (k : Nat) (x : Int32) : Nat → Int32 := fun j => if j = k then x else f j
theorem ft_ud_self {f : Nat → Int32} {k : Nat} {x : Int32} : ft_ud f k x k = x := if_pos rfl
theorem ft_ud_ne {f : Nat → Int32} {k j : Nat} {x : Int32} (h : j ≠ k) : ft_ud f k x j = f j := if_neg h
theorem ft_ud_id {f : Nat → Int32} {k : Nat} {x : Int32} (h : f k = x) : ft_ud f k x = f := by
  funext j
  by_cases hj : j = k
  · subst hj; rw [ft_ud_self, h]
  · rw [ft_ud_ne hj]
theorem ft_ud_ud {f : Nat → Int32} {k : Nat} {x y : Int32} : ft_ud (ft_ud f k x) k y = ft_ud f k y := by
  funext j
  by_cases hj : j = k
  · subst hj; rw [ft_ud_self, ft_ud_self]
  · rw [ft_ud_ne hj, ft_ud_ne hj, ft_ud_ne hj]
def ft_s2 (sz : ft_SZ) (b1 b2 : Nat) : ft_SZ := (sz.1, fun x => sz.2 x ∨ x = b1 ∨ x = b2)
theorem ft_AL2_le {sz : ft_SZ} {b1 b2 q : Nat} (h : ft_AL (ft_s2 sz b1 b2) q) : ft_AL sz q := ⟨h.1, fun h1 => h.2 (Or.inl h1)⟩
def ft_ia (k : Nat → ClassId) (b1 b2 : Nat) (f1 f2 : Nat → Int32) (n0 : Nat) (H : Heap) : Prop := H[b1]? = some (arrV (k 0) 4 (fun j => .int (f1 j))) ∧ H[b2]? = some (arrV (k 0) 4 (fun j => .int (f2 j))) ∧ b1 ≠ b2 ∧ n0 ≤ b1 ∧ n0 ≤ b2
theorem ft_ia.kept {k : Nat → ClassId} {b1 b2 n0 : Nat} {f1 f2 : Nat → Int32} {H H1 : Heap} {sz : ft_SZ} (h : ft_ia k b1 b2 f1 f2 n0 H) (hk : ∀ q : Nat, q < H.size → ¬ ft_AL (ft_s2 sz b1 b2) q → H1[q]? = H[q]?) : ft_ia k b1 b2 f1 f2 n0 H1 :=
  ⟨(hk b1 (Array.getElem?_eq_some_iff.mp h.1).1 (fun h9 => h9.2 (Or.inr (Or.inl rfl)))).trans h.1, (hk b2 (Array.getElem?_eq_some_iff.mp h.2.1).1 (fun h9 => h9.2 (Or.inr (Or.inr rfl)))).trans h.2.1, h.2.2⟩
theorem ft_EL.narrow {D : va_G} {k : Nat → ClassId} {Z : Nat → Nat → Nat} {A B : Nat → Prop} {U : State} (h : ft_EL D k Z A U) (hAB : ∀ q, B q → A q) : ft_EL D k Z B U := ⟨h.1.narrow hAB, h.2.1, h.2.2.1, ⟨h.2.2.2.1.1.narrow hAB, h.2.2.2.1.2.1.narrow hAB, h.2.2.2.1.2.2.narrow hAB⟩, h.2.2.2.2⟩
theorem ft_S2 {sz : ft_SZ} {H0 H : Heap} {locs : List Loc} {b1 b2 : Nat} (hS : va_S (ft_AL sz) H0 H locs) (g1 : H0.size ≤ b1) (g2 : H0.size ≤ b2) : va_S (ft_AL (ft_s2 sz b1 b2)) H0 H [] := by
  refine ⟨hS.1, fun q h1 h2 => hS.2.1 q h1 (fun h3 => h2 ⟨h3.1, fun h4 => ?_⟩), fun l h => absurd h List.not_mem_nil⟩
  rcases h4 with h4 | h4 | h4
  · exact h3.2 h4
  · omega
  · omega
theorem ft_sl2 {sz : ft_SZ} {k : Nat → ClassId} {b1 b2 n0 : Nat} {f1 f2 : Nat → Int32} {H : Heap} (hz : ft_sl sz n0) (hle : n0 ≤ H.size) (hA : ft_ia k b1 b2 f1 f2 n0 H) : ft_sl (ft_s2 sz b1 b2) H.size := by
  refine ⟨Nat.le_trans hz.1 hle, fun x hx => ?_⟩
  rcases hx with hx | hx | hx
  · exact Nat.lt_of_lt_of_le (hz.2 x hx) hle
  · rw [hx]; exact (Array.getElem?_eq_some_iff.mp hA.1).1
  · rw [hx]; exact (Array.getElem?_eq_some_iff.mp hA.2.1).1
theorem ft_preM2 {D : va_G} {k : Nat → ClassId} {Z : Nat → Nat → Nat} {sz : ft_SZ} {a : Nat} {σ : ft_Sg} {s : State} {H : Heap} {locs : List Loc} {As : List Value} {b1 b2 : Nat} {f1 f2 : Nat → Int32} (hE : ft_EL D k Z (ft_AL (ft_s2 sz b1 b2)) s) (hz : ft_sl sz s.heap.size) (hA : ft_ia k b1 b2 f1 f2 s.heap.size H) (hS : va_S (ft_AL sz) s.heap H locs) (hP : ft_LW D k Z (ft_s2 sz b1 b2) a σ H) : PreS s H (ft_PM D k Z (ft_s2 sz b1 b2) a σ As) As :=
  ⟨ft_PM.blind, fun U hU hW => ⟨rfl, by rw [hU]; exact hP, hE.go (ft_S2 hS hA.2.2.2.1 hA.2.2.2.2) hU hW, by rw [hU]; exact ft_sl2 hz hS.1 hA⟩⟩
theorem ft_preL2 {D : va_G} {k : Nat → ClassId} {Z : Nat → Nat → Nat} {sz : ft_SZ} {a : Nat} {σ : ft_Sg} {s : State} {H : Heap} {locs : List Loc} {As : List Value} {b1 b2 : Nat} {f1 f2 : Nat → Int32} (hE : ft_E D k Z (ft_AL (ft_s2 sz b1 b2)) s) (hz : ft_sl sz s.heap.size) (hA : ft_ia k b1 b2 f1 f2 s.heap.size H) (hS : va_S (ft_AL sz) s.heap H locs) (hP : ft_LW D k Z (ft_s2 sz b1 b2) a σ H) : PreV s H RX7 a (ft_PL D k Z (ft_s2 sz b1 b2) a σ (.ref a :: As)) As :=
  ⟨ft_PL.blind, hP.recv hE.1, fun U hU hW => ⟨rfl, by rw [hU]; exact hP, hE.go (ft_S2 hS hA.2.2.2.1 hA.2.2.2.2) (fun _ h => h) hU hW, by rw [hU]; exact ft_sl2 hz hS.1 hA⟩⟩
theorem ft_LW.to2 {D : va_G} {k : Nat → ClassId} {Z : Nat → Nat → Nat} {sz : ft_SZ} {a b1 b2 : Nat} {σ : ft_Sg} {H : Heap} (h : ft_LW D k Z sz a σ H) (g1 : H.size ≤ b1) (g2 : H.size ≤ b2) : ft_LW D k Z (ft_s2 sz b1 b2) a σ H := by
  obtain ⟨ad, h0, hP, hD⟩ := h
  refine ⟨ad, h0, hP, hD.weaken (fun j q hq h1 => ⟨h1.1, fun h2 => ?_⟩)⟩
  have hlt := (hP j q hq).lt
  rcases h2 with h2 | h2 | h2
  · exact h1.2 h2
  · omega
  · omega
theorem ft_LW.from2 {D : va_G} {k : Nat → ClassId} {Z : Nat → Nat → Nat} {sz : ft_SZ} {a b1 b2 : Nat} {σ : ft_Sg} {H : Heap} (h : ft_LW D k Z (ft_s2 sz b1 b2) a σ H) : ft_LW D k Z sz a σ H := by
  obtain ⟨ad, h0, hP, hD⟩ := h
  exact ⟨ad, h0, hP, hD.weaken (fun j q hq h1 => ft_AL2_le h1)⟩
theorem ft_LW.keptA {D : va_G} {k : Nat → ClassId} {Z : Nat → Nat → Nat} {sz : ft_SZ} {a : Nat} {σ : ft_Sg} {H H1 : Heap} (h : ft_LW D k Z sz a σ H) (hk : ∀ q, ft_AL sz q → H1[q]? = H[q]?) : ft_LW D k Z sz a σ H1 := by
  obtain ⟨ad, h0, hP, hD⟩ := h
  exact ⟨ad, h0, hP.kept (fun j q hq => hk q.1 (hD.2 j q hq)), hD⟩
theorem ft_nwS {A : Nat → Prop} {H0 H H1 : Heap} {locs : List Loc} {b : Nat} (hS : va_S A H0 H locs) (hb : H.size = b) (e2 : H1.size = b + 1) (e3 : ∀ q : Nat, q < b → H1[q]? = H[q]?) : va_S A H0 H1 locs :=
  ⟨by have := hS.1; omega, fun q h1 h2 => (e3 q (by have := hS.1; omega)).trans (hS.2.1 q h1 h2), hS.2.2⟩
theorem ft_ild1 {p : Program} {l : Launch} {e : Env} {R : Room} {s : State} {m : MethodId} {args : Array Value} {below : List Frame} {meth : Method} {c : Code} {H : Heap} {locs : List Loc} {cells slots : Nat} {Q : State → Prop} {cc : ByteArray} {pc : Nat} {ls : Array Slot} {rest : List Value} {D : va_G} {k : Nat → ClassId} {b1 b2 n0 : Nat} {f1 f2 : Nat → Int32} (hexec : p.tables.exec = Jvm.exec) (hb : c.code = cc) (hK : va_K D vwCl (ft_tys k) s) (hA : ft_ia k b1 b2 f1 f2 n0 H) {i : Int32} (hin : vp_in i 4) (hdg : decode cc pc = .ok (.iaload, 1)) (kk : W p l e R s m args below meth c H locs cells slots Q (F0 m (pc + 1) ls (.int (f1 (tn i)) :: rest))) : W p l e R s m args below meth c H locs cells slots Q (F0 m pc ls (.int i :: .ref b1 :: rest)) := by
  have hlt : i.toNatClampNeg < 4 := Nat.not_le.mp fun q => hin (Or.inr q)
  exact W.iald (v := .int (f1 i.toNatClampNeg)) hexec hb hA.1 ((hK.2 0 _ rfl).1 4 (fun j => .int (f1 j))) (fun q => by cases q) (by show ¬ (i < 0 ∨ (arrV _ _ _).slots.size ≤ _); rw [arrV_size]; exact hin) (by show (arrV _ _ _).slots[_]? = _; rw [arrV_read _ _ hlt]) rfl rfl hdg kk
theorem ft_ist1 {p : Program} {l : Launch} {e : Env} {R : Room} {s : State} {m : MethodId} {args : Array Value} {below : List Frame} {meth : Method} {c : Code} {H : Heap} {locs : List Loc} {cells slots : Nat} {Q : State → Prop} {cc : ByteArray} {pc : Nat} {ls : Array Slot} {rest : List Value} {D : va_G} {k : Nat → ClassId} {b1 b2 n0 : Nat} {f1 f2 : Nat → Int32} (hexec : p.tables.exec = Jvm.exec) (hb : c.code = cc) (hK : va_K D vwCl (ft_tys k) s) (hA : ft_ia k b1 b2 f1 f2 n0 H) {Z : Nat → Nat → Nat} {sz : ft_SZ} {a : Nat} {σ : ft_Sg} (hP : ft_LW D k Z (ft_s2 sz b1 b2) a σ H) (hS : va_S (ft_AL sz) s.heap H locs) (hz : ft_sl sz s.heap.size) (hn : n0 = s.heap.size) {i x : Int32} (hin : vp_in i 4) (hdg : decode cc pc = .ok (.iastore, 1)) (kk : ∀ (H1 : Heap) (locs1 : List Loc), ft_ia k b1 b2 (ft_ud f1 (tn i) x) f2 n0 H1 → ft_LW D k Z (ft_s2 sz b1 b2) a σ H1 → va_S (ft_AL sz) s.heap H1 locs1 → W p l e R s m args below meth c H1 locs1 cells slots Q (F0 m (pc + 1) ls (rest))) : W p l e R s m args below meth c H locs cells slots Q (F0 m pc ls (.int x :: .int i :: .ref b1 :: rest)) := by
  subst hn
  refine W.iast hexec hb hA.1 ((hK.2 0 _ rfl).1 4 (fun j => .int (f1 j))) (fun q => by cases q) (by show ¬ (i < 0 ∨ (arrV _ _ _).slots.size ≤ _); rw [arrV_size]; exact hin) rfl rfl hdg fun H1 e z oq => ?_
  have hc : H1[b1]? = some (arrV (k 0) 4 (fun j => .int (ft_ud f1 (tn i) x j))) := by
    rw [e, arrV_store]
    congr 2
    funext q
    by_cases hq : q = i.toNatClampNeg
    · subst hq
      simp [updV, ft_ud]
    · simp [updV, ft_ud, hq]
  exact kk H1 _ ⟨hc, (oq b2 (fun h => hA.2.2.1 h.symm)).trans hA.2.1, hA.2.2⟩ (hP.keptA (fun q hq => oq q (fun h => hq.2 (Or.inr (Or.inl h))))) (hS.put z oq (hz.al hA.2.2.2.1))
theorem ft_ild2 {p : Program} {l : Launch} {e : Env} {R : Room} {s : State} {m : MethodId} {args : Array Value} {below : List Frame} {meth : Method} {c : Code} {H : Heap} {locs : List Loc} {cells slots : Nat} {Q : State → Prop} {cc : ByteArray} {pc : Nat} {ls : Array Slot} {rest : List Value} {D : va_G} {k : Nat → ClassId} {b1 b2 n0 : Nat} {f1 f2 : Nat → Int32} (hexec : p.tables.exec = Jvm.exec) (hb : c.code = cc) (hK : va_K D vwCl (ft_tys k) s) (hA : ft_ia k b1 b2 f1 f2 n0 H) {i : Int32} (hin : vp_in i 4) (hdg : decode cc pc = .ok (.iaload, 1)) (kk : W p l e R s m args below meth c H locs cells slots Q (F0 m (pc + 1) ls (.int (f2 (tn i)) :: rest))) : W p l e R s m args below meth c H locs cells slots Q (F0 m pc ls (.int i :: .ref b2 :: rest)) := by
  have hlt : i.toNatClampNeg < 4 := Nat.not_le.mp fun q => hin (Or.inr q)
  exact W.iald (v := .int (f2 i.toNatClampNeg)) hexec hb hA.2.1 ((hK.2 0 _ rfl).1 4 (fun j => .int (f2 j))) (fun q => by cases q) (by show ¬ (i < 0 ∨ (arrV _ _ _).slots.size ≤ _); rw [arrV_size]; exact hin) (by show (arrV _ _ _).slots[_]? = _; rw [arrV_read _ _ hlt]) rfl rfl hdg kk
theorem ft_ist2 {p : Program} {l : Launch} {e : Env} {R : Room} {s : State} {m : MethodId} {args : Array Value} {below : List Frame} {meth : Method} {c : Code} {H : Heap} {locs : List Loc} {cells slots : Nat} {Q : State → Prop} {cc : ByteArray} {pc : Nat} {ls : Array Slot} {rest : List Value} {D : va_G} {k : Nat → ClassId} {b1 b2 n0 : Nat} {f1 f2 : Nat → Int32} (hexec : p.tables.exec = Jvm.exec) (hb : c.code = cc) (hK : va_K D vwCl (ft_tys k) s) (hA : ft_ia k b1 b2 f1 f2 n0 H) {Z : Nat → Nat → Nat} {sz : ft_SZ} {a : Nat} {σ : ft_Sg} (hP : ft_LW D k Z (ft_s2 sz b1 b2) a σ H) (hS : va_S (ft_AL sz) s.heap H locs) (hz : ft_sl sz s.heap.size) (hn : n0 = s.heap.size) {i x : Int32} (hin : vp_in i 4) (hdg : decode cc pc = .ok (.iastore, 1)) (kk : ∀ (H1 : Heap) (locs1 : List Loc), ft_ia k b1 b2 f1 (ft_ud f2 (tn i) x) n0 H1 → ft_LW D k Z (ft_s2 sz b1 b2) a σ H1 → va_S (ft_AL sz) s.heap H1 locs1 → W p l e R s m args below meth c H1 locs1 cells slots Q (F0 m (pc + 1) ls (rest))) : W p l e R s m args below meth c H locs cells slots Q (F0 m pc ls (.int x :: .int i :: .ref b2 :: rest)) := by
  subst hn
  refine W.iast hexec hb hA.2.1 ((hK.2 0 _ rfl).1 4 (fun j => .int (f2 j))) (fun q => by cases q) (by show ¬ (i < 0 ∨ (arrV _ _ _).slots.size ≤ _); rw [arrV_size]; exact hin) rfl rfl hdg fun H1 e z oq => ?_
  have hc : H1[b2]? = some (arrV (k 0) 4 (fun j => .int (ft_ud f2 (tn i) x j))) := by
    rw [e, arrV_store]
    congr 2
    funext q
    by_cases hq : q = i.toNatClampNeg
    · subst hq
      simp [updV, ft_ud]
    · simp [updV, ft_ud, hq]
  exact kk H1 _ ⟨(oq b1 hA.2.2.1).trans hA.1, hc, hA.2.2⟩ (hP.keptA (fun q hq => oq q (fun h => hq.2 (Or.inr (Or.inr h))))) (hS.put z oq (hz.al hA.2.2.2.2))
theorem ft_ti {y : Int32} {i : Nat} (hi : y = nI i) (h : i + 1 ≤ 4) : tn y = i := by
  rw [hi]; exact nI_clamp (show i < 2 ^ 31 by omega)
theorem ft_inv54 {S P : Nat → Int32} {g1 g2 : Nat → Int32} {i : Nat} (h : (∀ j, j < i → g1 j = P j) ∧ (∀ j, j < i → g2 j = S j) ∧ (∀ j, i ≤ j → g2 j = 0)) : (∀ j, j < i + 1 → ft_ud g1 i (P i) j = P j) ∧ (∀ j, j < i + 1 → ft_ud g2 i (S i) j = S j) ∧ (∀ j, i + 1 ≤ j → ft_ud g2 i (S i) j = 0) := by
  refine ⟨fun j hj => ?_, fun j hj => ?_, fun j hj => ?_⟩
  · by_cases e : j = i
    · subst e; exact ft_ud_self
    · rw [ft_ud_ne e]; exact h.1 j (by omega)
  · by_cases e : j = i
    · subst e; exact ft_ud_self
    · rw [ft_ud_ne e]; exact h.2.1 j (by omega)
  · rw [ft_ud_ne (by omega)]; exact h.2.2 j (by omega)
