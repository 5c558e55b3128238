/-! the law's starts know all that the walks ask for -/
theorem ft_OF_inj {o n d : String} {v v' : Value} {a : Nat} {A : Nat → Prop} {U : State} {H : Heap} (h : va_OF o n d v a A U H) (h' : va_OF o n d v' a A U H) : v = v' := by
  obtain ⟨cf, k, i, f, cell, h1, -, h3, -, h5, -⟩ := h
  obtain ⟨cf', k', i', f', cell', h1', -, h3', -, h5', -⟩ := h'
  obtain ⟨-, -, -, rfl⟩ : cf = cf' ∧ k = k' ∧ i = i' ∧ f = f' := by
    have e := Option.some.inj (h1.symm.trans h1')
    injection e with e1 e2
    injection e2 with e2 e3
    injection e3 with e3 e4
    exact ⟨e1, e2, e3, e4⟩
  obtain rfl : cell = cell' := Option.some.inj (h3.symm.trans h3')
  exact Option.some.inj (h5.symm.trans h5')
theorem ft_T_inj {ty : FieldType} {t N N' : Nat} {f f' : Nat → Value} {A : Nat → Prop} {U : State} {H : Heap} (hN : N < 2 ^ 31) (hN' : N' < 2 ^ 31) (h : va_T ty t N f A U H) (h' : va_T ty t N' f' A U H) : N = N' ∧ ∀ j, j < N → f j = f' j := by
  obtain ⟨cell, h1, -, -, -, h5, h6, -⟩ := h
  obtain ⟨cell', h1', -, -, -, h5', h6', -⟩ := h'
  obtain rfl : cell = cell' := Option.some.inj (h1.symm.trans h1')
  have e : N = N' := by
    have e1 : nI N = nI N' := h5.symm.trans h5'
    exact (nI_eq hN hN').mp e1
  refine ⟨e, fun j hj => ?_⟩
  exact Option.some.inj ((h6 j hj).symm.trans (h6' j (by omega)))
theorem ft_Smk {args : Array Value} {s : State} {N : Nat} {tm : Nat → Term} {len : List Nat} {byt : List (List Int32)} {A : Nat → Prop} (hN : ∀ i : Nat, i < N → len.getD i 0 < 2 ^ 31) (hex : ∀ i : Nat, i < N → (Cond.exactly (tm i) "java/lang/String").before args s = true) (hco : ∀ i : Nat, i < N → (Cond.eq (.field (tm i) "java/lang/String" "coder" "B") (.int 0)).before args s = true)
    (har : ∀ i : Nat, i < N → (Cond.arrayOf (.field (tm i) "java/lang/String" "value" "[B") .byte).before args s = true) (hle : ∀ i : Nat, i < N → (Cond.eq (.length (.field (tm i) "java/lang/String" "value" "[B")) (.int (Int32.ofNat (len.getD i 0)))).before args s = true)
    (hel : ∀ i : Nat, i < N → ∀ j : Nat, j < len.getD i 0 → (Cond.eq (.elem (.field (tm i) "java/lang/String" "value" "[B") (.int (Int32.ofNat j))) (.int ((byt.getD i []).getD j 0))).before args s = true)
    (hdi : ∀ i : Nat, i < N → ∀ j : Nat, j < N → i ≠ j → (len.getD i 0 ≠ len.getD j 0 ∨ ∃ k, k < len.getD i 0 ∧ (byt.getD i []).getD k 0 ≠ (byt.getD j []).getD k 0)) (hA : ∀ a : Nat, a < s.heap.size → ¬ A a) :
    ∃ adK adV : Nat → Nat, vk_S N len byt adK adV A s s.heap ∧ ∀ i : Nat, i < N → (tm i).eval args s none [] s = some (.ref (adK i)) := by
  have h0 : ∀ i : Nat, ∃ q : Nat × Nat, i < N → (tm i).eval args s none [] s = some (.ref q.1) ∧ va_O "java/lang/String" q.1 A s s.heap ∧ va_OF "java/lang/String" "coder" "B" (.int 0) q.1 A s s.heap ∧ va_OF "java/lang/String" "value" "[B" (.ref q.2) q.1 A s s.heap ∧ va_T .byte q.2 (len.getD i 0) (fun j => .int ((byt.getD i []).getD j 0)) A s s.heap := by
    intro i
    by_cases hi : i < N
    · obtain ⟨aK, aV, h1, h2⟩ := vk_Sof (args := args) (s := s) (N := 1) (tm := fun _ => tm i) (len := [len.getD i 0]) (byt := [byt.getD i []]) (A := A)
        (fun k hk => by obtain rfl : k = 0 := by omega
                        exact hN i hi) (fun _ _ => hex i hi) (fun _ _ => hco i hi) (fun _ _ => har i hi)
        (fun k hk => by obtain rfl : k = 0 := by omega
                        exact hle i hi)
        (fun k hk => by obtain rfl : k = 0 := by omega
                        exact hel i hi) (fun a b ha hb hab => absurd (show a = b by omega) hab) hA
      exact ⟨(aK 0, aV 0), fun _ => ⟨h2 0 (by omega), h1.1 0 (by omega)⟩⟩
    · exact ⟨(0, 0), fun h => absurd h hi⟩
  obtain ⟨ad, had⟩ := Classical.axiomOfChoice h0
  refine ⟨fun i => (ad i).1, fun i => (ad i).2, ⟨fun i hi => (had i hi).2, fun i j hi hj e => ?_⟩, fun i hi => (had i hi).1⟩
  by_cases hij : i = j
  · exact hij
  · exfalso
    have e : (ad i).1 = (ad j).1 := e
    have a1 := (had i hi).2.2.2.1
    have a2 := (had j hj).2.2.2.1
    rw [e] at a1
    have e2 := ft_OF_inj a1 a2
    have e3 : (ad i).2 = (ad j).2 := by injection e2
    have b1 := (had i hi).2.2.2.2
    have b2 := (had j hj).2.2.2.2
    rw [e3] at b1
    obtain ⟨c1, c2⟩ := ft_T_inj (hN i hi) (hN j hj) b1 b2
    rcases hdi i hi j hj hij with h | ⟨k, hk, h⟩
    · exact h c1
    · refine h ?_
      have := c2 k hk
      injection this
theorem zz_exi : ∀ E ∈ ft_exc, ∃ i, i < 6 ∧ ft_exc.getD i "" = E := by decide
theorem ft_Kof {args : Array Value} {s : State} (ht : ∀ w ∈ tables_1, w.before args s = true) : ∃ (D : va_G) (k : Nat → ClassId), ft_K D k s := by
  obtain ⟨cz, iz, hz⟩ := u_known (C := RJ0) (T := TJ0) (N := 4) (n := 4) ht zzuRJ0 (ht _ zztinRJ0)
  have h0 : ∀ c : Nat, ∃ x : ClassId × (Nat → Nat), ∀ q, vwCl[c]? = some q → u_Kn s q.1 q.2.1 q.2.2 x.1 x.2 := by
    intro c
    match c with
    | 0 => exact ⟨(cz, iz), fun q hq => by cases hq; exact hz⟩
    | 1 => obtain ⟨a, b, h⟩ := u_known (C := RJ4) (T := TJ4) (N := 4) (n := 4) ht zzuRJ4 (ht _ zztinRJ4); exact ⟨(a, b), fun q hq => by cases hq; exact h⟩
    | 2 => obtain ⟨a, b, h⟩ := u_known (C := RJx00060) (T := TJx00060) (N := 6) (n := 6) ht zzuRJx00060 (ht _ zztinRJx00060); exact ⟨(a, b), fun q hq => by cases hq; exact h⟩
    | 3 => obtain ⟨a, b, h⟩ := u_known (C := RJx7c733) (T := TJx7c733) (N := 6) (n := 6) ht zzuRJx7c733 (ht _ zztinRJx7c733); exact ⟨(a, b), fun q hq => by cases hq; exact h⟩
    | 4 => obtain ⟨a, b, h⟩ := u_known (C := RX2) (T := TX2) (N := 2) (n := 2) ht zzuRX2 (ht _ zztinRX2); exact ⟨(a, b), fun q hq => by cases hq; exact h⟩
    | 5 => obtain ⟨a, b, h⟩ := u_known (C := RX3) (T := TX3) (N := 4) (n := 4) ht zzuRX3 (ht _ zztinRX3); exact ⟨(a, b), fun q hq => by cases hq; exact h⟩
    | 6 => obtain ⟨a, b, h⟩ := u_known (C := RX4) (T := TX4) (N := 12) (n := 12) ht zzuRX4 (ht _ zztinRX4); exact ⟨(a, b), fun q hq => by cases hq; exact h⟩
    | 7 => obtain ⟨a, b, h⟩ := u_known (C := RX5) (T := TX5) (N := 2) (n := 2) ht zzuRX5 (ht _ zztinRX5); exact ⟨(a, b), fun q hq => by cases hq; exact h⟩
    | 8 => obtain ⟨a, b, h⟩ := u_known (C := RX6) (T := TX6) (N := 6) (n := 6) ht zzuRX6 (ht _ zztinRX6); exact ⟨(a, b), fun q hq => by cases hq; exact h⟩
    | 9 => obtain ⟨a, b, h⟩ := u_known (C := RX7) (T := TX7) (N := 9) (n := 9) ht zzuRX7 (ht _ zztinRX7); exact ⟨(a, b), fun q hq => by cases hq; exact h⟩
    | c + 10 => exact ⟨(cz, iz), fun q hq => by simp [vwCl] at hq⟩
  obtain ⟨F, hF⟩ := Classical.axiomOfChoice h0
  obtain ⟨c0, k0, m0, a1, a2, a3⟩ := Cond.arrayClass_spec (ht _ zztAC0)
  obtain ⟨c4, k4, m4, b1, b2, b3⟩ := Cond.arrayClass_spec (ht _ zztAC1)
  obtain ⟨m1, c1, k1, d1, -, d3, d4, d5⟩ := Cond.arrayOver_spec (ht _ zztAO0)
  obtain ⟨m2, c2, k2, e1, -, e3, e4, e5⟩ := Cond.arrayOver_spec (ht _ zztAO1)
  obtain ⟨m3, c3, k3, f1, -, f3, f4, f5⟩ := Cond.arrayOver_spec (ht _ zztAO2)
  refine ⟨(fun c => (F c).1, fun c => (F c).2), fun j => match j with | 0 => c0 | 1 => c1 | 2 => c2 | 3 => c3 | _ => c4, ⟨⟨fun c q hq => hF c q hq, fun j q hq => ?_⟩, fun q hq => va_Nw.of rfl (ht _ (zztnF q hq)), fun q hq => va_Nw.of rfl (ht _ (zztnM q hq))⟩⟩
  match j, hq with
  | 0, hq => cases hq; exact ⟨fun n z => ⟨(fun k h => by cases h), k0, a2, m0, a3⟩, a1⟩
  | 1, hq => cases hq; exact ⟨fun n z => ⟨(fun k h => by cases h), k1, d3, m1, d4⟩, k1, m1, d3, d4, d1, d5⟩
  | 2, hq => cases hq; exact ⟨fun n z => ⟨(fun k h => by cases h), k2, e3, m2, e4⟩, k2, m2, e3, e4, e1, e5⟩
  | 3, hq => cases hq; exact ⟨fun n z => ⟨(fun k h => by cases h), k3, f3, m3, f4⟩, k3, m3, f3, f4, f1, f5⟩
  | 4, hq => cases hq; exact ⟨fun n z => ⟨(fun k h => by cases h), k4, b2, m4, b3⟩, b1⟩
  | j + 5, hq => simp at hq
theorem ft_Mof {args : Array Value} {s : State} (ht : ∀ w ∈ tables_1, w.before args s = true) (hg : (Jvm.Cond.and given_1 narrow_1).before args s = true) : ft_M s := by
  refine ⟨fun E hE => va_Nw.of rfl (ht _ (zztca E hE)), fun q hq => ?_, fun E hE => va_Nw.of rfl (ht _ (zztde E hE))⟩
  obtain ⟨i, hi, e1, e2⟩ := zztsk q hq
  obtain ⟨a, c, cell, kA, q1, -⟩ := Cond.exactly_spec (args := args) (first := s) (o := none) (s := s) (idx := []) (zzfb hg (zs_exx i hi))
  exact ⟨a, vk_R.of (ht _ (zztsr q hq)) (by rw [e1, e2]; exact q1)⟩
theorem ft_ELof {args : Array Value} {s : State} {A : Nat → Prop} (hA : ∀ a : Nat, a < s.heap.size → ¬ A a) (ht : ∀ w ∈ tables_1, w.before args s = true) (hg : (Jvm.Cond.and given_1 narrow_1).before args s = true) : ∃ (D : va_G) (k : Nat → ClassId) (Z : Nat → Nat → Nat), ft_EL D k Z A s := by
  obtain ⟨D, k, hK⟩ := ft_Kof ht
  obtain ⟨ad, hEn, hev⟩ := va_Enof2 (args := args) (s := s) (E := RX1) (d := "LFoodTruckRota$Command;") (nm := ft_enN) (F := ft_enF) (A := A) (fun i hi => ht _ (zztls i hi)) (ht _ zzti1) (fun i hi => zzfb hg (ze_ex i hi)) (fun q hq i hi => by
    rcases List.mem_cons.mp hq with rfl | hq
    · exact zzfb hg (ze_f0 i hi)
    · rcases List.mem_cons.mp hq with rfl | hq
      · exact zzfb hg (ze_f1 i hi)
      · rcases List.mem_cons.mp hq with rfl | hq
        · exact zzfb hg (ze_f2 i hi)
        · exact absurd hq List.not_mem_nil) (fun i j hi hj hij => by
    rcases ze_d i hi j hj hij with h | h
    · exact Or.inl (zzfb hg h)
    · exact Or.inr (zzfb hg h)) hA
  obtain ⟨a1, v1, hS9, hSe⟩ := ft_Smk (args := args) (s := s) (N := 9) (tm := fun i => .string RX1 (zzk9.getD i 0)) (len := ft_wln) (byt := ft_wby) (A := A) zs_ln9 (fun i hi => zzfb hg (zs_ex9 i hi)) (fun i hi => zzfb hg (zs_co9 i hi)) (fun i hi => zzfb hg (zs_ar9 i hi)) (fun i hi => zzfb hg (zs_le9 i hi)) (fun i hi j hj => zzfb hg (zs_el9 i hi j hj)) zs_di9 hA
  obtain ⟨a2, v2, hS28, hSe28⟩ := ft_Smk (args := args) (s := s) (N := 28) (tm := fun i => .string RL (zzk28.getD i 0)) (len := ft_scn) (byt := ft_scy) (A := A) zs_ln28 (fun i hi => zzfb hg (zs_ex28 i hi)) (fun i hi => zzfb hg (zs_co28 i hi)) (fun i hi => zzfb hg (zs_ar28 i hi)) (fun i hi => zzfb hg (zs_le28 i hi)) (fun i hi j hj => zzfb hg (zs_el28 i hi j hj)) zs_di28 hA
  have hwd : va_Ef 9 RX1 "word" "Ljava/lang/String;" (fun i => .ref (a1 i)) ad A s s.heap := va_Efof (args := args) (N := 9) (E := RX1) (d0 := "LFoodTruckRota$Command;") (nm := ft_enN) (tm := fun i => .string RX1 (zzk9.getD i 0)) (fun i hi => hev i hi) (fun i hi => zzfb hg (ze_wd i hi)) (fun i hi => hSe i hi) hA
  obtain ⟨tA, hAe, hAT⟩ := va_Tof (args := args) (s := s) (tm := .static RX1 "ALL" "[LFoodTruckRota$Command;") (ty := .object RX1) (N := 9) (f := fun j => .ref (ad j)) (A := A) (by decide) (zzfb hg za_arAL) (va_eqt (zzfb hg za_leAL)) (fun j hj => va_eqv (zzfb hg (za_elAL j hj)) (hev j hj)) hA
  obtain ⟨tS, hSwe, hSwT⟩ := va_Tof (args := args) (s := s) (tm := .static RX0 "$SwitchMap$FoodTruckRota$Command" "[I") (ty := .int) (N := 9) (f := fun j => .int (if j < 8 then nI (j + 1) else 0)) (A := A) (by decide) (zzfb hg za_arSW) (va_eqt (zzfb hg za_leSW)) (fun j hj => va_eqt (zzfb hg (za_elSW j hj))) hA
  obtain ⟨t1, h1e, h1T⟩ := va_Tof (args := args) (s := s) (tm := .static "java/lang/Integer" "DigitOnes" "[B") (ty := .byte) (N := 100) (f := fun j => .int (nI (48 + j % 10))) (A := A) (by decide) (zzfb hg za_arD1) (va_eqt (zzfb hg za_leD1)) (fun j hj => va_eqt (zzfb hg (za_elD1 j hj))) hA
  obtain ⟨t2, h2e, h2T⟩ := va_Tof (args := args) (s := s) (tm := .static "java/lang/Integer" "DigitTens" "[B") (ty := .byte) (N := 100) (f := fun j => .int (nI (48 + j / 10))) (A := A) (by decide) (zzfb hg za_arD2) (va_eqt (zzfb hg za_leD2)) (fun j hj => va_eqt (zzfb hg (za_elD2 j hj))) hA
  obtain ⟨tC, hCe, hCT⟩ := va_Tof (args := args) (s := s) (tm := .static RL "SCRIPTS" "[Ljava/lang/String;") (ty := .object RJ0) (N := 28) (f := fun j => .ref (a2 j)) (A := A) (by decide) (zzfb hg za_arSC) (va_eqt (zzfb hg za_leSC)) (fun j hj => va_eqv (zzfb hg (za_elSC j hj)) (hSe28 j hj)) hA
  refine ⟨D, k, fun i => match i with | 0 => ad | 1 => a1 | 2 => v1 | 3 => (fun j => match j with | 0 => tA | 1 => tS | 2 => t1 | 3 => t2 | _ => tC) | 4 => a2 | _ => v2, ⟨hK, ft_Mof ht hg, hEn, hwd, hS9, va_Zof (ht _ zztlAL) (ht _ zzti1) hAe hA, hAT, va_Zof (ht _ zztlSW) (ht _ zzti0) hSwe hA, hSwT, va_Zof (ht _ zztlCS) (ht _ zztiS) (va_eqt (zzfb hg ze_cs)) hA, vx_Zqof (ht _ zztlUS) (ht _ zztiT) (zzfb hg ze_us) hA, vx_Zqof (ht _ zztlSS) (ht _ zztiT) (zzfb hg ze_ss) hA, va_Zof (ht _ zztlD1) (ht _ zztiI) h1e hA, h1T, va_Zof (ht _ zztlD2) (ht _ zztiI) h2e hA, h2T, va_Zqof (ht _ zztlSF) (ht _ zztiP) (zzfb hg ze_sf) hA⟩, ?_, ⟨va_AO.of (ht _ zztAO0), va_AO.of (ht _ zztAO1), va_AO.of (ht _ zztAO2)⟩, ⟨va_Zof (ht _ zztlSC) (ht _ zztiL) hCe hA, hCT, hS28⟩, fun q hq => va_Nw.of rfl (ht _ (zztlk q hq))⟩
  intro E hE E' hE' hne
  obtain ⟨i, hi, rfl⟩ := zz_exi E hE
  obtain ⟨j, hj, rfl⟩ := zz_exi E' hE'
  exact va_Nc.of (zzfb hg (ze_nc i hi j hj (fun e => hne (by rw [e]))))
