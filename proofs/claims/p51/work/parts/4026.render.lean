/-! the texts that are rendered: what they leave alone -/
def tk (o0 : Nat → Int32) (g0 : ft_G) (o : Nat → Int32) (g : ft_G) : Prop := (∀ i, i ≠ 7 → i ≠ 9 → o i = o0 i) ∧ g.1 = g0.1 ∧ g.2.2 = g0.2.2
theorem tk.v {o0 o : Nat → Int32} {g0 g : ft_G} (h : tk o0 g0 o g) (V : ft_TB) : tk o0 g0 (ft_po261 o V) (ft_pg261 g V) := by
  refine ⟨fun i h7 h9 => ?_, h.2.1, h.2.2⟩
  show va_up (va_up o 9 V.1) 7 V.2.1 i = _
  rw [va_up_ne _ _ h7, va_up_ne _ _ h9]
  exact h.1 i h7 h9
theorem tk.c {o0 o : Nat → Int32} {g0 g : ft_G} (h : tk o0 g0 o g) (x : Int32) : tk o0 g0 (ft_oc261 o g x).1 (ft_oc261 o g x).2 := h.v _
theorem tk.i {o0 o : Nat → Int32} {g0 g : ft_G} (h : tk o0 g0 o g) (x : Int32) : tk o0 g0 (ft_oi261 o g x).1 (ft_oi261 o g x).2 := h.v _
theorem tk.z {o0 o : Nat → Int32} {g0 g : ft_G} (h : tk o0 g0 o g) : tk o0 g0 (ft_oz261 o g).1 (ft_oz261 o g).2 := h.v _
abbrev ft_XG : Type := Except String Int32 × ((Nat → Int32) × ft_G)
def tke (o0 : Nat → Int32) (g0 : ft_G) (e : ft_XG) : Prop := tk o0 g0 e.2.1 e.2.2
theorem tke.if_ {o0 : Nat → Int32} {g0 : ft_G} {p : Prop} [Decidable p] {a b : ft_XG} (ha : tke o0 g0 a) (hb : tke o0 g0 b) : tke o0 g0 (if p then a else b) := by
  by_cases h : p
  · rw [if_pos h]; exact ha
  · rw [if_neg h]; exact hb
theorem tke.xs {o0 : Nat → Int32} {g0 : ft_G} {α : Type} {r : Except String α} {u : (Nat → Int32) × ft_G} {f : α → ft_XG} (hu : tk o0 g0 u.1 u.2) (hf : ∀ a, tke o0 g0 (f a)) : tke o0 g0 (ft_xs r u f) := by
  cases r with
  | ok a => exact hf a
  | error E => exact hu
theorem tk_L14 {o0 : Nat → Int32} {g0 : ft_G} {q : Nat → Nat → Int32} {o1 : Nat → Int32} {g1 : ft_G} {x : Int32} {K : Int32 → (Nat → Int32) → ft_G → ft_XG} (hK : ∀ y o g, tk o0 g0 o g → tke o0 g0 (K y o g)) : ∀ (n : Nat) (y : Int32) (o : Nat → Int32) (g : ft_G), tk o0 g0 o g → tke o0 g0 (s_X7_renderDay_L14 q o1 g1 x K n y o g) := by
  intro n
  induction n with
  | zero => intro y o g h; exact hK y o g h
  | succ n ih =>
    intro y o g h
    rw [s_X7_renderDay_L14]
    exact tke.if_ (hK y o g h) (tke.if_ (ih _ _ _ (h.c _)) (ih _ _ _ (h.i _)))
theorem tk_L44 {o0 : Nat → Int32} {g0 : ft_G} {q : Nat → Nat → Int32} {o1 : Nat → Int32} {g1 : ft_G} {x : Int32} {K : Int32 → (Nat → Int32) → ft_G → ft_XG} (hK : ∀ y o g, tk o0 g0 o g → tke o0 g0 (K y o g)) : ∀ (n : Nat) (y : Int32) (o : Nat → Int32) (g : ft_G), tk o0 g0 o g → tke o0 g0 (s_X7_renderTruck_L44 q o1 g1 x K n y o g) := by
  intro n
  induction n with
  | zero => intro y o g h; exact hK y o g h
  | succ n ih =>
    intro y o g h
    rw [s_X7_renderTruck_L44]
    exact tke.if_ (hK y o g h) (tke.if_ (ih _ _ _ (h.i _)) (ih _ _ _ ((h.c _).i _)))
theorem tk_L130 {o0 : Nat → Int32} {g0 : ft_G} {q : Nat → Nat → Int32} {o1 : Nat → Int32} {g1 : ft_G} {x : Int32} {K : Int32 → (Nat → Int32) → ft_G → ft_XG} (hK : ∀ y o g, tk o0 g0 o g → tke o0 g0 (K y o g)) : ∀ (n : Nat) (y : Int32) (o : Nat → Int32) (g : ft_G), tk o0 g0 o g → tke o0 g0 (s_X7_renderTruck_L130 q o1 g1 x K n y o g) := by
  intro n
  induction n with
  | zero => intro y o g h; exact hK y o g h
  | succ n ih =>
    intro y o g h
    rw [s_X7_renderTruck_L130]
    exact tke.if_ (hK y o g h) (ih _ _ _ (h.c _))
theorem tk.rf {o : Nat → Int32} {g : ft_G} : tk o g o g := ⟨fun _ _ _ => rfl, rfl, rfl⟩
theorem tk_day (q : Nat → Nat → Int32) (o : Nat → Int32) (g : ft_G) (x : Int32) : tke o g (s_X7_renderDay q o g x) := by
  unfold s_X7_renderDay
  exact tke.xs tk.rf (fun _ => tk_L14 (by intro y o g h; exact h) _ _ _ _ tk.rf.z)
theorem tk_truck (q : Nat → Nat → Int32) (o : Nat → Int32) (g : ft_G) (x : Int32) : tke o g (s_X7_renderTruck q o g x) := by
  unfold s_X7_renderTruck
  exact tke.xs tk.rf (fun _ => tk_L44 (by
    intro y o g h
    exact tke.if_ ((h.c _).i _) (tk_L130 (by intro y o g h; exact h) _ _ _ _ ((((h.c _).i _).c _).i _))) _ _ _ _ (((tk.rf.z.c _).i _).c _))
theorem tk.zm {σ : ft_Sg} {o : Nat → Int32} {g : ft_G} (h : tk σ.2.2.1 σ.2.2.2 o g) : ft_zm σ (σ.1, σ.2.1, o, g) := ⟨rfl, rfl, h.1 0 (by omega) (by omega), h.1 2 (by omega) (by omega), h.1 3 (by omega) (by omega), h.1 6 (by omega) (by omega)⟩
theorem j_sm_renderDay {σ : ft_Sg} (x : Int32) : ft_zm σ (l_renderDay σ x).2 := (tk_day σ.1 σ.2.2.1 σ.2.2.2 x).zm
theorem j_sm_renderTruck {σ : ft_Sg} (x : Int32) : ft_zm σ (l_renderTruck σ x).2 := (tk_truck σ.1 σ.2.2.1 σ.2.2.2 x).zm
theorem j_r_renderDay {σ : ft_Sg} (x : Int32) : (l_renderDay σ x).2.1 0 = σ.1 0 := rfl
theorem j_r_renderTruck {σ : ft_Sg} (x : Int32) : (l_renderTruck σ x).2.1 0 = σ.1 0 := rfl
theorem tk.J {c : Nat} {σ : ft_Sg} (h : ft_Jd c σ) {o : Nat → Int32} {g : ft_G} (ht : tk σ.2.2.1 σ.2.2.2 o g) (h1 : ft_ok261 o g 70) : ft_Jd c (σ.1, σ.2.1, o, g) := by
  obtain ⟨hpm, hrow, ⟨n, hn, ho⟩, h9, -, hg⟩ := h
  obtain ⟨t1, t2, t3⟩ := ht
  refine ⟨hpm, hrow, ⟨n, hn, (t1 3 (by omega) (by omega)).trans ho⟩, ?_, h1, fun n hn => ?_⟩
  · unfold ft_ok259 at *
    show (∃ c, c ≤ 60 ∧ o 6 = nI c ∧ c ≤ g.1.1) ∧ (g.1.1 = 16 ∨ g.1.1 = 34 ∨ g.1.1 = 70) ∧ sb_Fit g.1.2
    rw [t2, t1 6 (by omega) (by omega)]
    exact h9
  · show g.2.2.1 n < 9
    rw [t3]
    exact hg n hn
/-! how long a text is -/
def tb (a b : Nat) (o : Nat → Int32) (g : ft_G) : Prop := ft_ok261 o g b ∧ ∃ n, a ≤ n ∧ n ≤ b ∧ o 7 = nI n
theorem tb.z {o : Nat → Int32} {g : ft_G} {n : Nat} (h : ft_ok261 o g n) : tb 0 0 (ft_oz261 o g).1 (ft_oz261 o g).2 := by
  obtain ⟨e1, e2, -, -⟩ := h.z.cnt (by omega)
  exact ⟨h.z, _, Nat.zero_le _, e2, e1⟩
theorem tb.c {a b : Nat} {o : Nat → Int32} {g : ft_G} (h : tb a b o g) (hb : b + 1 ≤ 70) (x : Int32) : tb (a + 1) (b + 1) (ft_oc261 o g x).1 (ft_oc261 o g x).2 := by
  obtain ⟨h1, n, h2, h3, h4⟩ := h
  refine ⟨h1.c hb, n + 1, by omega, by omega, ?_⟩
  show o 7 + 1 = _
  rw [h4, nI_1]
theorem tb.i {a b d : Nat} {o : Nat → Int32} {g : ft_G} (h : tb a b o g) {x : Int32} (hd : sb_dg (tn x) ≤ d) (hb : b + d ≤ 70) : tb (a + 1) (b + d) (ft_oi261 o g x).1 (ft_oi261 o g x).2 := by
  obtain ⟨h1, n, h2, h3, h4⟩ := h
  have h5 := sb_dg_in (tn x)
  have hn : tn (o 7) = n := by rw [h4]; exact ft_tnI (by omega)
  refine ⟨h1.i hd hb, n + sb_dg (tn x), by omega, by omega, ?_⟩
  show nI (tn (o 7) + sb_dg (tn x)) = _
  rw [hn]
def tbe (a : Nat) (e : ft_XG) : Prop := ∃ o g n b, e = (.ok (nI n), (o, g)) ∧ a ≤ n ∧ n ≤ 70 ∧ b ≤ 70 ∧ ft_ok261 o g b
theorem tb.e {a b : Nat} {o : Nat → Int32} {g : ft_G} (h : tb a b o g) (hb : b ≤ 70) : tbe a (.ok (s_J4_length_8abf5 (o 9, o 7, g.2.1.1, g.2.1.2)), (o, g)) := by
  obtain ⟨h1, n, h2, h3, h4⟩ := h
  refine ⟨o, g, n, b, ?_, h2, by omega, hb, h1⟩
  show (Except.ok (o 7), (o, g)) = _
  rw [h4]
theorem tb.cast {a b a' b' : Nat} {o : Nat → Int32} {g : ft_G} (h : tb a b o g) (ha : a = a') (hb : b = b') : tb a' b' o g := by subst ha hb; exact h
theorem ft_xs_k {α β σ : Type} {a : α} {u : σ} {f : α → Except String β × σ} : ft_xs (.ok a) u f = f a := rfl
theorem tb_L130 {q : Nat → Nat → Int32} {o1 : Nat → Int32} {g1 : ft_G} {x : Int32} {Q A B : Nat} (hQ : q 0 (51 + 17 * (tn x) + 2) = nI Q) (hQ9 : Q ≤ 9) (hB : B + 9 ≤ 70) : ∀ (n i m : Nat) (y : Int32) (o : Nat → Int32) (g : ft_G), i + n = Q → y = nI i → n < m → tb (A + i) (B + i) o g → tbe (A + Q) (s_X7_renderTruck_L130 q o1 g1 x (fun y4_130 o_130 g_130 => (.ok (s_J4_length_8abf5 (o_130 9, o_130 7, g_130.2.1.1, g_130.2.1.2)), (o_130, g_130))) m y o g) := by
  intro n
  induction n with
  | zero =>
    intro i m y o g hi hy hm h
    subst hy
    obtain ⟨m, rfl⟩ : ∃ q, m = q + 1 := ⟨m - 1, by omega⟩
    obtain rfl : i = Q := by omega
    rw [s_X7_renderTruck_L130, hQ, if_pos (Int32.le_refl _)]
    exact h.e (by omega)
  | succ n ih =>
    intro i m y o g hi hy hm h
    subst hy
    obtain ⟨m, rfl⟩ : ∃ q, m = q + 1 := ⟨m - 1, by omega⟩
    rw [s_X7_renderTruck_L130, hQ, if_neg ((nI_geI (by omega) (by omega)).mpr (by omega)), nI_1]
    exact ih (i + 1) m _ _ _ (by omega) rfl (by omega) (h.c (by omega) _)
theorem tb_L44 {q : Nat → Nat → Int32} {o1 : Nat → Int32} {g1 : ft_G} {x : Int32} {a : Nat} (hp : ∀ z, tn (s_X6_portionsOf (q 0) (51 + 17 * (tn x)) z) < 1000) (K : Int32 → (Nat → Int32) → ft_G → ft_XG) (hK : ∀ y o g, tb 10 19 o g → tbe a (K y o g)) : ∀ (n i m : Nat) (y : Int32) (o : Nat → Int32) (g : ft_G), i + n = 4 → y = nI i → n < m → tb (3 + (2 * i - 1)) (3 + 4 * i) o g → tbe a (s_X7_renderTruck_L44 q o1 g1 x K m y o g) := by
  intro n
  induction n with
  | zero =>
    intro i m y o g hi hy hm h
    subst hy
    obtain ⟨m, rfl⟩ : ∃ q, m = q + 1 := ⟨m - 1, by omega⟩
    obtain rfl : i = 4 := by omega
    rw [s_X7_renderTruck_L44, if_pos (by decide)]
    exact hK _ _ _ h
  | succ n ih =>
    intro i m y o g hi hy hm h
    subst hy
    obtain ⟨m, rfl⟩ : ∃ q, m = q + 1 := ⟨m - 1, by omega⟩
    rw [s_X7_renderTruck_L44, if_neg (show ¬ (4 : Int32) ≤ nI i from (nI_geI (a := 4) (by decide) (by omega)).mpr (by omega)), nI_1]
    by_cases h0 : i = 0
    · subst h0
      rw [if_pos (show nI 0 ≤ (0 : Int32) by decide)]
      obtain ⟨k1, k2⟩ := h.i (ft_sdg3 (hp (nI 0))) (by omega)
      exact ih (0 + 1) m _ _ _ (by omega) rfl (by omega) ⟨k1.mono (by omega), k2.imp (fun n hn => ⟨by omega, by omega, hn.2.2⟩)⟩
    · rw [if_neg (show ¬ nI i ≤ (0 : Int32) from (nI_geI (b := 0) (by omega) (by decide)).mpr (by omega))]
      obtain ⟨k1, k2⟩ := (h.c (by omega) 44).i (ft_sdg3 (hp (nI i))) (by omega)
      exact ih (i + 1) m _ _ _ (by omega) rfl (by omega) ⟨k1.mono (by omega), k2.imp (fun n hn => ⟨by omega, by omega, hn.2.2⟩)⟩
/-- a truck's text: at least so long, and what it leaves -/
theorem tb_truck {q : Nat → Nat → Int32} {o : Nat → Int32} {g : ft_G} {x : Int32} {Q : Nat} (h : ft_ok261 o g 70) (hT : ¬ s_X4_isTruck (q 0) x = 0) (hx : tn x < 10) (hp : ∀ z, tn (s_X6_portionsOf (q 0) (51 + 17 * (tn x)) z) < 1000) (hQ : q 0 (51 + 17 * (tn x) + 2) = nI Q) (hQ9 : Q ≤ 9) (hP : s_X4_pitchToday (q 0) x = -1 ∨ tn (s_X4_pitchToday (q 0) x) < 10) : tbe (if s_X4_pitchToday (q 0) x = -1 then 12 else 14 + Q) (s_X7_renderTruck q o g x) := by
  unfold s_X7_renderTruck s_X7_needTruck
  rw [if_neg hT]
  rw [ft_xs_k]
  refine tb_L44 hp _ ?_ 4 0 (tn 4 + 1) 0 _ _ rfl nI_0.symm (by decide) (((((tb.z h).c (by omega) 116).i (x := x) (ft_sdg1 hx) (by omega)).c (by omega) 58).cast rfl rfl)
  intro y o g h
  have h1 := (h.c (by omega) 36).i (x := q 0 (51 + 17 * (tn x) + 0)) (sb_dg_in _).2 (by omega)
  show tbe _ (if s_X4_pitchToday (q 0) x = -1 then _ else _)
  by_cases hpt : s_X4_pitchToday (q 0) x = -1
  · rw [if_pos hpt, if_pos hpt]
    exact h1.e (by omega)
  · rw [if_neg hpt, if_neg hpt]
    have h2 := (h1.c (by omega) 64).i (ft_sdg1 (hP.resolve_left hpt)) (by omega)
    exact tb_L130 (A := 14) (B := 32) hQ hQ9 (by omega) Q 0 (tn (q 0 (51 + 17 * (tn x) + 2)) + 1) 0 _ _ (by omega) nI_0.symm (by rw [hQ, ft_tnI (by omega)]; omega) (h2.cast rfl rfl)
