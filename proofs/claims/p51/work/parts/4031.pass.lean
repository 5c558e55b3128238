/-! time that passes; releases -/
theorem s4_1 {g : Nat → Nat} {t : Nat} (ht : t < 4) : g t ≤ s4 g := s4_le ht
/-- what passing m minutes does to a good row -/
theorem ps_ex {r : Nat → Int32} {m : Int32} (h : ft_Gd r) (hm : 1 ≤ m ∧ m ≤ 60) : ∃ X Y M, r = pu_r X ∧ m = nI M ∧ M ≤ 60 ∧ ft_pr r m = pu_r Y ∧ ft_pz r m = nI (pA Y 5) - nI (pA X 5) ∧ pu_I X ∧ pu_I Y ∧ pu_R X Y ∧ 60 * pA Y 1 + pA Y 2 = 60 * pA X 1 + pA X 2 + M ∧ pA Y 4 = pA X 4 + M * pA X 3 ∧ pA X 5 ≤ pA Y 5 ∧ pA Y 5 < 2 ^ 31 ∧ pA Y 4 < 2 ^ 31 := by
  obtain ⟨X, rfl, hI, hT, hb⟩ := h
  obtain ⟨M, hM, rfl⟩ := nI_of2 (x := m) (M := 60) (n := 60) rfl (j_m hm).1 hm.2
  obtain ⟨Y, y1, y2, y3, y4, y5, y6⟩ := pu_pass (M := M) (by omega) hI hT (by omega)
  have e5 : pA X 5 ≤ pA Y 5 := by rw [hI.2.1.2.1, y2.2.1.2.1]; exact pu_s4mono (fun d hd => (y4.2.1 d hd).2)
  have e6 := y2.2.1.1
  have e7 := y3.2
  refine ⟨X, Y, M, rfl, rfl, hM, ?_, ?_, hI, y2, y4, y5, y6, e5, by omega, by omega⟩
  · show (s_X4_passMinutes (pu_r X) (nI M)).2 = _
    rw [y1]
  · show (s_X4_passMinutes (pu_r X) (nI M)).1 = _
    rw [y1]
theorem g_p1 {r : Nat → Int32} {m : Int32} (h : ft_Gd r) (_h2 : ft_Gd (ft_pr r m)) (hm : 1 ≤ m ∧ m ≤ 60) : l_servedTotal (ft_nr (ft_pr r m)) = (l_servedTotal (ft_nr r)) + (ft_pz r m) := by
  obtain ⟨X, Y, M, rfl, rfl, hM, er, ez, hI, hY, hR, e1, e2, e3, e4, e5⟩ := ps_ex h hm
  rw [er, ez, v_served, v_served, pk_sub e3, nI_add]
  exact congrArg nI (by omega)
theorem g_p2 {r : Nat → Int32} {m : Int32} (h : ft_Gd r) (_h2 : ft_Gd (ft_pr r m)) (hm : 1 ≤ m ∧ m ≤ 60) : l_arrivedTotal (ft_nr (ft_pr r m)) = (l_arrivedTotal (ft_nr r)) + (m * (l_weather (ft_nr (ft_pr r m)))) := by
  obtain ⟨X, Y, M, rfl, rfl, hM, er, ez, hI, hY, hR, e1, e2, e3, e4, e5⟩ := ps_ex h hm
  rw [er, v_arrived, v_arrived, v_weather, hR.1.2.1, pk_mul, nI_add, e2]
theorem g_p3 {r : Nat → Int32} {m : Int32} (h : ft_Gd r) (_h2 : ft_Gd (ft_pr r m)) (hm : 1 ≤ m ∧ m ≤ 60) : (60 * (l_day (ft_nr (ft_pr r m)))) + (l_minute (ft_nr (ft_pr r m))) = ((60 * (l_day (ft_nr r))) + (l_minute (ft_nr r))) + m := by
  obtain ⟨X, Y, M, rfl, rfl, hM, er, ez, hI, hY, hR, e1, e2, e3, e4, e5⟩ := ps_ex h hm
  rw [er, v_day, v_day, v_minute, v_minute, show (60 : Int32) = nI 60 from rfl, pk_mul, pk_mul, nI_add, nI_add, nI_add, e1]
theorem v_stksum {X : pu_S} (hI : pu_I X) {d : Nat} (hd : d < 4) : ft_up (fun z => p_stock (ft_nr (pu_r X)) z (nI d)) 0 (tn (l_truckCount (ft_nr (pu_r X)))) = nI (s6 (fun t => pF X t (4 + d))) := by
  rw [v_tcnt hI.1, ft_up_0 (g := fun t => pF X t (4 + d)) (fun t ht => v_stock hI.1 ht hd), sN_6 hI.1.1 (fun t h1 h2 => (hI.2.2.2.2.1 t h2 h1).2.2 d hd)]
theorem g_p5 {r : Nat → Int32} {m : Int32} (h : ft_Gd r) (_h2 : ft_Gd (ft_pr r m)) (hm : 1 ≤ m ∧ m ≤ 60) : ∀ (y : Int32) (i : Nat), y = nI i → i + 1 ≤ 4 → (p_soldPortions (ft_nr (ft_pr r m)) y) - (p_soldPortions (ft_nr r) y) = ft_dn (fun z => p_stock (ft_nr (ft_pr r m)) z y) (ft_up (fun z => p_stock (ft_nr r) z y) 0 (tn (l_truckCount (ft_nr r)))) (tn (l_truckCount (ft_nr (ft_pr r m)))) ∧ ¬ (p_soldPortions (ft_nr (ft_pr r m)) y) - (p_soldPortions (ft_nr r) y) < 0 := by
  obtain ⟨X, Y, M, rfl, rfl, hM, er, ez, hI, hY, hR, e1, e2, e3, e4, e5⟩ := ps_ex h hm
  intro y i hy hi
  subst hy
  have hd : i < 4 := by omega
  obtain ⟨k1, k2⟩ := hR.2.1 i hd
  have k3 : pO Y i ≤ s4 (pO Y) := s4_1 hd
  have k4 := hY.2.1.2.1
  have h6 := hY.1.1
  have eY : sN (fun t => pF Y t (4 + i)) (pA Y 0) = s6 (fun t => pF Y t (4 + i)) := sN_6 h6 (fun t h1 h2 => (hY.2.2.2.2.1 t h2 h1).2.2 i hd)
  have eX : s6 (fun t => pF X t (4 + i)) = (pO Y i - pO X i) + sN (fun t => pF Y t (4 + i)) (pA Y 0) := by rw [eY]; omega
  rw [er, v_sold hd, v_sold hd, v_stksum hI hd, v_tcnt hY.1, pk_sub k2, eX, ft_dn_N (g := fun t => pF Y t (4 + i)) (w := pO Y i - pO X i) (N := pA Y 0) (pA Y 0) (Nat.le_refl _) (fun t ht => v_stock hY.1 ht hd), Nat.add_sub_cancel]
  exact ⟨rfl, nI_pos (by omega)⟩
theorem ft_bal {a b c : Int32} (h : b = a + c) : ((0 - a) + b) - c = 0 := by
  subst h
  grind
theorem g_p6 {r : Nat → Int32} {m : Int32} (h : ft_Gd r) (_h2 : ft_Gd (ft_pr r m)) (hm : 1 ≤ m ∧ m ≤ 60) : ft_dn (fun y => ((p_soldPortions (ft_nr (ft_pr r m)) y) - (p_soldPortions (ft_nr r) y)) * (p_price (ft_nr (ft_pr r m)) y)) (ft_up (fun y => p_coins (ft_nr (ft_pr r m)) y) (ft_dn (fun y => p_coins (ft_nr r) y) 0 (tn (l_truckCount (ft_nr r)))) (tn (l_truckCount (ft_nr (ft_pr r m))))) 4 = 0 := by
  obtain ⟨X, Y, M, rfl, rfl, hM, er, ez, hI, hY, hR, e1, e2, e3, e4, e5⟩ := ps_ex h hm
  have eY : sN (fun t => pF Y t 0) (pA Y 0) = s6 (fun t => pF Y t 0) := sN_6 hY.1.1 (fun t h1 h2 => (hY.2.2.2.2.1 t h2 h1).1)
  have eX : sN (fun t => pF X t 0) (pA X 0) = s6 (fun t => pF X t 0) := sN_6 hI.1.1 (fun t h1 h2 => (hI.2.2.2.2.1 t h2 h1).1)
  have k : ∀ d, d < 4 → pO Y d * pP X d = pO X d * pP X d + (pO Y d - pO X d) * pP X d := fun d hd => by
    have := (hR.2.1 d hd).2
    rw [← Nat.add_mul]
    congr 1
    omega
  have kb : s6 (fun t => pF Y t 0) + s4 (fun d => pO X d * pP X d) = s6 (fun t => pF X t 0) + s4 (fun d => pO Y d * pP X d) := hR.2.2
  have k4 : s4 (fun d => pO Y d * pP X d) = s4 (fun d => pO X d * pP X d) + s4 (fun d => (pO Y d - pO X d) * pP X d) := by
    show pO Y 0 * pP X 0 + pO Y 1 * pP X 1 + pO Y 2 * pP X 2 + pO Y 3 * pP X 3 = (pO X 0 * pP X 0 + pO X 1 * pP X 1 + pO X 2 * pP X 2 + pO X 3 * pP X 3) + ((pO Y 0 - pO X 0) * pP X 0 + (pO Y 1 - pO X 1) * pP X 1 + (pO Y 2 - pO X 2) * pP X 2 + (pO Y 3 - pO X 3) * pP X 3)
    rw [k 0 (by omega), k 1 (by omega), k 2 (by omega), k 3 (by omega)]
    omega
  have kc : s6 (fun t => pF Y t 0) = s6 (fun t => pF X t 0) + s4 (fun d => (pO Y d - pO X d) * pP X d) := by omega
  rw [er, v_tcnt hI.1, v_tcnt hY.1, ft_dn_z (g := fun t => pF X t 0) 0 (pA X 0) (fun t ht => v_coins hI.1 ht), ft_up_z (g := fun t => pF Y t 0) _ (pA Y 0) (fun t ht => v_coins hY.1 ht), ft_dn_z (g := fun d => (pO Y d - pO X d) * pP X d) _ 4 (fun d hd => by
    show ((p_soldPortions (ft_nr (pu_r Y)) (nI d)) - (p_soldPortions (ft_nr (pu_r X)) (nI d))) * (p_price (ft_nr (pu_r Y)) (nI d)) = _
    rw [v_sold hd, v_sold hd, v_price hd, hR.1.2.2.1, pk_sub (hR.2.1 d hd).2, pk_mul]), eX, eY, sN_4]
  refine ft_bal ?_
  rw [kc, nI_add]
/-! releases -/
theorem lv_ex {X : pu_S} {p : Nat} (hI : pu_I X) (h31 : pA X 1 < 2 ^ 31) (hp : p < 5) : s_X4_carryOut 6 (pu_r X) (nI p) (ft_td (pu_r X)) 0 = (if pH X (7 * p + pA X 1 % 7) = none then ((-5), pu_r X) else (ft_he (pH X (7 * p + pA X 1 % 7)), s_X4_endAssignment (pu_r X) (nI p) (nI (pA X 1 % 7)))) := by
  have hd : pA X 1 % 7 < 7 := Nat.mod_lt _ (by decide)
  show s_X4_carryOut_6 (pu_r X) (nI p) (ft_td (pu_r X)) 0 = _
  unfold s_X4_carryOut_6 s_X4_leavePitch
  rw [v_td h31, pu_isPitch1 hp, if_neg (by decide), pu_isWeekday1 hd, if_neg (by decide), pu_holderOf hp hd]
  cases hh : pH X (7 * p + pA X 1 % 7) with
  | none => rw [if_pos (show ft_he none = -1 from rfl), if_pos rfl]
  | some j => rw [if_neg (ft_he_n (hI.h31 _ (by omega) j hh)), if_neg (fun e => by cases e)]
theorem j_d1 {c : Nat} {σ : ft_Sg} {r : Nat → Int32} (h : ft_Jd c σ) (hc : c ≤ 1000) (hq : σ.1 0 = r) : ∀ (p : Int32) (i : Nat), p = nI i → i + 1 ≤ 5 → w_truckAt (ft_nr r) p (ft_td r) = -1000 → (w_release σ p (ft_td r)).1 = -100000000 ∧ (w_release σ p (ft_td r)).2.1 0 = r := by
  intro p i hp hi hw
  subst hp; subst hq
  obtain ⟨X, x1, x2, x3, x4⟩ := h.2.1 0 (by omega)
  have h31 : pA X 1 < 2 ^ 31 := by omega
  have hd : pA X 1 % 7 < 7 := Nat.mod_lt _ (by decide)
  rw [x1, v_td h31, v_truckAt x2 (by omega) hd] at hw
  have hn : pH X (7 * i + pA X 1 % 7) = none := by
    cases hh : pH X (7 * i + pA X 1 % 7) with
    | none => rfl
    | some t => rw [hh] at hw; exact absurd hw (ft_h1_n (x2.h31 _ (by omega) t hh))
  have ec := lv_ex x2 h31 (p := i) (by omega)
  rw [if_pos hn, ← x1] at ec
  have el : (lchg σ 6 (nI i) (ft_td (σ.1 0)) 0).1 = .error (ft_xn (-5)) := by
    unfold lchg
    rw [change_eq, ec, if_neg (show ¬ (0 : Int32) ≤ -5 by decide)]
  refine ⟨?_, ?_⟩
  · unfold w_release
    rw [lc_release, el]
  · rw [w2_release, lc_release]
    exact g_f h hc (fun z hz => by rw [el] at hz; cases hz)
theorem at_td {X : pu_S} {p : Nat} (hI : pu_I X) (h31 : pA X 1 < 2 ^ 31) (hp : p < 5) (hw : ¬ w_truckAt (ft_nr (pu_r X)) (nI p) (ft_td (pu_r X)) = -1000) : ∃ j, pH X (7 * p + pA X 1 % 7) = some j ∧ j < pA X 0 ∧ w_truckAt (ft_nr (pu_r X)) (nI p) (ft_td (pu_r X)) = nI j ∧ s_X4_carryOut 6 (pu_r X) (nI p) (ft_td (pu_r X)) 0 = (nI j, s_X4_endAssignment (pu_r X) (nI p) (nI (pA X 1 % 7))) := by
  have hd : pA X 1 % 7 < 7 := Nat.mod_lt _ (by decide)
  have ec := lv_ex hI h31 hp
  rw [v_td h31] at hw ec ⊢
  obtain ⟨j, h1, h2, h3, -⟩ := g_at hI hp hd hw
  rw [h1, if_neg (fun e => by cases e)] at ec
  exact ⟨j, h1, h2, h3, ec⟩
theorem j_d2 {c : Nat} {σ : ft_Sg} {r : Nat → Int32} (h : ft_Jd c σ) (hc : c ≤ 1000) (hq : σ.1 0 = r) : ∀ (p : Int32) (i : Nat), p = nI i → i + 1 ≤ 5 → ¬ w_truckAt (ft_nr r) p (ft_td r) = -1000 → (w_release σ p (ft_td r)).1 = w_truckAt (ft_nr r) p (ft_td r) ∧ (w_release σ p (ft_td r)).2.1 0 = ft_rl r p (ft_td r) ∧ ft_U r (w_release σ p (ft_td r)).2 := by
  intro p i hp hi hw
  subst hp; subst hq
  obtain ⟨X, x1, x2, x3, x4⟩ := h.2.1 0 (by omega)
  have h31 : pA X 1 < 2 ^ 31 := by omega
  have h6 := x2.1.1
  rw [x1] at hw
  obtain ⟨j, j1, j2, j3, j4⟩ := at_td x2 h31 (by omega) hw
  rw [← x1] at j3 j4
  have el : (lchg σ 6 (nI i) (ft_td (σ.1 0)) 0).1 = .ok (nI j) := by
    unfold lchg
    rw [change_eq, j4, if_pos (show 0 ≤ nI j from nI_pos' (by omega))]
  obtain ⟨g1, g2, -, -⟩ := g_U h hc el
  refine ⟨?_, ?_, ?_⟩
  · unfold w_release
    rw [lc_release, el, j3]
  · rw [w2_release, lc_release, g2]
    rfl
  · rw [w2_release, lc_release]
    exact g1
theorem g_d3 {r : Nat → Int32} (h : ft_Gd r) : ∀ (p : Int32) (i : Nat), p = nI i → i + 1 ≤ 5 → ¬ w_truckAt (ft_nr r) p (ft_td r) = -1000 → ¬ w_truckAt (ft_nr r) p (ft_td r) = -100000000 ∧ ¬ s_X4_isTruck r (w_truckAt (ft_nr r) p (ft_td r)) = 0 := by
  obtain ⟨X, rfl, hI, hT, hb⟩ := h
  intro p i hp hi hw
  subst hp
  have h6 := hI.1.1
  obtain ⟨j, j1, j2, j3, j4⟩ := at_td hI (by omega) (by omega) hw
  rw [j3]
  exact ⟨nI_big (by omega), nT hI.1 j2⟩
/-- the row behind a release of today -/
theorem rl_ex {X : pu_S} {p : Nat} (hI : pu_I X) (h31 : pA X 1 < 2 ^ 31) (hp : p < 5) (hw : ¬ w_truckAt (ft_nr (pu_r X)) (nI p) (ft_td (pu_r X)) = -1000) : ∃ j Y, w_truckAt (ft_nr (pu_r X)) (nI p) (ft_td (pu_r X)) = nI j ∧ j < pA X 0 ∧ ft_rl (pu_r X) (nI p) (ft_td (pu_r X)) = pu_r Y ∧ pu_I Y ∧ pA Y 0 = pA X 0 ∧ pA Y 1 = pA X 1 ∧ pA Y 6 = pA X 6 + pF X j 2 ∧ pF Y j 2 = 0 ∧ ft_ph (pH Y) (some j) (pA X 1 % 7) = none := by
  obtain ⟨j, j1, j2, j3, j4⟩ := at_td hI h31 hp hw
  obtain ⟨ha, hb, hc, hd, he, hf, hg, hh2⟩ := hI
  have hd7 : pA X 1 % 7 < 7 := Nat.mod_lt _ (by decide)
  obtain ⟨Y, y1, y2, y3, y4, y5, y6, y7, y8, -⟩ := pu_endAssignment hp hd7 ha hb hc hd he (fun i hi t hit => ⟨(hf i hi t hit).1, fun _ => (hf i hi t hit).2⟩) hg hh2 h31 j1
  obtain ⟨z1, z2⟩ := y8 rfl
  refine ⟨j, Y, j3, j2, ?_, y2, y3 0 (by omega), y3 1 (by omega), z1, z2, ?_⟩
  · show (s_X4_carryOut 6 (pu_r X) (nI p) (ft_td (pu_r X)) 0).2 = _
    rw [j4]
    exact y1
  · cases hh : ft_ph (pH Y) (some j) (pA X 1 % 7) with
    | none => rfl
    | some q =>
      obtain ⟨q5, q6, -⟩ := ft_ph_some hh
      rw [y6] at q6
      by_cases e : q = p
      · subst e
        rw [va_up_self] at q6
        cases q6
      · rw [va_up_ne _ _ (by omega)] at q6
        exact absurd (hg q p _ j q5 hp hd7 q6 j1) e
theorem g_d5 {r : Nat → Int32} (h : ft_Gd r) : ∀ (p : Int32) (i : Nat), p = nI i → i + 1 ≤ 5 → ¬ w_truckAt (ft_nr r) p (ft_td r) = -1000 → l_disappointedTotal (ft_nr (ft_rl r p (ft_td r))) = (l_disappointedTotal (ft_nr r)) + (p_queueLength (ft_nr r) (w_truckAt (ft_nr r) p (ft_td r))) := by
  obtain ⟨X, rfl, hI, hT, hb⟩ := h
  intro p i hp hi hw
  subst hp
  obtain ⟨j, Y, j3, j2, er, hY, e0, e1, e6, e2, e7⟩ := rl_ex hI (by omega) (by omega) hw
  rw [er, j3, v_dis, v_dis, v_queue hI.1 j2, nI_add, e6]
theorem g_d6 {r : Nat → Int32} (h : ft_Gd r) : ∀ (p : Int32) (i : Nat), p = nI i → i + 1 ≤ 5 → ¬ w_truckAt (ft_nr r) p (ft_td r) = -1000 → l_isOpen (ft_nr (ft_rl r p (ft_td r))) (w_truckAt (ft_nr r) p (ft_td r)) = .ok 0 ∧ l_queueLength (ft_nr (ft_rl r p (ft_td r))) (w_truckAt (ft_nr r) p (ft_td r)) = .ok 0 := by
  obtain ⟨X, rfl, hI, hT, hb⟩ := h
  intro p i hp hi hw
  subst hp
  have h31 : pA X 1 < 2 ^ 31 := by omega
  obtain ⟨j, Y, j3, j2, er, hY, e0, e1, e6, e2, e7⟩ := rl_ex hI h31 (by omega) hw
  have j2' : j < pA Y 0 := by rw [e0]; exact j2
  rw [er, j3]
  refine ⟨?_, ?_⟩
  · rw [v_isOpen hY j2' (by rw [e1]; exact h31), e1, e7]
  · unfold l_queueLength s_X7_queueLength s_X7_needTruck
    rw [if_neg (nT hY.1 j2')]
    show Except.ok (pu_r Y (51 + 17 * tn (nI j) + 2)) = _
    rw [ft_tnI (nT31 hY.1 j2'), pu_rF (by omega), e2, nI_0]
