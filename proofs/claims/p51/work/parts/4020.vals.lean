/-! what the readers answer -/
theorem nT {X : pu_S} {t : Nat} (h : pIa X) (ht : t < pA X 0) : ¬ s_X4_isTruck ((ft_nr (pu_r X)).1 0) (nI t) = 0 := by
  show ¬ s_X4_isTruck (pu_r X) (nI t) = 0
  rw [pu_isTruck1 h.1 ht]
  decide
theorem nT31 {X : pu_S} {t : Nat} (h : pIa X) (ht : t < pA X 0) : t < 2 ^ 31 := by have := h.1; omega
theorem v_cnt {X : pu_S} : l_truckCount (ft_nr (pu_r X)) = nI (pA X 0) := pu_rA (X := X) (j := 0) (by omega)
theorem v_day {X : pu_S} : l_day (ft_nr (pu_r X)) = nI (pA X 1) := pu_rA (X := X) (j := 1) (by omega)
theorem v_minute {X : pu_S} : l_minute (ft_nr (pu_r X)) = nI (pA X 2) := pu_rA (X := X) (j := 2) (by omega)
theorem v_weather {X : pu_S} : l_weather (ft_nr (pu_r X)) = nI (pA X 3) := pu_rA (X := X) (j := 3) (by omega)
theorem v_arrived {X : pu_S} : l_arrivedTotal (ft_nr (pu_r X)) = nI (pA X 4) := pu_rA (X := X) (j := 4) (by omega)
theorem v_served {X : pu_S} : l_servedTotal (ft_nr (pu_r X)) = nI (pA X 5) := pu_rA (X := X) (j := 5) (by omega)
theorem v_dis {X : pu_S} : l_disappointedTotal (ft_nr (pu_r X)) = nI (pA X 6) := pu_rA (X := X) (j := 6) (by omega)
theorem v_lost {X : pu_S} : l_lostTotal (ft_nr (pu_r X)) = nI (pA X 7) := pu_rA (X := X) (j := 7) (by omega)
theorem v_tcnt {X : pu_S} (h : pIa X) : tn (l_truckCount (ft_nr (pu_r X))) = pA X 0 := by
  have := h.1
  rw [v_cnt, ft_tnI (by omega)]
theorem v_coins {X : pu_S} {t : Nat} (h : pIa X) (ht : t < pA X 0) : p_coins (ft_nr (pu_r X)) (nI t) = nI (pF X t 0) := by
  have e : l_coins (ft_nr (pu_r X)) (nI t) = .ok (nI (pF X t 0)) := by
    unfold l_coins s_X7_coins s_X7_needTruck
    rw [if_neg (nT h ht)]
    show Except.ok (pu_r X (51 + 17 * tn (nI t) + 0)) = _
    rw [ft_tnI (nT31 h ht), pu_rF (by omega)]
  unfold p_coins
  rw [e]
theorem v_queue {X : pu_S} {t : Nat} (h : pIa X) (ht : t < pA X 0) : p_queueLength (ft_nr (pu_r X)) (nI t) = nI (pF X t 2) := by
  have e : l_queueLength (ft_nr (pu_r X)) (nI t) = .ok (nI (pF X t 2)) := by
    unfold l_queueLength s_X7_queueLength s_X7_needTruck
    rw [if_neg (nT h ht)]
    show Except.ok (pu_r X (51 + 17 * tn (nI t) + 2)) = _
    rw [ft_tnI (nT31 h ht), pu_rF (by omega)]
  unfold p_queueLength
  rw [e]
theorem v_left {X : pu_S} {t : Nat} (h : pIa X) (ht : t < pA X 0) : p_minutesLeft (ft_nr (pu_r X)) (nI t) = nI (pF X t 1) := by
  have e : l_minutesLeft (ft_nr (pu_r X)) (nI t) = .ok (nI (pF X t 1)) := by
    unfold l_minutesLeft s_X7_minutesLeft s_X7_needTruck
    rw [if_neg (nT h ht)]
    show Except.ok (pu_r X (51 + 17 * tn (nI t) + 1)) = _
    rw [ft_tnI (nT31 h ht), pu_rF (by omega)]
  unfold p_minutesLeft
  rw [e]
theorem pu_portions {X : pu_S} {t d : Nat} (hd : d < 4) : s_X6_portionsOf (pu_r X) (51 + 17 * t) (nI d) = nI (pF X t (4 + d)) := by
  unfold s_X6_portionsOf
  rw [pu_isDish1 hd, if_neg (by decide), ft_tnI (by omega), ft_ar_get hd, Nat.add_assoc (51 + 17 * t) 4 d, pu_rF (by omega)]
theorem v_stock {X : pu_S} {t d : Nat} (h : pIa X) (ht : t < pA X 0) (hd : d < 4) : p_stock (ft_nr (pu_r X)) (nI t) (nI d) = nI (pF X t (4 + d)) := by
  have e : l_stock (ft_nr (pu_r X)) (nI t) (nI d) = .ok (nI (pF X t (4 + d))) := by
    unfold l_stock s_X7_stock s_X7_needTruck s_X7_needDish
    rw [if_neg (nT h ht), pu_isDish1 hd, if_neg (by decide)]
    show Except.ok (s_X6_portionsOf (pu_r X) (51 + 17 * tn (nI t)) (nI d)) = _
    rw [ft_tnI (nT31 h ht), pu_portions hd]
  unfold p_stock
  rw [e]
theorem v_price {X : pu_S} {d : Nat} (hd : d < 4) : p_price (ft_nr (pu_r X)) (nI d) = nI (pP X d) := by
  have e : l_price (ft_nr (pu_r X)) (nI d) = .ok (nI (pP X d)) := by
    unfold l_price s_X7_price s_X7_needDish
    rw [pu_isDish1 hd, if_neg (by decide)]
    show Except.ok (ft_ar (pu_r X) 8 4 (tn (nI d))) = _
    rw [ft_tnI (by omega), ft_ar_get hd, pu_rP hd]
  unfold p_price
  rw [e]
theorem v_sold {X : pu_S} {d : Nat} (hd : d < 4) : p_soldPortions (ft_nr (pu_r X)) (nI d) = nI (pO X d) := by
  have e : l_soldPortions (ft_nr (pu_r X)) (nI d) = .ok (nI (pO X d)) := by
    unfold l_soldPortions s_X7_soldPortions s_X7_needDish
    rw [pu_isDish1 hd, if_neg (by decide)]
    show Except.ok (ft_ar (pu_r X) 12 4 (tn (nI d))) = _
    rw [ft_tnI (by omega), ft_ar_get hd, pu_rO hd]
  unfold p_soldPortions
  rw [e]
theorem v_wanted {X : pu_S} {t j : Nat} (h : pu_I X) (ht : t < pA X 0) (hj : j < pF X t 2) : p_wantedDish (ft_nr (pu_r X)) (nI t) (nI j) = nI (pF X t (8 + j)) := by
  have h6 := h.1.1
  have h4 := h.2.2.2.1 t (by omega)
  have hw := h4.2.2.2.1 j hj
  have e : l_wantedDish (ft_nr (pu_r X)) (nI t) (nI j) = .ok (nI (pF X t (8 + j))) := by
    unfold l_wantedDish s_X7_wantedDish s_X7_needTruck s_X7_needFound
    rw [if_neg (nT h.1 ht), show s_X6_wishAt ((ft_nr (pu_r X)).1 0) (51 + 17 * tn (nI t)) (nI j) = nI (pF X t (8 + j)) from by
      rw [ft_tnI (nT31 h.1 ht)]
      exact (pu_wishAt h4.1 (by omega)).trans (if_pos hj), if_neg (fun e => nI_pos (n := pF X t (8 + j)) (by omega) (by rw [e]; decide))]
    rfl
  unfold p_wantedDish
  rw [e]
theorem v_wantedN {X : pu_S} {t : Nat} (h : pu_I X) (ht : t < pA X 0) : w_wantedDish (ft_nr (pu_r X)) (nI t) (p_queueLength (ft_nr (pu_r X)) (nI t)) = -1000 := by
  have h6 := h.1.1
  have h4 := h.2.2.2.1 t (by omega)
  have e : l_wantedDish (ft_nr (pu_r X)) (nI t) (nI (pF X t 2)) = .error "java/util/NoSuchElementException" := by
    unfold l_wantedDish s_X7_wantedDish s_X7_needTruck s_X7_needFound
    rw [if_neg (nT h.1 ht), show s_X6_wishAt ((ft_nr (pu_r X)).1 0) (51 + 17 * tn (nI t)) (nI (pF X t 2)) = -1 from by
      rw [ft_tnI (nT31 h.1 ht)]
      exact (pu_wishAt h4.1 (by omega)).trans (if_neg (Nat.lt_irrefl _)), if_pos rfl]
    rfl
  rw [v_queue h.1 ht]
  unfold w_wantedDish
  rw [e]
def ft_h1 (o : Option Nat) : Int32 := match o with
  | none => -1000
  | some t => nI t
theorem v_truckAt {X : pu_S} {p d : Nat} (h : pu_I X) (hp : p < 5) (hd : d < 7) : w_truckAt (ft_nr (pu_r X)) (nI p) (nI d) = ft_h1 (pH X (7 * p + d)) := by
  have e : l_truckAt (ft_nr (pu_r X)) (nI p) (nI d) = ft_xb (s_X7_needFound (ft_he (pH X (7 * p + d)))) (fun z => .ok z) := by
    unfold l_truckAt s_X7_truckAt s_X7_needPitch s_X7_needWeekday
    rw [pu_isPitch1 hp, if_neg (by decide), pu_isWeekday1 hd, if_neg (by decide), show s_X4_holderOf ((ft_nr (pu_r X)).1 0) (nI p) (nI d) = ft_he (pH X (7 * p + d)) from pu_holderOf hp hd]
    rfl
  unfold w_truckAt
  rw [e]
  unfold s_X7_needFound
  cases hh : pH X (7 * p + d) with
  | none => rw [if_pos (show ft_he none = -1 from rfl)]; rfl
  | some t => rw [if_neg (ft_he_n (h.h31 _ (by omega) t hh))]; rfl
theorem v_pitchOf {X : pu_S} {t d : Nat} (h : pu_I X) (ht : t < pA X 0) (hd : d < 7) : l_pitchOf (ft_nr (pu_r X)) (nI t) (nI d) = ft_xb (s_X7_needFound (ft_he (ft_ph (pH X) (some t) d))) (fun z => .ok z) := by
  have h31 := nT31 h.1 ht
  unfold l_pitchOf s_X7_pitchOf s_X7_needTruck s_X7_needWeekday
  rw [if_neg (nT h.1 ht), pu_isWeekday1 hd, if_neg (by decide), show s_X4_pitchHeldBy ((ft_nr (pu_r X)).1 0) (nI t) (nI d) = ft_he (ft_ph (pH X) (some t) d) from pu_pitchHeldBy (x := some t) hd h.h31 (fun y e => by cases e; exact h31)]
  rfl
theorem v_wpitchOf {X : pu_S} {t d : Nat} (h : pu_I X) (ht : t < pA X 0) (hd : d < 7) : w_pitchOf (ft_nr (pu_r X)) (nI t) (nI d) = ft_h1 (ft_ph (pH X) (some t) d) := by
  unfold w_pitchOf
  rw [v_pitchOf h ht hd]
  unfold s_X7_needFound
  cases hh : ft_ph (pH X) (some t) d with
  | none => rw [if_pos (show ft_he none = -1 from rfl)]; rfl
  | some p =>
    have := (ft_ph_some hh).1
    rw [if_neg (ft_he_n (by omega))]; rfl
theorem v_td {X : pu_S} (h31 : pA X 1 < 2 ^ 31) : ft_td (pu_r X) = nI (pA X 1 % 7) := by
  unfold ft_td
  rw [v_day]
  exact pk_rem (d := 7) h31 (by decide) (by decide)
theorem pu_pitchToday {X : pu_S} {t : Nat} (h : pu_I X) (ht : t < 2 ^ 31) (h31 : pA X 1 < 2 ^ 31) : s_X4_pitchToday (pu_r X) (nI t) = ft_he (ft_ph (pH X) (some t) (pA X 1 % 7)) := by
  unfold s_X4_pitchToday
  rw [pu_today h31]
  exact pu_pitchHeldBy (x := some t) (Nat.mod_lt _ (by decide)) h.h31 (fun y e => by cases e; exact ht)
theorem v_isOpen {X : pu_S} {t : Nat} (h : pu_I X) (ht : t < pA X 0) (h31 : pA X 1 < 2 ^ 31) : l_isOpen (ft_nr (pu_r X)) (nI t) = .ok (match ft_ph (pH X) (some t) (pA X 1 % 7) with | none => 0 | some _ => 1) := by
  unfold l_isOpen s_X7_isOpen s_X7_needTruck
  rw [if_neg (nT h.1 ht), show s_X4_pitchToday ((ft_nr (pu_r X)).1 0) (nI t) = ft_he (ft_ph (pH X) (some t) (pA X 1 % 7)) from pu_pitchToday h (nT31 h.1 ht) h31]
  cases hh : ft_ph (pH X) (some t) (pA X 1 % 7) with
  | none => rw [if_pos (show ft_he none = -1 from rfl)]; rfl
  | some p =>
    have := (ft_ph_some hh).1
    rw [if_neg (ft_he_n (by omega))]; rfl
theorem v_pisOpen {X : pu_S} {t : Nat} (h : pu_I X) (ht : t < pA X 0) (h31 : pA X 1 < 2 ^ 31) : p_isOpen (ft_nr (pu_r X)) (nI t) = (match ft_ph (pH X) (some t) (pA X 1 % 7) with | none => 0 | some _ => 1) := by
  unfold p_isOpen
  rw [v_isOpen h ht h31]
/-! sums -/
def sN (g : Nat → Nat) : Nat → Nat
  | 0 => 0
  | n + 1 => sN g n + g n
theorem sN_mono {g : Nat → Nat} : ∀ {n m : Nat}, n ≤ m → sN g n ≤ sN g m := by
  intro n m h
  induction m with
  | zero => rw [show n = 0 by omega]; exact Nat.le_refl _
  | succ m ih =>
    by_cases e : n = m + 1
    · rw [e]; exact Nat.le_refl _
    · have := ih (by omega)
      show sN g n ≤ sN g m + g m
      omega
theorem sN_6 {g : Nat → Nat} {n : Nat} (hn : n ≤ 6) (h : ∀ t, n ≤ t → t < 6 → g t = 0) : sN g n = s6 g := by
  have e6 : sN g 6 = s6 g := by show (((((0 + g 0) + g 1) + g 2) + g 3) + g 4) + g 5 = _; unfold s6; omega
  have key : ∀ k, n + k ≤ 6 → sN g (n + k) = sN g n := by
    intro k
    induction k with
    | zero => intro _; rfl
    | succ k ih =>
      intro hk
      show sN g (n + k) + g (n + k) = _
      rw [ih (by omega), h (n + k) (by omega) (by omega)]
      rfl
  rw [← e6, ← key (6 - n) (by omega), show n + (6 - n) = 6 by omega]
theorem sN_4 {g : Nat → Nat} : sN g 4 = s4 g := by show (((0 + g 0) + g 1) + g 2) + g 3 = _; unfold s4; omega
theorem ft_up_N {f : Int32 → Int32} {g : Nat → Nat} {z : Nat} : ∀ (n : Nat), (∀ t, t < n → f (nI t) = nI (g t)) → ft_up f (nI z) n = nI (z + sN g n) := by
  intro n
  induction n with
  | zero => intro _; rfl
  | succ n ih =>
    intro h
    show ft_up f (nI z) n + f (nI n) = nI (z + (sN g n + g n))
    rw [ih (fun t ht => h t (by omega)), h n (by omega), nI_add, Nat.add_assoc]
theorem ft_up_0 {f : Int32 → Int32} {g : Nat → Nat} {n : Nat} (h : ∀ t, t < n → f (nI t) = nI (g t)) : ft_up f 0 n = nI (sN g n) := by
  have e := ft_up_N (z := 0) n h
  rw [nI_0, Nat.zero_add] at e
  exact e
theorem ft_dn_N {f : Int32 → Int32} {g : Nat → Nat} {w N : Nat} : ∀ (n : Nat), n ≤ N → (∀ t, t < n → f (nI t) = nI (g t)) → ft_dn f (nI (w + sN g N)) n = nI (w + sN g N - sN g n) := by
  intro n
  induction n with
  | zero => intro _ _; rfl
  | succ n ih =>
    intro hn h
    have h1 := sN_mono (g := g) hn
    have h2 : sN g (n + 1) = sN g n + g n := rfl
    show ft_dn f (nI (w + sN g N)) n - f (nI n) = _
    rw [ih (by omega) (fun t ht => h t (by omega)), h n (by omega), pk_sub (by omega), h2]
    congr 1
    omega
theorem ft_up_z {f : Int32 → Int32} {g : Nat → Nat} (z : Int32) : ∀ (n : Nat), (∀ t, t < n → f (nI t) = nI (g t)) → ft_up f z n = z + nI (sN g n) := by
  intro n
  induction n with
  | zero => intro _; show z = z + nI 0; rw [nI_0]; exact (Int32.add_zero z).symm
  | succ n ih =>
    intro h
    show ft_up f z n + f (nI n) = z + nI (sN g n + g n)
    rw [ih (fun t ht => h t (by omega)), h n (by omega), ← nI_add, Int32.add_assoc]
theorem ft_dn_z {f : Int32 → Int32} {g : Nat → Nat} (z : Int32) : ∀ (n : Nat), (∀ t, t < n → f (nI t) = nI (g t)) → ft_dn f z n = z - nI (sN g n) := by
  intro n
  induction n with
  | zero => intro _; show z = z - nI 0; rw [nI_0]; exact (Int32.sub_zero z).symm
  | succ n ih =>
    intro h
    show ft_dn f z n - f (nI n) = z - nI (sN g n + g n)
    rw [ih (fun t ht => h t (by omega)), h n (by omega), ← nI_add]
    grind
