theorem ft_noX {l : Launch} {D : va_G} {k : Nat → ClassId} {Z : Nat → Nat → Nat} {sz : ft_SZ} {a : Nat} {σ : ft_Sg} {y : MethodName} {ws : List Cond} {rm : Room} {mc ms : Nat} {P : Array Value → State → Prop} {F : Except String Int32} {z : Int32} {f : Addr → Prop} (hM : vx_Met l y ws rm P (ft_QLi D k Z sz a σ F) (ft_XLi D k Z sz a σ F) mc ms f) (hF : F = .ok z) : Met l y ws rm P (ft_QWr D k Z sz a σ z) mc ms f := by
  intro p e h1 h2 h3 s m args below hf ha hp hk
  obtain ⟨n, o, g1, g2, g3, g4⟩ := hM p e h1 h2 h3 s m args below hf ha hp hk
  refine ⟨n, o, g1, g2, g3, ?_⟩
  rcases g4 with ⟨⟨⟨z9, u, e1, e2, e3⟩, e4⟩, hL⟩ | ⟨q, ho, E, ce, L, ⟨u, -, ⟨e2, -⟩, -⟩, -⟩
  · rw [hF] at e2
    obtain rfl : z = z9 := Except.ok.inj e2
    exact ⟨⟨⟨z, (), e1, rfl, e3⟩, e4⟩, hL⟩
  · rw [hF] at e2; cases e2
theorem ft_noXs {l : Launch} {D : va_G} {k : Nat → ClassId} {Z : Nat → Nat → Nat} {sz : ft_SZ} {a : Nat} {y : MethodName} {ws : List Cond} {rm : Room} {mc ms : Nat} {P : Array Value → State → Prop} {F : Except String Int32 × ft_Sg} {z : Int32} {f : Addr → Prop} (hM : vx_Met l y ws rm P (ft_QLs D k Z sz a F) (ft_XLs D k Z sz a F) mc ms f) (hF : F.1 = .ok z) : Met l y ws rm P (ft_QLw D k Z sz a (z, F.2)) mc ms f := by
  intro p e h1 h2 h3 s m args below hf ha hp hk
  obtain ⟨n, o, g1, g2, g3, g4⟩ := hM p e h1 h2 h3 s m args below hf ha hp hk
  refine ⟨n, o, g1, g2, g3, ?_⟩
  rcases g4 with ⟨⟨⟨z9, u, e1, e2, e3⟩, e4⟩, hL⟩ | ⟨q, ho, E, ce, L, ⟨u, -, ⟨e2, -⟩, -⟩, -⟩
  · rw [← e2] at hF
    obtain rfl : z9 = z := Except.ok.inj hF
    exact ⟨⟨⟨z9, u, e1, by rw [← e2], e3⟩, e4⟩, hL⟩
  · rw [← e2] at hF; cases hF
def ft_QWl (D : va_G) (k : Nat → ClassId) (Z : Nat → Nat → Nat) (sz : ft_SZ) (a : Nat) (σ : ft_Sg) (F : Int64) : Array Value → State → Outcome → State → Prop := va_Ql (fun (z : Int64) (_ : Unit) => z = F) (fun _ t => ft_LW D k Z sz a σ t.heap) (ft_AL sz)
theorem ft_nd {y : Int32} {i : Nat} (hi : y = nI i) (h : i + 1 ≤ 4) : ¬ s_X7_isDish y = 0 := by
  rw [hi]
  match i, h with
  | 0, _ => decide
  | 1, _ => decide
  | 2, _ => decide
  | 3, _ => decide
theorem ft_nw {y : Int32} {i : Nat} (hi : y = nI i) (h : i + 1 ≤ 7) : ¬ s_X7_isWeekday y = 0 := by
  rw [hi]
  match i, h with
  | 0, _ => decide
  | 1, _ => decide
  | 2, _ => decide
  | 3, _ => decide
  | 4, _ => decide
  | 5, _ => decide
  | 6, _ => decide
theorem ex_needTruck {q : Nat → Nat → Int32} {o : Nat → Int32} {x : Int32} {E : String} (h : s_X7_needTruck q o x = .error E) : E = "java/lang/IndexOutOfBoundsException" := by
  unfold s_X7_needTruck at h
  split at h
  · exact (Except.error.inj h).symm
  · cases h
theorem ex_needDish {x : Int32} {E : String} (h : s_X7_needDish x = .error E) : E = "java/lang/IndexOutOfBoundsException" := by
  unfold s_X7_needDish at h
  split at h
  · exact (Except.error.inj h).symm
  · cases h
theorem ex_needPitch {x : Int32} {E : String} (h : s_X7_needPitch x = .error E) : E = "java/lang/IndexOutOfBoundsException" := by
  unfold s_X7_needPitch at h
  split at h
  · exact (Except.error.inj h).symm
  · cases h
theorem ex_needWeekday {x : Int32} {E : String} (h : s_X7_needWeekday x = .error E) : E = "java/lang/IllegalArgumentException" := by
  unfold s_X7_needWeekday at h
  split at h
  · exact (Except.error.inj h).symm
  · cases h
theorem ex_needFound {x : Int32} {E : String} (h : s_X7_needFound x = .error E) : E = "java/util/NoSuchElementException" := by
  unfold s_X7_needFound at h
  split at h
  · exact (Except.error.inj h).symm
  · cases h
def p_stock (σ : ft_Sg) (x1 : Int32) (x2 : Int32) : Int32 := match l_stock σ x1 x2 with
  | .ok z => z
  | .error _ => 0
theorem ok_stock {σ : ft_Sg} {x1 : Int32} {x2 : Int32} (hT : ¬ s_X4_isTruck (σ.1 0) x1 = 0) (hD : ¬ s_X7_isDish x2 = 0) : l_stock σ x1 x2 = .ok (p_stock σ x1 x2) := by
  unfold p_stock
  have h : ∃ z, l_stock σ x1 x2 = .ok z := by
    unfold l_stock s_X7_stock s_X7_needTruck s_X7_needDish
    rw [if_neg hT, if_neg hD]
    exact ⟨_, rfl⟩
  obtain ⟨z, h⟩ := h
  rw [h]
def p_coins (σ : ft_Sg) (x1 : Int32) : Int32 := match l_coins σ x1 with
  | .ok z => z
  | .error _ => 0
theorem ok_coins {σ : ft_Sg} {x1 : Int32} (hT : ¬ s_X4_isTruck (σ.1 0) x1 = 0) : l_coins σ x1 = .ok (p_coins σ x1) := by
  unfold p_coins
  have h : ∃ z, l_coins σ x1 = .ok z := by
    unfold l_coins s_X7_coins s_X7_needTruck
    rw [if_neg hT]
    exact ⟨_, rfl⟩
  obtain ⟨z, h⟩ := h
  rw [h]
def p_price (σ : ft_Sg) (x1 : Int32) : Int32 := match l_price σ x1 with
  | .ok z => z
  | .error _ => 0
theorem ok_price {σ : ft_Sg} {x1 : Int32} (hD : ¬ s_X7_isDish x1 = 0) : l_price σ x1 = .ok (p_price σ x1) := by
  unfold p_price
  have h : ∃ z, l_price σ x1 = .ok z := by
    unfold l_price s_X7_price s_X7_needDish
    rw [if_neg hD]
    exact ⟨_, rfl⟩
  obtain ⟨z, h⟩ := h
  rw [h]
def p_hasPermit (σ : ft_Sg) (x1 : Int32) (x2 : Int32) : Int32 := match l_hasPermit σ x1 x2 with
  | .ok z => z
  | .error _ => 0
theorem ok_hasPermit {σ : ft_Sg} {x1 : Int32} {x2 : Int32} (hT : ¬ s_X4_isTruck (σ.1 0) x1 = 0) (hW : ¬ s_X7_isWeekday x2 = 0) : l_hasPermit σ x1 x2 = .ok (p_hasPermit σ x1 x2) := by
  unfold p_hasPermit
  have h : ∃ z, l_hasPermit σ x1 x2 = .ok z := by
    unfold l_hasPermit s_X7_hasPermit s_X7_needTruck s_X7_needWeekday
    rw [if_neg hT, if_neg hW]
    exact ⟨_, rfl⟩
  obtain ⟨z, h⟩ := h
  rw [h]
def p_truckAt (σ : ft_Sg) (x1 : Int32) (x2 : Int32) : Int32 := match l_truckAt σ x1 x2 with
  | .ok z => z
  | .error _ => 0
theorem ok_truckAt {σ : ft_Sg} {x1 : Int32} {x2 : Int32} (hPt : ¬ s_X7_isPitch x1 = 0) (hW : ¬ s_X7_isWeekday x2 = 0) (hF : ¬ (s_X4_holderOf (σ.1 0) x1 x2) = -1) : l_truckAt σ x1 x2 = .ok (p_truckAt σ x1 x2) := by
  unfold p_truckAt
  have h : ∃ z, l_truckAt σ x1 x2 = .ok z := by
    unfold l_truckAt s_X7_truckAt s_X7_needPitch s_X7_needWeekday s_X7_needFound
    rw [if_neg hPt, if_neg hW, if_neg hF]
    exact ⟨_, rfl⟩
  obtain ⟨z, h⟩ := h
  rw [h]
theorem ex_truckAt {σ : ft_Sg} {x1 : Int32} {x2 : Int32} : ∀ E, l_truckAt σ x1 x2 = .error E → E ∈ ["java/lang/IndexOutOfBoundsException", "java/lang/IllegalArgumentException", "java/util/NoSuchElementException"] := by
  intro E h
  unfold l_truckAt s_X7_truckAt at h
  rcases ft_xb_e h with h | ⟨_, _, h⟩
  · rw [ex_needPitch h]; decide
  rcases ft_xb_e h with h | ⟨_, _, h⟩
  · rw [ex_needWeekday h]; decide
  rcases ft_xb_e h with h | ⟨_, _, h⟩
  · rw [ex_needFound h]; decide
  cases h
def p_pitchOf (σ : ft_Sg) (x1 : Int32) (x2 : Int32) : Int32 := match l_pitchOf σ x1 x2 with
  | .ok z => z
  | .error _ => 0
theorem ok_pitchOf {σ : ft_Sg} {x1 : Int32} {x2 : Int32} (hT : ¬ s_X4_isTruck (σ.1 0) x1 = 0) (hW : ¬ s_X7_isWeekday x2 = 0) (hF : ¬ (s_X4_pitchHeldBy (σ.1 0) x1 x2) = -1) : l_pitchOf σ x1 x2 = .ok (p_pitchOf σ x1 x2) := by
  unfold p_pitchOf
  have h : ∃ z, l_pitchOf σ x1 x2 = .ok z := by
    unfold l_pitchOf s_X7_pitchOf s_X7_needTruck s_X7_needWeekday s_X7_needFound
    rw [if_neg hT, if_neg hW, if_neg hF]
    exact ⟨_, rfl⟩
  obtain ⟨z, h⟩ := h
  rw [h]
theorem ex_pitchOf {σ : ft_Sg} {x1 : Int32} {x2 : Int32} : ∀ E, l_pitchOf σ x1 x2 = .error E → E ∈ ["java/lang/IndexOutOfBoundsException", "java/lang/IllegalArgumentException", "java/util/NoSuchElementException"] := by
  intro E h
  unfold l_pitchOf s_X7_pitchOf at h
  rcases ft_xb_e h with h | ⟨_, _, h⟩
  · rw [ex_needTruck h]; decide
  rcases ft_xb_e h with h | ⟨_, _, h⟩
  · rw [ex_needWeekday h]; decide
  rcases ft_xb_e h with h | ⟨_, _, h⟩
  · rw [ex_needFound h]; decide
  cases h
def p_isOpen (σ : ft_Sg) (x1 : Int32) : Int32 := match l_isOpen σ x1 with
  | .ok z => z
  | .error _ => 0
theorem ok_isOpen {σ : ft_Sg} {x1 : Int32} (hT : ¬ s_X4_isTruck (σ.1 0) x1 = 0) : l_isOpen σ x1 = .ok (p_isOpen σ x1) := by
  have h : l_isOpen σ x1 = .ok (if s_X4_pitchToday (σ.1 0) x1 = -1 then 0 else 1) := by
    unfold l_isOpen s_X7_isOpen s_X7_needTruck
    rw [if_neg hT]
    show (if s_X4_pitchToday (σ.1 0) x1 = -1 then (Except.ok 0 : Except String Int32) else .ok 1) = _
    split <;> rfl
  unfold p_isOpen
  rw [h]
def p_firstFreeDay (σ : ft_Sg) (x1 : Int32) : Int32 := match l_firstFreeDay σ x1 with
  | .ok z => z
  | .error _ => 0
theorem ok_firstFreeDay {σ : ft_Sg} {x1 : Int32} (hT : ¬ s_X4_isTruck (σ.1 0) x1 = 0) (hF : ¬ (s_X4_freeDayFor (σ.1 0) x1) = -1) : l_firstFreeDay σ x1 = .ok (p_firstFreeDay σ x1) := by
  unfold p_firstFreeDay
  have h : ∃ z, l_firstFreeDay σ x1 = .ok z := by
    unfold l_firstFreeDay s_X7_firstFreeDay s_X7_needTruck s_X7_needFound
    rw [if_neg hT, if_neg hF]
    exact ⟨_, rfl⟩
  obtain ⟨z, h⟩ := h
  rw [h]
theorem ex_firstFreeDay {σ : ft_Sg} {x1 : Int32} : ∀ E, l_firstFreeDay σ x1 = .error E → E ∈ ["java/lang/IndexOutOfBoundsException", "java/util/NoSuchElementException"] := by
  intro E h
  unfold l_firstFreeDay s_X7_firstFreeDay at h
  rcases ft_xb_e h with h | ⟨_, _, h⟩
  · rw [ex_needTruck h]; decide
  rcases ft_xb_e h with h | ⟨_, _, h⟩
  · rw [ex_needFound h]; decide
  cases h
def p_firstFreePitch (σ : ft_Sg) (x1 : Int32) : Int32 := match l_firstFreePitch σ x1 with
  | .ok z => z
  | .error _ => 0
theorem ok_firstFreePitch {σ : ft_Sg} {x1 : Int32} (hW : ¬ s_X7_isWeekday x1 = 0) (hF : ¬ (s_X4_pitchHeldBy (σ.1 0) (-1) x1) = -1) : l_firstFreePitch σ x1 = .ok (p_firstFreePitch σ x1) := by
  unfold p_firstFreePitch
  have h : ∃ z, l_firstFreePitch σ x1 = .ok z := by
    unfold l_firstFreePitch s_X7_firstFreePitch s_X7_needWeekday s_X7_needFound
    rw [if_neg hW, if_neg hF]
    exact ⟨_, rfl⟩
  obtain ⟨z, h⟩ := h
  rw [h]
theorem ex_firstFreePitch {σ : ft_Sg} {x1 : Int32} : ∀ E, l_firstFreePitch σ x1 = .error E → E ∈ ["java/lang/IllegalArgumentException", "java/util/NoSuchElementException"] := by
  intro E h
  unfold l_firstFreePitch s_X7_firstFreePitch at h
  rcases ft_xb_e h with h | ⟨_, _, h⟩
  · rw [ex_needWeekday h]; decide
  rcases ft_xb_e h with h | ⟨_, _, h⟩
  · rw [ex_needFound h]; decide
  cases h
def p_queueLength (σ : ft_Sg) (x1 : Int32) : Int32 := match l_queueLength σ x1 with
  | .ok z => z
  | .error _ => 0
theorem ok_queueLength {σ : ft_Sg} {x1 : Int32} (hT : ¬ s_X4_isTruck (σ.1 0) x1 = 0) : l_queueLength σ x1 = .ok (p_queueLength σ x1) := by
  unfold p_queueLength
  have h : ∃ z, l_queueLength σ x1 = .ok z := by
    unfold l_queueLength s_X7_queueLength s_X7_needTruck
    rw [if_neg hT]
    exact ⟨_, rfl⟩
  obtain ⟨z, h⟩ := h
  rw [h]
def p_wantedDish (σ : ft_Sg) (x1 : Int32) (x2 : Int32) : Int32 := match l_wantedDish σ x1 x2 with
  | .ok z => z
  | .error _ => 0
theorem ok_wantedDish {σ : ft_Sg} {x1 : Int32} {x2 : Int32} (hT : ¬ s_X4_isTruck (σ.1 0) x1 = 0) (hF : ¬ (s_X6_wishAt (σ.1 0) (51 + 17 * (tn x1)) x2) = -1) : l_wantedDish σ x1 x2 = .ok (p_wantedDish σ x1 x2) := by
  unfold p_wantedDish
  have h : ∃ z, l_wantedDish σ x1 x2 = .ok z := by
    unfold l_wantedDish s_X7_wantedDish s_X7_needTruck s_X7_needFound
    rw [if_neg hT, if_neg hF]
    exact ⟨_, rfl⟩
  obtain ⟨z, h⟩ := h
  rw [h]
theorem ex_wantedDish {σ : ft_Sg} {x1 : Int32} {x2 : Int32} : ∀ E, l_wantedDish σ x1 x2 = .error E → E ∈ ["java/lang/IndexOutOfBoundsException", "java/util/NoSuchElementException"] := by
  intro E h
  unfold l_wantedDish s_X7_wantedDish at h
  rcases ft_xb_e h with h | ⟨_, _, h⟩
  · rw [ex_needTruck h]; decide
  rcases ft_xb_e h with h | ⟨_, _, h⟩
  · rw [ex_needFound h]; decide
  cases h
def p_minutesLeft (σ : ft_Sg) (x1 : Int32) : Int32 := match l_minutesLeft σ x1 with
  | .ok z => z
  | .error _ => 0
theorem ok_minutesLeft {σ : ft_Sg} {x1 : Int32} (hT : ¬ s_X4_isTruck (σ.1 0) x1 = 0) : l_minutesLeft σ x1 = .ok (p_minutesLeft σ x1) := by
  unfold p_minutesLeft
  have h : ∃ z, l_minutesLeft σ x1 = .ok z := by
    unfold l_minutesLeft s_X7_minutesLeft s_X7_needTruck
    rw [if_neg hT]
    exact ⟨_, rfl⟩
  obtain ⟨z, h⟩ := h
  rw [h]
def p_queueTime (σ : ft_Sg) (x1 : Int32) : Int32 := match l_queueTime σ x1 with
  | .ok z => z
  | .error _ => 0
theorem ok_queueTime {σ : ft_Sg} {x1 : Int32} (hT : ¬ s_X4_isTruck (σ.1 0) x1 = 0) : l_queueTime σ x1 = .ok (p_queueTime σ x1) := by
  unfold p_queueTime
  have h : ∃ z, l_queueTime σ x1 = .ok z := by
    unfold l_queueTime s_X7_queueTime s_X7_needTruck
    rw [if_neg hT]
    exact ⟨_, rfl⟩
  obtain ⟨z, h⟩ := h
  rw [h]
def p_truckByCoins (σ : ft_Sg) (x1 : Int32) : Int32 := match l_truckByCoins σ x1 with
  | .ok z => z
  | .error _ => 0
theorem ok_truckByCoins {σ : ft_Sg} {x1 : Int32} (hF : ¬ (s_X4_truckRanked (σ.1 0) x1) = -1) : l_truckByCoins σ x1 = .ok (p_truckByCoins σ x1) := by
  unfold p_truckByCoins
  have h : ∃ z, l_truckByCoins σ x1 = .ok z := by
    unfold l_truckByCoins s_X7_truckByCoins s_X7_needFound
    rw [if_neg hF]
    exact ⟨_, rfl⟩
  obtain ⟨z, h⟩ := h
  rw [h]
theorem ex_truckByCoins {σ : ft_Sg} {x1 : Int32} : ∀ E, l_truckByCoins σ x1 = .error E → E ∈ ["java/util/NoSuchElementException"] := by
  intro E h
  unfold l_truckByCoins s_X7_truckByCoins at h
  rcases ft_xb_e h with h | ⟨_, _, h⟩
  · rw [ex_needFound h]; decide
  cases h
def p_soldPortions (σ : ft_Sg) (x1 : Int32) : Int32 := match l_soldPortions σ x1 with
  | .ok z => z
  | .error _ => 0
theorem ok_soldPortions {σ : ft_Sg} {x1 : Int32} (hD : ¬ s_X7_isDish x1 = 0) : l_soldPortions σ x1 = .ok (p_soldPortions σ x1) := by
  unfold p_soldPortions
  have h : ∃ z, l_soldPortions σ x1 = .ok z := by
    unfold l_soldPortions s_X7_soldPortions s_X7_needDish
    rw [if_neg hD]
    exact ⟨_, rfl⟩
  obtain ⟨z, h⟩ := h
  rw [h]
def p_failedCommand (σ : ft_Sg)  : Int32 := match l_failedCommand σ  with
  | .ok z => z
  | .error _ => 0
theorem ok_failedCommand {σ : ft_Sg}  (hF : ¬ (σ.2.2.1 2) = -1) : l_failedCommand σ  = .ok (p_failedCommand σ ) := by
  unfold p_failedCommand
  have h : ∃ z, l_failedCommand σ  = .ok z := by
    unfold l_failedCommand s_X7_failedCommand s_X7_needFound
    rw [if_neg hF]
    exact ⟨_, rfl⟩
  obtain ⟨z, h⟩ := h
  rw [h]
theorem ex_failedCommand {σ : ft_Sg}  : ∀ E, l_failedCommand σ  = .error E → E ∈ ["java/util/NoSuchElementException"] := by
  intro E h
  unfold l_failedCommand s_X7_failedCommand at h
  rcases ft_xb_e h with h | ⟨_, _, h⟩
  · rw [ex_needFound h]; decide
  cases h
