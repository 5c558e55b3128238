/-! the state that every call keeps, as the law's walk asks for it -/
abbrev Jx (c : Nat) (σ : ft_Sg) : Prop := ft_Jd (min c 1000) σ
theorem Jx.d {c : Nat} {σ : ft_Sg} (h : Jx c σ) (hc : c ≤ 1000) : ft_Jd c σ := by
  have e : min c 1000 = c := Nat.min_eq_left hc
  unfold Jx at h
  rw [e] at h
  exact h
theorem Jx.u {c : Nat} {σ : ft_Sg} (h : ft_Jd c σ) (hc : c ≤ 1000) : Jx c σ := by
  have e : min c 1000 = c := Nat.min_eq_left hc
  unfold Jx
  rw [e]
  exact h
theorem jj_mono : ∀ {c d : Nat} {σ : ft_Sg}, Jx c σ → c ≤ d → Jx d σ := fun {c d σ} h hd => Jd_mono h (show min c 1000 ≤ min d 1000 by omega)
theorem jj_gr : ∀ {c : Nat} {σ : ft_Sg} {r : Nat → Int32}, Jx c σ → c ≤ 1000 → σ.1 0 = r → ft_Gd r := fun {c σ r} h hc hq => by subst hq; exact ((Jx.d h hc).2.1 0 (by omega)).mono hc
theorem jj_pm : ∀ {c : Nat} {σ : ft_Sg}, Jx c σ → ∀ i, i < 8 → σ.2.1 i < 8 := fun {c σ} h => h.1
theorem jj_ok9 : ∀ {c : Nat} {σ : ft_Sg}, Jx c σ → ft_ok259 σ.2.2.1 σ.2.2.2 60 := fun {c σ} h => h.2.2.2.1
theorem jj_ok1 : ∀ {c : Nat} {σ : ft_Sg}, Jx c σ → ft_ok261 σ.2.2.1 σ.2.2.2 70 := fun {c σ} h => h.2.2.2.2.1
theorem jj_g9 : ∀ {c : Nat} {σ : ft_Sg}, Jx c σ → ∀ n, n < 15 → σ.2.2.2.2.2.1 n < 9 := fun {c σ} h => h.2.2.2.2.2
theorem jj_ex_addTruck : ∀ {c : Nat} {σ : ft_Sg}, Jx c σ → c ≤ 1000 → ∀ E, (l_addTruck σ ).1 = .error E → E ∈ ["java/lang/IllegalStateException"] := fun {c σ} h hc => j_ex_addTruck (Jx.d h hc) hc
theorem jj_k_addTruck : ∀ {c : Nat} {σ : ft_Sg}, Jx c σ → c + 0 ≤ 1000 → Jx (c + 0) (w_addTruck σ ).2 := fun {c σ} h hc => Jx.u (j_k_addTruck (Jx.d h (by omega)) hc) hc
theorem jj_f_addTruck : ∀ {c : Nat} {σ : ft_Sg}, Jx c σ → c ≤ 1000 → (w_addTruck σ ).1 = -100000000 → (w_addTruck σ ).2.1 0 = σ.1 0 := fun {c σ} h hc => j_f_addTruck (Jx.d h hc) hc
theorem jj_sv_addTruck : ∀ {c : Nat} {σ : ft_Sg}, Jx c σ → ft_zv σ (w_addTruck σ ).2 := fun {c σ} h => j_sv_addTruck h
theorem jj_ex_addStock : ∀ {c : Nat} {σ : ft_Sg}, ∀ (x1 x2 x3 : Int32), Jx c σ → c ≤ 1000 → ∀ E, (l_addStock σ x1 x2 x3).1 = .error E → E ∈ ["java/lang/IndexOutOfBoundsException", "java/lang/IllegalArgumentException", "java/lang/IllegalStateException"] := fun {c σ} x1 x2 x3 h hc => j_ex_addStock x1 x2 x3 (Jx.d h hc) hc
theorem jj_k_addStock : ∀ {c : Nat} {σ : ft_Sg}, ∀ (x1 x2 x3 : Int32), Jx c σ → c + 0 ≤ 1000 → Jx (c + 0) (w_addStock σ x1 x2 x3).2 := fun {c σ} x1 x2 x3 h hc => Jx.u (j_k_addStock x1 x2 x3 (Jx.d h (by omega)) hc) hc
theorem jj_f_addStock : ∀ {c : Nat} {σ : ft_Sg}, ∀ (x1 x2 x3 : Int32), Jx c σ → c ≤ 1000 → (w_addStock σ x1 x2 x3).1 = -100000000 → (w_addStock σ x1 x2 x3).2.1 0 = σ.1 0 := fun {c σ} x1 x2 x3 h hc => j_f_addStock x1 x2 x3 (Jx.d h hc) hc
theorem jj_sv_addStock : ∀ {c : Nat} {σ : ft_Sg}, ∀ (x1 x2 x3 : Int32), Jx c σ → ft_zv σ (w_addStock σ x1 x2 x3).2 := fun {c σ} x1 x2 x3 h => j_sv_addStock x1 x2 x3 h
theorem jj_ex_setPrice : ∀ {c : Nat} {σ : ft_Sg}, ∀ (x1 x2 : Int32), Jx c σ → c ≤ 1000 → ∀ E, (l_setPrice σ x1 x2).1 = .error E → E ∈ ["java/lang/IndexOutOfBoundsException", "java/lang/IllegalArgumentException"] := fun {c σ} x1 x2 h hc => j_ex_setPrice x1 x2 (Jx.d h hc) hc
theorem jj_k_setPrice : ∀ {c : Nat} {σ : ft_Sg}, ∀ (x1 x2 : Int32), Jx c σ → c + 0 ≤ 1000 → Jx (c + 0) (w_setPrice σ x1 x2).2 := fun {c σ} x1 x2 h hc => Jx.u (j_k_setPrice x1 x2 (Jx.d h (by omega)) hc) hc
theorem jj_f_setPrice : ∀ {c : Nat} {σ : ft_Sg}, ∀ (x1 x2 : Int32), Jx c σ → c ≤ 1000 → (w_setPrice σ x1 x2).1 = -100000000 → (w_setPrice σ x1 x2).2.1 0 = σ.1 0 := fun {c σ} x1 x2 h hc => j_f_setPrice x1 x2 (Jx.d h hc) hc
theorem jj_sv_setPrice : ∀ {c : Nat} {σ : ft_Sg}, ∀ (x1 x2 : Int32), Jx c σ → ft_zv σ (w_setPrice σ x1 x2).2 := fun {c σ} x1 x2 h => j_sv_setPrice x1 x2 h
theorem jj_ex_grantPermit : ∀ {c : Nat} {σ : ft_Sg}, ∀ (x1 x2 : Int32), Jx c σ → c ≤ 1000 → ∀ E, (l_grantPermit σ x1 x2).1 = .error E → E ∈ ["java/lang/IndexOutOfBoundsException", "java/lang/IllegalArgumentException", "java/lang/IllegalStateException"] := fun {c σ} x1 x2 h hc => j_ex_grantPermit x1 x2 (Jx.d h hc) hc
theorem jj_k_grantPermit : ∀ {c : Nat} {σ : ft_Sg}, ∀ (x1 x2 : Int32), Jx c σ → c + 0 ≤ 1000 → Jx (c + 0) (w_grantPermit σ x1 x2).2 := fun {c σ} x1 x2 h hc => Jx.u (j_k_grantPermit x1 x2 (Jx.d h (by omega)) hc) hc
theorem jj_f_grantPermit : ∀ {c : Nat} {σ : ft_Sg}, ∀ (x1 x2 : Int32), Jx c σ → c ≤ 1000 → (w_grantPermit σ x1 x2).1 = -100000000 → (w_grantPermit σ x1 x2).2.1 0 = σ.1 0 := fun {c σ} x1 x2 h hc => j_f_grantPermit x1 x2 (Jx.d h hc) hc
theorem jj_sv_grantPermit : ∀ {c : Nat} {σ : ft_Sg}, ∀ (x1 x2 : Int32), Jx c σ → ft_zv σ (w_grantPermit σ x1 x2).2 := fun {c σ} x1 x2 h => j_sv_grantPermit x1 x2 h
theorem jj_ex_revokePermit : ∀ {c : Nat} {σ : ft_Sg}, ∀ (x1 x2 : Int32), Jx c σ → c ≤ 1000 → ∀ E, (l_revokePermit σ x1 x2).1 = .error E → E ∈ ["java/lang/IndexOutOfBoundsException", "java/lang/IllegalArgumentException", "java/lang/IllegalStateException"] := fun {c σ} x1 x2 h hc => j_ex_revokePermit x1 x2 (Jx.d h hc) hc
theorem jj_k_revokePermit : ∀ {c : Nat} {σ : ft_Sg}, ∀ (x1 x2 : Int32), Jx c σ → c + 0 ≤ 1000 → Jx (c + 0) (w_revokePermit σ x1 x2).2 := fun {c σ} x1 x2 h hc => Jx.u (j_k_revokePermit x1 x2 (Jx.d h (by omega)) hc) hc
theorem jj_f_revokePermit : ∀ {c : Nat} {σ : ft_Sg}, ∀ (x1 x2 : Int32), Jx c σ → c ≤ 1000 → (w_revokePermit σ x1 x2).1 = -100000000 → (w_revokePermit σ x1 x2).2.1 0 = σ.1 0 := fun {c σ} x1 x2 h hc => j_f_revokePermit x1 x2 (Jx.d h hc) hc
theorem jj_sv_revokePermit : ∀ {c : Nat} {σ : ft_Sg}, ∀ (x1 x2 : Int32), Jx c σ → ft_zv σ (w_revokePermit σ x1 x2).2 := fun {c σ} x1 x2 h => j_sv_revokePermit x1 x2 h
theorem jj_ex_assign : ∀ {c : Nat} {σ : ft_Sg}, ∀ (x1 x2 x3 : Int32), Jx c σ → c ≤ 1000 → ∀ E, (l_assign σ x1 x2 x3).1 = .error E → E ∈ ["java/lang/IndexOutOfBoundsException", "java/lang/IllegalArgumentException", "java/lang/UnsupportedOperationException", "java/lang/IllegalStateException"] := fun {c σ} x1 x2 x3 h hc => j_ex_assign x1 x2 x3 (Jx.d h hc) hc
theorem jj_k_assign : ∀ {c : Nat} {σ : ft_Sg}, ∀ (x1 x2 x3 : Int32), Jx c σ → c + 0 ≤ 1000 → Jx (c + 0) (w_assign σ x1 x2 x3).2 := fun {c σ} x1 x2 x3 h hc => Jx.u (j_k_assign x1 x2 x3 (Jx.d h (by omega)) hc) hc
theorem jj_f_assign : ∀ {c : Nat} {σ : ft_Sg}, ∀ (x1 x2 x3 : Int32), Jx c σ → c ≤ 1000 → (w_assign σ x1 x2 x3).1 = -100000000 → (w_assign σ x1 x2 x3).2.1 0 = σ.1 0 := fun {c σ} x1 x2 x3 h hc => j_f_assign x1 x2 x3 (Jx.d h hc) hc
theorem jj_sv_assign : ∀ {c : Nat} {σ : ft_Sg}, ∀ (x1 x2 x3 : Int32), Jx c σ → ft_zv σ (w_assign σ x1 x2 x3).2 := fun {c σ} x1 x2 x3 h => j_sv_assign x1 x2 x3 h
theorem jj_ex_release : ∀ {c : Nat} {σ : ft_Sg}, ∀ (x1 x2 : Int32), Jx c σ → c ≤ 1000 → ∀ E, (l_release σ x1 x2).1 = .error E → E ∈ ["java/lang/IndexOutOfBoundsException", "java/lang/IllegalArgumentException", "java/util/NoSuchElementException"] := fun {c σ} x1 x2 h hc => j_ex_release x1 x2 (Jx.d h hc) hc
theorem jj_k_release : ∀ {c : Nat} {σ : ft_Sg}, ∀ (x1 x2 : Int32), Jx c σ → c + 0 ≤ 1000 → Jx (c + 0) (w_release σ x1 x2).2 := fun {c σ} x1 x2 h hc => Jx.u (j_k_release x1 x2 (Jx.d h (by omega)) hc) hc
theorem jj_f_release : ∀ {c : Nat} {σ : ft_Sg}, ∀ (x1 x2 : Int32), Jx c σ → c ≤ 1000 → (w_release σ x1 x2).1 = -100000000 → (w_release σ x1 x2).2.1 0 = σ.1 0 := fun {c σ} x1 x2 h hc => j_f_release x1 x2 (Jx.d h hc) hc
theorem jj_sv_release : ∀ {c : Nat} {σ : ft_Sg}, ∀ (x1 x2 : Int32), Jx c σ → ft_zv σ (w_release σ x1 x2).2 := fun {c σ} x1 x2 h => j_sv_release x1 x2 h
theorem jj_ex_setWeather : ∀ {c : Nat} {σ : ft_Sg}, ∀ (x1 : Int32), Jx c σ → c ≤ 1000 → ∀ E, (l_setWeather σ x1).1 = .error E → E ∈ ["java/lang/IllegalArgumentException"] := fun {c σ} x1 h hc => j_ex_setWeather x1 (Jx.d h hc) hc
theorem jj_k_setWeather : ∀ {c : Nat} {σ : ft_Sg}, ∀ (x1 : Int32), Jx c σ → c + 0 ≤ 1000 → Jx (c + 0) (w_setWeather σ x1).2 := fun {c σ} x1 h hc => Jx.u (j_k_setWeather x1 (Jx.d h (by omega)) hc) hc
theorem jj_f_setWeather : ∀ {c : Nat} {σ : ft_Sg}, ∀ (x1 : Int32), Jx c σ → c ≤ 1000 → (w_setWeather σ x1).1 = -100000000 → (w_setWeather σ x1).2.1 0 = σ.1 0 := fun {c σ} x1 h hc => j_f_setWeather x1 (Jx.d h hc) hc
theorem jj_sv_setWeather : ∀ {c : Nat} {σ : ft_Sg}, ∀ (x1 : Int32), Jx c σ → ft_zv σ (w_setWeather σ x1).2 := fun {c σ} x1 h => j_sv_setWeather x1 h
theorem jj_ex_advance : ∀ {c : Nat} {σ : ft_Sg}, ∀ (x1 : Int32), Jx c σ → c ≤ 1000 → ∀ E, (l_advance σ x1).1 = .error E → E ∈ ["java/lang/IllegalArgumentException"] := fun {c σ} x1 h hc => j_ex_advance x1 (Jx.d h hc) hc
theorem jj_k_advance : ∀ {c : Nat} {σ : ft_Sg}, ∀ (x1 : Int32), Jx c σ → c + 1 ≤ 1000 → Jx (c + 1) (w_advance σ x1).2 := fun {c σ} x1 h hc => Jx.u (j_k_advance x1 (Jx.d h (by omega)) hc) hc
theorem jj_f_advance : ∀ {c : Nat} {σ : ft_Sg}, ∀ (x1 : Int32), Jx c σ → c ≤ 1000 → (w_advance σ x1).1 = -100000000 → (w_advance σ x1).2.1 0 = σ.1 0 := fun {c σ} x1 h hc => j_f_advance x1 (Jx.d h hc) hc
theorem jj_sv_advance : ∀ {c : Nat} {σ : ft_Sg}, ∀ (x1 : Int32), Jx c σ → ft_zv σ (w_advance σ x1).2 := fun {c σ} x1 h => j_sv_advance x1 h
theorem jj_ex_runScript : ∀ {c : Nat} {σ : ft_Sg}, Jx c σ → c ≤ 1000 → ∀ E, (l_runScript σ ).1 = .error E → E ∈ ["java/lang/IllegalArgumentException", "java/lang/IllegalStateException"] := fun {c σ} h hc => j_ex_runScript (Jx.d h hc) hc
theorem jj_k_runScript : ∀ {c : Nat} {σ : ft_Sg}, Jx c σ → c + 1 ≤ 1000 → Jx (c + 1) (w_runScript σ ).2 := fun {c σ} h hc => Jx.u (j_k_runScript (Jx.d h (by omega)) hc) hc
theorem jj_f_runScript : ∀ {c : Nat} {σ : ft_Sg}, Jx c σ → c ≤ 1000 → (w_runScript σ ).1 = -100000000 → (w_runScript σ ).2.1 0 = σ.1 0 := fun {c σ} h hc => j_f_runScript (Jx.d h hc) hc
theorem jj_sv_runScript : ∀ {c : Nat} {σ : ft_Sg}, Jx c σ → ft_zv σ (w_runScript σ ).2 := fun {c σ} h => j_sv_runScript h (Nat.min_le_right _ _)
theorem jj_ex_undo : ∀ {c : Nat} {σ : ft_Sg}, Jx c σ → c ≤ 1000 → ∀ E, (l_undo σ ).1 = .error E → E ∈ ["java/util/NoSuchElementException"] := fun {c σ} h hc => j_ex_undo (Jx.d h hc) hc
theorem jj_k_undo : ∀ {c : Nat} {σ : ft_Sg}, Jx c σ → c + 0 ≤ 1000 → Jx (c + 0) (w_undo σ ).2 := fun {c σ} h hc => Jx.u (j_k_undo (Jx.d h (by omega)) hc) hc
theorem jj_f_undo : ∀ {c : Nat} {σ : ft_Sg}, Jx c σ → c ≤ 1000 → (w_undo σ ).1 = -100000000 → (w_undo σ ).2.1 0 = σ.1 0 := fun {c σ} h hc => j_f_undo (Jx.d h hc) hc
theorem jj_sv_undo : ∀ {c : Nat} {σ : ft_Sg}, Jx c σ → ft_zv σ (w_undo σ ).2 := fun {c σ} h => j_sv_undo h
theorem jj_ex_restore : ∀ {c : Nat} {σ : ft_Sg}, Jx c σ → c ≤ 1000 → ∀ E, (l_restore σ ).1 = .error E → E ∈ ["java/lang/IllegalStateException"] := fun {c σ} h hc => j_ex_restore (Jx.d h hc) hc
theorem jj_k_restore : ∀ {c : Nat} {σ : ft_Sg}, Jx c σ → c + 0 ≤ 1000 → Jx (c + 0) (w_restore σ ).2 := fun {c σ} h hc => Jx.u (j_k_restore (Jx.d h (by omega)) hc) hc
theorem jj_f_restore : ∀ {c : Nat} {σ : ft_Sg}, Jx c σ → c ≤ 1000 → (w_restore σ ).1 = -100000000 → (w_restore σ ).2.1 0 = σ.1 0 := fun {c σ} h hc => j_f_restore (Jx.d h hc) hc
theorem jj_ex_put : ∀ {c : Nat} {σ : ft_Sg}, ∀ (x1 : Int32), 32 ≤ x1 → x1 ≤ 126 → Jx c σ → c ≤ 1000 → ∀ E, (l_type σ x1).1 = .error E → E ∈ ["java/lang/IllegalStateException"] := fun {c σ} x1 h1 h2 h hc => j_ex_put x1 h1 h2 (Jx.d h hc) hc
theorem jj_k_put : ∀ {c : Nat} {σ : ft_Sg}, ∀ (x1 : Int32), 32 ≤ x1 → x1 ≤ 126 → Jx c σ → c + 0 ≤ 1000 → Jx (c + 0) (w_put σ x1).2 := fun {c σ} x1 h1 h2 h hc => Jx.u (j_k_put x1 h1 h2 (Jx.d h (by omega)) hc) hc
theorem jj_k_save : ∀ {c : Nat} {σ : ft_Sg}, Jx c σ → c + 0 ≤ 1000 → Jx (c + 0) (l_save σ ).2 := fun {c σ} h hc => Jx.u (j_k_save (Jx.d h (by omega)) hc) hc
theorem jj_r_save : ∀ {σ : ft_Sg}, (l_save σ ).2.1 0 = σ.1 0 := fun {σ} => j_r_save
theorem jj_k_servedWithin : ∀ {c : Nat} {σ : ft_Sg}, ∀ (x1 : Int32), Jx c σ → c + 1 ≤ 1000 → Jx (c + 1) (l_servedWithin σ x1).2 := fun {c σ} x1 h hc => Jx.u (j_k_servedWithin x1 (Jx.d h (by omega)) hc) hc
theorem jj_r_servedWithin : ∀ {σ : ft_Sg}, ∀ (x1 : Int32), (l_servedWithin σ x1).2.1 0 = σ.1 0 := fun {σ} x1 => j_r_servedWithin x1
theorem jj_k_renderDay : ∀ {c : Nat} {σ : ft_Sg}, ∀ (x1 : Int32), Jx c σ → c + 0 ≤ 1000 → Jx (c + 0) (l_renderDay σ x1).2 := fun {c σ} x1 h hc => Jx.u (j_k_renderDay x1 (Jx.d h (by omega)) hc) hc
theorem jj_r_renderDay : ∀ {σ : ft_Sg}, ∀ (x1 : Int32), (l_renderDay σ x1).2.1 0 = σ.1 0 := fun {σ} x1 => j_r_renderDay x1
theorem jj_k_renderTruck : ∀ {c : Nat} {σ : ft_Sg}, ∀ (x1 : Int32), Jx c σ → c + 0 ≤ 1000 → Jx (c + 0) (l_renderTruck σ x1).2 := fun {c σ} x1 h hc => Jx.u (j_k_renderTruck x1 (Jx.d h (by omega)) hc) hc
theorem jj_r_renderTruck : ∀ {σ : ft_Sg}, ∀ (x1 : Int32), (l_renderTruck σ x1).2.1 0 = σ.1 0 := fun {σ} x1 => j_r_renderTruck x1
theorem jj_sm_renderDay : ∀ {σ : ft_Sg} (x : Int32), ft_zm σ (l_renderDay σ x).2 := fun {σ} x => j_sm_renderDay x
theorem jj_sm_renderTruck : ∀ {σ : ft_Sg} (x : Int32), ft_zm σ (l_renderTruck σ x).2 := fun {σ} x => j_sm_renderTruck x
theorem jj_sp_put : ∀ {σ : ft_Sg} (x : Int32), ft_zp σ (w_put σ x).2 := fun {σ} x => j_sp_put x
theorem jj_sv_servedWithin : ∀ {σ : ft_Sg} (x : Int32), ft_zv σ (l_servedWithin σ x).2 := fun {σ} x => j_sv_servedWithin x
theorem jj_dN : ∀ {r : Nat → Int32}, ft_Gd r → tn (l_truckCount (ft_nr r)) ≤ 6 := fun {r} h => g_dN h
theorem jj_dT : ∀ {r : Nat → Int32}, ft_Gd r → ∀ (y : Int32) (i : Nat), y = nI i → i + 1 ≤ tn (l_truckCount (ft_nr r)) → ¬ s_X4_isTruck r y = 0 := fun {r} h => g_dT h
theorem jj_dQ : ∀ {r : Nat → Int32}, ft_Gd r → ∀ (y : Int32) (i : Nat), y = nI i → i + 1 ≤ tn (l_truckCount (ft_nr r)) → tn (p_queueLength (ft_nr r) y) ≤ 9 := fun {r} h => g_dQ h
theorem jj_dW : ∀ {r : Nat → Int32}, ft_Gd r → ∀ (y z : Int32) (i j : Nat), y = nI i → i + 1 ≤ tn (l_truckCount (ft_nr r)) → z = nI j → j + 1 ≤ tn (p_queueLength (ft_nr r) y) → ¬ s_X6_wishAt r (51 + 17 * tn y) z = -1 := fun {r} h => g_dW h
theorem jj_rd1 : ∀ {c : Nat} {σ : ft_Sg}, Jx c σ → c ≤ 1000 → ∀ x : Int32, ¬ s_X7_isWeekday x = 0 → (l_renderDay σ x).1 = .ok 5 := fun {c σ} h hc => j_rd1 (Jx.d h hc) hc
theorem jj_hH : ∀ {c : Nat} {σ : ft_Sg}, Jx c σ → c ≤ 1000 → ∀ (x y : Int32), s_X4_holderOf (σ.1 0) y x = -1 ∨ (¬ s_X4_holderOf (σ.1 0) y x < 0 ∧ tn (s_X4_holderOf (σ.1 0) y x) < 10) := fun {c σ} h hc => j_hH (Jx.d h hc) hc
theorem jj_b1 : ∀ {r : Nat → Int32}, ft_Gd r → ∀ x : Int32, ¬ s_X7_isWeekday x = 0 → w_firstFreePitch (ft_nr r) x = s_L_freeOn r x := fun {r} h => g_b1 h
theorem jj_oa : ∀ {c : Nat} {σ : ft_Sg} {r : Nat → Int32}, Jx c σ → c ≤ 1000 → σ.1 0 = r → ∀ (x p : Int32) (i : Nat), ¬ s_X7_isWeekday x = 0 → p = nI i → i + 1 ≤ 5 → l_outputAt (l_renderDay σ x).2 p = .ok (ft_sg r p x) := fun {c σ r} h hc hq => j_oa (Jx.d h hc) hc hq
theorem jj_b2 : ∀ {r : Nat → Int32}, ft_Gd r → ∀ (x p : Int32) (i : Nat), ¬ s_X7_isWeekday x = 0 → p = nI i → i + 1 ≤ 5 → ¬ w_truckAt (ft_nr r) p x = -1000 → l_pitchOf (ft_nr r) (w_truckAt (ft_nr r) p x) x = .ok p := fun {r} h => g_b2 h
theorem jj_b3 : ∀ {r : Nat → Int32}, ft_Gd r → ∀ (x p : Int32) (i : Nat), ¬ s_X7_isWeekday x = 0 → p = nI i → i + 1 ≤ 5 → ¬ w_truckAt (ft_nr r) p x = -1000 → l_hasPermit (ft_nr r) (w_truckAt (ft_nr r) p x) x = .ok 1 := fun {r} h => g_b3 h
theorem jj_b4 : ∀ {r : Nat → Int32}, ft_Gd r → l_assignments (ft_nr r) = ft_mn r 7 := fun {r} h => g_b4 h
theorem jj_b5 : ∀ {r : Nat → Int32}, ft_Gd r → l_assignmentsByTrucks (ft_nr r) = ft_mn r 7 := fun {r} h => g_b5 h
theorem jj_b6 : ∀ {r : Nat → Int32}, ft_Gd r → l_isConsistent (ft_nr r) = 1 := fun {r} h => g_b6 h
theorem jj_c1 : ∀ {r : Nat → Int32}, ft_Gd r → ∀ (y : Int32) (i : Nat), y = nI i → i + 1 ≤ tn (l_truckCount (ft_nr r)) → ¬ s_X4_isTruck r (w_truckByCoins (ft_nr r) y) = 0 := fun {r} h => g_c1 h
theorem jj_c2 : ∀ {r : Nat → Int32}, ft_Gd r → ∀ (y : Int32) (i : Nat), y = nI i → 1 ≤ i → i + 1 ≤ tn (l_truckCount (ft_nr r)) → 0 < (p_coins (ft_nr r) (w_truckByCoins (ft_nr r) (y - 1))) - (p_coins (ft_nr r) (w_truckByCoins (ft_nr r) y)) ∨ ((p_coins (ft_nr r) (w_truckByCoins (ft_nr r) (y - 1))) - (p_coins (ft_nr r) (w_truckByCoins (ft_nr r) y)) = 0 ∧ (0 < (s_L_stocks r (w_truckByCoins (ft_nr r) (y - 1))) - (s_L_stocks r (w_truckByCoins (ft_nr r) y)) ∨ ((s_L_stocks r (w_truckByCoins (ft_nr r) (y - 1))) - (s_L_stocks r (w_truckByCoins (ft_nr r) y)) = 0 ∧ w_truckByCoins (ft_nr r) (y - 1) < w_truckByCoins (ft_nr r) y))) := fun {r} h => g_c2 h
theorem jj_a1 : ∀ {r : Nat → Int32}, ft_Gd r → w_truckByCoins (ft_nr r) (l_truckCount (ft_nr r)) = -1000 := fun {r} h => g_a1 h
theorem jj_a2 : ∀ {r : Nat → Int32}, ft_Gd r → w_truckByCoins (ft_nr r) (-1) = -1000 := fun {r} h => g_a2 h
theorem jj_a3 : ∀ {r : Nat → Int32}, ft_Gd r → ∀ (y : Int32) (i : Nat), y = nI i → i + 1 ≤ tn (l_truckCount (ft_nr r)) → ¬ p_minutesLeft (ft_nr r) y = 0 → ¬ s_X6_wishAt r (51 + 17 * tn y) 0 = -1 := fun {r} h => g_a3 h
theorem jj_a4 : ∀ {r : Nat → Int32}, ft_Gd r → ∀ (y : Int32) (i : Nat), y = nI i → i + 1 ≤ tn (l_truckCount (ft_nr r)) → p_minutesLeft (ft_nr r) y = 0 → p_queueTime (ft_nr r) y = ft_up (ft_wd r y) 0 (tn (p_queueLength (ft_nr r) y)) - 0 := fun {r} h => g_a4 h
theorem jj_a5 : ∀ {r : Nat → Int32}, ft_Gd r → ∀ (y : Int32) (i : Nat), y = nI i → i + 1 ≤ tn (l_truckCount (ft_nr r)) → ¬ p_minutesLeft (ft_nr r) y = 0 → p_queueTime (ft_nr r) y = ft_up (ft_wd r y) 0 (tn (p_queueLength (ft_nr r) y)) - (((p_wantedDish (ft_nr r) y 0) + 1) - (p_minutesLeft (ft_nr r) y)) := fun {r} h => g_a5 h
theorem jj_a6 : ∀ {r : Nat → Int32}, ft_Gd r → ∀ (y : Int32) (i : Nat), y = nI i → i + 1 ≤ tn (l_truckCount (ft_nr r)) → ¬ p_minutesLeft (ft_nr r) y = 0 → ¬ ((p_wantedDish (ft_nr r) y 0) + 1) - (p_minutesLeft (ft_nr r) y) < 0 := fun {r} h => g_a6 h
theorem jj_a7 : ∀ {r : Nat → Int32}, ft_Gd r → ∀ (y : Int32) (i : Nat), y = nI i → i + 1 ≤ tn (l_truckCount (ft_nr r)) → ¬ 9 < p_queueLength (ft_nr r) y := fun {r} h => g_a7 h
theorem jj_a8 : ∀ {r : Nat → Int32}, ft_Gd r → ∀ (y : Int32) (i : Nat), y = nI i → i + 1 ≤ tn (l_truckCount (ft_nr r)) → w_pitchOf (ft_nr r) y (ft_td r) = -1000 → p_isOpen (ft_nr r) y = 0 ∧ p_queueLength (ft_nr r) y = 0 ∧ p_minutesLeft (ft_nr r) y = 0 := fun {r} h => g_a8 h
theorem jj_a9 : ∀ {r : Nat → Int32}, ft_Gd r → ∀ (y : Int32) (i : Nat), y = nI i → i + 1 ≤ tn (l_truckCount (ft_nr r)) → ¬ w_pitchOf (ft_nr r) y (ft_td r) = -1000 → p_isOpen (ft_nr r) y = 1 := fun {r} h => g_a9 h
theorem jj_a10 : ∀ {r : Nat → Int32}, ft_Gd r → ∀ (y : Int32) (i : Nat), y = nI i → i + 1 ≤ tn (l_truckCount (ft_nr r)) → w_wantedDish (ft_nr r) y (p_queueLength (ft_nr r) y) = -1000 := fun {r} h => g_a10 h
theorem jj_a11 : ∀ {r : Nat → Int32}, ft_Gd r → ∀ (y : Int32) (i : Nat), y = nI i → i + 1 ≤ tn (l_truckCount (ft_nr r)) → w_firstFreeDay (ft_nr r) y = s_L_firstOf r y := fun {r} h => g_a11 h
theorem jj_a12 : ∀ {r : Nat → Int32}, ft_Gd r → ft_up (fun y => p_soldPortions (ft_nr r) y) 0 4 = l_servedTotal (ft_nr r) := fun {r} h => g_a12 h
theorem jj_a13 : ∀ {r : Nat → Int32}, ft_Gd r → l_arrivedTotal (ft_nr r) = (((l_servedTotal (ft_nr r)) + (l_disappointedTotal (ft_nr r))) + (l_lostTotal (ft_nr r))) + (ft_up (fun y => p_queueLength (ft_nr r) y) 0 (tn (l_truckCount (ft_nr r)))) := fun {r} h => g_a13 h
theorem jj_m0 : ∀ {r : Nat → Int32}, ft_Gd r → l_truckCount (ft_nr r) = 0 → Op.cmpValue (FP.dcmp (w_meanCoins (ft_nr r)) 13830554455654793216) .l = 0 := fun {r} h => g_m0 h
theorem jj_m1 : ∀ {r : Nat → Int32}, ft_Gd r → ¬ l_truckCount (ft_nr r) = 0 → vf_n64 (FP.ddiv (FP.i2d (ft_up (fun y => p_coins (ft_nr r) y) 0 (tn (l_truckCount (ft_nr r))))) (FP.i2d (l_truckCount (ft_nr r)))) ∧ Op.cmpValue (FP.dcmp (w_meanCoins (ft_nr r)) (FP.ddiv (FP.i2d (ft_up (fun y => p_coins (ft_nr r) y) 0 (tn (l_truckCount (ft_nr r))))) (FP.i2d (l_truckCount (ft_nr r))))) .l = 0 := fun {r} h => g_m1 h
theorem jj_m2 : ∀ {r : Nat → Int32}, ft_Gd r → ¬ r 0 = 0 → vf_n64 (FP.ddiv (FP.i2d (s_X4_sumOfCoins r)) (FP.i2d (r 0))) := fun {r} h => g_m2 h
theorem jj_s0 : ∀ {r : Nat → Int32}, ft_Gd r → l_arrivedTotal (ft_nr r) = 0 → Op.cmpValue (FP.fcmp (w_servedShare (ft_nr r)) 3212836864) .l = 0 := fun {r} h => g_s0 h
theorem jj_s1 : ∀ {r : Nat → Int32}, ft_Gd r → ¬ l_arrivedTotal (ft_nr r) = 0 → vf_n32 (FP.fdiv (FP.i2f (l_servedTotal (ft_nr r))) (FP.i2f (l_arrivedTotal (ft_nr r)))) ∧ Op.cmpValue (FP.fcmp (w_servedShare (ft_nr r)) (FP.fdiv (FP.i2f (l_servedTotal (ft_nr r))) (FP.i2f (l_arrivedTotal (ft_nr r))))) .l = 0 := fun {r} h => g_s1 h
theorem jj_s2 : ∀ {r : Nat → Int32}, ft_Gd r → ¬ r 4 = 0 → vf_n32 (FP.fdiv (FP.i2f (r 5)) (FP.i2f (r 4))) := fun {r} h => g_s2 h
theorem jj_rtH : ∀ {c : Nat} {σ : ft_Sg} {r : Nat → Int32}, Jx c σ → c ≤ 1000 → σ.1 0 = r → ∀ (y : Int32) (i : Nat), y = nI i → i + 1 ≤ tn (l_truckCount (ft_nr r)) → tn y < 10 ∧ (∀ z : Int32, ¬ s_X6_portionsOf (σ.1 0) (51 + 17 * tn y) z < 0 ∧ tn (s_X6_portionsOf (σ.1 0) (51 + 17 * tn y) z) < 1000) ∧ ¬ σ.1 0 (51 + 17 * tn y + 0) < 0 ∧ (s_X4_pitchToday (σ.1 0) y = -1 ∨ (¬ s_X4_pitchToday (σ.1 0) y < 0 ∧ tn (s_X4_pitchToday (σ.1 0) y) < 10)) ∧ tn (σ.1 0 (51 + 17 * tn y + 2)) ≤ 9 := fun {c σ r} h hc hq => j_rtH (Jx.d h hc) hc hq
theorem jj_rtv : ∀ {c : Nat} {σ : ft_Sg} {r : Nat → Int32}, Jx c σ → c ≤ 1000 → σ.1 0 = r → ∀ (y : Int32) (i : Nat), y = nI i → i + 1 ≤ tn (l_truckCount (ft_nr r)) → (l_renderTruck σ y).1 = .ok (p_renderTruck σ y) := fun {c σ r} h hc hq => j_rtv (Jx.d h hc) hc hq
theorem jj_rt0 : ∀ {c : Nat} {σ : ft_Sg} {r : Nat → Int32}, Jx c σ → c ≤ 1000 → σ.1 0 = r → ∀ (y : Int32) (i : Nat), y = nI i → i + 1 ≤ tn (l_truckCount (ft_nr r)) → w_pitchOf (ft_nr r) y (ft_td r) = -1000 → ¬ p_renderTruck σ y < 12 + 0 := fun {c σ r} h hc hq => j_rt0 (Jx.d h hc) hc hq
theorem jj_rt1 : ∀ {c : Nat} {σ : ft_Sg} {r : Nat → Int32}, Jx c σ → c ≤ 1000 → σ.1 0 = r → ∀ (y : Int32) (i : Nat), y = nI i → i + 1 ≤ tn (l_truckCount (ft_nr r)) → ¬ w_pitchOf (ft_nr r) y (ft_td r) = -1000 → ¬ p_renderTruck σ y < 12 + (2 + (p_queueLength (ft_nr r) y)) := fun {c σ r} h hc hq => j_rt1 (Jx.d h hc) hc hq
theorem jj_sw : ∀ {c : Nat} {σ : ft_Sg} {r : Nat → Int32} {m : Int32}, Jx c σ → c + 1 ≤ 1000 → (1 ≤ m ∧ m ≤ 60) → σ.1 0 = r → (l_servedWithin σ m).1 = .ok (ft_pz r m) := fun {c σ r m} h hc hm hq => j_sw (Jx.d h (by omega)) hc hm hq
theorem jj_ad : ∀ {c : Nat} {σ : ft_Sg} {r : Nat → Int32} {m : Int32}, Jx c σ → c + 1 ≤ 1000 → (1 ≤ m ∧ m ≤ 60) → σ.1 0 = r → (w_advance σ m).1 = ft_pz r m ∧ (w_advance σ m).2.1 0 = ft_pr r m ∧ ft_U r (w_advance σ m).2 := fun {c σ r m} h hc hm hq => j_ad (Jx.d h (by omega)) hc hm hq
theorem jj_p1 : ∀ {r : Nat → Int32} {m : Int32}, ft_Gd r → ft_Gd (ft_pr r m) → (1 ≤ m ∧ m ≤ 60) → l_servedTotal (ft_nr (ft_pr r m)) = (l_servedTotal (ft_nr r)) + (ft_pz r m) := fun {r m} h h2 hm => g_p1 h h2 hm
theorem jj_p2 : ∀ {r : Nat → Int32} {m : Int32}, ft_Gd r → ft_Gd (ft_pr r m) → (1 ≤ m ∧ m ≤ 60) → l_arrivedTotal (ft_nr (ft_pr r m)) = (l_arrivedTotal (ft_nr r)) + (m * (l_weather (ft_nr (ft_pr r m)))) := fun {r m} h h2 hm => g_p2 h h2 hm
theorem jj_p3 : ∀ {r : Nat → Int32} {m : Int32}, ft_Gd r → ft_Gd (ft_pr r m) → (1 ≤ m ∧ m ≤ 60) → (60 * (l_day (ft_nr (ft_pr r m)))) + (l_minute (ft_nr (ft_pr r m))) = ((60 * (l_day (ft_nr r))) + (l_minute (ft_nr r))) + m := fun {r m} h h2 hm => g_p3 h h2 hm
theorem jj_p5 : ∀ {r : Nat → Int32} {m : Int32}, ft_Gd r → ft_Gd (ft_pr r m) → (1 ≤ m ∧ m ≤ 60) → ∀ (y : Int32) (i : Nat), y = nI i → i + 1 ≤ 4 → (p_soldPortions (ft_nr (ft_pr r m)) y) - (p_soldPortions (ft_nr r) y) = ft_dn (fun z => p_stock (ft_nr (ft_pr r m)) z y) (ft_up (fun z => p_stock (ft_nr r) z y) 0 (tn (l_truckCount (ft_nr r)))) (tn (l_truckCount (ft_nr (ft_pr r m)))) ∧ ¬ (p_soldPortions (ft_nr (ft_pr r m)) y) - (p_soldPortions (ft_nr r) y) < 0 := fun {r m} h h2 hm => g_p5 h h2 hm
theorem jj_p6 : ∀ {r : Nat → Int32} {m : Int32}, ft_Gd r → ft_Gd (ft_pr r m) → (1 ≤ m ∧ m ≤ 60) → ft_dn (fun y => ((p_soldPortions (ft_nr (ft_pr r m)) y) - (p_soldPortions (ft_nr r) y)) * (p_price (ft_nr (ft_pr r m)) y)) (ft_up (fun y => p_coins (ft_nr (ft_pr r m)) y) (ft_dn (fun y => p_coins (ft_nr r) y) 0 (tn (l_truckCount (ft_nr r)))) (tn (l_truckCount (ft_nr (ft_pr r m))))) 4 = 0 := fun {r m} h h2 hm => g_p6 h h2 hm
theorem jj_uU : ∀ {r : Nat → Int32} {σ u : ft_Sg}, ft_U r σ → ft_zm σ u → ft_U r u := fun {r σ u} h hm => j_uU h hm
theorem jj_d1 : ∀ {c : Nat} {σ : ft_Sg} {r : Nat → Int32}, Jx c σ → c ≤ 1000 → σ.1 0 = r → ∀ (p : Int32) (i : Nat), p = nI i → i + 1 ≤ 5 → w_truckAt (ft_nr r) p (ft_td r) = -1000 → (w_release σ p (ft_td r)).1 = -100000000 ∧ (w_release σ p (ft_td r)).2.1 0 = r := fun {c σ r} h hc hq => j_d1 (Jx.d h hc) hc hq
theorem jj_d2 : ∀ {c : Nat} {σ : ft_Sg} {r : Nat → Int32}, Jx c σ → c ≤ 1000 → σ.1 0 = r → ∀ (p : Int32) (i : Nat), p = nI i → i + 1 ≤ 5 → ¬ w_truckAt (ft_nr r) p (ft_td r) = -1000 → (w_release σ p (ft_td r)).1 = w_truckAt (ft_nr r) p (ft_td r) ∧ (w_release σ p (ft_td r)).2.1 0 = ft_rl r p (ft_td r) ∧ ft_U r (w_release σ p (ft_td r)).2 := fun {c σ r} h hc hq => j_d2 (Jx.d h hc) hc hq
theorem jj_d3 : ∀ {r : Nat → Int32}, ft_Gd r → ∀ (p : Int32) (i : Nat), p = nI i → i + 1 ≤ 5 → ¬ w_truckAt (ft_nr r) p (ft_td r) = -1000 → ¬ w_truckAt (ft_nr r) p (ft_td r) = -100000000 ∧ ¬ s_X4_isTruck r (w_truckAt (ft_nr r) p (ft_td r)) = 0 := fun {r} h => g_d3 h
theorem jj_d5 : ∀ {r : Nat → Int32}, ft_Gd r → ∀ (p : Int32) (i : Nat), p = nI i → i + 1 ≤ 5 → ¬ w_truckAt (ft_nr r) p (ft_td r) = -1000 → l_disappointedTotal (ft_nr (ft_rl r p (ft_td r))) = (l_disappointedTotal (ft_nr r)) + (p_queueLength (ft_nr r) (w_truckAt (ft_nr r) p (ft_td r))) := fun {r} h => g_d5 h
theorem jj_d6 : ∀ {r : Nat → Int32}, ft_Gd r → ∀ (p : Int32) (i : Nat), p = nI i → i + 1 ≤ 5 → ¬ w_truckAt (ft_nr r) p (ft_td r) = -1000 → l_isOpen (ft_nr (ft_rl r p (ft_td r))) (w_truckAt (ft_nr r) p (ft_td r)) = .ok 0 ∧ l_queueLength (ft_nr (ft_rl r p (ft_td r))) (w_truckAt (ft_nr r) p (ft_td r)) = .ok 0 := fun {r} h => g_d6 h
theorem jj_tx0 : ∀ {c j : Nat} {σ : ft_Sg}, Jx c σ → σ.2.2.1 6 = 0 → j < 28 → ft_Td j 0 σ := fun {c j σ} h h6 hj => j_tx0 h h6 hj
theorem jj_tx1 : ∀ {c j n : Nat} {σ : ft_Sg}, Jx c σ → ft_Td j n σ → j < 28 → n < ft_scn.getD j 0 → ft_Td j (n + 1) (w_put σ (ft_ch ((ft_scy.getD j []).getD n 0))).2 := fun {c j n σ} h hT hj hn => j_tx1 h hT hj hn
theorem jj_sc : ∀ {c j : Nat} {σ : ft_Sg}, Jx c σ → c + 1 ≤ 1000 → j < 28 → ft_Td j (ft_scn.getD j 0) σ → ((w_runScript σ).1 = -100000000 → (w_runScript σ).2.1 0 = σ.1 0 ∧ ¬ w_failedCommand (w_runScript σ).2 < 0) ∧ (¬ (w_runScript σ).1 = -100000000 → ft_U (σ.1 0) (w_runScript σ).2) := fun {c j σ} h hc hj hT => j_sc (Jx.d h (by omega)) hc hj hT
theorem jj_e_runScript : ∀ {c : Nat} {σ : ft_Sg}, Jx c σ → (w_runScript σ).2.2.2.1 6 = 0 := fun {c σ} h => j_e_runScript h (Nat.min_le_right _ _)
theorem jj_e_undo : ∀ {σ : ft_Sg}, (w_undo σ).2.2.2.1 6 = σ.2.2.1 6 := fun {σ} => j_e_undo
theorem jj_sa : ∀ {c : Nat} {σ : ft_Sg}, Jx c σ → c ≤ 1000 → (l_save σ).1 = l_truckCount (ft_nr (σ.1 0)) ∧ (l_save σ).2.1 2 = σ.1 0 ∧ (l_save σ).2.2.2.1 0 = 1 ∧ (l_save σ).2.2.2.1 6 = σ.2.2.1 6 := fun {c σ} h hc => j_sa (Jx.d h hc) hc
theorem jj_rs : ∀ {c : Nat} {σ : ft_Sg} {r : Nat → Int32}, Jx c σ → σ.1 2 = r → σ.2.2.1 0 = 1 → (w_restore σ).1 = l_truckCount (ft_nr r) ∧ (w_restore σ).2.1 0 = r ∧ (w_undo (w_restore σ).2).1 = -100000000 := fun {c σ r} h h2 h1 => j_rs h h2 h1
theorem jj__0 : ft_JJ0 Jx ft_Gd ft_Td := ⟨@jj_mono, @jj_gr, @jj_pm, @jj_ok9, @jj_ok1, @jj_g9, @jj_ex_addTruck, @jj_k_addTruck, @jj_f_addTruck, @jj_sv_addTruck, @jj_ex_addStock, @jj_k_addStock, @jj_f_addStock, @jj_sv_addStock, @jj_ex_setPrice, @jj_k_setPrice⟩
theorem jj__1 : ft_JJ1 Jx ft_Gd ft_Td := ⟨@jj_f_setPrice, @jj_sv_setPrice, @jj_ex_grantPermit, @jj_k_grantPermit, @jj_f_grantPermit, @jj_sv_grantPermit, @jj_ex_revokePermit, @jj_k_revokePermit, @jj_f_revokePermit, @jj_sv_revokePermit, @jj_ex_assign, @jj_k_assign, @jj_f_assign, @jj_sv_assign, @jj_ex_release, @jj_k_release⟩
theorem jj__2 : ft_JJ2 Jx ft_Gd ft_Td := ⟨@jj_f_release, @jj_sv_release, @jj_ex_setWeather, @jj_k_setWeather, @jj_f_setWeather, @jj_sv_setWeather, @jj_ex_advance, @jj_k_advance, @jj_f_advance, @jj_sv_advance, @jj_ex_runScript, @jj_k_runScript, @jj_f_runScript, @jj_sv_runScript, @jj_ex_undo, @jj_k_undo⟩
theorem jj__3 : ft_JJ3 Jx ft_Gd ft_Td := ⟨@jj_f_undo, @jj_sv_undo, @jj_ex_restore, @jj_k_restore, @jj_f_restore, @jj_ex_put, @jj_k_put, @jj_k_save, @jj_r_save, @jj_k_servedWithin, @jj_r_servedWithin, @jj_k_renderDay, @jj_r_renderDay, @jj_k_renderTruck, @jj_r_renderTruck, @jj_sm_renderDay⟩
theorem jj__4 : ft_JJ4 Jx ft_Gd ft_Td := ⟨@jj_sm_renderTruck, @jj_sp_put, @jj_sv_servedWithin, @jj_dN, @jj_dT, @jj_dQ, @jj_dW, @jj_rd1, @jj_hH, @jj_b1, @jj_oa, @jj_b2, @jj_b3, @jj_b4, @jj_b5, @jj_b6⟩
theorem jj__5 : ft_JJ5 Jx ft_Gd ft_Td := ⟨@jj_c1, @jj_c2, @jj_a1, @jj_a2, @jj_a3, @jj_a4, @jj_a5, @jj_a6, @jj_a7, @jj_a8, @jj_a9, @jj_a10, @jj_a11, @jj_a12, @jj_a13, @jj_m0⟩
theorem jj__6 : ft_JJ6 Jx ft_Gd ft_Td := ⟨@jj_m1, @jj_m2, @jj_s0, @jj_s1, @jj_s2, @jj_rtH, @jj_rtv, @jj_rt0, @jj_rt1, @jj_sw, @jj_ad, @jj_p1, @jj_p2, @jj_p3, @jj_p5, @jj_p6⟩
theorem jj__7 : ft_JJ7 Jx ft_Gd ft_Td := ⟨@jj_uU, @jj_d1, @jj_d2, @jj_d3, @jj_d5, @jj_d6, @jj_tx0, @jj_tx1, @jj_sc, @jj_e_runScript, @jj_e_undo, @jj_sa, @jj_rs⟩
theorem jj : ft_JJ Jx ft_Gd ft_Td := ⟨jj__0, jj__1, jj__2, jj__3, jj__4, jj__5, jj__6, jj__7⟩
