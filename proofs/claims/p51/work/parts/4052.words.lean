/-! three words that the tables give at one remove: private methods of the class above select themselves -/
theorem ft_selS {C : String} {x y z : MethodName} {s : State} {args : Array Value} (hy : y.cls ≠ "java/lang/invoke/MethodHandle" ∧ y.cls ≠ "java/lang/invoke/VarHandle") (hc : z.cls = y.cls)
    (hz : (Cond.selects C x z).before args s = true) (hpriv : (Cond.privateMethod y).before args s = true) (hinst : (Cond.instanceMethod y).before args s = true) : (Cond.selects C y y).before args s = true := by
  obtain ⟨mk, methM, hnamed, hmethM, -, -⟩ := Cond.instanceMethod_spec hinst
  have hfound : s.methodFound? y.cls y.name y.desc = some mk := State.methodFound?_of_named hnamed hy
  have h1 := findClass_of_methodNamed hnamed
  simp only [Cond.before, Cond.holds, Cond.value] at hz
  cases hC : s.vm.findClass C with
  | none => simp [hC] at hz
  | some c =>
    have hsel : selectMethod {} s.vm c mk = .method mk := selectMethod_private hmethM (Cond.privateMethod_at hpriv mk methM hnamed hmethM)
    cases hr : s.methodFound? x.cls x.name x.desc with
    | none => simp [hC, hr] at hz
    | some r =>
      cases hm : s.methodNamed? z with
      | none => simp [hC, hr, hm] at hz
      | some m =>
        have h2 := findClass_of_methodNamed hm
        rw [hc, h1] at h2
        have h3 : mk.cls = m.cls := Option.some.inj h2
        simp only [hC, hr, hm] at hz
        simp only [Cond.before, Cond.holds, Cond.value, hC, hfound, hnamed, hsel, h3]
        cases hs : selectMethod {} s.vm c r with
        | method m' =>
          rw [hs] at hz
          simp at hz
          simp
          exact hz.2
        | _ => rw [hs] at hz; simp at hz
abbrev zzs3 : List Cond := [.selects RJ4 yJ5_ensureCapacityInternal_d00df yJ5_ensureCapacityInternal_d00df, .selects RJ4 yJ5_newCapacity_0f7a4 yJ5_newCapacity_0f7a4, .selects RJ4 yJ5_inflate_da8c8 yJ5_inflate_da8c8]
def zzgv : MethodName := ⟨"java/lang/AbstractStringBuilder", "getValue", "()[B"⟩
theorem zzt_gv : Cond.selects RJ4 zzgv zzgv ∈ tables_1 := by decide +kernel
theorem zzt_p0 : Cond.privateMethod yJ5_ensureCapacityInternal_d00df ∈ tables_1 ∧ Cond.instanceMethod yJ5_ensureCapacityInternal_d00df ∈ tables_1 := by decide +kernel
theorem zzt_p1 : Cond.privateMethod yJ5_newCapacity_0f7a4 ∈ tables_1 ∧ Cond.instanceMethod yJ5_newCapacity_0f7a4 ∈ tables_1 := by decide +kernel
theorem zzt_p2 : Cond.privateMethod yJ5_inflate_da8c8 ∈ tables_1 ∧ Cond.instanceMethod yJ5_inflate_da8c8 ∈ tables_1 := by decide +kernel
theorem zz_s3 {args : Array Value} {s : State} (ht : ∀ w ∈ tables_1, w.before args s = true) : ∀ w ∈ zzs3, w.before args s = true := by
  intro w hw
  rcases List.mem_cons.mp hw with rfl | hw
  · exact ft_selS (x := zzgv) (z := zzgv) (by decide) rfl (ht _ zzt_gv) (ht _ zzt_p0.1) (ht _ zzt_p0.2)
  · rcases List.mem_cons.mp hw with rfl | hw
    · exact ft_selS (x := zzgv) (z := zzgv) (by decide) rfl (ht _ zzt_gv) (ht _ zzt_p1.1) (ht _ zzt_p1.2)
    · rcases List.mem_cons.mp hw with rfl | hw
      · exact ft_selS (x := zzgv) (z := zzgv) (by decide) rfl (ht _ zzt_gv) (ht _ zzt_p2.1) (ht _ zzt_p2.2)
      · exact absurd hw List.not_mem_nil
