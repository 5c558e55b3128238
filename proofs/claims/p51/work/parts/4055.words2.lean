/-! the words of the law, all of them; the law from its entry -/
theorem zz_x0 : ∀ w ∈ (vx_atM "java/lang/ArrayIndexOutOfBoundsException" ["java/lang/IndexOutOfBoundsException", "java/lang/RuntimeException", "java/lang/Exception"]).filter goodWord, w ∈ lw_tbl := by decide +kernel
theorem zz_x1 : ∀ w ∈ (vx_atS RX7 234 "java/lang/IndexOutOfBoundsException" ["java/lang/RuntimeException", "java/lang/Exception"]).filter goodWord, w ∈ lw_tbl := by decide +kernel
theorem zz_x2 : ∀ w ∈ (vx_atS RX7 160 "java/lang/IllegalArgumentException" ["java/lang/RuntimeException", "java/lang/Exception"]).filter goodWord, w ∈ lw_tbl := by decide +kernel
theorem zz_x3 : ∀ w ∈ (vx_atS RX7 312 "java/lang/UnsupportedOperationException" ["java/lang/RuntimeException", "java/lang/Exception"]).filter goodWord, w ∈ lw_tbl := by decide +kernel
theorem zz_x4 : ∀ w ∈ ft_nx.filter goodWord, w ∈ lw_tbl := by decide +kernel
theorem zz_x5 : ∀ w ∈ (vx_atS RX7 248 "java/lang/IllegalStateException" ["java/lang/RuntimeException", "java/lang/Exception"]).filter goodWord, w ∈ lw_tbl := by decide +kernel
theorem zz_x6 : ∀ w ∈ (vx_atM "java/lang/ArithmeticException" ["java/lang/RuntimeException", "java/lang/Exception"]).filter goodWord, w ∈ lw_tbl := by decide +kernel
theorem zz_x7 : ∀ w ∈ (vx_atS RX7 201 "java/lang/ArithmeticException" ["java/lang/RuntimeException", "java/lang/Exception"]).filter goodWord, w ∈ lw_tbl := by decide +kernel
theorem zz_app {A B C : List Cond} (h1 : ∀ w ∈ A, w ∈ C) (h2 : ∀ w ∈ B, w ∈ C) : ∀ w ∈ A ++ B, w ∈ C := fun w h => (List.mem_append.mp h).elim (h1 w) (h2 w)
theorem zz_law : ∀ w ∈ wsL_law, w ∈ zzs3 ++ lw_tbl := (zz_app (zz_app (zz_app (zz_app (zz_app (zz_app (zz_app (zz_app zz_law0 (fun w h => List.mem_append_right _ (zz_x0 w h))) (fun w h => List.mem_append_right _ (zz_x1 w h))) (fun w h => List.mem_append_right _ (zz_x2 w h))) (fun w h => List.mem_append_right _ (zz_x3 w h))) (fun w h => List.mem_append_right _ (zz_x4 w h))) (fun w h => List.mem_append_right _ (zz_x5 w h))) (fun w h => List.mem_append_right _ (zz_x6 w h))) (fun w h => List.mem_append_right _ (zz_x7 w h)))
theorem zzt_c7 : Cond.classLink RL 12 RX7 ∈ tables_1 := by decide +kernel
theorem zzt_i7 : Cond.initialized RX7 ∈ tables_1 := by decide +kernel
theorem zzt_m7 : Cond.methodLink RL 292 yX7_init ∈ tables_1 := by decide +kernel
theorem zzt_n7 : Cond.instanceMethod yX7_init ∈ tables_1 := by decide +kernel
