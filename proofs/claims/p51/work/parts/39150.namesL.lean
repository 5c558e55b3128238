theorem goodIn_st {big ws : List Cond} (k : Nat) (h1 : GoodIn big ((ws.drop k).take 32)) (h2 : GoodIn big (ws.drop (k + 32))) : GoodIn big (ws.drop k) := by
  have h := goodIn_app h1 h2
  rw [← List.drop_drop, List.take_append_drop] at h
  exact h
set_option maxRecDepth 20000 in
theorem ggL_isPassing_X7_coins : GoodIn wsL_isPassing wsX7_coins := goodIn_ca (goodIn_r _ [100, 19, 101, 102, 103, 17, 104, 55, 56, 105, 106, 107, 89, 108, 109, 632, 633, 634, 635, 636, 637, 638, 639, 640, 641, 642, 643, 644, 645, 646, 647, 648, 649, 650, 651, 652, 653, 654, 655, 656, 657, 658] (by decide +kernel) (by decide +kernel)) (goodIn_sub (fun _ h => List.mem_cons_of_mem _ (List.mem_append_left _ (List.mem_append_left _ (List.mem_append_left _ (List.mem_append_left _ (List.mem_append_left _ (List.mem_append_right _ h))))))) (by decide +kernel))
set_option maxRecDepth 20000 in
theorem gL_isPassing_X7_coins : GoodIn wsL_isPassing (wsV RL 202 RX7 yX7_coins wsX7_coins) := goodIn_app (goodIn_of _ (by decide +kernel)) ggL_isPassing_X7_coins
def ggL_isPassing_L_advance_w : List Cond := .codeWith yL_advance cL_advance 4 (some .int) [(3, 9, 12, 25)] :: ((wsL_advance_r1 ++ (wsL_advance_r2 ++ (wsL_advance_r3 ++ (wsL_advance_r4 ++ (wsL_advance_r5 ++ (wsL_advance_r6 ++ (wsL_advance_r7 ++ (wsL_advance_r8 ++ wsL_advance_r9)))))))) ++ wsX70 ++ wsX40 ++ wsX60 ++ wsX20)
set_option maxRecDepth 20000 in
theorem ggL_isPassing_L_advance_0 : GoodIn wsL_isPassing ((ggL_isPassing_L_advance_w.drop 0).take 32) := goodIn_r _ [228, 229, 230, 231, 232, 233, 17, 234, 235, 236, 237, 238, 239, 151, 19, 152, 153, 154, 89, 155, 156, 91, 157, 158, 159, 160, 161, 162, 109, 163, 164, 165] (by decide +kernel) (by decide +kernel)
set_option maxRecDepth 20000 in
theorem ggL_isPassing_L_advance_32 : GoodIn wsL_isPassing ((ggL_isPassing_L_advance_w.drop 32).take 32) := goodIn_r _ [166, 167, 168, 169, 170, 171, 172, 125, 173, 136, 174, 146, 145, 175, 176, 127, 240, 241, 242, 243, 244, 245, 246, 247, 248, 249, 250, 251, 252, 253, 254, 255] (by decide +kernel) (by decide +kernel)
set_option maxRecDepth 20000 in
theorem ggL_isPassing_L_advance_64 : GoodIn wsL_isPassing ((ggL_isPassing_L_advance_w.drop 64).take 32) := goodIn_r _ [256, 257, 258, 259, 198, 106, 107, 108, 58, 59, 260, 261, 262, 263, 264, 265, 266, 267, 84, 85, 268, 123, 124, 126, 269, 270, 271, 272, 273, 274, 275, 276] (by decide +kernel) (by decide +kernel)
set_option maxRecDepth 20000 in
theorem ggL_isPassing_L_advance_96 : GoodIn wsL_isPassing ((ggL_isPassing_L_advance_w.drop 96).take 32) := goodIn_r _ [277, 278, 279, 280, 281, 282, 283, 197, 87, 88, 90, 284, 285, 286, 287, 288, 289, 290, 291, 76, 77, 193, 194, 195, 196, 185, 186, 187, 188, 222, 223, 224] (by decide +kernel) (by decide +kernel)
set_option maxRecDepth 20000 in
theorem ggL_isPassing_L_advance_128 : GoodIn wsL_isPassing ((ggL_isPassing_L_advance_w.drop 128).take 32) := goodIn_r _ [225, 292, 293, 294, 295, 296, 297, 298, 299, 300, 301, 302, 303, 304, 305, 306, 307, 308, 309, 310, 311, 178, 179, 180, 181, 182, 183, 184, 189, 190, 191, 192] (by decide +kernel) (by decide +kernel)
set_option maxRecDepth 20000 in
theorem ggL_isPassing_L_advance_160 : GoodIn wsL_isPassing ((ggL_isPassing_L_advance_w.drop 160).take 32) := goodIn_r _ [199, 200, 201, 202, 203, 204, 205, 206, 207, 208, 209, 210, 211, 142, 143, 144, 212, 213, 214, 215, 216, 217, 218, 219, 220, 221, 312, 313, 314, 55, 56, 81] (by decide +kernel) (by decide +kernel)
set_option maxRecDepth 20000 in
theorem ggL_isPassing_L_advance_192 : GoodIn wsL_isPassing ((ggL_isPassing_L_advance_w.drop 192).take 32) := goodIn_r _ [82, 315, 316, 95, 96, 317, 318, 319, 320, 321, 322, 323, 324, 325, 326, 327, 328, 329, 330, 331, 332, 333, 334, 335, 632, 633, 634, 635, 636, 637, 638, 639] (by decide +kernel) (by decide +kernel)
set_option maxRecDepth 20000 in
theorem ggL_isPassing_L_advance_224 : GoodIn wsL_isPassing ((ggL_isPassing_L_advance_w.drop 224).take 32) := goodIn_r _ [640, 641, 642, 643, 644, 645, 646, 647, 648, 649, 650, 651, 652, 653, 654, 655, 656, 657, 658, 659, 660] (by decide +kernel) (by decide +kernel)
set_option maxRecDepth 20000 in
theorem ggL_isPassing_L_advance_e : GoodIn wsL_isPassing (ggL_isPassing_L_advance_w.drop 256) := goodIn_r _ [] (by decide +kernel) (by decide +kernel)
theorem ggL_isPassing_L_advance_a : GoodIn wsL_isPassing ggL_isPassing_L_advance_w := (goodIn_st 0 ggL_isPassing_L_advance_0 (goodIn_st 32 ggL_isPassing_L_advance_32 (goodIn_st 64 ggL_isPassing_L_advance_64 (goodIn_st 96 ggL_isPassing_L_advance_96 (goodIn_st 128 ggL_isPassing_L_advance_128 (goodIn_st 160 ggL_isPassing_L_advance_160 (goodIn_st 192 ggL_isPassing_L_advance_192 (goodIn_st 224 ggL_isPassing_L_advance_224 ggL_isPassing_L_advance_e))))))))
set_option maxRecDepth 20000 in
theorem ggL_isPassing_L_advance : GoodIn wsL_isPassing wsL_advance := goodIn_ca (goodIn_ca (goodIn_ca (goodIn_ca (goodIn_ca (goodIn_ca ggL_isPassing_L_advance_a (goodIn_sub (fun _ h => List.mem_cons_of_mem _ (List.mem_append_left _ (List.mem_append_left _ (List.mem_append_left _ (List.mem_append_left _ (List.mem_append_left _ (List.mem_append_left _ (List.mem_append_right _ h)))))))) (by decide +kernel))) (goodIn_sub (fun _ h => List.mem_cons_of_mem _ (List.mem_append_left _ (List.mem_append_left _ (List.mem_append_left _ (List.mem_append_left _ (List.mem_append_left _ (List.mem_append_right _ h))))))) (by decide +kernel))) (goodIn_sub (fun _ h => List.mem_cons_of_mem _ (List.mem_append_left _ (List.mem_append_left _ (List.mem_append_left _ (List.mem_append_left _ (List.mem_append_right _ h)))))) (by decide +kernel))) (goodIn_sub (fun _ h => List.mem_cons_of_mem _ (List.mem_append_left _ (List.mem_append_left _ (List.mem_append_right _ h)))) (by decide +kernel))) (goodIn_sub (fun _ h => List.mem_cons_of_mem _ (List.mem_append_left _ (List.mem_append_left _ (List.mem_append_left _ (List.mem_append_right _ h))))) (by decide +kernel))) (goodIn_sub (fun _ h => List.mem_cons_of_mem _ (List.mem_append_left _ (List.mem_append_right _ h))) (by decide +kernel))
set_option maxRecDepth 20000 in
theorem gL_isPassing_L_advance : GoodIn wsL_isPassing (va_wsS RL 138 yL_advance wsL_advance) := goodIn_app (goodIn_of _ (by decide +kernel)) ggL_isPassing_L_advance
