set_option maxRecDepth 20000 in
theorem ggL_law_L_addTruck_192 : GoodIn wsL_law ((ggL_law_L_addTruck_w.drop 192).take 32) := goodIn_r _ [279, 280, 281, 282, 283, 284, 285, 286, 287, 288, 289, 20, 290, 291, 292, 19, 293, 294, 58, 295, 296, 297, 298, 299, 947, 948, 949, 950, 951, 952, 953, 954] (by decide +kernel) (by decide +kernel)
set_option maxRecDepth 20000 in
theorem ggL_law_L_addTruck_224 : GoodIn wsL_law ((ggL_law_L_addTruck_w.drop 224).take 32) := goodIn_r _ [955, 956, 957, 958, 959, 960, 961, 962, 963, 964, 965, 966, 967, 978, 979, 980, 981, 982, 983, 968, 969] (by decide +kernel) (by decide +kernel)
set_option maxRecDepth 20000 in
theorem ggL_law_L_addTruck_e : GoodIn wsL_law (ggL_law_L_addTruck_w.drop 256) := goodIn_r _ [] (by decide +kernel) (by decide +kernel)
theorem ggL_law_L_addTruck_a : GoodIn wsL_law ggL_law_L_addTruck_w := (goodIn_st 0 ggL_law_L_addTruck_0 (goodIn_st 32 ggL_law_L_addTruck_32 (goodIn_st 64 ggL_law_L_addTruck_64 (goodIn_st 96 ggL_law_L_addTruck_96 (goodIn_st 128 ggL_law_L_addTruck_128 (goodIn_st 160 ggL_law_L_addTruck_160 (goodIn_st 192 ggL_law_L_addTruck_192 (goodIn_st 224 ggL_law_L_addTruck_224 ggL_law_L_addTruck_e))))))))
set_option maxRecDepth 20000 in
theorem ggL_law_L_addTruck : GoodIn wsL_law wsL_addTruck := goodIn_ca (goodIn_ca (goodIn_ca (goodIn_ca (goodIn_ca (goodIn_ca ggL_law_L_addTruck_a (goodIn_sub (fun _ h => List.mem_append_left _ (List.mem_append_left _ (List.mem_append_left _ (List.mem_append_left _ (List.mem_append_left _ (List.mem_append_left _ (List.mem_append_left _ (List.mem_append_right _ h)))))))) (by decide +kernel))) (goodIn_sub (fun _ h => List.mem_append_left _ (List.mem_append_left _ (List.mem_append_left _ (List.mem_append_left _ (List.mem_append_left _ (List.mem_append_left _ (List.mem_append_right _ h))))))) (by decide +kernel))) (goodIn_sub (fun _ h => List.mem_append_left _ (List.mem_append_left _ (List.mem_append_left _ (List.mem_append_left _ (List.mem_append_left _ (List.mem_append_right _ h)))))) (by decide +kernel))) (goodIn_sub (fun _ h => List.mem_append_left _ (List.mem_append_left _ (List.mem_append_left _ (List.mem_append_left _ (List.mem_append_right _ h))))) (by decide +kernel))) (goodIn_sub (fun _ h => List.mem_append_left _ (List.mem_append_left _ (List.mem_append_left _ (List.mem_append_right _ h)))) (by decide +kernel))) (goodIn_sub (fun _ h => List.mem_append_left _ (List.mem_append_left _ (List.mem_append_right _ h))) (by decide +kernel))
set_option maxRecDepth 20000 in
theorem gL_law_L_addTruck : GoodIn wsL_law (va_wsS RL 118 yL_addTruck wsL_addTruck) := goodIn_app (goodIn_of _ (by decide +kernel)) ggL_law_L_addTruck
def ggL_law_L_grantPermit_w : List Cond := .codeWith yL_grantPermit cL_grantPermit 5 (some .int) [(3, 10, 13, 23), (3, 10, 18, 25), (3, 10, 23, 17)] :: ((wsL_grantPermit_r1 ++ (wsL_grantPermit_r2 ++ (wsL_grantPermit_r3 ++ (wsL_grantPermit_r4 ++ (wsL_grantPermit_r5 ++ (wsL_grantPermit_r6 ++ (wsL_grantPermit_r7 ++ (wsL_grantPermit_r8 ++ wsL_grantPermit_r9)))))))) ++ wsX70 ++ wsX40 ++ wsX60 ++ wsX20)
set_option maxRecDepth 20000 in
theorem ggL_law_L_grantPermit_0 : GoodIn wsL_law ((ggL_law_L_grantPermit_w.drop 0).take 32) := goodIn_r _ [302, 303, 3, 304, 305, 306, 2, 307, 308, 107, 108, 109, 110, 15, 14, 111, 112, 113, 13, 114, 36, 38, 115, 116, 117, 118, 39, 40, 119, 120, 121, 41] (by decide +kernel) (by decide +kernel)
set_option maxRecDepth 20000 in
theorem ggL_law_L_grantPermit_32 : GoodIn wsL_law ((ggL_law_L_grantPermit_w.drop 32).take 32) := goodIn_r _ [122, 123, 124, 125, 126, 127, 128, 43, 129, 47, 130, 48, 131, 132, 133, 134, 135, 136, 137, 138, 139, 140, 141, 142, 143, 144, 145, 146, 147, 148, 149, 150] (by decide +kernel) (by decide +kernel)
set_option maxRecDepth 20000 in
theorem ggL_law_L_grantPermit_64 : GoodIn wsL_law ((ggL_law_L_grantPermit_w.drop 64).take 32) := goodIn_r _ [151, 152, 153, 154, 155, 156, 157, 158, 159, 160, 161, 162, 163, 164, 165, 166, 167, 168, 169, 170, 171, 172, 173, 174, 175, 176, 177, 178, 179, 180, 181, 182] (by decide +kernel) (by decide +kernel)
set_option maxRecDepth 20000 in
theorem ggL_law_L_grantPermit_96 : GoodIn wsL_law ((ggL_law_L_grantPermit_w.drop 96).take 32) := goodIn_r _ [183, 184, 185, 186, 187, 188, 189, 190, 191, 192, 193, 194, 195, 196, 197, 198, 199, 200, 201, 202, 203, 204, 205, 206, 207, 208, 209, 210, 211, 212, 213, 214] (by decide +kernel) (by decide +kernel)
set_option maxRecDepth 20000 in
theorem ggL_law_L_grantPermit_128 : GoodIn wsL_law ((ggL_law_L_grantPermit_w.drop 128).take 32) := goodIn_r _ [215, 216, 217, 218, 219, 220, 221, 222, 223, 224, 225, 226, 227, 228, 229, 230, 231, 232, 233, 234, 235, 236, 237, 238, 239, 240, 241, 242, 243, 244, 245, 246] (by decide +kernel) (by decide +kernel)
set_option maxRecDepth 20000 in
theorem ggL_law_L_grantPermit_160 : GoodIn wsL_law ((ggL_law_L_grantPermit_w.drop 160).take 32) := goodIn_r _ [247, 248, 249, 250, 251, 252, 253, 254, 255, 256, 257, 258, 259, 260, 261, 262, 263, 264, 265, 266, 267, 268, 269, 270, 271, 272, 273, 274, 275, 276, 277, 278] (by decide +kernel) (by decide +kernel)
set_option maxRecDepth 20000 in
theorem ggL_law_L_grantPermit_192 : GoodIn wsL_law ((ggL_law_L_grantPermit_w.drop 192).take 32) := goodIn_r _ [279, 280, 281, 282, 283, 284, 285, 286, 287, 288, 289, 20, 290, 291, 292, 19, 293, 294, 58, 295, 296, 297, 298, 299, 947, 948, 949, 950, 951, 952, 953, 954] (by decide +kernel) (by decide +kernel)
set_option maxRecDepth 20000 in
theorem ggL_law_L_grantPermit_224 : GoodIn wsL_law ((ggL_law_L_grantPermit_w.drop 224).take 32) := goodIn_r _ [955, 956, 957, 958, 959, 960, 961, 962, 963, 964, 965, 966, 967, 978, 979, 980, 981, 982, 983, 968, 969] (by decide +kernel) (by decide +kernel)
set_option maxRecDepth 20000 in
theorem ggL_law_L_grantPermit_e : GoodIn wsL_law (ggL_law_L_grantPermit_w.drop 256) := goodIn_r _ [] (by decide +kernel) (by decide +kernel)
