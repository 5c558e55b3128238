set_option maxRecDepth 20000 in
theorem ggL_law_L_runScript_256 : GoodIn wsL_law ((ggL_law_L_runScript_w.drop 256).take 32) := goodIn_r _ [154, 155, 156, 157, 158, 159, 160, 161, 162, 163, 164, 165, 166, 167, 168, 169, 170, 171, 172, 173, 174, 175, 176, 177, 178, 179, 180, 181, 182, 183, 184, 185] (by decide +kernel) (by decide +kernel)
set_option maxRecDepth 20000 in
theorem ggL_law_L_runScript_288 : GoodIn wsL_law ((ggL_law_L_runScript_w.drop 288).take 32) := goodIn_r _ [186, 187, 188, 189, 190, 191, 192, 193, 194, 195, 196, 197, 198, 199, 200, 201, 202, 203, 204, 205, 206, 207, 208, 209, 210, 211, 212, 213, 214, 215, 216, 217] (by decide +kernel) (by decide +kernel)
set_option maxRecDepth 20000 in
theorem ggL_law_L_runScript_320 : GoodIn wsL_law ((ggL_law_L_runScript_w.drop 320).take 32) := goodIn_r _ [218, 219, 220, 221, 222, 223, 224, 225, 226, 227, 228, 229, 230, 231, 232, 233, 234, 235, 236, 237, 238, 239, 240, 241, 242, 243, 244, 245, 246, 247, 248, 249] (by decide +kernel) (by decide +kernel)
set_option maxRecDepth 20000 in
theorem ggL_law_L_runScript_352 : GoodIn wsL_law ((ggL_law_L_runScript_w.drop 352).take 32) := goodIn_r _ [250, 251, 252, 253, 254, 255, 256, 257, 258, 259, 260, 261, 262, 263, 264, 265, 266, 267, 268, 269, 270, 271, 272, 286, 287, 288, 289, 20, 290, 291, 292, 19] (by decide +kernel) (by decide +kernel)
set_option maxRecDepth 20000 in
theorem ggL_law_L_runScript_384 : GoodIn wsL_law ((ggL_law_L_runScript_w.drop 384).take 32) := goodIn_r _ [293, 294, 58, 295, 296, 297, 298, 299, 947, 948, 949, 950, 951, 952, 953, 954, 955, 970, 971, 972, 973, 984, 985, 986, 987, 988, 989, 974, 975, 976, 977, 990] (by decide +kernel) (by decide +kernel)
set_option maxRecDepth 20000 in
theorem ggL_law_L_runScript_416 : GoodIn wsL_law ((ggL_law_L_runScript_w.drop 416).take 32) := goodIn_r _ [991, 992, 993, 994, 995, 996, 997, 998, 999, 1000, 1001, 956, 957, 958, 959, 960, 961, 962, 963, 964, 965, 966, 967, 978, 979, 980, 981, 982, 983, 968, 969] (by decide +kernel) (by decide +kernel)
set_option maxRecDepth 20000 in
theorem ggL_law_L_runScript_e : GoodIn wsL_law (ggL_law_L_runScript_w.drop 448) := goodIn_r _ [] (by decide +kernel) (by decide +kernel)
theorem ggL_law_L_runScript_a : GoodIn wsL_law ggL_law_L_runScript_w := (goodIn_st 0 ggL_law_L_runScript_0 (goodIn_st 32 ggL_law_L_runScript_32 (goodIn_st 64 ggL_law_L_runScript_64 (goodIn_st 96 ggL_law_L_runScript_96 (goodIn_st 128 ggL_law_L_runScript_128 (goodIn_st 160 ggL_law_L_runScript_160 (goodIn_st 192 ggL_law_L_runScript_192 (goodIn_st 224 ggL_law_L_runScript_224 (goodIn_st 256 ggL_law_L_runScript_256 (goodIn_st 288 ggL_law_L_runScript_288 (goodIn_st 320 ggL_law_L_runScript_320 (goodIn_st 352 ggL_law_L_runScript_352 (goodIn_st 384 ggL_law_L_runScript_384 (goodIn_st 416 ggL_law_L_runScript_416 ggL_law_L_runScript_e))))))))))))))
set_option maxRecDepth 20000 in
theorem ggL_law_L_runScript : GoodIn wsL_law wsL_runScript := goodIn_ca (goodIn_ca (goodIn_ca ggL_law_L_runScript_a (goodIn_sub (fun _ h => List.mem_append_left _ (List.mem_append_left _ (List.mem_append_left _ (List.mem_append_left _ (List.mem_append_left _ (List.mem_append_right _ h)))))) (by decide +kernel))) (goodIn_sub (fun _ h => List.mem_append_left _ (List.mem_append_left _ (List.mem_append_left _ (List.mem_append_left _ (List.mem_append_left _ (List.mem_append_left _ (List.mem_append_left _ (List.mem_append_right _ h)))))))) (by decide +kernel))) (goodIn_sub (fun _ h => List.mem_append_left _ (List.mem_append_left _ (List.mem_append_right _ h))) (by decide +kernel))
set_option maxRecDepth 20000 in
theorem gL_law_L_runScript : GoodIn wsL_law (va_wsS RL 148 yL_runScript wsL_runScript) := goodIn_app (goodIn_of _ (by decide +kernel)) ggL_law_L_runScript
set_option maxRecDepth 20000 in
theorem ggL_law_X7_save : GoodIn wsL_law wsX7_save := goodIn_r _ [717, 16, 14, 718, 111, 112, 113, 13, 114, 36, 38, 115, 116, 117, 118, 39, 40, 119, 120, 121, 41, 122, 123, 124, 125, 126, 127, 128, 43, 129, 47, 130, 48, 131, 132, 133, 134, 947, 948, 949, 950, 951, 952, 953, 954, 955, 956, 957, 958, 959, 960, 961, 962, 963, 964, 965, 966, 967, 978, 979, 980, 981, 982, 983] (by decide +kernel) (by decide +kernel)
set_option maxRecDepth 20000 in
theorem gL_law_X7_save : GoodIn wsL_law (wsV RL 150 RX7 yX7_save wsX7_save) := goodIn_app (goodIn_of _ (by decide +kernel)) ggL_law_X7_save
def ggL_law_L_write_w : List Cond := .code yL_write cL_write 3 (some (.object "FoodTruckRota")) :: ((wsL_write_r1 ++ (wsL_write_r2 ++ (wsL_write_r3 ++ (wsL_write_r4 ++ (wsL_write_r5 ++ (wsL_write_r6 ++ (wsL_write_r7 ++ wsL_write_r8))))))) ++ wsJ00 ++ wsX70 ++ wsX30 ++ wsJ40)
set_option maxRecDepth 20000 in
theorem ggL_law_L_write_0 : GoodIn wsL_law ((ggL_law_L_write_w.drop 0).take 32) := goodIn_r _ [484, 485, 486, 487, 488, 489, 490, 491, 492, 493, 494, 495, 496, 497, 498, 499, 500, 501, 502, 503, 504, 505, 506, 507, 508, 509, 510, 511, 512, 513, 514, 515] (by decide +kernel) (by decide +kernel)
set_option maxRecDepth 20000 in
theorem ggL_law_L_write_32 : GoodIn wsL_law ((ggL_law_L_write_w.drop 32).take 32) := goodIn_r _ [516, 517, 518, 84, 519, 520, 521, 522, 523, 524, 525, 526, 527, 528, 529, 530, 531, 532, 533, 534, 99, 535, 101, 536, 537, 538, 2, 539, 278, 279, 284, 285] (by decide +kernel) (by decide +kernel)
set_option maxRecDepth 20000 in
theorem ggL_law_L_write_64 : GoodIn wsL_law ((ggL_law_L_write_w.drop 64).take 32) := goodIn_r _ [24, 540, 541, 542, 27, 543, 544, 545, 546, 547, 75, 548, 549, 550, 551, 552, 553, 554, 555, 556, 557, 80, 558, 559, 560, 561, 562, 81, 563, 564, 565, 566] (by decide +kernel) (by decide +kernel)
set_option maxRecDepth 20000 in
theorem ggL_law_L_write_96 : GoodIn wsL_law ((ggL_law_L_write_w.drop 96).take 32) := goodIn_r _ [567, 568, 569, 570, 571, 572, 573, 574, 575, 576, 577, 578, 579, 580, 581, 582, 51, 583, 584, 585, 586, 587, 588, 589, 79, 590, 591, 592, 593, 116, 117, 118] (by decide +kernel) (by decide +kernel)
