set_option maxRecDepth 20000 in
theorem ggL_law_L_areTrucks_288 : GoodIn wsL_law ((ggL_law_L_areTrucks_w.drop 288).take 32) := goodIn_r _ [83, 85, 86, 87, 88, 89, 607, 608, 609, 610, 611, 612, 613, 614, 615, 523, 524, 525, 616, 617, 488, 618, 512, 619, 620, 515, 621, 622, 623, 624, 530, 531] (by decide +kernel) (by decide +kernel)
set_option maxRecDepth 20000 in
theorem ggL_law_L_areTrucks_320 : GoodIn wsL_law ((ggL_law_L_areTrucks_w.drop 320).take 32) := goodIn_r _ [532, 625, 626, 627, 520, 521, 522, 526, 510, 511, 513, 514, 516, 748, 749, 750, 751, 752, 753, 754, 755, 756, 757, 177, 758, 759, 760, 761, 762, 763, 764, 765] (by decide +kernel) (by decide +kernel)
set_option maxRecDepth 20000 in
theorem ggL_law_L_areTrucks_352 : GoodIn wsL_law ((ggL_law_L_areTrucks_w.drop 352).take 32) := goodIn_r _ [766, 767, 768, 769, 770, 771, 772, 773, 774, 775, 776, 777, 778, 779, 780, 438, 439, 440, 441, 159, 160, 540, 541, 542, 543, 544, 545, 547, 548, 389, 390, 391] (by decide +kernel) (by decide +kernel)
set_option maxRecDepth 20000 in
theorem ggL_law_L_areTrucks_384 : GoodIn wsL_law ((ggL_law_L_areTrucks_w.drop 384).take 32) := goodIn_r _ [392, 385, 386, 387, 388, 365, 366, 367, 368, 361, 362, 363, 364, 369, 370, 371, 372, 373, 374, 375, 376, 902, 903, 904, 905, 906, 907, 908, 909, 910, 911, 912] (by decide +kernel) (by decide +kernel)
set_option maxRecDepth 20000 in
theorem ggL_law_L_areTrucks_416 : GoodIn wsL_law ((ggL_law_L_areTrucks_w.drop 416).take 32) := goodIn_r _ [913, 914, 915, 916, 917, 918, 919, 920, 921, 922, 947, 948, 949, 950, 951, 952, 953, 954, 955, 956, 957, 958, 959, 960, 961, 962, 963, 964, 965, 966, 967, 978] (by decide +kernel) (by decide +kernel)
set_option maxRecDepth 20000 in
theorem ggL_law_L_areTrucks_448 : GoodIn wsL_law ((ggL_law_L_areTrucks_w.drop 448).take 32) := goodIn_r _ [979, 980, 981, 982, 983, 990, 991, 992, 993, 994, 995, 974, 975, 976, 977, 996, 997, 998, 999, 1000, 1001] (by decide +kernel) (by decide +kernel)
set_option maxRecDepth 20000 in
theorem ggL_law_L_areTrucks_e : GoodIn wsL_law (ggL_law_L_areTrucks_w.drop 480) := goodIn_r _ [] (by decide +kernel) (by decide +kernel)
theorem ggL_law_L_areTrucks_a : GoodIn wsL_law ggL_law_L_areTrucks_w := (goodIn_st 0 ggL_law_L_areTrucks_0 (goodIn_st 32 ggL_law_L_areTrucks_32 (goodIn_st 64 ggL_law_L_areTrucks_64 (goodIn_st 96 ggL_law_L_areTrucks_96 (goodIn_st 128 ggL_law_L_areTrucks_128 (goodIn_st 160 ggL_law_L_areTrucks_160 (goodIn_st 192 ggL_law_L_areTrucks_192 (goodIn_st 224 ggL_law_L_areTrucks_224 (goodIn_st 256 ggL_law_L_areTrucks_256 (goodIn_st 288 ggL_law_L_areTrucks_288 (goodIn_st 320 ggL_law_L_areTrucks_320 (goodIn_st 352 ggL_law_L_areTrucks_352 (goodIn_st 384 ggL_law_L_areTrucks_384 (goodIn_st 416 ggL_law_L_areTrucks_416 (goodIn_st 448 ggL_law_L_areTrucks_448 ggL_law_L_areTrucks_e)))))))))))))))
set_option maxRecDepth 20000 in
theorem ggL_law_L_areTrucks : GoodIn wsL_law wsL_areTrucks := goodIn_ca (goodIn_ca (goodIn_ca (goodIn_ca (goodIn_ca ggL_law_L_areTrucks_a (goodIn_sub (fun _ h => List.mem_append_left _ (List.mem_append_left _ (List.mem_append_left _ (List.mem_append_left _ (List.mem_append_left _ (List.mem_append_left _ (List.mem_append_left _ (List.mem_append_right _ h)))))))) (by decide +kernel))) (goodIn_sub (fun _ h => List.mem_append_left _ (List.mem_append_left _ (List.mem_append_left _ (List.mem_append_right _ h)))) (by decide +kernel))) (goodIn_sub (fun _ h => List.mem_append_left _ (List.mem_append_left _ (List.mem_append_left _ (List.mem_append_left _ (List.mem_append_left _ (List.mem_append_left _ (List.mem_append_right _ h))))))) (by decide +kernel))) (goodIn_sub (fun _ h => List.mem_append_left _ (List.mem_append_left _ (List.mem_append_left _ (List.mem_append_left _ (List.mem_append_left _ (List.mem_append_right _ h)))))) (by decide +kernel))) (goodIn_sub (fun _ h => List.mem_append_right _ h) (by decide +kernel))
set_option maxRecDepth 20000 in
theorem gL_law_L_areTrucks : GoodIn wsL_law (va_wsS RL 275 yL_areTrucks wsL_areTrucks) := goodIn_app (goodIn_of _ (by decide +kernel)) ggL_law_L_areTrucks
set_option maxRecDepth 20000 in
theorem ggL_law_L_undo : GoodIn wsL_law wsL_undo := goodIn_ca (goodIn_r _ [728, 729, 3, 730, 731, 732, 2, 733, 282, 283, 20, 14, 734, 735, 736, 19, 737, 294, 58, 299, 112, 113, 13, 114, 36, 38, 115, 116, 117, 118, 39, 40, 119, 120, 121, 41, 122, 123, 124, 125, 126, 127, 128, 43, 129, 47, 130, 48, 131, 132, 133, 134, 947, 948, 949, 950, 951, 952, 953, 954, 955, 968, 969, 956, 957, 958, 959, 960, 961, 962, 963, 964, 965, 966, 967, 978, 979, 980, 981, 982, 983] (by decide +kernel) (by decide +kernel)) (goodIn_sub (fun _ h => List.mem_append_left _ (List.mem_append_left _ (List.mem_append_left _ (List.mem_append_right _ h)))) (by decide +kernel))
set_option maxRecDepth 20000 in
theorem gL_law_L_undo : GoodIn wsL_law (va_wsS RL 155 yL_undo wsL_undo) := goodIn_app (goodIn_of _ (by decide +kernel)) ggL_law_L_undo
set_option maxRecDepth 20000 in
theorem ggL_law_X7_day : GoodIn wsL_law wsX7_day := goodIn_r _ [352, 14, 947, 948, 949, 950, 951, 952, 953, 954, 955, 956, 957, 958, 959, 960, 961, 962, 963, 964, 965, 966, 967] (by decide +kernel) (by decide +kernel)
set_option maxRecDepth 20000 in
theorem gL_law_X7_day : GoodIn wsL_law (wsV RL 115 RX7 yX7_day wsX7_day) := goodIn_app (goodIn_of _ (by decide +kernel)) ggL_law_X7_day
