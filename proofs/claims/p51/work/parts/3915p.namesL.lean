set_option maxRecDepth 20000 in
theorem ggL_law_L_write_128 : GoodIn wsL_law ((ggL_law_L_write_w.drop 128).take 32) := goodIn_r _ [594, 595, 596, 597, 598, 78, 599, 600, 601, 602, 603, 604, 605, 606, 82, 83, 85, 86, 87, 88, 89, 607, 608, 609, 610, 611, 612, 613, 614, 615, 616, 617] (by decide +kernel) (by decide +kernel)
set_option maxRecDepth 20000 in
theorem ggL_law_L_write_160 : GoodIn wsL_law ((ggL_law_L_write_w.drop 160).take 32) := goodIn_r _ [618, 619, 620, 621, 622, 623, 624, 625, 626, 627, 986, 987, 988, 989, 947, 948, 949, 950, 951, 952, 953, 954, 955, 970, 971, 972, 973, 974, 975, 976, 977] (by decide +kernel) (by decide +kernel)
set_option maxRecDepth 20000 in
theorem ggL_law_L_write_e : GoodIn wsL_law (ggL_law_L_write_w.drop 192) := goodIn_r _ [] (by decide +kernel) (by decide +kernel)
theorem ggL_law_L_write_a : GoodIn wsL_law ggL_law_L_write_w := (goodIn_st 0 ggL_law_L_write_0 (goodIn_st 32 ggL_law_L_write_32 (goodIn_st 64 ggL_law_L_write_64 (goodIn_st 96 ggL_law_L_write_96 (goodIn_st 128 ggL_law_L_write_128 (goodIn_st 160 ggL_law_L_write_160 ggL_law_L_write_e))))))
set_option maxRecDepth 20000 in
theorem ggL_law_L_write : GoodIn wsL_law wsL_write := goodIn_ca (goodIn_ca ggL_law_L_write_a (goodIn_sub (fun _ h => List.mem_append_left _ (List.mem_append_left _ (List.mem_append_left _ (List.mem_append_left _ (List.mem_append_left _ (List.mem_append_right _ h)))))) (by decide +kernel))) (goodIn_sub (fun _ h => List.mem_append_left _ (List.mem_append_left _ (List.mem_append_right _ h))) (by decide +kernel))
set_option maxRecDepth 20000 in
theorem gL_law_L_write : GoodIn wsL_law (va_wsS RL 144 yL_write wsL_write) := goodIn_app (goodIn_of _ (by decide +kernel)) ggL_law_L_write
set_option maxRecDepth 20000 in
theorem ggL_law_L_failedCommand : GoodIn wsL_law wsL_failedCommand := goodIn_ca (goodIn_r _ [942, 729, 943, 944, 945, 2, 946, 30, 409, 410, 411, 282, 283, 947, 948, 949, 950, 951, 952, 953, 954, 955] (by decide +kernel) (by decide +kernel)) (goodIn_sub (fun _ h => List.mem_append_left _ (List.mem_append_left _ (List.mem_append_left _ (List.mem_append_right _ h)))) (by decide +kernel))
set_option maxRecDepth 20000 in
theorem gL_law_L_failedCommand : GoodIn wsL_law (va_wsS RL 303 yL_failedCommand wsL_failedCommand) := goodIn_app (goodIn_of _ (by decide +kernel)) ggL_law_L_failedCommand
def ggL_law_L_areTrucks_w : List Cond := .code yL_areTrucks cL_areTrucks 10 (some .boolean) :: ((wsL_areTrucks_r1 ++ (wsL_areTrucks_r2 ++ (wsL_areTrucks_r3 ++ (wsL_areTrucks_r4 ++ (wsL_areTrucks_r5 ++ (wsL_areTrucks_r6 ++ (wsL_areTrucks_r7 ++ (wsL_areTrucks_r8 ++ (wsL_areTrucks_r9 ++ (wsL_areTrucks_r10 ++ (wsL_areTrucks_r11 ++ (wsL_areTrucks_r12 ++ (wsL_areTrucks_r13 ++ (wsL_areTrucks_r14 ++ (wsL_areTrucks_r15 ++ (wsL_areTrucks_r16 ++ (wsL_areTrucks_r17 ++ wsL_areTrucks_r18))))))))))))))))) ++ wsX70 ++ wsX40 ++ wsX60 ++ wsJx7c7330 ++ wsJ40 ++ wsJx000600)
set_option maxRecDepth 20000 in
theorem ggL_law_L_areTrucks_0 : GoodIn wsL_law ((ggL_law_L_areTrucks_w.drop 0).take 32) := goodIn_r _ [835, 836, 837, 377, 378, 379, 2, 380, 14, 838, 839, 99, 840, 729, 841, 842, 843, 844, 845, 846, 847, 13, 848, 119, 849, 850, 851, 852, 36, 155, 156, 157] (by decide +kernel) (by decide +kernel)
set_option maxRecDepth 20000 in
theorem ggL_law_L_areTrucks_32 : GoodIn wsL_law ((ggL_law_L_areTrucks_w.drop 32).take 32) := goodIn_r _ [158, 853, 854, 855, 43, 856, 133, 857, 858, 859, 860, 47, 409, 410, 411, 282, 283, 349, 350, 351, 352, 861, 862, 863, 303, 797, 798, 799, 800, 416, 417, 418] (by decide +kernel) (by decide +kernel)
set_option maxRecDepth 20000 in
theorem ggL_law_L_areTrucks_64 : GoodIn wsL_law ((ggL_law_L_areTrucks_w.drop 64).take 32) := goodIn_r _ [419, 276, 277, 420, 404, 405, 406, 278, 279, 407, 169, 170, 788, 187, 188, 189, 190, 191, 192, 193, 38, 425, 426, 427, 428, 442, 443, 444, 445, 446, 260, 261] (by decide +kernel) (by decide +kernel)
set_option maxRecDepth 20000 in
theorem ggL_law_L_areTrucks_96 : GoodIn wsL_law ((ggL_law_L_areTrucks_w.drop 96).take 32) := goodIn_r _ [262, 131, 48, 421, 422, 423, 424, 412, 413, 414, 415, 864, 865, 866, 867, 868, 869, 870, 871, 132, 872, 267, 268, 873, 874, 875, 876, 877, 878, 879, 880, 204] (by decide +kernel) (by decide +kernel)
set_option maxRecDepth 20000 in
theorem ggL_law_L_areTrucks_128 : GoodIn wsL_law ((ggL_law_L_areTrucks_w.drop 128).take 32) := goodIn_r _ [205, 206, 207, 120, 208, 209, 210, 211, 186, 881, 882, 883, 884, 885, 886, 887, 888, 889, 890, 891, 892, 893, 894, 171, 172, 173, 174, 134, 895, 896, 897, 429] (by decide +kernel) (by decide +kernel)
set_option maxRecDepth 20000 in
theorem ggL_law_L_areTrucks_160 : GoodIn wsL_law ((ggL_law_L_areTrucks_w.drop 160).take 32) := goodIn_r _ [430, 431, 432, 433, 789, 790, 791, 393, 394, 395, 396, 397, 398, 399, 400, 401, 402, 403, 202, 203, 408, 898, 899, 900, 901, 28, 685, 686, 687, 27, 688, 689] (by decide +kernel) (by decide +kernel)
set_option maxRecDepth 20000 in
theorem ggL_law_L_areTrucks_192 : GoodIn wsL_law ((ggL_law_L_areTrucks_w.drop 192).take 32) := goodIn_r _ [690, 546, 691, 75, 692, 693, 694, 695, 549, 80, 696, 558, 559, 560, 561, 562, 81, 563, 564, 565, 566, 567, 568, 569, 570, 571, 572, 573, 574, 575, 576, 577] (by decide +kernel) (by decide +kernel)
set_option maxRecDepth 20000 in
theorem ggL_law_L_areTrucks_224 : GoodIn wsL_law ((ggL_law_L_areTrucks_w.drop 224).take 32) := goodIn_r _ [578, 579, 580, 581, 582, 51, 583, 584, 585, 586, 587, 588, 589, 79, 590, 591, 592, 593, 116, 117, 118, 594, 595, 596, 597, 598, 78, 697, 698, 507, 699, 700] (by decide +kernel) (by decide +kernel)
set_option maxRecDepth 20000 in
theorem ggL_law_L_areTrucks_256 : GoodIn wsL_law ((ggL_law_L_areTrucks_w.drop 256).take 32) := goodIn_r _ [701, 702, 703, 704, 705, 706, 26, 707, 708, 709, 710, 711, 84, 712, 713, 550, 551, 552, 553, 554, 555, 556, 557, 599, 600, 601, 602, 603, 604, 605, 606, 82] (by decide +kernel) (by decide +kernel)
