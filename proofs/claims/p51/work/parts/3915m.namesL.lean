set_option maxRecDepth 20000 in
theorem ggL_law_L_isFit_192 : GoodIn wsL_law ((ggL_law_L_isFit_w.drop 192).take 32) := goodIn_r _ [766, 767, 768, 769, 770, 771, 772, 773, 774, 775, 776, 777, 778, 779, 780, 540, 541, 542, 543, 544, 545, 547, 548, 781, 782, 783, 332, 784, 785, 786, 787, 788] (by decide +kernel) (by decide +kernel)
set_option maxRecDepth 20000 in
theorem ggL_law_L_isFit_224 : GoodIn wsL_law ((ggL_law_L_isFit_w.drop 224).take 32) := goodIn_r _ [187, 188, 189, 190, 409, 410, 411, 282, 283, 789, 790, 791, 393, 394, 395, 303, 396, 397, 398, 399, 400, 401, 402, 276, 277, 403, 202, 203, 792, 793, 794, 795] (by decide +kernel) (by decide +kernel)
set_option maxRecDepth 20000 in
theorem ggL_law_L_isFit_256 : GoodIn wsL_law ((ggL_law_L_isFit_w.drop 256).take 32) := goodIn_r _ [796, 663, 664, 665, 666, 667, 668, 669, 670, 671, 672, 528, 529, 797, 798, 799, 800, 416, 417, 418, 419, 420, 156, 157, 158, 119, 429, 430, 431, 432, 433, 172] (by decide +kernel) (by decide +kernel)
set_option maxRecDepth 20000 in
theorem ggL_law_L_isFit_288 : GoodIn wsL_law ((ggL_law_L_isFit_w.drop 288).take 32) := goodIn_r _ [173, 43, 174, 134, 801, 802, 803, 804, 805, 806, 807, 808, 809, 810, 811, 812, 813, 814, 815, 816, 220, 221, 222, 223, 186, 817, 818, 819, 820, 821, 822, 823] (by decide +kernel) (by decide +kernel)
set_option maxRecDepth 20000 in
theorem ggL_law_L_isFit_320 : GoodIn wsL_law ((ggL_law_L_isFit_w.drop 320).take 32) := goodIn_r _ [824, 36, 825, 826, 827, 828, 155, 171, 829, 830, 831, 832, 40, 833, 834, 835, 836, 837, 377, 378, 379, 380, 838, 839, 840, 729, 841, 842, 843, 844, 845, 846] (by decide +kernel) (by decide +kernel)
set_option maxRecDepth 20000 in
theorem ggL_law_L_isFit_352 : GoodIn wsL_law ((ggL_law_L_isFit_w.drop 352).take 32) := goodIn_r _ [847, 848, 849, 850, 851, 852, 853, 854, 855, 856, 133, 857, 858, 859, 860, 47, 349, 350, 351, 352, 861, 862, 863, 425, 426, 427, 428, 442, 443, 444, 445, 446] (by decide +kernel) (by decide +kernel)
set_option maxRecDepth 20000 in
theorem ggL_law_L_isFit_384 : GoodIn wsL_law ((ggL_law_L_isFit_w.drop 384).take 32) := goodIn_r _ [260, 261, 262, 131, 48, 421, 422, 423, 424, 412, 413, 414, 415, 864, 865, 866, 867, 868, 869, 870, 871, 132, 872, 267, 268, 873, 874, 875, 876, 877, 878, 879] (by decide +kernel) (by decide +kernel)
set_option maxRecDepth 20000 in
theorem ggL_law_L_isFit_416 : GoodIn wsL_law ((ggL_law_L_isFit_w.drop 416).take 32) := goodIn_r _ [880, 204, 205, 206, 207, 120, 208, 209, 210, 211, 881, 882, 883, 884, 885, 886, 887, 888, 889, 890, 891, 892, 893, 894, 895, 896, 897, 898, 899, 900, 901, 438] (by decide +kernel) (by decide +kernel)
set_option maxRecDepth 20000 in
theorem ggL_law_L_isFit_448 : GoodIn wsL_law ((ggL_law_L_isFit_w.drop 448).take 32) := goodIn_r _ [439, 440, 441, 159, 160, 389, 390, 391, 392, 385, 386, 387, 388, 365, 366, 367, 368, 361, 362, 363, 364, 369, 370, 371, 372, 373, 374, 375, 376, 902, 903, 904] (by decide +kernel) (by decide +kernel)
set_option maxRecDepth 20000 in
theorem ggL_law_L_isFit_480 : GoodIn wsL_law ((ggL_law_L_isFit_w.drop 480).take 32) := goodIn_r _ [905, 906, 907, 908, 909, 910, 911, 912, 913, 914, 915, 916, 917, 918, 919, 920, 921, 922, 923, 924, 925, 926, 927, 928, 434, 435, 436, 437, 929, 930, 931, 37] (by decide +kernel) (by decide +kernel)
set_option maxRecDepth 20000 in
theorem ggL_law_L_isFit_512 : GoodIn wsL_law ((ggL_law_L_isFit_w.drop 512).take 32) := goodIn_r _ [338, 339, 340, 341, 342, 343, 344, 345, 346, 347, 348, 353, 354, 355, 356, 357, 358, 359, 360, 381, 382, 383, 384, 932, 933, 934, 935, 15, 111, 112, 113, 114] (by decide +kernel) (by decide +kernel)
set_option maxRecDepth 20000 in
theorem ggL_law_L_isFit_544 : GoodIn wsL_law ((ggL_law_L_isFit_w.drop 544).take 32) := goodIn_r _ [115, 39, 121, 41, 122, 123, 124, 125, 126, 127, 128, 129, 130, 936, 236, 237, 238, 239, 240, 241, 242, 243, 244, 245, 246, 247, 248, 249, 250, 251, 252, 253] (by decide +kernel) (by decide +kernel)
set_option maxRecDepth 20000 in
theorem ggL_law_L_isFit_576 : GoodIn wsL_law ((ggL_law_L_isFit_w.drop 576).take 32) := goodIn_r _ [254, 255, 256, 257, 258, 259, 263, 264, 265, 266, 269, 270, 271, 272, 212, 213, 214, 215, 474, 475, 476, 3, 477, 478, 479, 480, 481, 107, 108, 109, 110, 135] (by decide +kernel) (by decide +kernel)
set_option maxRecDepth 20000 in
theorem ggL_law_L_isFit_608 : GoodIn wsL_law ((ggL_law_L_isFit_w.drop 608).take 32) := goodIn_r _ [136, 137, 138, 139, 140, 141, 142, 143, 144, 145, 146, 147, 148, 149, 150, 151, 152, 153, 154, 161, 162, 163, 164, 165, 166, 167, 168, 175, 176, 178, 179, 180] (by decide +kernel) (by decide +kernel)
set_option maxRecDepth 20000 in
theorem ggL_law_L_isFit_640 : GoodIn wsL_law ((ggL_law_L_isFit_w.drop 640).take 32) := goodIn_r _ [181, 182, 183, 184, 185, 194, 195, 196, 197, 198, 199, 200, 201, 216, 217, 218, 219, 224, 225, 226, 227, 228, 229, 230, 231, 232, 233, 234, 235, 273, 274, 275] (by decide +kernel) (by decide +kernel)
set_option maxRecDepth 20000 in
theorem ggL_law_L_isFit_672 : GoodIn wsL_law ((ggL_law_L_isFit_w.drop 672).take 32) := goodIn_r _ [280, 281, 284, 285, 286, 287, 288, 289, 20, 290, 291, 292, 19, 293, 294, 58, 295, 296, 297, 298, 299, 726, 727, 728, 730, 731, 732, 733, 734, 735, 736, 737] (by decide +kernel) (by decide +kernel)
set_option maxRecDepth 20000 in
theorem ggL_law_L_isFit_704 : GoodIn wsL_law ((ggL_law_L_isFit_w.drop 704).take 32) := goodIn_r _ [937, 938, 939, 466, 467, 468, 469, 470, 471, 472, 473, 947, 948, 949, 950, 951, 952, 953, 954, 955, 990, 991, 992, 993, 994, 995, 974, 975, 976, 977, 996, 997] (by decide +kernel) (by decide +kernel)
set_option maxRecDepth 20000 in
theorem ggL_law_L_isFit_736 : GoodIn wsL_law ((ggL_law_L_isFit_w.drop 736).take 32) := goodIn_r _ [998, 999, 1000, 1001, 956, 957, 958, 959, 960, 961, 962, 963, 964, 965, 966, 967, 978, 979, 980, 981, 982, 983, 968, 969] (by decide +kernel) (by decide +kernel)
