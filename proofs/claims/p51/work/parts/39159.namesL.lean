set_option maxRecDepth 20000 in
theorem ggL_isFit_L_areTrucks_0 : GoodIn wsL_isFit ((ggL_isFit_L_areTrucks_w.drop 0).take 32) := goodIn_r _ [335, 336, 337, 338, 339, 340, 8, 341, 11, 342, 343, 3, 344, 345, 346, 347, 348, 349, 350, 351, 352, 108, 353, 281, 354, 355, 356, 357, 321, 326, 278, 279] (by decide +kernel) (by decide +kernel)
set_option maxRecDepth 20000 in
theorem ggL_isFit_L_areTrucks_32 : GoodIn wsL_isFit ((ggL_isFit_L_areTrucks_w.drop 32).take 32) := goodIn_r _ [280, 358, 359, 360, 289, 361, 362, 363, 364, 365, 366, 367, 228, 229, 230, 231, 232, 368, 369, 370, 371, 372, 373, 374, 239, 269, 270, 271, 272, 273, 274, 275] (by decide +kernel) (by decide +kernel)
set_option maxRecDepth 20000 in
theorem ggL_isFit_L_areTrucks_64 : GoodIn wsL_isFit ((ggL_isFit_L_areTrucks_w.drop 64).take 32) := goodIn_r _ [276, 247, 248, 277, 12, 13, 14, 15, 16, 17, 18, 19, 223, 224, 225, 226, 227, 106, 107, 109, 110, 375, 376, 377, 378, 379, 380, 381, 382, 383, 384, 385] (by decide +kernel) (by decide +kernel)
set_option maxRecDepth 20000 in
theorem ggL_isFit_L_areTrucks_96 : GoodIn wsL_isFit ((ggL_isFit_L_areTrucks_w.drop 96).take 32) := goodIn_r _ [386, 387, 388, 389, 390, 391, 392, 393, 394, 395, 396, 397, 398, 399, 400, 401, 402, 403, 404, 405, 406, 407, 408, 409, 410, 411, 412, 413, 414, 415, 416, 417] (by decide +kernel) (by decide +kernel)
set_option maxRecDepth 20000 in
theorem ggL_isFit_L_areTrucks_128 : GoodIn wsL_isFit ((ggL_isFit_L_areTrucks_w.drop 128).take 32) := goodIn_r _ [418, 419, 420, 421, 422, 423, 424, 425, 312, 426, 427, 428, 429, 430, 431, 432, 433, 434, 435, 436, 437, 438, 439, 327, 287, 288, 290, 291, 440, 441, 442, 282] (by decide +kernel) (by decide +kernel)
set_option maxRecDepth 20000 in
theorem ggL_isFit_L_areTrucks_160 : GoodIn wsL_isFit ((ggL_isFit_L_areTrucks_w.drop 160).take 32) := goodIn_r _ [283, 284, 285, 286, 233, 234, 235, 236, 237, 238, 240, 241, 242, 243, 244, 245, 246, 249, 250, 251, 105, 443, 444, 445, 446, 10, 20, 21, 22, 23, 24, 25] (by decide +kernel) (by decide +kernel)
set_option maxRecDepth 20000 in
theorem ggL_isFit_L_areTrucks_192 : GoodIn wsL_isFit ((ggL_isFit_L_areTrucks_w.drop 192).take 32) := goodIn_r _ [26, 27, 28, 29, 30, 31, 32, 33, 34, 35, 36, 37, 38, 39, 40, 41, 42, 43, 44, 45, 46, 47, 48, 49, 50, 51, 52, 53, 54, 55, 56, 57] (by decide +kernel) (by decide +kernel)
set_option maxRecDepth 20000 in
theorem ggL_isFit_L_areTrucks_224 : GoodIn wsL_isFit ((ggL_isFit_L_areTrucks_w.drop 224).take 32) := goodIn_r _ [58, 59, 60, 61, 62, 63, 64, 65, 66, 67, 68, 69, 70, 71, 72, 73, 74, 75, 76, 77, 78, 79, 80, 81, 82, 83, 84, 85, 86, 87, 88, 89] (by decide +kernel) (by decide +kernel)
set_option maxRecDepth 20000 in
theorem ggL_isFit_L_areTrucks_256 : GoodIn wsL_isFit ((ggL_isFit_L_areTrucks_w.drop 256).take 32) := goodIn_r _ [90, 91, 92, 93, 94, 95, 96, 97, 98, 99, 100, 101, 102, 103, 104, 111, 112, 113, 114, 115, 116, 117, 118, 119, 120, 121, 122, 123, 124, 125, 126, 127] (by decide +kernel) (by decide +kernel)
set_option maxRecDepth 20000 in
theorem ggL_isFit_L_areTrucks_288 : GoodIn wsL_isFit ((ggL_isFit_L_areTrucks_w.drop 288).take 32) := goodIn_r _ [128, 129, 130, 131, 132, 133, 134, 135, 136, 137, 138, 139, 140, 141, 142, 143, 144, 145, 146, 147, 148, 149, 150, 151, 152, 153, 154, 155, 156, 157, 158, 159] (by decide +kernel) (by decide +kernel)
set_option maxRecDepth 20000 in
theorem ggL_isFit_L_areTrucks_320 : GoodIn wsL_isFit ((ggL_isFit_L_areTrucks_w.drop 320).take 32) := goodIn_r _ [160, 161, 162, 163, 164, 165, 166, 167, 168, 169, 170, 171, 172, 173, 174, 175, 176, 177, 178, 179, 180, 181, 182, 183, 184, 185, 186, 187, 188, 189, 190, 191] (by decide +kernel) (by decide +kernel)
set_option maxRecDepth 20000 in
theorem ggL_isFit_L_areTrucks_352 : GoodIn wsL_isFit ((ggL_isFit_L_areTrucks_w.drop 352).take 32) := goodIn_r _ [192, 193, 194, 195, 196, 197, 198, 199, 200, 201, 202, 203, 204, 205, 206, 447, 448, 449, 450, 451, 452, 207, 208, 209, 210, 211, 212, 213, 214, 453, 454, 455] (by decide +kernel) (by decide +kernel)
set_option maxRecDepth 20000 in
theorem ggL_isFit_L_areTrucks_384 : GoodIn wsL_isFit ((ggL_isFit_L_areTrucks_w.drop 384).take 32) := goodIn_r _ [456, 457, 458, 459, 460, 461, 462, 463, 464, 465, 466, 467, 468, 469, 470, 471, 472, 473, 474, 475, 476, 477, 478, 479, 480, 481, 482, 483, 484, 485, 486, 487] (by decide +kernel) (by decide +kernel)
set_option maxRecDepth 20000 in
theorem ggL_isFit_L_areTrucks_416 : GoodIn wsL_isFit ((ggL_isFit_L_areTrucks_w.drop 416).take 32) := goodIn_r _ [488, 489, 490, 491, 492, 493, 494, 495, 496, 497, 715, 716, 717, 718, 719, 720, 721, 722, 723, 740, 741, 742, 743, 744, 745, 746, 747, 748, 749, 750, 751, 752] (by decide +kernel) (by decide +kernel)
set_option maxRecDepth 20000 in
theorem ggL_isFit_L_areTrucks_448 : GoodIn wsL_isFit ((ggL_isFit_L_areTrucks_w.drop 448).take 32) := goodIn_r _ [753, 754, 755, 756, 757, 724, 725, 726, 727, 728, 729, 730, 731, 732, 733, 734, 735, 736, 737, 738, 739] (by decide +kernel) (by decide +kernel)
set_option maxRecDepth 20000 in
theorem ggL_isFit_L_areTrucks_e : GoodIn wsL_isFit (ggL_isFit_L_areTrucks_w.drop 480) := goodIn_r _ [] (by decide +kernel) (by decide +kernel)
theorem ggL_isFit_L_areTrucks_a : GoodIn wsL_isFit ggL_isFit_L_areTrucks_w := (goodIn_st 0 ggL_isFit_L_areTrucks_0 (goodIn_st 32 ggL_isFit_L_areTrucks_32 (goodIn_st 64 ggL_isFit_L_areTrucks_64 (goodIn_st 96 ggL_isFit_L_areTrucks_96 (goodIn_st 128 ggL_isFit_L_areTrucks_128 (goodIn_st 160 ggL_isFit_L_areTrucks_160 (goodIn_st 192 ggL_isFit_L_areTrucks_192 (goodIn_st 224 ggL_isFit_L_areTrucks_224 (goodIn_st 256 ggL_isFit_L_areTrucks_256 (goodIn_st 288 ggL_isFit_L_areTrucks_288 (goodIn_st 320 ggL_isFit_L_areTrucks_320 (goodIn_st 352 ggL_isFit_L_areTrucks_352 (goodIn_st 384 ggL_isFit_L_areTrucks_384 (goodIn_st 416 ggL_isFit_L_areTrucks_416 (goodIn_st 448 ggL_isFit_L_areTrucks_448 ggL_isFit_L_areTrucks_e)))))))))))))))
