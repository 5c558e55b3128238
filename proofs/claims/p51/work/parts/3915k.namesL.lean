set_option maxRecDepth 20000 in
theorem ggL_law_L_act_0 : GoodIn wsL_law ((ggL_law_L_act_w.drop 0).take 32) := goodIn_r _ [449, 312, 4, 349, 350, 351, 2, 352, 14, 97, 98, 99, 100, 101, 3, 102, 103, 104, 105, 106, 107, 108, 109, 110, 15, 111, 112, 113, 13, 114, 36, 38] (by decide +kernel) (by decide +kernel)
set_option maxRecDepth 20000 in
theorem ggL_law_L_act_32 : GoodIn wsL_law ((ggL_law_L_act_w.drop 32).take 32) := goodIn_r _ [115, 116, 117, 118, 39, 40, 119, 120, 121, 41, 122, 123, 124, 125, 126, 127, 128, 43, 129, 47, 130, 48, 131, 132, 133, 134, 135, 136, 137, 138, 139, 140] (by decide +kernel) (by decide +kernel)
set_option maxRecDepth 20000 in
theorem ggL_law_L_act_64 : GoodIn wsL_law ((ggL_law_L_act_w.drop 64).take 32) := goodIn_r _ [141, 142, 143, 144, 145, 146, 147, 148, 149, 150, 151, 152, 153, 154, 155, 156, 157, 158, 159, 160, 161, 162, 163, 164, 165, 166, 167, 168, 169, 170, 171, 172] (by decide +kernel) (by decide +kernel)
set_option maxRecDepth 20000 in
theorem ggL_law_L_act_96 : GoodIn wsL_law ((ggL_law_L_act_w.drop 96).take 32) := goodIn_r _ [173, 174, 175, 176, 177, 178, 179, 180, 181, 182, 183, 184, 185, 186, 187, 188, 189, 190, 191, 192, 193, 194, 195, 196, 197, 198, 199, 200, 201, 202, 203, 204] (by decide +kernel) (by decide +kernel)
set_option maxRecDepth 20000 in
theorem ggL_law_L_act_128 : GoodIn wsL_law ((ggL_law_L_act_w.drop 128).take 32) := goodIn_r _ [205, 206, 207, 208, 209, 210, 211, 212, 213, 214, 215, 216, 217, 218, 219, 220, 221, 222, 223, 224, 225, 226, 227, 228, 229, 230, 231, 232, 233, 234, 235, 236] (by decide +kernel) (by decide +kernel)
set_option maxRecDepth 20000 in
theorem ggL_law_L_act_160 : GoodIn wsL_law ((ggL_law_L_act_w.drop 160).take 32) := goodIn_r _ [237, 238, 239, 240, 241, 242, 243, 244, 245, 246, 247, 248, 249, 250, 251, 252, 253, 254, 255, 256, 257, 258, 259, 260, 261, 262, 263, 264, 265, 266, 267, 268] (by decide +kernel) (by decide +kernel)
set_option maxRecDepth 20000 in
theorem ggL_law_L_act_192 : GoodIn wsL_law ((ggL_law_L_act_w.drop 192).take 32) := goodIn_r _ [269, 270, 271, 272, 273, 274, 275, 276, 277, 278, 279, 280, 281, 282, 283, 284, 285, 286, 287, 288, 289, 20, 290, 291, 292, 19, 293, 294, 58, 295, 296, 297] (by decide +kernel) (by decide +kernel)
set_option maxRecDepth 20000 in
theorem ggL_law_L_act_224 : GoodIn wsL_law ((ggL_law_L_act_w.drop 224).take 32) := goodIn_r _ [298, 299, 450, 451, 452, 303, 453, 454, 455, 456, 457, 321, 322, 323, 324, 325, 326, 327, 328, 300, 301, 302, 304, 305, 306, 307, 308, 458, 459, 460, 461, 462] (by decide +kernel) (by decide +kernel)
set_option maxRecDepth 20000 in
theorem ggL_law_L_act_256 : GoodIn wsL_law ((ggL_law_L_act_w.drop 256).take 32) := goodIn_r _ [463, 464, 465, 313, 314, 315, 316, 317, 318, 319, 320, 466, 467, 468, 469, 470, 471, 472, 473, 329, 330, 331, 332, 333, 334, 335, 336, 337, 474, 475, 476, 477] (by decide +kernel) (by decide +kernel)
set_option maxRecDepth 20000 in
theorem ggL_law_L_act_288 : GoodIn wsL_law ((ggL_law_L_act_w.drop 288).take 32) := goodIn_r _ [478, 479, 480, 481, 482, 483, 484, 485, 486, 487, 488, 489, 490, 491, 492, 493, 494, 495, 496, 497, 498, 499, 500, 501, 502, 503, 504, 505, 506, 507, 508, 509] (by decide +kernel) (by decide +kernel)
set_option maxRecDepth 20000 in
theorem ggL_law_L_act_320 : GoodIn wsL_law ((ggL_law_L_act_w.drop 320).take 32) := goodIn_r _ [510, 511, 512, 513, 514, 515, 516, 517, 518, 84, 519, 520, 521, 522, 523, 524, 525, 526, 527, 528, 529, 530, 531, 532, 533, 534, 535, 536, 537, 538, 539, 24] (by decide +kernel) (by decide +kernel)
set_option maxRecDepth 20000 in
theorem ggL_law_L_act_352 : GoodIn wsL_law ((ggL_law_L_act_w.drop 352).take 32) := goodIn_r _ [540, 541, 542, 27, 543, 544, 545, 546, 547, 75, 548, 549, 550, 551, 552, 553, 554, 555, 556, 557, 80, 558, 559, 560, 561, 562, 81, 563, 564, 565, 566, 567] (by decide +kernel) (by decide +kernel)
set_option maxRecDepth 20000 in
theorem ggL_law_L_act_384 : GoodIn wsL_law ((ggL_law_L_act_w.drop 384).take 32) := goodIn_r _ [568, 569, 570, 571, 572, 573, 574, 575, 576, 577, 578, 579, 580, 581, 582, 51, 583, 584, 585, 586, 587, 588, 589, 79, 590, 591, 592, 593, 594, 595, 596, 597] (by decide +kernel) (by decide +kernel)
set_option maxRecDepth 20000 in
theorem ggL_law_L_act_416 : GoodIn wsL_law ((ggL_law_L_act_w.drop 416).take 32) := goodIn_r _ [598, 78, 599, 600, 601, 602, 603, 604, 605, 606, 82, 83, 85, 86, 87, 88, 89, 607, 608, 609, 610, 611, 612, 613, 614, 615, 616, 617, 618, 619, 620, 621] (by decide +kernel) (by decide +kernel)
set_option maxRecDepth 20000 in
theorem ggL_law_L_act_448 : GoodIn wsL_law ((ggL_law_L_act_w.drop 448).take 32) := goodIn_r _ [622, 623, 624, 625, 626, 627, 628, 629, 630, 631, 632, 633, 634, 29, 30, 635, 636, 637, 23, 638, 639, 640, 67, 65, 641, 642, 643, 644, 645, 646, 647, 648] (by decide +kernel) (by decide +kernel)
set_option maxRecDepth 20000 in
theorem ggL_law_L_act_480 : GoodIn wsL_law ((ggL_law_L_act_w.drop 480).take 32) := goodIn_r _ [649, 650, 651, 652, 653, 654, 655, 656, 657, 658, 659, 660, 661, 662, 663, 664, 665, 666, 667, 668, 669, 670, 671, 672, 673, 674, 675, 676, 677, 678, 679, 680] (by decide +kernel) (by decide +kernel)
set_option maxRecDepth 20000 in
theorem ggL_law_L_act_512 : GoodIn wsL_law ((ggL_law_L_act_w.drop 512).take 32) := goodIn_r _ [681, 682, 683, 684, 685, 686, 687, 688, 689, 690, 691, 692, 693, 694, 695, 696, 697, 698, 699, 700, 701, 702, 703, 704, 705, 706, 26, 707, 708, 709, 710, 711] (by decide +kernel) (by decide +kernel)
set_option maxRecDepth 20000 in
theorem ggL_law_L_act_544 : GoodIn wsL_law ((ggL_law_L_act_w.drop 544).take 32) := goodIn_r _ [712, 713, 714, 715, 716, 717, 16, 718, 719, 720, 721, 722, 723, 724, 725, 726, 727, 728, 729, 730, 731, 732, 733, 734, 735, 736, 737, 947, 948, 949, 950, 951] (by decide +kernel) (by decide +kernel)
