set_option maxRecDepth 20000 in
theorem ggL_isFit_L_isPassing_224 : GoodIn wsL_isFit ((ggL_isFit_L_isPassing_w.drop 224).take 32) := goodIn_r _ [592, 593, 594, 595, 596, 218, 597, 598, 599, 600, 601, 602, 603, 604, 605, 606, 607, 608, 609, 610, 611, 612, 613, 614, 615, 616, 617, 618, 619, 620, 621, 622] (by decide +kernel) (by decide +kernel)
set_option maxRecDepth 20000 in
theorem ggL_isFit_L_isPassing_256 : GoodIn wsL_isFit ((ggL_isFit_L_isPassing_w.drop 256).take 32) := goodIn_r _ [623, 624, 625, 626, 627, 628, 629, 630, 631, 632, 633, 634, 327, 635, 636, 183, 637, 638, 639, 640, 641, 642, 643, 644, 312, 224, 225, 226, 645, 646, 647, 648] (by decide +kernel) (by decide +kernel)
set_option maxRecDepth 20000 in
theorem ggL_isFit_L_isPassing_288 : GoodIn wsL_isFit ((ggL_isFit_L_isPassing_w.drop 288).take 32) := goodIn_r _ [649, 650, 651, 652, 653, 654, 655, 656, 308, 309, 310, 311, 657, 658, 659, 660, 661, 662, 663, 664, 665, 666, 667, 668, 669, 670, 671, 672, 673, 674, 675, 676] (by decide +kernel) (by decide +kernel)
set_option maxRecDepth 20000 in
theorem ggL_isFit_L_isPassing_320 : GoodIn wsL_isFit ((ggL_isFit_L_isPassing_w.drop 320).take 32) := goodIn_r _ [677, 678, 679, 680, 681, 682, 683, 684, 685, 686, 687, 688, 689, 690, 691, 692, 333, 334, 335, 336, 337, 342, 343, 344, 345, 346, 347, 348, 349, 350, 351, 352] (by decide +kernel) (by decide +kernel)
set_option maxRecDepth 20000 in
theorem ggL_isFit_L_isPassing_352 : GoodIn wsL_isFit ((ggL_isFit_L_isPassing_w.drop 352).take 32) := goodIn_r _ [353, 354, 355, 356, 357, 358, 359, 360, 361, 363, 364, 365, 366, 372, 373, 374, 269, 270, 271, 272, 223, 397, 398, 399, 400, 401, 402, 403, 404, 406, 409, 410] (by decide +kernel) (by decide +kernel)
set_option maxRecDepth 20000 in
theorem ggL_isFit_L_isPassing_384 : GoodIn wsL_isFit ((ggL_isFit_L_isPassing_w.drop 384).take 32) := goodIn_r _ [411, 412, 413, 414, 415, 416, 426, 427, 428, 429, 430, 431, 432, 433, 434, 435, 436, 437, 438, 439, 440, 441, 442, 233, 234, 235, 443, 444, 445, 446, 10, 20] (by decide +kernel) (by decide +kernel)
set_option maxRecDepth 20000 in
theorem ggL_isFit_L_isPassing_416 : GoodIn wsL_isFit ((ggL_isFit_L_isPassing_w.drop 416).take 32) := goodIn_r _ [21, 22, 23, 24, 25, 26, 27, 28, 29, 30, 31, 32, 33, 34, 35, 36, 37, 38, 39, 40, 41, 42, 43, 44, 45, 46, 47, 48, 49, 50, 51, 52] (by decide +kernel) (by decide +kernel)
set_option maxRecDepth 20000 in
theorem ggL_isFit_L_isPassing_448 : GoodIn wsL_isFit ((ggL_isFit_L_isPassing_w.drop 448).take 32) := goodIn_r _ [53, 54, 55, 56, 57, 58, 59, 60, 61, 62, 63, 64, 65, 66, 67, 68, 69, 70, 71, 72, 73, 74, 75, 79, 80, 81, 82, 83, 84, 85, 86, 87] (by decide +kernel) (by decide +kernel)
set_option maxRecDepth 20000 in
theorem ggL_isFit_L_isPassing_480 : GoodIn wsL_isFit ((ggL_isFit_L_isPassing_w.drop 480).take 32) := goodIn_r _ [88, 89, 90, 91, 92, 93, 94, 95, 96, 97, 98, 99, 100, 101, 102, 103, 104, 111, 112, 113, 114, 115, 116, 117, 118, 119, 120, 121, 122, 123, 124, 125] (by decide +kernel) (by decide +kernel)
set_option maxRecDepth 20000 in
theorem ggL_isFit_L_isPassing_512 : GoodIn wsL_isFit ((ggL_isFit_L_isPassing_w.drop 512).take 32) := goodIn_r _ [126, 127, 128, 129, 130, 131, 132, 133, 134, 135, 136, 137, 138, 139, 140, 141, 142, 143, 144, 145, 146, 147, 148, 149, 150, 151, 152, 153, 154, 155, 156, 157] (by decide +kernel) (by decide +kernel)
set_option maxRecDepth 20000 in
theorem ggL_isFit_L_isPassing_544 : GoodIn wsL_isFit ((ggL_isFit_L_isPassing_w.drop 544).take 32) := goodIn_r _ [158, 159, 160, 161, 162, 163, 164, 165, 166, 167, 168, 169, 170, 171, 172, 173, 174, 175, 176, 177, 178, 179, 180, 181, 182, 184, 185, 186, 187, 188, 189, 190] (by decide +kernel) (by decide +kernel)
set_option maxRecDepth 20000 in
theorem ggL_isFit_L_isPassing_576 : GoodIn wsL_isFit ((ggL_isFit_L_isPassing_w.drop 576).take 32) := goodIn_r _ [191, 192, 193, 194, 195, 196, 197, 198, 199, 200, 201, 202, 203, 204, 205, 206, 207, 208, 209, 210, 211, 212, 213, 214, 477, 478, 479, 480, 481, 482, 483, 484] (by decide +kernel) (by decide +kernel)
set_option maxRecDepth 20000 in
theorem ggL_isFit_L_isPassing_608 : GoodIn wsL_isFit ((ggL_isFit_L_isPassing_w.drop 608).take 32) := goodIn_r _ [485, 486, 487, 488, 489, 490, 491, 492, 493, 494, 495, 496, 497, 693, 694, 695, 696, 697, 698, 699, 700, 701, 702, 703, 715, 716, 717, 718, 719, 720, 721, 722] (by decide +kernel) (by decide +kernel)
set_option maxRecDepth 20000 in
theorem ggL_isFit_L_isPassing_640 : GoodIn wsL_isFit ((ggL_isFit_L_isPassing_w.drop 640).take 32) := goodIn_r _ [723, 740, 741, 742, 743, 744, 745, 746, 747, 748, 749, 750, 751, 752, 753, 754, 755, 756, 757, 758, 759, 724, 725, 726, 727, 728, 729, 730, 731, 732, 733, 734] (by decide +kernel) (by decide +kernel)
set_option maxRecDepth 20000 in
theorem ggL_isFit_L_isPassing_672 : GoodIn wsL_isFit ((ggL_isFit_L_isPassing_w.drop 672).take 32) := goodIn_r _ [735, 736, 737, 738, 739] (by decide +kernel) (by decide +kernel)
set_option maxRecDepth 20000 in
theorem ggL_isFit_L_isPassing_e : GoodIn wsL_isFit (ggL_isFit_L_isPassing_w.drop 704) := goodIn_r _ [] (by decide +kernel) (by decide +kernel)
