set_option maxRecDepth 20000 in
theorem ggL_isPassing_X7_weather : GoodIn wsL_isPassing wsX7_weather := goodIn_r _ [27, 19, 632, 633, 634, 635, 636, 637, 638, 639, 640, 641, 642, 643, 644, 645, 646, 647, 648, 649, 650, 651, 652] (by decide +kernel) (by decide +kernel)
set_option maxRecDepth 20000 in
theorem gL_isPassing_X7_weather : GoodIn wsL_isPassing (wsV RL 166 RX7 yX7_weather wsX7_weather) := goodIn_app (goodIn_of _ (by decide +kernel)) ggL_isPassing_X7_weather
def ggL_isPassing_L_areTrucks_w : List Cond := .code yL_areTrucks cL_areTrucks 10 (some .boolean) :: ((wsL_areTrucks_r1 ++ (wsL_areTrucks_r2 ++ (wsL_areTrucks_r3 ++ (wsL_areTrucks_r4 ++ (wsL_areTrucks_r5 ++ (wsL_areTrucks_r6 ++ (wsL_areTrucks_r7 ++ (wsL_areTrucks_r8 ++ (wsL_areTrucks_r9 ++ (wsL_areTrucks_r10 ++ (wsL_areTrucks_r11 ++ (wsL_areTrucks_r12 ++ (wsL_areTrucks_r13 ++ (wsL_areTrucks_r14 ++ (wsL_areTrucks_r15 ++ (wsL_areTrucks_r16 ++ (wsL_areTrucks_r17 ++ wsL_areTrucks_r18))))))))))))))))) ++ wsX70 ++ wsX40 ++ wsX60 ++ wsJx7c7330 ++ wsJ40 ++ wsJx000600)
set_option maxRecDepth 20000 in
theorem ggL_isPassing_L_areTrucks_0 : GoodIn wsL_isPassing ((ggL_isPassing_L_areTrucks_w.drop 0).take 32) := goodIn_r _ [338, 339, 340, 44, 45, 46, 17, 47, 19, 341, 342, 4, 343, 344, 345, 346, 347, 348, 349, 350, 351, 89, 352, 109, 353, 354, 355, 356, 156, 198, 106, 107] (by decide +kernel) (by decide +kernel)
set_option maxRecDepth 20000 in
theorem ggL_isPassing_L_areTrucks_32 : GoodIn wsL_isPassing ((ggL_isPassing_L_areTrucks_w.drop 32).take 32) := goodIn_r _ [108, 357, 358, 359, 125, 360, 176, 361, 362, 363, 364, 136, 92, 93, 94, 95, 96, 14, 15, 16, 18, 365, 366, 367, 67, 368, 369, 370, 371, 101, 102, 103] (by decide +kernel) (by decide +kernel)
set_option maxRecDepth 20000 in
theorem ggL_isPassing_L_areTrucks_64 : GoodIn wsL_isPassing ((ggL_isPassing_L_areTrucks_w.drop 64).take 32) := goodIn_r _ [104, 55, 56, 105, 78, 79, 80, 81, 82, 83, 84, 85, 372, 281, 282, 283, 197, 87, 88, 90, 91, 114, 115, 116, 117, 137, 138, 139, 140, 141, 142, 143] (by decide +kernel) (by decide +kernel)
set_option maxRecDepth 20000 in
theorem ggL_isPassing_L_areTrucks_96 : GoodIn wsL_isPassing ((ggL_isPassing_L_areTrucks_w.drop 96).take 32) := goodIn_r _ [144, 145, 146, 110, 111, 112, 113, 97, 98, 99, 100, 373, 374, 375, 376, 377, 378, 379, 380, 175, 381, 216, 217, 382, 383, 384, 385, 386, 387, 388, 389, 193] (by decide +kernel) (by decide +kernel)
set_option maxRecDepth 20000 in
theorem ggL_isPassing_L_areTrucks_128 : GoodIn wsL_isPassing ((ggL_isPassing_L_areTrucks_w.drop 128).take 32) := goodIn_r _ [194, 195, 196, 163, 185, 186, 187, 188, 280, 390, 391, 392, 393, 394, 395, 396, 397, 398, 399, 400, 401, 402, 403, 268, 123, 124, 126, 127, 404, 405, 406, 118] (by decide +kernel) (by decide +kernel)
set_option maxRecDepth 20000 in
theorem ggL_isPassing_L_areTrucks_160 : GoodIn wsL_isPassing ((ggL_isPassing_L_areTrucks_w.drop 160).take 32) := goodIn_r _ [119, 120, 121, 122, 407, 408, 409, 64, 65, 66, 68, 69, 70, 71, 72, 73, 74, 75, 76, 77, 86, 410, 411, 412, 413, 414, 415, 416, 417, 418, 419, 420] (by decide +kernel) (by decide +kernel)
set_option maxRecDepth 20000 in
theorem ggL_isPassing_L_areTrucks_192 : GoodIn wsL_isPassing ((ggL_isPassing_L_areTrucks_w.drop 192).take 32) := goodIn_r _ [421, 422, 423, 424, 425, 426, 427, 428, 429, 430, 431, 432, 433, 434, 435, 436, 437, 438, 439, 440, 441, 442, 443, 444, 445, 446, 447, 448, 449, 450, 451, 452] (by decide +kernel) (by decide +kernel)
set_option maxRecDepth 20000 in
theorem ggL_isPassing_L_areTrucks_224 : GoodIn wsL_isPassing ((ggL_isPassing_L_areTrucks_w.drop 224).take 32) := goodIn_r _ [453, 454, 455, 456, 457, 458, 459, 460, 461, 462, 463, 464, 465, 466, 467, 468, 469, 470, 158, 159, 160, 471, 472, 473, 474, 475, 476, 477, 478, 479, 480, 481] (by decide +kernel) (by decide +kernel)
set_option maxRecDepth 20000 in
theorem ggL_isPassing_L_areTrucks_256 : GoodIn wsL_isPassing ((ggL_isPassing_L_areTrucks_w.drop 256).take 32) := goodIn_r _ [482, 483, 484, 485, 486, 487, 488, 489, 490, 491, 492, 493, 494, 495, 496, 497, 498, 499, 500, 501, 502, 503, 504, 505, 506, 507, 508, 509, 510, 511, 512, 513] (by decide +kernel) (by decide +kernel)
set_option maxRecDepth 20000 in
theorem ggL_isPassing_L_areTrucks_288 : GoodIn wsL_isPassing ((ggL_isPassing_L_areTrucks_w.drop 288).take 32) := goodIn_r _ [514, 515, 516, 517, 518, 519, 520, 521, 522, 523, 524, 525, 526, 527, 528, 529, 530, 531, 532, 533, 534, 535, 536, 537, 538, 539, 540, 541, 542, 543, 544, 545] (by decide +kernel) (by decide +kernel)
set_option maxRecDepth 20000 in
theorem ggL_isPassing_L_areTrucks_320 : GoodIn wsL_isPassing ((ggL_isPassing_L_areTrucks_w.drop 320).take 32) := goodIn_r _ [546, 547, 548, 549, 550, 551, 552, 553, 554, 555, 556, 557, 558, 559, 560, 561, 562, 563, 564, 565, 566, 567, 568, 271, 569, 570, 571, 572, 573, 574, 575, 576] (by decide +kernel) (by decide +kernel)
set_option maxRecDepth 20000 in
theorem ggL_isPassing_L_areTrucks_352 : GoodIn wsL_isPassing ((ggL_isPassing_L_areTrucks_w.drop 352).take 32) := goodIn_r _ [577, 578, 579, 580, 581, 582, 583, 584, 585, 586, 587, 588, 589, 590, 591, 132, 133, 134, 135, 58, 59, 592, 593, 594, 595, 596, 597, 598, 599, 60, 61, 62] (by decide +kernel) (by decide +kernel)
set_option maxRecDepth 20000 in
theorem ggL_isPassing_L_areTrucks_384 : GoodIn wsL_isPassing ((ggL_isPassing_L_areTrucks_w.drop 384).take 32) := goodIn_r _ [63, 52, 53, 54, 57, 32, 33, 34, 35, 28, 29, 30, 31, 36, 37, 38, 39, 40, 41, 42, 43, 600, 601, 602, 603, 604, 605, 606, 607, 608, 609, 610] (by decide +kernel) (by decide +kernel)
set_option maxRecDepth 20000 in
theorem ggL_isPassing_L_areTrucks_416 : GoodIn wsL_isPassing ((ggL_isPassing_L_areTrucks_w.drop 416).take 32) := goodIn_r _ [611, 612, 613, 614, 615, 616, 617, 618, 619, 620, 632, 633, 634, 635, 636, 637, 638, 639, 640, 641, 642, 643, 644, 645, 646, 647, 648, 649, 650, 651, 652, 653] (by decide +kernel) (by decide +kernel)
