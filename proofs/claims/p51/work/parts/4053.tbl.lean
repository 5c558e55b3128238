/-! the words of the law lie in the tables (three beside them) -/
abbrev zzbig : List Cond := zzs3 ++ lw_tbl
theorem zzp_0 : (wsL_law0.drop 0).take 48 = ([66, 67, 34, 317, 1113, 68, 69, 70, 71, 72, 73, 74, 75, 35, 261, 262, 263, 166, 167, 38, 264, 183, 184, 39, 265, 259, 190, 41, 266, 268, 269, 76, 77, 78, 79, 80, 118, 114, 120, 121, 123, 131, 82, 36, 84, 85, 86, 87] : List Nat).filterMap (fun i => zzbig[i]?) := by decide +kernel
theorem zzp_1 : (wsL_law0.drop 48).take 48 = ([89, 115, 116, 37, 117, 168, 169, 170, 171, 172, 175, 174, 185, 186, 187, 188, 189, 242, 222, 244, 224, 44, 191, 192, 193, 194, 195, 40, 196, 197, 198, 221, 207, 208, 200, 201, 43, 202, 203, 204, 205, 206, 226, 227, 228, 229, 231, 234] : List Nat).filterMap (fun i => zzbig[i]?) := by decide +kernel
theorem zzp_2 : (wsL_law0.drop 96).take 48 = ([260, 313, 314, 33, 315, 316, 318, 319, 320, 321, 322, 323, 325, 3, 326, 297, 298, 299, 300, 308, 307, 306, 47, 125, 127, 129, 133, 135, 137, 139, 301, 302, 303, 304, 305, 90, 93, 96, 99, 327, 328, 329, 330, 331, 333, 334, 336, 337] : List Nat).filterMap (fun i => zzbig[i]?) := by decide +kernel
theorem zzp_3 : (wsL_law0.drop 144).take 48 = ([45, 338, 1444, 339, 341, 4, 342, 343, 345, 5, 346, 347, 348, 349, 350, 352, 353, 354, 356, 6, 357, 358, 360, 7, 361, 363, 364, 365, 366, 367, 368, 370, 371, 50, 372, 373, 374, 375, 376, 378, 8, 379, 380, 381, 382, 383, 384, 385] : List Nat).filterMap (fun i => zzbig[i]?) := by decide +kernel
theorem zzp_4 : (wsL_law0.drop 192).take 48 = ([386, 387, 388, 390, 9, 391, 392, 394, 10, 395, 397, 398, 399, 401, 11, 402, 403, 404, 51, 405, 406, 407, 408, 409, 410, 412, 12, 413, 414, 416, 13, 417, 418, 420, 14, 421, 422, 424, 15, 425, 426, 427, 428, 429, 430, 431, 432, 433] : List Nat).filterMap (fun i => zzbig[i]?) := by decide +kernel
theorem zzp_5 : (wsL_law0.drop 240).take 48 = ([435, 16, 436, 437, 439, 17, 440, 441, 442, 443, 444, 445, 447, 18, 448, 449, 451, 19, 452, 453, 454, 455, 456, 457, 458, 459, 460, 462, 463, 464, 466, 20, 467, 468, 469, 470, 471, 55, 543, 56, 559, 57, 575, 58, 591, 59, 607, 609] : List Nat).filterMap (fun i => zzbig[i]?) := by decide +kernel
theorem zzp_6 : (wsL_law0.drop 288).take 48 = ([22, 610, 611, 612, 613, 614, 176, 615, 617, 23, 618, 619, 651, 652, 653, 623, 654, 655, 656, 657, 658, 309, 310, 311, 312, 660, 661, 662, 664, 665, 666, 667, 668, 620, 621, 622, 645, 646, 647, 648, 649, 670, 671, 672, 644, 673, 674, 675] : List Nat).filterMap (fun i => zzbig[i]?) := by decide +kernel
theorem zzp_7 : (wsL_law0.drop 336).take 48 = ([676, 677, 1115, 1116, 1117, 1118, 1119, 1124, 1129, 1134, 1139, 1144, 1153, 289, 290, 291, 292, 1120, 1121, 1122, 1123, 1125, 1126, 1127, 1128, 1130, 1131, 1132, 1133, 1135, 1136, 1137, 1138, 1140, 1141, 1142, 1143, 1145, 1146, 1147, 1148, 1149, 1150, 1151, 1152, 1154, 1155, 1156] : List Nat).filterMap (fun i => zzbig[i]?) := by decide +kernel
theorem zzp_8 : (wsL_law0.drop 384).take 48 = ([1157, 1158, 1159, 1160, 1161, 1163, 1164, 1165, 1166, 1167, 1168, 1169, 1170, 1171, 1172, 1173, 1174, 1175, 1176, 1177, 1179, 1180, 1181, 1182, 1184, 1031, 1032, 1033, 1185, 1186, 1187, 1188, 1189, 1191, 31, 1192, 1193, 1195, 1196, 1197, 1198, 1199, 1200, 1201, 1202, 1203, 1204, 1205] : List Nat).filterMap (fun i => zzbig[i]?) := by decide +kernel
theorem zzp_9 : (wsL_law0.drop 432).take 48 = ([1206, 1207, 1208, 1209, 1210, 1211, 1212, 1213, 1214, 1215, 1217, 1218, 1219, 1220, 1221, 1083, 1084, 1085, 1086, 1087, 1088, 1089, 1090, 1091, 1092, 1093, 1095, 1096, 1097, 1098, 1099, 1100, 1101, 1102, 1104, 1105, 1106, 1107, 1108, 1109, 1110, 1111, 679, 680, 681, 682, 683, 684] : List Nat).filterMap (fun i => zzbig[i]?) := by decide +kernel
theorem zzp_10 : (wsL_law0.drop 480).take 48 = ([685, 686, 1055, 1056, 1057, 1058, 714, 715, 42, 716, 980, 717, 718, 719, 720, 721, 981, 1059, 723, 724, 725, 726, 727, 728, 729, 730, 731, 61, 732, 733, 734, 735, 736, 738, 739, 62, 740, 741, 742, 743, 744, 745, 746, 747, 748, 749, 750, 751] : List Nat).filterMap (fun i => zzbig[i]?) := by decide +kernel
theorem zzp_11 : (wsL_law0.drop 528).take 48 = ([752, 753, 754, 756, 758, 1060, 1061, 1062, 1063, 1064, 1065, 1066, 1068, 765, 766, 767, 768, 1411, 220, 769, 770, 211, 1070, 1071, 1072, 1073, 1074, 1423, 1075, 1076, 825, 1416, 0, 827, 828, 829, 1417, 1, 831, 832, 841, 833, 834, 63, 835, 836, 784, 51] : List Nat).filterMap (fun i => zzbig[i]?) := by decide +kernel
theorem zzp_12 : (wsL_law0.drop 576).take 48 = ([785, 837, 838, 839, 840, 842, 843, 844, 845, 846, 847, 848, 849, 851, 852, 779, 780, 853, 854, 856, 857, 855, 858, 1077, 1078, 1079, 884, 1420, 2, 886, 887, 888, 889, 890, 891, 892, 893, 894, 895, 896, 897, 898, 899, 900, 901, 902, 871, 872] : List Nat).filterMap (fun i => zzbig[i]?) := by decide +kernel
theorem zzp_13 : (wsL_law0.drop 624).take 48 = ([873, 1080, 1081, 1082, 688, 689, 690, 691, 692, 693, 694, 695, 696, 697, 698, 248, 246, 699, 701, 24, 702, 786, 703, 705, 25, 706, 783, 709, 711, 26, 712, 713, 722, 760, 762, 27, 763, 764, 771, 772, 773, 774, 775, 1412, 776, 777, 778, 781] : List Nat).filterMap (fun i => zzbig[i]?) := by decide +kernel
theorem zzp_14 : (wsL_law0.drop 672).take 48 = ([782, 787, 789, 28, 790, 791, 793, 29, 794, 795, 797, 30, 798, 799, 800, 801, 802, 803, 1413, 804, 805, 806, 807, 64, 209, 995, 996, 997, 998, 999, 1000, 1001, 1002, 1003, 963, 1007, 624, 60, 1017, 1018, 1019, 1020, 293, 294, 295, 296, 267, 1047] : List Nat).filterMap (fun i => zzbig[i]?) := by decide +kernel
theorem zzp_15 : (wsL_law0.drop 720).take 48 = ([1048, 1049, 1050, 1051, 1052, 1053, 1035, 1036, 1037, 1026, 1038, 1039, 1040, 1041, 1042, 1043, 1044, 1045, 1337, 1338, 1339, 1340, 1341, 1342, 1343, 1344, 1345, 1346, 1298, 910, 911, 912, 913, 1421, 914, 915, 916, 917, 918, 919, 920, 921, 922, 924, 926, 927, 928, 862] : List Nat).filterMap (fun i => zzbig[i]?) := by decide +kernel
theorem zzp_16 : (wsL_law0.drop 768).take 48 = ([863, 864, 865, 866, 867, 868, 869, 870, 929, 930, 931, 932, 933, 1347, 1348, 1349, 1350, 1351, 1352, 1353, 1255, 1291, 1292, 1293, 1354, 1355, 1356, 1357, 1359, 1251, 1252, 1253, 1254, 1360, 1361, 1362, 1363, 1364, 1365, 1366, 1367, 1368, 1369, 1370, 1371, 1372, 1373, 1374] : List Nat).filterMap (fun i => zzbig[i]?) := by decide +kernel
theorem zzp_17 : (wsL_law0.drop 816).take 48 = ([1375, 1376, 1377, 1378, 1379, 1380, 1381, 1382, 1383, 1384, 1385, 1386, 1387, 1388, 1389, 1390, 1391, 1222, 1223, 1224, 1316, 1331, 1225, 1226, 1227, 1228, 1229, 1230, 1231, 1232, 1233, 1234, 1235, 1236, 1238, 32, 1239, 1240, 1241, 1242, 1243, 1244, 1245, 1246, 1247, 1248, 1249, 1250] : List Nat).filterMap (fun i => zzbig[i]?) := by decide +kernel
theorem zzp_18 : (wsL_law0.drop 864).take 48 = ([1256, 1257, 1258, 1259, 1260, 1261, 1262, 1263, 1264, 1266, 1267, 1268, 1269, 1270, 1271, 1272, 1273, 1274, 1275, 1276, 1277, 1278, 1279, 1280, 1281, 1282, 1283, 1284, 1285, 1286, 1287, 1288, 1289, 1290, 1294, 1295, 1296, 1297, 1299, 1300, 1301, 1302, 1317, 1318, 1319, 1320, 1321, 65] : List Nat).filterMap (fun i => zzbig[i]?) := by decide +kernel
theorem zzp_19 : (wsL_law0.drop 912).take 48 = ([1324, 1325, 1326, 1327, 1328, 1329, 1330, 1332, 1333, 1334, 1335, 1392, 1393, 1394, 1395, 1396, 1397, 1398, 1399, 1400, 1401, 1402, 1403, 1404, 1406, 1407, 1408, 1409, 1023, 1024, 1025, 1027, 1028, 1029, 1030, 270, 272, 274, 276, 278, 280, 282, 284, 286, 141, 143, 145, 147] : List Nat).filterMap (fun i => zzbig[i]?) := by decide +kernel
theorem zzp_20 : (wsL_law0.drop 960).take 48 = ([149, 151, 153, 155, 157, 159, 161, 163, 178, 180, 250, 252, 254, 256, 212, 214, 216, 218, 101, 103, 105, 107, 109, 111, 237, 239, 640, 642, 982, 984, 988, 989, 990, 991, 992, 993, 628, 629, 630, 631, 632, 633] : List Nat).filterMap (fun i => zzbig[i]?) := by decide +kernel
theorem zz_memp {big ws : List Cond} {ps : List Nat} (h : ws = ps.filterMap (fun i => big[i]?)) : ∀ w ∈ ws, w ∈ big := by
  intro w hw
  rw [h] at hw
  obtain ⟨i, -, hi⟩ := List.mem_filterMap.mp hw
  exact List.mem_of_getElem? hi
theorem zz_cut {big : List Cond} : ∀ (m : Nat) (ws : List Cond) (n k : Nat), (∀ j, j < m → ∀ w ∈ (ws.drop (k + n * j)).take n, w ∈ big) → (ws.drop (k + n * m)) = [] → ∀ w ∈ ws.drop k, w ∈ big
  | 0, ws, n, k, _, h0 => by
    intro w hw
    rw [Nat.mul_zero, Nat.add_zero] at h0
    rw [h0] at hw
    exact absurd hw List.not_mem_nil
  | m + 1, ws, n, k, h, h0 => by
    intro w hw
    rw [← List.take_append_drop n (ws.drop k)] at hw
    rcases List.mem_append.mp hw with hw | hw
    · exact h 0 (by omega) w (by rw [Nat.mul_zero, Nat.add_zero]; exact hw)
    · rw [List.drop_drop] at hw
      exact zz_cut m ws n (k + n) (fun j hj w hw => h (j + 1) (by omega) w (by rw [show k + n * (j + 1) = k + n + n * j by rw [Nat.mul_succ]; omega]; exact hw)) (by rw [show k + n + n * m = k + n * (m + 1) by rw [Nat.mul_succ]; omega]; exact h0) w hw
theorem zz_law0 : ∀ w ∈ wsL_law0, w ∈ zzbig := by
  refine zz_cut 21 wsL_law0 48 0 (fun j hj => ?_) (by decide +kernel)
  match j, hj with
  | 0, _ => exact zz_memp zzp_0
  | 1, _ => exact zz_memp zzp_1
  | 2, _ => exact zz_memp zzp_2
  | 3, _ => exact zz_memp zzp_3
  | 4, _ => exact zz_memp zzp_4
  | 5, _ => exact zz_memp zzp_5
  | 6, _ => exact zz_memp zzp_6
  | 7, _ => exact zz_memp zzp_7
  | 8, _ => exact zz_memp zzp_8
  | 9, _ => exact zz_memp zzp_9
  | 10, _ => exact zz_memp zzp_10
  | 11, _ => exact zz_memp zzp_11
  | 12, _ => exact zz_memp zzp_12
  | 13, _ => exact zz_memp zzp_13
  | 14, _ => exact zz_memp zzp_14
  | 15, _ => exact zz_memp zzp_15
  | 16, _ => exact zz_memp zzp_16
  | 17, _ => exact zz_memp zzp_17
  | 18, _ => exact zz_memp zzp_18
  | 19, _ => exact zz_memp zzp_19
  | 20, _ => exact zz_memp zzp_20
  | j + 21, hj => exact absurd hj (by omega)
