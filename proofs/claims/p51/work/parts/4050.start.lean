/-! the words of the start, by their places -/
def zzfl : List Cond := flatC (Jvm.Cond.and given_1 narrow_1)
theorem zzfb {args : Array Value} {s : State} (h : (Jvm.Cond.and given_1 narrow_1).before args s = true) {i : Nat} {c : Cond} (hi : zzfl[i]? = some c) : c.before args s = true := flat_of_before _ h c (List.mem_of_getElem? hi)
abbrev zzk9 : List Nat := [63, 69, 72, 75, 78, 81, 84, 87, 90]
abbrev zzb9 : List Nat := [1246, 1255, 1303, 1264, 1312, 1274, 1322, 1284, 1295]
theorem zs_ex9 : ∀ i, i < 9 → zzfl[zzb9.getD i 0]? = some (Cond.exactly (.string RX1 (zzk9.getD i 0)) "java/lang/String") := by decide +kernel
theorem zs_co9 : ∀ i, i < 9 → zzfl[zzb9.getD i 0 + 1]? = some (Cond.eq (.field (.string RX1 (zzk9.getD i 0)) "java/lang/String" "coder" "B") (.int 0)) := by decide +kernel
theorem zs_ar9 : ∀ i, i < 9 → zzfl[zzb9.getD i 0 + 2]? = some (Cond.arrayOf (.field (.string RX1 (zzk9.getD i 0)) "java/lang/String" "value" "[B") .byte) := by decide +kernel
theorem zs_le9 : ∀ i, i < 9 → zzfl[zzb9.getD i 0 + 3]? = some (Cond.eq (.length (.field (.string RX1 (zzk9.getD i 0)) "java/lang/String" "value" "[B")) (.int (Int32.ofNat (ft_wln.getD i 0)))) := by decide +kernel
theorem zs_el9 : ∀ i, i < 9 → ∀ j, j < ft_wln.getD i 0 → zzfl[zzb9.getD i 0 + 4 + j]? = some (Cond.eq (.elem (.field (.string RX1 (zzk9.getD i 0)) "java/lang/String" "value" "[B") (.int (Int32.ofNat j))) (.int ((ft_wby.getD i []).getD j 0))) := by decide +kernel
theorem zs_di9 : ∀ i, i < 9 → ∀ j, j < 9 → i ≠ j → (ft_wln.getD i 0 ≠ ft_wln.getD j 0 ∨ ∃ k, k < ft_wln.getD i 0 ∧ (ft_wby.getD i []).getD k 0 ≠ (ft_wby.getD j []).getD k 0) := by decide +kernel
theorem zs_ln9 : ∀ i, i < 9 → ft_wln.getD i 0 < 2 ^ 31 := by decide +kernel
abbrev zzk28 : List Nat := [305, 307, 309, 311, 313, 315, 317, 319, 321, 323, 325, 327, 329, 331, 333, 335, 337, 339, 341, 343, 345, 347, 349, 351, 353, 355, 357, 359]
abbrev zzb28 : List Nat := [1330, 1340, 1355, 1370, 1399, 1413, 1437, 1451, 1476, 1490, 1515, 1531, 1560, 1572, 1593, 1606, 1626, 1635, 1646, 1669, 1684, 1697, 1711, 1725, 1741, 1753, 1766, 1776]
theorem zs_ex28 : ∀ i, i < 28 → zzfl[zzb28.getD i 0]? = some (Cond.exactly (.string RL (zzk28.getD i 0)) "java/lang/String") := by decide +kernel
theorem zs_co28 : ∀ i, i < 28 → zzfl[zzb28.getD i 0 + 1]? = some (Cond.eq (.field (.string RL (zzk28.getD i 0)) "java/lang/String" "coder" "B") (.int 0)) := by decide +kernel
theorem zs_ar28 : ∀ i, i < 28 → zzfl[zzb28.getD i 0 + 2]? = some (Cond.arrayOf (.field (.string RL (zzk28.getD i 0)) "java/lang/String" "value" "[B") .byte) := by decide +kernel
theorem zs_le28 : ∀ i, i < 28 → zzfl[zzb28.getD i 0 + 3]? = some (Cond.eq (.length (.field (.string RL (zzk28.getD i 0)) "java/lang/String" "value" "[B")) (.int (Int32.ofNat (ft_scn.getD i 0)))) := by decide +kernel
theorem zs_el28 : ∀ i, i < 28 → ∀ j, j < ft_scn.getD i 0 → zzfl[zzb28.getD i 0 + 4 + j]? = some (Cond.eq (.elem (.field (.string RL (zzk28.getD i 0)) "java/lang/String" "value" "[B") (.int (Int32.ofNat j))) (.int ((ft_scy.getD i []).getD j 0))) := by decide +kernel
theorem zs_di28 : ∀ i, i < 28 → ∀ j, j < 28 → i ≠ j → (ft_scn.getD i 0 ≠ ft_scn.getD j 0 ∨ ∃ k, k < ft_scn.getD i 0 ∧ (ft_scy.getD i []).getD k 0 ≠ (ft_scy.getD j []).getD k 0) := by decide +kernel
theorem zs_ln28 : ∀ i, i < 28 → ft_scn.getD i 0 < 2 ^ 31 := by decide +kernel
abbrev zzkx : List Nat := [304, 306, 310, 313, 315, 255, 275, 337, 286, 296, 239, 246, 325, 330, 335, 320, 199, 205, 232, 158]
abbrev zzbx : List Nat := [500, 532, 567, 619, 672, 815, 861, 895, 912, 940, 964, 1012, 1041, 1057, 1074, 1108, 1125, 1148, 1175, 1211]
theorem zs_exx : ∀ i, i < 20 → zzfl[zzbx.getD i 0]? = some (Cond.exactly (.string RX7 (zzkx.getD i 0)) "java/lang/String") := by decide +kernel
theorem za_reD1 : zzfl[82]? = some (Cond.isRef (.static "java/lang/Integer" "DigitOnes" "[B")) := by decide +kernel
theorem za_arD1 : zzfl[83]? = some (Cond.arrayOf (.static "java/lang/Integer" "DigitOnes" "[B") .byte) := by decide +kernel
theorem za_leD1 : zzfl[84]? = some (Cond.eq (.length (.static "java/lang/Integer" "DigitOnes" "[B")) (.int (Int32.ofNat 100))) := by decide +kernel
theorem za_elD1 : ∀ j, j < 100 → zzfl[85 + j]? = some (Cond.eq (.elem (.static "java/lang/Integer" "DigitOnes" "[B") (.int (Int32.ofNat j))) (.int (nI (48 + j % 10)))) := by decide +kernel
theorem za_reD2 : zzfl[185]? = some (Cond.isRef (.static "java/lang/Integer" "DigitTens" "[B")) := by decide +kernel
theorem za_arD2 : zzfl[186]? = some (Cond.arrayOf (.static "java/lang/Integer" "DigitTens" "[B") .byte) := by decide +kernel
theorem za_leD2 : zzfl[187]? = some (Cond.eq (.length (.static "java/lang/Integer" "DigitTens" "[B")) (.int (Int32.ofNat 100))) := by decide +kernel
theorem za_elD2 : ∀ j, j < 100 → zzfl[188 + j]? = some (Cond.eq (.elem (.static "java/lang/Integer" "DigitTens" "[B") (.int (Int32.ofNat j))) (.int (nI (48 + j / 10)))) := by decide +kernel
theorem za_reSW : zzfl[10]? = some (Cond.isRef (.static RX0 "$SwitchMap$FoodTruckRota$Command" "[I")) := by decide +kernel
theorem za_arSW : zzfl[11]? = some (Cond.arrayOf (.static RX0 "$SwitchMap$FoodTruckRota$Command" "[I") .int) := by decide +kernel
theorem za_leSW : zzfl[12]? = some (Cond.eq (.length (.static RX0 "$SwitchMap$FoodTruckRota$Command" "[I")) (.int (Int32.ofNat 9))) := by decide +kernel
theorem za_elSW : ∀ j, j < 9 → zzfl[13 + j]? = some (Cond.eq (.elem (.static RX0 "$SwitchMap$FoodTruckRota$Command" "[I") (.int (Int32.ofNat j))) (.int (if j < 8 then nI (j + 1) else 0))) := by decide +kernel
theorem za_reAL : zzfl[64]? = some (Cond.isRef (.static RX1 "ALL" "[LFoodTruckRota$Command;")) := by decide +kernel
theorem za_arAL : zzfl[66]? = some (Cond.arrayOf (.static RX1 "ALL" "[LFoodTruckRota$Command;") (.object RX1)) := by decide +kernel
theorem za_leAL : zzfl[67]? = some (Cond.eq (.length (.static RX1 "ALL" "[LFoodTruckRota$Command;")) (.int (Int32.ofNat 9))) := by decide +kernel
theorem za_elAL : ∀ j, j < 9 → zzfl[69 + j]? = some (Cond.eq (.elem (.static RX1 "ALL" "[LFoodTruckRota$Command;") (.int (Int32.ofNat j))) (.static RX1 (ft_enN.getD j "") "LFoodTruckRota$Command;")) := by decide +kernel
theorem za_reSC : zzfl[324]? = some (Cond.isRef (.static RL "SCRIPTS" "[Ljava/lang/String;")) := by decide +kernel
theorem za_arSC : zzfl[325]? = some (Cond.arrayOf (.static RL "SCRIPTS" "[Ljava/lang/String;") (.object RJ0)) := by decide +kernel
theorem za_leSC : zzfl[326]? = some (Cond.eq (.length (.static RL "SCRIPTS" "[Ljava/lang/String;")) (.int (Int32.ofNat 28))) := by decide +kernel
theorem za_elSC : ∀ j, j < 28 → zzfl[327 + j]? = some (Cond.eq (.elem (.static RL "SCRIPTS" "[Ljava/lang/String;") (.int (Int32.ofNat j))) (.string RL (zzk28.getD j 0))) := by decide +kernel
abbrev zzbe : List Nat := [5, 24, 288, 30, 299, 37, 311, 45, 54]
theorem ze_ex : ∀ i, i < 9 → zzfl[zzbe.getD i 0]? = some (Cond.exactly (.static RX1 (ft_enN.getD i "") "LFoodTruckRota$Command;") RX1) := by decide +kernel
theorem ze_f0 : ∀ i, i < 9 → zzfl[zzbe.getD i 0 + 1]? = some (Cond.eq (.field (.static RX1 (ft_enN.getD i "") "LFoodTruckRota$Command;") "java/lang/Enum" "ordinal" "I") (.int (([0, 1, 2, 3, 4, 5, 6, 7, 8] : List Int32).getD i 0))) := by decide +kernel
theorem ze_f1 : ∀ i, i < 9 → zzfl[zzbe.getD i 0 + 3]? = some (Cond.eq (.field (.static RX1 (ft_enN.getD i "") "LFoodTruckRota$Command;") "FoodTruckRota$Command" "argumentTotal" "I") (.int (([0, 3, 2, 2, 2, 3, 2, 1, 1] : List Int32).getD i 0))) := by decide +kernel
theorem ze_f2 : ∀ i, i < 9 → zzfl[zzbe.getD i 0 + 4]? = some (Cond.eq (.field (.static RX1 (ft_enN.getD i "") "LFoodTruckRota$Command;") "FoodTruckRota$Command" "endsWithNumber" "Z") (.int (([0, 1, 1, 0, 0, 0, 0, 0, 1] : List Int32).getD i 0))) := by decide +kernel
theorem ze_wd : ∀ i, i < 9 → zzfl[zzbe.getD i 0 + 2]? = some (Cond.eq (.field (.static RX1 (ft_enN.getD i "") "LFoodTruckRota$Command;") RX1 "word" "Ljava/lang/String;") (.string RX1 (zzk9.getD i 0))) := by decide +kernel
abbrev zzbd : List (List Nat) := [[0, 29, 293, 35, 304, 42, 316, 50, 59], [0, 0, 294, 36, 305, 43, 317, 51, 60], [0, 0, 0, 0, 310, 0, 322, 0, 0], [0, 0, 295, 0, 306, 44, 318, 52, 61], [0, 0, 0, 0, 0, 0, 323, 0, 0], [0, 0, 296, 0, 307, 0, 319, 53, 62], [0, 0, 0, 0, 0, 0, 0, 0, 0], [0, 0, 297, 0, 308, 0, 320, 0, 63], [0, 0, 298, 0, 309, 0, 321, 0, 0]]
theorem ze_d : ∀ i, i < 9 → ∀ j, j < 9 → i ≠ j → (zzfl[(zzbd.getD i []).getD j 0]? = some (Cond.not (.eq (.static RX1 (ft_enN.getD i "") "LFoodTruckRota$Command;") (.static RX1 (ft_enN.getD j "") "LFoodTruckRota$Command;"))) ∨ zzfl[(zzbd.getD j []).getD i 0]? = some (Cond.not (.eq (.static RX1 (ft_enN.getD j "") "LFoodTruckRota$Command;") (.static RX1 (ft_enN.getD i "") "LFoodTruckRota$Command;")))) := by decide +kernel
abbrev zzbn : List (List Nat) := [[0, 393, 363, 409, 425, 441], [379, 0, 364, 410, 426, 442], [382, 396, 0, 412, 428, 445], [380, 394, 365, 0, 427, 443], [381, 395, 366, 411, 0, 444], [384, 400, 370, 416, 432, 0]]
theorem ze_nc : ∀ i, i < 6 → ∀ j, j < 6 → i ≠ j → zzfl[(zzbn.getD i []).getD j 0]? = some (Cond.not (.castable (ft_exc.getD i "") (ft_exc.getD j ""))) := by decide +kernel
theorem ze_cs : zzfl[4]? = some (Cond.eq (.static "java/lang/String" "COMPACT_STRINGS" "Z") (.int 1)) := by decide +kernel
theorem ze_us : zzfl[22]? = some (Cond.isRef (.static Bundle.tN "UNASSIGNED_STACK" Bundle.steD)) := by decide +kernel
theorem ze_ss : zzfl[23]? = some (Cond.isRef (.static Bundle.tN "SUPPRESSED_SENTINEL" Bundle.listD)) := by decide +kernel
theorem ze_sf : zzfl[78]? = some (Cond.isRef (.static "jdk/internal/util/Preconditions" "SIOOBE_FORMATTER" "Ljava/util/function/BiFunction;")) := by decide +kernel
theorem zztAC0 : Cond.arrayClass .int ∈ tables_1 := by decide +kernel
theorem zztAC1 : Cond.arrayClass .byte ∈ tables_1 := by decide +kernel
theorem zztAO0 : Cond.arrayOver (.object RX6) ∈ tables_1 := by decide +kernel
theorem zztAO1 : Cond.arrayOver (.object RX4) ∈ tables_1 := by decide +kernel
theorem zztAO2 : Cond.arrayOver (.object RX5) ∈ tables_1 := by decide +kernel
theorem zztls : ∀ i, i < 9 → Cond.laysStatic RX1 (ft_enN.getD i "") "LFoodTruckRota$Command;" ∈ tables_1 := by decide +kernel
theorem zzti1 : Cond.initialized RX1 ∈ tables_1 := by decide +kernel
theorem zzti0 : Cond.initialized RX0 ∈ tables_1 := by decide +kernel
theorem zztiS : Cond.initialized "java/lang/String" ∈ tables_1 := by decide +kernel
theorem zztiT : Cond.initialized Bundle.tN ∈ tables_1 := by decide +kernel
theorem zztiI : Cond.initialized "java/lang/Integer" ∈ tables_1 := by decide +kernel
theorem zztiP : Cond.initialized "jdk/internal/util/Preconditions" ∈ tables_1 := by decide +kernel
theorem zztiL : Cond.initialized RL ∈ tables_1 := by decide +kernel
theorem zztlAL : Cond.laysStatic RX1 "ALL" "[LFoodTruckRota$Command;" ∈ tables_1 := by decide +kernel
theorem zztlSW : Cond.laysStatic RX0 "$SwitchMap$FoodTruckRota$Command" "[I" ∈ tables_1 := by decide +kernel
theorem zztlCS : Cond.laysStatic "java/lang/String" "COMPACT_STRINGS" "Z" ∈ tables_1 := by decide +kernel
theorem zztlUS : Cond.laysStatic Bundle.tN "UNASSIGNED_STACK" Bundle.steD ∈ tables_1 := by decide +kernel
theorem zztlSS : Cond.laysStatic Bundle.tN "SUPPRESSED_SENTINEL" Bundle.listD ∈ tables_1 := by decide +kernel
theorem zztlD1 : Cond.laysStatic "java/lang/Integer" "DigitOnes" "[B" ∈ tables_1 := by decide +kernel
theorem zztlD2 : Cond.laysStatic "java/lang/Integer" "DigitTens" "[B" ∈ tables_1 := by decide +kernel
theorem zztlSF : Cond.laysStatic "jdk/internal/util/Preconditions" "SIOOBE_FORMATTER" "Ljava/util/function/BiFunction;" ∈ tables_1 := by decide +kernel
theorem zztlSC : Cond.laysStatic RL "SCRIPTS" "[Ljava/lang/String;" ∈ tables_1 := by decide +kernel
theorem zztca : ∀ E ∈ ft_exc, Cond.castable E E ∈ tables_1 := by decide +kernel
theorem zztde : ∀ E ∈ ft_chain, Cond.declares (Bundle.initS E) ∈ tables_1 := by decide +kernel
theorem zztsr : ∀ q ∈ ft_str, Cond.stringRef q.1 q.2.1 q.2.2 ∈ tables_1 := by decide +kernel
theorem zztsk : ∀ q ∈ ft_str, ∃ i, i < 20 ∧ q.1 = RX7 ∧ q.2.1 = zzkx.getD i 0 := by decide +kernel
theorem zztlk : ∀ q ∈ ft_lk, Cond.classLink RL q.1 q.2 ∈ tables_1 := by decide +kernel
theorem zztnF : ∀ q ∈ ft_nF, Cond.fieldLinkNest q.1 q.2.1 q.2.2.1 q.2.2.2.1 q.2.2.2.2.1 q.2.2.2.2.2 ∈ tables_1 := by decide +kernel
theorem zztnM : ∀ q ∈ ft_nM, Cond.methodLinkNest q.1 q.2.1 q.2.2.1 q.2.2.2 ∈ tables_1 := by decide +kernel
theorem zztinRJ0 : Cond.instantiable RJ0 4 ∈ tables_1 := by decide +kernel
theorem zzuRJ0 : ∀ w ∈ u_ws RJ0 TJ0 4, w ∈ tables_1 := by decide +kernel
theorem zztinRJ4 : Cond.instantiable RJ4 4 ∈ tables_1 := by decide +kernel
theorem zzuRJ4 : ∀ w ∈ u_ws RJ4 TJ4 4, w ∈ tables_1 := by decide +kernel
theorem zztinRJx00060 : Cond.instantiable RJx00060 6 ∈ tables_1 := by decide +kernel
theorem zzuRJx00060 : ∀ w ∈ u_ws RJx00060 TJx00060 6, w ∈ tables_1 := by decide +kernel
theorem zztinRJx7c733 : Cond.instantiable RJx7c733 6 ∈ tables_1 := by decide +kernel
theorem zzuRJx7c733 : ∀ w ∈ u_ws RJx7c733 TJx7c733 6, w ∈ tables_1 := by decide +kernel
theorem zztinRX2 : Cond.instantiable RX2 2 ∈ tables_1 := by decide +kernel
theorem zzuRX2 : ∀ w ∈ u_ws RX2 TX2 2, w ∈ tables_1 := by decide +kernel
theorem zztinRX3 : Cond.instantiable RX3 4 ∈ tables_1 := by decide +kernel
theorem zzuRX3 : ∀ w ∈ u_ws RX3 TX3 4, w ∈ tables_1 := by decide +kernel
theorem zztinRX4 : Cond.instantiable RX4 12 ∈ tables_1 := by decide +kernel
theorem zzuRX4 : ∀ w ∈ u_ws RX4 TX4 12, w ∈ tables_1 := by decide +kernel
theorem zztinRX5 : Cond.instantiable RX5 2 ∈ tables_1 := by decide +kernel
theorem zzuRX5 : ∀ w ∈ u_ws RX5 TX5 2, w ∈ tables_1 := by decide +kernel
theorem zztinRX6 : Cond.instantiable RX6 6 ∈ tables_1 := by decide +kernel
theorem zzuRX6 : ∀ w ∈ u_ws RX6 TX6 6, w ∈ tables_1 := by decide +kernel
theorem zztinRX7 : Cond.instantiable RX7 9 ∈ tables_1 := by decide +kernel
theorem zzuRX7 : ∀ w ∈ u_ws RX7 TX7 9, w ∈ tables_1 := by decide +kernel
