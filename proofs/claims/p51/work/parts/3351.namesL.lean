theorem dL_cell_0 : decode cL_cell 0 = .ok (.aload_n 0, 1) := by decide +kernel
theorem dL_cell_1 : decode cL_cell 1 = .ok (.arraylength, 1) := by decide +kernel
theorem dL_cell_2 : decode cL_cell 2 = .ok (.ifCond .ne 11, 3) := by decide +kernel
theorem dL_cell_5 : decode cL_cell 5 = .ok (.sipush 577, 3) := by decide +kernel
theorem dL_cell_8 : decode cL_cell 8 = .ok (.iload_n 1, 1) := by decide +kernel
theorem dL_cell_9 : decode cL_cell 9 = .ok (.imul, 1) := by decide +kernel
theorem dL_cell_10 : decode cL_cell 10 = .ok (.goto 12, 3) := by decide +kernel
theorem dL_cell_13 : decode cL_cell 13 = .ok (.aload_n 0, 1) := by decide +kernel
theorem dL_cell_14 : decode cL_cell 14 = .ok (.iload_n 1, 1) := by decide +kernel
theorem dL_cell_15 : decode cL_cell 15 = .ok (.ldc 7, 2) := by decide +kernel
theorem dL_cell_17 : decode cL_cell 17 = .ok (.iand, 1) := by decide +kernel
theorem dL_cell_18 : decode cL_cell 18 = .ok (.aload_n 0, 1) := by decide +kernel
theorem dL_cell_19 : decode cL_cell 19 = .ok (.arraylength, 1) := by decide +kernel
theorem dL_cell_20 : decode cL_cell 20 = .ok (.irem, 1) := by decide +kernel
theorem dL_cell_21 : decode cL_cell 21 = .ok (.iaload, 1) := by decide +kernel
theorem dL_cell_22 : decode cL_cell 22 = .ok (.ireturn, 1) := by decide +kernel
theorem dL_addTruck_0 : decode cL_addTruck 0 = .ok (.ldc 10, 2) := by decide +kernel
theorem dL_addTruck_2 : decode cL_addTruck 2 = .ok (.istore_n 1, 1) := by decide +kernel
theorem dL_addTruck_3 : decode cL_addTruck 3 = .ok (.aload_n 0, 1) := by decide +kernel
theorem dL_addTruck_4 : decode cL_addTruck 4 = .ok (.invokevirtual 11, 3) := by decide +kernel
theorem dL_addTruck_7 : decode cL_addTruck 7 = .ok (.istore_n 1, 1) := by decide +kernel
theorem dL_addTruck_8 : decode cL_addTruck 8 = .ok (.goto 7, 3) := by decide +kernel
theorem dL_addTruck_11 : decode cL_addTruck 11 = .ok (.astore_n 2, 1) := by decide +kernel
theorem dL_addTruck_12 : decode cL_addTruck 12 = .ok (.ldc 10, 2) := by decide +kernel
theorem dL_addTruck_14 : decode cL_addTruck 14 = .ok (.ireturn, 1) := by decide +kernel
theorem dL_addTruck_15 : decode cL_addTruck 15 = .ok (.iload_n 1, 1) := by decide +kernel
theorem dL_addTruck_16 : decode cL_addTruck 16 = .ok (.ireturn, 1) := by decide +kernel
theorem dL_addStock_0 : decode cL_addStock 0 = .ok (.ldc 10, 2) := by decide +kernel
theorem dL_addStock_2 : decode cL_addStock 2 = .ok (.istore 4, 2) := by decide +kernel
theorem dL_addStock_4 : decode cL_addStock 4 = .ok (.aload_n 0, 1) := by decide +kernel
theorem dL_addStock_5 : decode cL_addStock 5 = .ok (.iload_n 1, 1) := by decide +kernel
theorem dL_addStock_6 : decode cL_addStock 6 = .ok (.iload_n 2, 1) := by decide +kernel
theorem dL_addStock_7 : decode cL_addStock 7 = .ok (.iload_n 3, 1) := by decide +kernel
theorem dL_addStock_8 : decode cL_addStock 8 = .ok (.invokevirtual 19, 3) := by decide +kernel
theorem dL_addStock_11 : decode cL_addStock 11 = .ok (.istore 4, 2) := by decide +kernel
theorem dL_addStock_13 : decode cL_addStock 13 = .ok (.goto 18, 3) := by decide +kernel
theorem dL_addStock_16 : decode cL_addStock 16 = .ok (.astore 5, 2) := by decide +kernel
theorem dL_addStock_18 : decode cL_addStock 18 = .ok (.ldc 10, 2) := by decide +kernel
theorem dL_addStock_20 : decode cL_addStock 20 = .ok (.ireturn, 1) := by decide +kernel
theorem dL_addStock_21 : decode cL_addStock 21 = .ok (.astore 5, 2) := by decide +kernel
theorem dL_addStock_23 : decode cL_addStock 23 = .ok (.ldc 10, 2) := by decide +kernel
theorem dL_addStock_25 : decode cL_addStock 25 = .ok (.ireturn, 1) := by decide +kernel
theorem dL_addStock_26 : decode cL_addStock 26 = .ok (.astore 5, 2) := by decide +kernel
theorem dL_addStock_28 : decode cL_addStock 28 = .ok (.ldc 10, 2) := by decide +kernel
theorem dL_addStock_30 : decode cL_addStock 30 = .ok (.ireturn, 1) := by decide +kernel
theorem dL_addStock_31 : decode cL_addStock 31 = .ok (.iload 4, 2) := by decide +kernel
theorem dL_addStock_33 : decode cL_addStock 33 = .ok (.ireturn, 1) := by decide +kernel
theorem dL_setPrice_0 : decode cL_setPrice 0 = .ok (.ldc 10, 2) := by decide +kernel
theorem dL_setPrice_2 : decode cL_setPrice 2 = .ok (.istore_n 3, 1) := by decide +kernel
theorem dL_setPrice_3 : decode cL_setPrice 3 = .ok (.aload_n 0, 1) := by decide +kernel
theorem dL_setPrice_4 : decode cL_setPrice 4 = .ok (.iload_n 1, 1) := by decide +kernel
theorem dL_setPrice_5 : decode cL_setPrice 5 = .ok (.iload_n 2, 1) := by decide +kernel
theorem dL_setPrice_6 : decode cL_setPrice 6 = .ok (.invokevirtual 27, 3) := by decide +kernel
theorem dL_setPrice_9 : decode cL_setPrice 9 = .ok (.istore_n 3, 1) := by decide +kernel
theorem dL_setPrice_10 : decode cL_setPrice 10 = .ok (.goto 13, 3) := by decide +kernel
theorem dL_setPrice_13 : decode cL_setPrice 13 = .ok (.astore 4, 2) := by decide +kernel
theorem dL_setPrice_15 : decode cL_setPrice 15 = .ok (.ldc 10, 2) := by decide +kernel
theorem dL_setPrice_17 : decode cL_setPrice 17 = .ok (.ireturn, 1) := by decide +kernel
theorem dL_setPrice_18 : decode cL_setPrice 18 = .ok (.astore 4, 2) := by decide +kernel
theorem dL_setPrice_20 : decode cL_setPrice 20 = .ok (.ldc 10, 2) := by decide +kernel
theorem dL_setPrice_22 : decode cL_setPrice 22 = .ok (.ireturn, 1) := by decide +kernel
theorem dL_setPrice_23 : decode cL_setPrice 23 = .ok (.iload_n 3, 1) := by decide +kernel
theorem dL_setPrice_24 : decode cL_setPrice 24 = .ok (.ireturn, 1) := by decide +kernel
theorem dL_grantPermit_0 : decode cL_grantPermit 0 = .ok (.ldc 10, 2) := by decide +kernel
theorem dL_grantPermit_2 : decode cL_grantPermit 2 = .ok (.istore_n 3, 1) := by decide +kernel
theorem dL_grantPermit_3 : decode cL_grantPermit 3 = .ok (.aload_n 0, 1) := by decide +kernel
theorem dL_grantPermit_4 : decode cL_grantPermit 4 = .ok (.iload_n 1, 1) := by decide +kernel
theorem dL_grantPermit_5 : decode cL_grantPermit 5 = .ok (.iload_n 2, 1) := by decide +kernel
theorem dL_grantPermit_6 : decode cL_grantPermit 6 = .ok (.invokevirtual 31, 3) := by decide +kernel
theorem dL_grantPermit_9 : decode cL_grantPermit 9 = .ok (.istore_n 3, 1) := by decide +kernel
theorem dL_grantPermit_10 : decode cL_grantPermit 10 = .ok (.goto 18, 3) := by decide +kernel
theorem dL_grantPermit_13 : decode cL_grantPermit 13 = .ok (.astore 4, 2) := by decide +kernel
theorem dL_grantPermit_15 : decode cL_grantPermit 15 = .ok (.ldc 10, 2) := by decide +kernel
theorem dL_grantPermit_17 : decode cL_grantPermit 17 = .ok (.ireturn, 1) := by decide +kernel
theorem dL_grantPermit_18 : decode cL_grantPermit 18 = .ok (.astore 4, 2) := by decide +kernel
theorem dL_grantPermit_20 : decode cL_grantPermit 20 = .ok (.ldc 10, 2) := by decide +kernel
theorem dL_grantPermit_22 : decode cL_grantPermit 22 = .ok (.ireturn, 1) := by decide +kernel
theorem dL_grantPermit_23 : decode cL_grantPermit 23 = .ok (.astore 4, 2) := by decide +kernel
theorem dL_grantPermit_25 : decode cL_grantPermit 25 = .ok (.ldc 10, 2) := by decide +kernel
theorem dL_grantPermit_27 : decode cL_grantPermit 27 = .ok (.ireturn, 1) := by decide +kernel
theorem dL_grantPermit_28 : decode cL_grantPermit 28 = .ok (.iload_n 3, 1) := by decide +kernel
theorem dL_grantPermit_29 : decode cL_grantPermit 29 = .ok (.ireturn, 1) := by decide +kernel
theorem dL_revokePermit_0 : decode cL_revokePermit 0 = .ok (.ldc 10, 2) := by decide +kernel
theorem dL_revokePermit_2 : decode cL_revokePermit 2 = .ok (.istore_n 3, 1) := by decide +kernel
theorem dL_revokePermit_3 : decode cL_revokePermit 3 = .ok (.aload_n 0, 1) := by decide +kernel
theorem dL_revokePermit_4 : decode cL_revokePermit 4 = .ok (.iload_n 1, 1) := by decide +kernel
theorem dL_revokePermit_5 : decode cL_revokePermit 5 = .ok (.iload_n 2, 1) := by decide +kernel
theorem dL_revokePermit_6 : decode cL_revokePermit 6 = .ok (.invokevirtual 34, 3) := by decide +kernel
theorem dL_revokePermit_9 : decode cL_revokePermit 9 = .ok (.ifCond .eq 7, 3) := by decide +kernel
theorem dL_revokePermit_12 : decode cL_revokePermit 12 = .ok (.iconst 1, 1) := by decide +kernel
theorem dL_revokePermit_13 : decode cL_revokePermit 13 = .ok (.goto 4, 3) := by decide +kernel
theorem dL_revokePermit_16 : decode cL_revokePermit 16 = .ok (.iconst 0, 1) := by decide +kernel
theorem dL_revokePermit_17 : decode cL_revokePermit 17 = .ok (.istore_n 3, 1) := by decide +kernel
theorem dL_revokePermit_18 : decode cL_revokePermit 18 = .ok (.goto 18, 3) := by decide +kernel
theorem dL_revokePermit_21 : decode cL_revokePermit 21 = .ok (.astore 4, 2) := by decide +kernel
theorem dL_revokePermit_23 : decode cL_revokePermit 23 = .ok (.ldc 10, 2) := by decide +kernel
theorem dL_revokePermit_25 : decode cL_revokePermit 25 = .ok (.ireturn, 1) := by decide +kernel
theorem dL_revokePermit_26 : decode cL_revokePermit 26 = .ok (.astore 4, 2) := by decide +kernel
theorem dL_revokePermit_28 : decode cL_revokePermit 28 = .ok (.ldc 10, 2) := by decide +kernel
theorem dL_revokePermit_30 : decode cL_revokePermit 30 = .ok (.ireturn, 1) := by decide +kernel
theorem dL_revokePermit_31 : decode cL_revokePermit 31 = .ok (.astore 4, 2) := by decide +kernel
theorem dL_revokePermit_33 : decode cL_revokePermit 33 = .ok (.ldc 10, 2) := by decide +kernel
theorem dL_revokePermit_35 : decode cL_revokePermit 35 = .ok (.ireturn, 1) := by decide +kernel
theorem dL_revokePermit_36 : decode cL_revokePermit 36 = .ok (.iload_n 3, 1) := by decide +kernel
theorem dL_revokePermit_37 : decode cL_revokePermit 37 = .ok (.ireturn, 1) := by decide +kernel
theorem dL_assign_0 : decode cL_assign 0 = .ok (.ldc 10, 2) := by decide +kernel
theorem dL_assign_2 : decode cL_assign 2 = .ok (.istore 4, 2) := by decide +kernel
theorem dL_assign_4 : decode cL_assign 4 = .ok (.aload_n 0, 1) := by decide +kernel
theorem dL_assign_5 : decode cL_assign 5 = .ok (.iload_n 1, 1) := by decide +kernel
theorem dL_assign_6 : decode cL_assign 6 = .ok (.iload_n 2, 1) := by decide +kernel
theorem dL_assign_7 : decode cL_assign 7 = .ok (.iload_n 3, 1) := by decide +kernel
theorem dL_assign_8 : decode cL_assign 8 = .ok (.invokevirtual 38, 3) := by decide +kernel
theorem dL_assign_11 : decode cL_assign 11 = .ok (.istore 4, 2) := by decide +kernel
theorem dL_assign_13 : decode cL_assign 13 = .ok (.goto 23, 3) := by decide +kernel
theorem dL_assign_16 : decode cL_assign 16 = .ok (.astore 5, 2) := by decide +kernel
theorem dL_assign_18 : decode cL_assign 18 = .ok (.ldc 10, 2) := by decide +kernel
theorem dL_assign_20 : decode cL_assign 20 = .ok (.ireturn, 1) := by decide +kernel
theorem dL_assign_21 : decode cL_assign 21 = .ok (.astore 5, 2) := by decide +kernel
theorem dL_assign_23 : decode cL_assign 23 = .ok (.ldc 10, 2) := by decide +kernel
theorem dL_assign_25 : decode cL_assign 25 = .ok (.ireturn, 1) := by decide +kernel
theorem dL_assign_26 : decode cL_assign 26 = .ok (.astore 5, 2) := by decide +kernel
theorem dL_assign_28 : decode cL_assign 28 = .ok (.ldc 10, 2) := by decide +kernel
theorem dL_assign_30 : decode cL_assign 30 = .ok (.ireturn, 1) := by decide +kernel
theorem dL_assign_31 : decode cL_assign 31 = .ok (.astore 5, 2) := by decide +kernel
theorem dL_assign_33 : decode cL_assign 33 = .ok (.ldc 10, 2) := by decide +kernel
theorem dL_assign_35 : decode cL_assign 35 = .ok (.ireturn, 1) := by decide +kernel
theorem dL_assign_36 : decode cL_assign 36 = .ok (.iload 4, 2) := by decide +kernel
theorem dL_assign_38 : decode cL_assign 38 = .ok (.ireturn, 1) := by decide +kernel
theorem dL_release_0 : decode cL_release 0 = .ok (.ldc 10, 2) := by decide +kernel
theorem dL_release_2 : decode cL_release 2 = .ok (.istore_n 3, 1) := by decide +kernel
theorem dL_release_3 : decode cL_release 3 = .ok (.aload_n 0, 1) := by decide +kernel
theorem dL_release_4 : decode cL_release 4 = .ok (.iload_n 1, 1) := by decide +kernel
theorem dL_release_5 : decode cL_release 5 = .ok (.iload_n 2, 1) := by decide +kernel
theorem dL_release_6 : decode cL_release 6 = .ok (.invokevirtual 43, 3) := by decide +kernel
theorem dL_release_9 : decode cL_release 9 = .ok (.istore_n 3, 1) := by decide +kernel
theorem dL_release_10 : decode cL_release 10 = .ok (.goto 18, 3) := by decide +kernel
theorem dL_release_13 : decode cL_release 13 = .ok (.astore 4, 2) := by decide +kernel
theorem dL_release_15 : decode cL_release 15 = .ok (.ldc 10, 2) := by decide +kernel
theorem dL_release_17 : decode cL_release 17 = .ok (.ireturn, 1) := by decide +kernel
theorem dL_release_18 : decode cL_release 18 = .ok (.astore 4, 2) := by decide +kernel
theorem dL_release_20 : decode cL_release 20 = .ok (.ldc 10, 2) := by decide +kernel
theorem dL_release_22 : decode cL_release 22 = .ok (.ireturn, 1) := by decide +kernel
theorem dL_release_23 : decode cL_release 23 = .ok (.astore 4, 2) := by decide +kernel
theorem dL_release_25 : decode cL_release 25 = .ok (.ldc 10, 2) := by decide +kernel
theorem dL_release_27 : decode cL_release 27 = .ok (.ireturn, 1) := by decide +kernel
theorem dL_release_28 : decode cL_release 28 = .ok (.iload_n 3, 1) := by decide +kernel
theorem dL_release_29 : decode cL_release 29 = .ok (.ireturn, 1) := by decide +kernel
theorem dL_setWeather_0 : decode cL_setWeather 0 = .ok (.ldc 10, 2) := by decide +kernel
theorem dL_setWeather_2 : decode cL_setWeather 2 = .ok (.istore_n 2, 1) := by decide +kernel
theorem dL_setWeather_3 : decode cL_setWeather 3 = .ok (.aload_n 0, 1) := by decide +kernel
theorem dL_setWeather_4 : decode cL_setWeather 4 = .ok (.iload_n 1, 1) := by decide +kernel
theorem dL_setWeather_5 : decode cL_setWeather 5 = .ok (.invokevirtual 48, 3) := by decide +kernel
theorem dL_setWeather_8 : decode cL_setWeather 8 = .ok (.istore_n 2, 1) := by decide +kernel
theorem dL_setWeather_9 : decode cL_setWeather 9 = .ok (.goto 7, 3) := by decide +kernel
theorem dL_setWeather_12 : decode cL_setWeather 12 = .ok (.astore_n 3, 1) := by decide +kernel
theorem dL_setWeather_13 : decode cL_setWeather 13 = .ok (.ldc 10, 2) := by decide +kernel
theorem dL_setWeather_15 : decode cL_setWeather 15 = .ok (.ireturn, 1) := by decide +kernel
theorem dL_setWeather_16 : decode cL_setWeather 16 = .ok (.iload_n 2, 1) := by decide +kernel
theorem dL_setWeather_17 : decode cL_setWeather 17 = .ok (.ireturn, 1) := by decide +kernel
theorem dL_advance_0 : decode cL_advance 0 = .ok (.ldc 10, 2) := by decide +kernel
theorem dL_advance_2 : decode cL_advance 2 = .ok (.istore_n 2, 1) := by decide +kernel
theorem dL_advance_3 : decode cL_advance 3 = .ok (.aload_n 0, 1) := by decide +kernel
theorem dL_advance_4 : decode cL_advance 4 = .ok (.iload_n 1, 1) := by decide +kernel
theorem dL_advance_5 : decode cL_advance 5 = .ok (.invokevirtual 52, 3) := by decide +kernel
theorem dL_advance_8 : decode cL_advance 8 = .ok (.istore_n 2, 1) := by decide +kernel
theorem dL_advance_9 : decode cL_advance 9 = .ok (.goto 7, 3) := by decide +kernel
theorem dL_advance_12 : decode cL_advance 12 = .ok (.astore_n 3, 1) := by decide +kernel
theorem dL_advance_13 : decode cL_advance 13 = .ok (.ldc 10, 2) := by decide +kernel
theorem dL_advance_15 : decode cL_advance 15 = .ok (.ireturn, 1) := by decide +kernel
theorem dL_advance_16 : decode cL_advance 16 = .ok (.iload_n 2, 1) := by decide +kernel
theorem dL_advance_17 : decode cL_advance 17 = .ok (.ireturn, 1) := by decide +kernel
theorem dL_truckAt_0 : decode cL_truckAt 0 = .ok (.sipush (-1000), 3) := by decide +kernel
theorem dL_truckAt_3 : decode cL_truckAt 3 = .ok (.istore_n 3, 1) := by decide +kernel
theorem dL_truckAt_4 : decode cL_truckAt 4 = .ok (.aload_n 0, 1) := by decide +kernel
theorem dL_truckAt_5 : decode cL_truckAt 5 = .ok (.iload_n 1, 1) := by decide +kernel
theorem dL_truckAt_6 : decode cL_truckAt 6 = .ok (.iload_n 2, 1) := by decide +kernel
theorem dL_truckAt_7 : decode cL_truckAt 7 = .ok (.invokevirtual 55, 3) := by decide +kernel
theorem dL_truckAt_10 : decode cL_truckAt 10 = .ok (.istore_n 3, 1) := by decide +kernel
theorem dL_truckAt_11 : decode cL_truckAt 11 = .ok (.goto 21, 3) := by decide +kernel
theorem dL_truckAt_14 : decode cL_truckAt 14 = .ok (.astore 4, 2) := by decide +kernel
theorem dL_truckAt_16 : decode cL_truckAt 16 = .ok (.sipush (-1000), 3) := by decide +kernel
theorem dL_truckAt_19 : decode cL_truckAt 19 = .ok (.ireturn, 1) := by decide +kernel
theorem dL_truckAt_20 : decode cL_truckAt 20 = .ok (.astore 4, 2) := by decide +kernel
theorem dL_truckAt_22 : decode cL_truckAt 22 = .ok (.sipush (-1000), 3) := by decide +kernel
theorem dL_truckAt_25 : decode cL_truckAt 25 = .ok (.ireturn, 1) := by decide +kernel
theorem dL_truckAt_26 : decode cL_truckAt 26 = .ok (.astore 4, 2) := by decide +kernel
theorem dL_truckAt_28 : decode cL_truckAt 28 = .ok (.sipush (-1000), 3) := by decide +kernel
theorem dL_truckAt_31 : decode cL_truckAt 31 = .ok (.ireturn, 1) := by decide +kernel
theorem dL_truckAt_32 : decode cL_truckAt 32 = .ok (.iload_n 3, 1) := by decide +kernel
theorem dL_truckAt_33 : decode cL_truckAt 33 = .ok (.ireturn, 1) := by decide +kernel
theorem dL_pitchOf_0 : decode cL_pitchOf 0 = .ok (.sipush (-1000), 3) := by decide +kernel
theorem dL_pitchOf_3 : decode cL_pitchOf 3 = .ok (.istore_n 3, 1) := by decide +kernel
theorem dL_pitchOf_4 : decode cL_pitchOf 4 = .ok (.aload_n 0, 1) := by decide +kernel
theorem dL_pitchOf_5 : decode cL_pitchOf 5 = .ok (.iload_n 1, 1) := by decide +kernel
theorem dL_pitchOf_6 : decode cL_pitchOf 6 = .ok (.iload_n 2, 1) := by decide +kernel
theorem dL_pitchOf_7 : decode cL_pitchOf 7 = .ok (.invokevirtual 58, 3) := by decide +kernel
theorem dL_pitchOf_10 : decode cL_pitchOf 10 = .ok (.istore_n 3, 1) := by decide +kernel
theorem dL_pitchOf_11 : decode cL_pitchOf 11 = .ok (.goto 21, 3) := by decide +kernel
theorem dL_pitchOf_14 : decode cL_pitchOf 14 = .ok (.astore 4, 2) := by decide +kernel
theorem dL_pitchOf_16 : decode cL_pitchOf 16 = .ok (.sipush (-1000), 3) := by decide +kernel
theorem dL_pitchOf_19 : decode cL_pitchOf 19 = .ok (.ireturn, 1) := by decide +kernel
theorem dL_pitchOf_20 : decode cL_pitchOf 20 = .ok (.astore 4, 2) := by decide +kernel
theorem dL_pitchOf_22 : decode cL_pitchOf 22 = .ok (.sipush (-1000), 3) := by decide +kernel
theorem dL_pitchOf_25 : decode cL_pitchOf 25 = .ok (.ireturn, 1) := by decide +kernel
theorem dL_pitchOf_26 : decode cL_pitchOf 26 = .ok (.astore 4, 2) := by decide +kernel
theorem dL_pitchOf_28 : decode cL_pitchOf 28 = .ok (.sipush (-1000), 3) := by decide +kernel
theorem dL_pitchOf_31 : decode cL_pitchOf 31 = .ok (.ireturn, 1) := by decide +kernel
theorem dL_pitchOf_32 : decode cL_pitchOf 32 = .ok (.iload_n 3, 1) := by decide +kernel
theorem dL_pitchOf_33 : decode cL_pitchOf 33 = .ok (.ireturn, 1) := by decide +kernel
theorem dL_firstFreeDay_0 : decode cL_firstFreeDay 0 = .ok (.sipush (-1000), 3) := by decide +kernel
theorem dL_firstFreeDay_3 : decode cL_firstFreeDay 3 = .ok (.istore_n 2, 1) := by decide +kernel
theorem dL_firstFreeDay_4 : decode cL_firstFreeDay 4 = .ok (.aload_n 0, 1) := by decide +kernel
theorem dL_firstFreeDay_5 : decode cL_firstFreeDay 5 = .ok (.iload_n 1, 1) := by decide +kernel
theorem dL_firstFreeDay_6 : decode cL_firstFreeDay 6 = .ok (.invokevirtual 61, 3) := by decide +kernel
theorem dL_firstFreeDay_9 : decode cL_firstFreeDay 9 = .ok (.istore_n 2, 1) := by decide +kernel
theorem dL_firstFreeDay_10 : decode cL_firstFreeDay 10 = .ok (.goto 13, 3) := by decide +kernel
theorem dL_firstFreeDay_13 : decode cL_firstFreeDay 13 = .ok (.astore_n 3, 1) := by decide +kernel
theorem dL_firstFreeDay_14 : decode cL_firstFreeDay 14 = .ok (.sipush (-1000), 3) := by decide +kernel
theorem dL_firstFreeDay_17 : decode cL_firstFreeDay 17 = .ok (.ireturn, 1) := by decide +kernel
theorem dL_firstFreeDay_18 : decode cL_firstFreeDay 18 = .ok (.astore_n 3, 1) := by decide +kernel
theorem dL_firstFreeDay_19 : decode cL_firstFreeDay 19 = .ok (.sipush (-1000), 3) := by decide +kernel
theorem dL_firstFreeDay_22 : decode cL_firstFreeDay 22 = .ok (.ireturn, 1) := by decide +kernel
theorem dL_firstFreeDay_23 : decode cL_firstFreeDay 23 = .ok (.iload_n 2, 1) := by decide +kernel
theorem dL_firstFreeDay_24 : decode cL_firstFreeDay 24 = .ok (.ireturn, 1) := by decide +kernel
theorem dL_firstFreePitch_0 : decode cL_firstFreePitch 0 = .ok (.sipush (-1000), 3) := by decide +kernel
theorem dL_firstFreePitch_3 : decode cL_firstFreePitch 3 = .ok (.istore_n 2, 1) := by decide +kernel
theorem dL_firstFreePitch_4 : decode cL_firstFreePitch 4 = .ok (.aload_n 0, 1) := by decide +kernel
theorem dL_firstFreePitch_5 : decode cL_firstFreePitch 5 = .ok (.iload_n 1, 1) := by decide +kernel
theorem dL_firstFreePitch_6 : decode cL_firstFreePitch 6 = .ok (.invokevirtual 64, 3) := by decide +kernel
theorem dL_firstFreePitch_9 : decode cL_firstFreePitch 9 = .ok (.istore_n 2, 1) := by decide +kernel
theorem dL_firstFreePitch_10 : decode cL_firstFreePitch 10 = .ok (.goto 13, 3) := by decide +kernel
theorem dL_firstFreePitch_13 : decode cL_firstFreePitch 13 = .ok (.astore_n 3, 1) := by decide +kernel
theorem dL_firstFreePitch_14 : decode cL_firstFreePitch 14 = .ok (.sipush (-1000), 3) := by decide +kernel
theorem dL_firstFreePitch_17 : decode cL_firstFreePitch 17 = .ok (.ireturn, 1) := by decide +kernel
theorem dL_firstFreePitch_18 : decode cL_firstFreePitch 18 = .ok (.astore_n 3, 1) := by decide +kernel
theorem dL_firstFreePitch_19 : decode cL_firstFreePitch 19 = .ok (.sipush (-1000), 3) := by decide +kernel
theorem dL_firstFreePitch_22 : decode cL_firstFreePitch 22 = .ok (.ireturn, 1) := by decide +kernel
theorem dL_firstFreePitch_23 : decode cL_firstFreePitch 23 = .ok (.iload_n 2, 1) := by decide +kernel
theorem dL_firstFreePitch_24 : decode cL_firstFreePitch 24 = .ok (.ireturn, 1) := by decide +kernel
theorem dL_wantedDish_0 : decode cL_wantedDish 0 = .ok (.sipush (-1000), 3) := by decide +kernel
theorem dL_wantedDish_3 : decode cL_wantedDish 3 = .ok (.istore_n 3, 1) := by decide +kernel
theorem dL_wantedDish_4 : decode cL_wantedDish 4 = .ok (.aload_n 0, 1) := by decide +kernel
theorem dL_wantedDish_5 : decode cL_wantedDish 5 = .ok (.iload_n 1, 1) := by decide +kernel
theorem dL_wantedDish_6 : decode cL_wantedDish 6 = .ok (.iload_n 2, 1) := by decide +kernel
theorem dL_wantedDish_7 : decode cL_wantedDish 7 = .ok (.invokevirtual 67, 3) := by decide +kernel
theorem dL_wantedDish_10 : decode cL_wantedDish 10 = .ok (.istore_n 3, 1) := by decide +kernel
theorem dL_wantedDish_11 : decode cL_wantedDish 11 = .ok (.goto 15, 3) := by decide +kernel
theorem dL_wantedDish_14 : decode cL_wantedDish 14 = .ok (.astore 4, 2) := by decide +kernel
theorem dL_wantedDish_16 : decode cL_wantedDish 16 = .ok (.sipush (-1000), 3) := by decide +kernel
theorem dL_wantedDish_19 : decode cL_wantedDish 19 = .ok (.ireturn, 1) := by decide +kernel
theorem dL_wantedDish_20 : decode cL_wantedDish 20 = .ok (.astore 4, 2) := by decide +kernel
theorem dL_wantedDish_22 : decode cL_wantedDish 22 = .ok (.sipush (-1000), 3) := by decide +kernel
theorem dL_wantedDish_25 : decode cL_wantedDish 25 = .ok (.ireturn, 1) := by decide +kernel
theorem dL_wantedDish_26 : decode cL_wantedDish 26 = .ok (.iload_n 3, 1) := by decide +kernel
theorem dL_wantedDish_27 : decode cL_wantedDish 27 = .ok (.ireturn, 1) := by decide +kernel
theorem dL_truckByCoins_0 : decode cL_truckByCoins 0 = .ok (.sipush (-1000), 3) := by decide +kernel
theorem dL_truckByCoins_3 : decode cL_truckByCoins 3 = .ok (.istore_n 2, 1) := by decide +kernel
theorem dL_truckByCoins_4 : decode cL_truckByCoins 4 = .ok (.aload_n 0, 1) := by decide +kernel
theorem dL_truckByCoins_5 : decode cL_truckByCoins 5 = .ok (.iload_n 1, 1) := by decide +kernel
theorem dL_truckByCoins_6 : decode cL_truckByCoins 6 = .ok (.invokevirtual 70, 3) := by decide +kernel
theorem dL_truckByCoins_9 : decode cL_truckByCoins 9 = .ok (.istore_n 2, 1) := by decide +kernel
theorem dL_truckByCoins_10 : decode cL_truckByCoins 10 = .ok (.goto 8, 3) := by decide +kernel
theorem dL_truckByCoins_13 : decode cL_truckByCoins 13 = .ok (.astore_n 3, 1) := by decide +kernel
theorem dL_truckByCoins_14 : decode cL_truckByCoins 14 = .ok (.sipush (-1000), 3) := by decide +kernel
theorem dL_truckByCoins_17 : decode cL_truckByCoins 17 = .ok (.ireturn, 1) := by decide +kernel
theorem dL_truckByCoins_18 : decode cL_truckByCoins 18 = .ok (.iload_n 2, 1) := by decide +kernel
theorem dL_truckByCoins_19 : decode cL_truckByCoins 19 = .ok (.ireturn, 1) := by decide +kernel
theorem dL_meanCoins_0 : decode cL_meanCoins 0 = .ok (.ldc2_w 73, 3) := by decide +kernel
theorem dL_meanCoins_3 : decode cL_meanCoins 3 = .ok (.dstore_n 1, 1) := by decide +kernel
theorem dL_meanCoins_4 : decode cL_meanCoins 4 = .ok (.aload_n 0, 1) := by decide +kernel
theorem dL_meanCoins_5 : decode cL_meanCoins 5 = .ok (.invokevirtual 75, 3) := by decide +kernel
theorem dL_meanCoins_8 : decode cL_meanCoins 8 = .ok (.dstore_n 1, 1) := by decide +kernel
theorem dL_meanCoins_9 : decode cL_meanCoins 9 = .ok (.goto 8, 3) := by decide +kernel
theorem dL_meanCoins_12 : decode cL_meanCoins 12 = .ok (.astore_n 3, 1) := by decide +kernel
theorem dL_meanCoins_13 : decode cL_meanCoins 13 = .ok (.ldc2_w 73, 3) := by decide +kernel
theorem dL_meanCoins_16 : decode cL_meanCoins 16 = .ok (.dreturn, 1) := by decide +kernel
theorem dL_meanCoins_17 : decode cL_meanCoins 17 = .ok (.dload_n 1, 1) := by decide +kernel
theorem dL_meanCoins_18 : decode cL_meanCoins 18 = .ok (.dreturn, 1) := by decide +kernel
theorem dL_servedShare_0 : decode cL_servedShare 0 = .ok (.ldc 81, 2) := by decide +kernel
theorem dL_servedShare_2 : decode cL_servedShare 2 = .ok (.fstore_n 1, 1) := by decide +kernel
theorem dL_servedShare_3 : decode cL_servedShare 3 = .ok (.aload_n 0, 1) := by decide +kernel
theorem dL_servedShare_4 : decode cL_servedShare 4 = .ok (.invokevirtual 82, 3) := by decide +kernel
theorem dL_servedShare_7 : decode cL_servedShare 7 = .ok (.fstore_n 1, 1) := by decide +kernel
theorem dL_servedShare_8 : decode cL_servedShare 8 = .ok (.goto 7, 3) := by decide +kernel
theorem dL_servedShare_11 : decode cL_servedShare 11 = .ok (.astore_n 2, 1) := by decide +kernel
theorem dL_servedShare_12 : decode cL_servedShare 12 = .ok (.ldc 81, 2) := by decide +kernel
theorem dL_servedShare_14 : decode cL_servedShare 14 = .ok (.freturn, 1) := by decide +kernel
theorem dL_servedShare_15 : decode cL_servedShare 15 = .ok (.fload_n 1, 1) := by decide +kernel
theorem dL_servedShare_16 : decode cL_servedShare 16 = .ok (.freturn, 1) := by decide +kernel
theorem dL_runScript_0 : decode cL_runScript 0 = .ok (.ldc 10, 2) := by decide +kernel
theorem dL_runScript_2 : decode cL_runScript 2 = .ok (.istore_n 1, 1) := by decide +kernel
theorem dL_runScript_3 : decode cL_runScript 3 = .ok (.aload_n 0, 1) := by decide +kernel
theorem dL_runScript_4 : decode cL_runScript 4 = .ok (.invokevirtual 86, 3) := by decide +kernel
theorem dL_runScript_7 : decode cL_runScript 7 = .ok (.istore_n 1, 1) := by decide +kernel
theorem dL_runScript_8 : decode cL_runScript 8 = .ok (.goto 11, 3) := by decide +kernel
theorem dL_runScript_11 : decode cL_runScript 11 = .ok (.astore_n 2, 1) := by decide +kernel
theorem dL_runScript_12 : decode cL_runScript 12 = .ok (.ldc 10, 2) := by decide +kernel
theorem dL_runScript_14 : decode cL_runScript 14 = .ok (.ireturn, 1) := by decide +kernel
theorem dL_runScript_15 : decode cL_runScript 15 = .ok (.astore_n 2, 1) := by decide +kernel
theorem dL_runScript_16 : decode cL_runScript 16 = .ok (.ldc 10, 2) := by decide +kernel
theorem dL_runScript_18 : decode cL_runScript 18 = .ok (.ireturn, 1) := by decide +kernel
theorem dL_runScript_19 : decode cL_runScript 19 = .ok (.iload_n 1, 1) := by decide +kernel
theorem dL_runScript_20 : decode cL_runScript 20 = .ok (.ireturn, 1) := by decide +kernel
theorem dL_failedCommand_0 : decode cL_failedCommand 0 = .ok (.sipush (-1000), 3) := by decide +kernel
theorem dL_failedCommand_3 : decode cL_failedCommand 3 = .ok (.istore_n 1, 1) := by decide +kernel
theorem dL_failedCommand_4 : decode cL_failedCommand 4 = .ok (.aload_n 0, 1) := by decide +kernel
theorem dL_failedCommand_5 : decode cL_failedCommand 5 = .ok (.invokevirtual 89, 3) := by decide +kernel
theorem dL_failedCommand_8 : decode cL_failedCommand 8 = .ok (.istore_n 1, 1) := by decide +kernel
theorem dL_failedCommand_9 : decode cL_failedCommand 9 = .ok (.goto 8, 3) := by decide +kernel
theorem dL_failedCommand_12 : decode cL_failedCommand 12 = .ok (.astore_n 2, 1) := by decide +kernel
theorem dL_failedCommand_13 : decode cL_failedCommand 13 = .ok (.sipush (-1000), 3) := by decide +kernel
theorem dL_failedCommand_16 : decode cL_failedCommand 16 = .ok (.ireturn, 1) := by decide +kernel
theorem dL_failedCommand_17 : decode cL_failedCommand 17 = .ok (.iload_n 1, 1) := by decide +kernel
theorem dL_failedCommand_18 : decode cL_failedCommand 18 = .ok (.ireturn, 1) := by decide +kernel
theorem dL_undo_0 : decode cL_undo 0 = .ok (.ldc 10, 2) := by decide +kernel
theorem dL_undo_2 : decode cL_undo 2 = .ok (.istore_n 1, 1) := by decide +kernel
theorem dL_undo_3 : decode cL_undo 3 = .ok (.aload_n 0, 1) := by decide +kernel
theorem dL_undo_4 : decode cL_undo 4 = .ok (.invokevirtual 92, 3) := by decide +kernel
theorem dL_undo_7 : decode cL_undo 7 = .ok (.istore_n 1, 1) := by decide +kernel
theorem dL_undo_8 : decode cL_undo 8 = .ok (.goto 7, 3) := by decide +kernel
theorem dL_undo_11 : decode cL_undo 11 = .ok (.astore_n 2, 1) := by decide +kernel
theorem dL_undo_12 : decode cL_undo 12 = .ok (.ldc 10, 2) := by decide +kernel
theorem dL_undo_14 : decode cL_undo 14 = .ok (.ireturn, 1) := by decide +kernel
theorem dL_undo_15 : decode cL_undo 15 = .ok (.iload_n 1, 1) := by decide +kernel
theorem dL_undo_16 : decode cL_undo 16 = .ok (.ireturn, 1) := by decide +kernel
theorem dL_restore_0 : decode cL_restore 0 = .ok (.ldc 10, 2) := by decide +kernel
theorem dL_restore_2 : decode cL_restore 2 = .ok (.istore_n 1, 1) := by decide +kernel
theorem dL_restore_3 : decode cL_restore 3 = .ok (.aload_n 0, 1) := by decide +kernel
theorem dL_restore_4 : decode cL_restore 4 = .ok (.invokevirtual 95, 3) := by decide +kernel
theorem dL_restore_7 : decode cL_restore 7 = .ok (.istore_n 1, 1) := by decide +kernel
theorem dL_restore_8 : decode cL_restore 8 = .ok (.goto 7, 3) := by decide +kernel
theorem dL_restore_11 : decode cL_restore 11 = .ok (.astore_n 2, 1) := by decide +kernel
theorem dL_restore_12 : decode cL_restore 12 = .ok (.ldc 10, 2) := by decide +kernel
theorem dL_restore_14 : decode cL_restore 14 = .ok (.ireturn, 1) := by decide +kernel
theorem dL_restore_15 : decode cL_restore 15 = .ok (.iload_n 1, 1) := by decide +kernel
theorem dL_restore_16 : decode cL_restore 16 = .ok (.ireturn, 1) := by decide +kernel
theorem dL_put_0 : decode cL_put 0 = .ok (.aload_n 0, 1) := by decide +kernel
theorem dL_put_1 : decode cL_put 1 = .ok (.iload_n 1, 1) := by decide +kernel
theorem dL_put_2 : decode cL_put 2 = .ok (.invokevirtual 98, 3) := by decide +kernel
theorem dL_put_5 : decode cL_put 5 = .ok (.pop, 1) := by decide +kernel
theorem dL_put_6 : decode cL_put 6 = .ok (.goto 6, 3) := by decide +kernel
theorem dL_put_9 : decode cL_put 9 = .ok (.astore_n 2, 1) := by decide +kernel
theorem dL_put_10 : decode cL_put 10 = .ok (.iconst 0, 1) := by decide +kernel
theorem dL_put_11 : decode cL_put 11 = .ok (.ireturn, 1) := by decide +kernel
theorem dL_put_12 : decode cL_put 12 = .ok (.iconst 1, 1) := by decide +kernel
theorem dL_put_13 : decode cL_put 13 = .ok (.ireturn, 1) := by decide +kernel
theorem dL_write_0 : decode cL_write 0 = .ok (.iconst 0, 1) := by decide +kernel
theorem dL_write_1 : decode cL_write 1 = .ok (.istore_n 2, 1) := by decide +kernel
theorem dL_write_2 : decode cL_write 2 = .ok (.iload_n 2, 1) := by decide +kernel
theorem dL_write_3 : decode cL_write 3 = .ok (.aload_n 1, 1) := by decide +kernel
theorem dL_write_4 : decode cL_write 4 = .ok (.invokevirtual 102, 3) := by decide +kernel
theorem dL_write_7 : decode cL_write 7 = .ok (.if_icmp .ge 19, 3) := by decide +kernel
theorem dL_write_10 : decode cL_write 10 = .ok (.aload_n 0, 1) := by decide +kernel
theorem dL_write_11 : decode cL_write 11 = .ok (.aload_n 1, 1) := by decide +kernel
theorem dL_write_12 : decode cL_write 12 = .ok (.iload_n 2, 1) := by decide +kernel
theorem dL_write_13 : decode cL_write 13 = .ok (.invokevirtual 107, 3) := by decide +kernel
theorem dL_write_16 : decode cL_write 16 = .ok (.invokestatic 111, 3) := by decide +kernel
theorem dL_write_19 : decode cL_write 19 = .ok (.pop, 1) := by decide +kernel
theorem dL_write_20 : decode cL_write 20 = .ok (.iinc 2 1, 3) := by decide +kernel
theorem dL_write_23 : decode cL_write 23 = .ok (.goto (-21), 3) := by decide +kernel
theorem dL_write_26 : decode cL_write 26 = .ok (.aload_n 0, 1) := by decide +kernel
theorem dL_write_27 : decode cL_write 27 = .ok (.areturn, 1) := by decide +kernel
theorem dL_act_0 : decode cL_act 0 = .ok (.iload_n 1, 1) := by decide +kernel
theorem dL_act_1 : decode cL_act 1 = .ok (.iconst 4, 1) := by decide +kernel
theorem dL_act_2 : decode cL_act 2 = .ok (.ishr, 1) := by decide +kernel
theorem dL_act_3 : decode cL_act 3 = .ok (.ldc 7, 2) := by decide +kernel
theorem dL_act_5 : decode cL_act 5 = .ok (.iand, 1) := by decide +kernel
theorem dL_act_6 : decode cL_act 6 = .ok (.istore_n 2, 1) := by decide +kernel
theorem dL_act_7 : decode cL_act 7 = .ok (.iload_n 2, 1) := by decide +kernel
theorem dL_act_8 : decode cL_act 8 = .ok (.iconst 4, 1) := by decide +kernel
theorem dL_act_9 : decode cL_act 9 = .ok (.irem, 1) := by decide +kernel
theorem dL_act_10 : decode cL_act 10 = .ok (.istore_n 3, 1) := by decide +kernel
theorem dL_act_11 : decode cL_act 11 = .ok (.iload_n 2, 1) := by decide +kernel
theorem dL_act_12 : decode cL_act 12 = .ok (.sipush 512, 3) := by decide +kernel
theorem dL_act_15 : decode cL_act 15 = .ok (.iand, 1) := by decide +kernel
theorem dL_act_16 : decode cL_act 16 = .ok (.ifCond .ne 13, 3) := by decide +kernel
theorem dL_act_19 : decode cL_act 19 = .ok (.aload_n 0, 1) := by decide +kernel
theorem dL_act_20 : decode cL_act 20 = .ok (.invokevirtual 115, 3) := by decide +kernel
theorem dL_act_23 : decode cL_act 23 = .ok (.bipush 7, 2) := by decide +kernel
theorem dL_act_25 : decode cL_act 25 = .ok (.irem, 1) := by decide +kernel
theorem dL_act_26 : decode cL_act 26 = .ok (.goto 9, 3) := by decide +kernel
theorem dL_act_29 : decode cL_act 29 = .ok (.iload_n 2, 1) := by decide +kernel
theorem dL_act_30 : decode cL_act 30 = .ok (.iconst 3, 1) := by decide +kernel
theorem dL_act_31 : decode cL_act 31 = .ok (.ishr, 1) := by decide +kernel
theorem dL_act_32 : decode cL_act 32 = .ok (.bipush 8, 2) := by decide +kernel
theorem dL_act_34 : decode cL_act 34 = .ok (.irem, 1) := by decide +kernel
theorem dL_act_35 : decode cL_act 35 = .ok (.istore 4, 2) := by decide +kernel
theorem dL_act_37 : decode cL_act 37 = .ok (.iload_n 1, 1) := by decide +kernel
theorem dL_act_38 : decode cL_act 38 = .ok (.bipush 15, 2) := by decide +kernel
theorem dL_act_40 : decode cL_act 40 = .ok (.iand, 1) := by decide +kernel
theorem dL_act_41 : decode cL_act 41 = .ok (.tableswitch 221 0 14 #[75, 105, 105, 105, 122, 130, 155, 155, 169, 182, 192, 192, 192, 203, 203], 75) := by decide +kernel
theorem dL_act_116 : decode cL_act 116 = .ok (.iload_n 2, 1) := by decide +kernel
theorem dL_act_117 : decode cL_act 117 = .ok (.bipush 64, 2) := by decide +kernel
theorem dL_act_119 : decode cL_act 119 = .ok (.iand, 1) := by decide +kernel
theorem dL_act_120 : decode cL_act 120 = .ok (.ifCond .ne 10, 3) := by decide +kernel
theorem dL_act_123 : decode cL_act 123 = .ok (.aload_n 0, 1) := by decide +kernel
theorem dL_act_124 : decode cL_act 124 = .ok (.invokestatic 118, 3) := by decide +kernel
theorem dL_act_127 : decode cL_act 127 = .ok (.goto 18, 3) := by decide +kernel
theorem dL_act_130 : decode cL_act 130 = .ok (.aload_n 0, 1) := by decide +kernel
theorem dL_act_131 : decode cL_act 131 = .ok (.iload_n 2, 1) := by decide +kernel
theorem dL_act_132 : decode cL_act 132 = .ok (.iconst 2, 1) := by decide +kernel
theorem dL_act_133 : decode cL_act 133 = .ok (.ishr, 1) := by decide +kernel
theorem dL_act_134 : decode cL_act 134 = .ok (.iconst 5, 1) := by decide +kernel
theorem dL_act_135 : decode cL_act 135 = .ok (.irem, 1) := by decide +kernel
theorem dL_act_136 : decode cL_act 136 = .ok (.iload_n 2, 1) := by decide +kernel
theorem dL_act_137 : decode cL_act 137 = .ok (.iconst 4, 1) := by decide +kernel
theorem dL_act_138 : decode cL_act 138 = .ok (.ishr, 1) := by decide +kernel
theorem dL_act_139 : decode cL_act 139 = .ok (.bipush 22, 2) := by decide +kernel
theorem dL_act_141 : decode cL_act 141 = .ok (.irem, 1) := by decide +kernel
theorem dL_act_142 : decode cL_act 142 = .ok (.invokestatic 121, 3) := by decide +kernel
theorem dL_act_145 : decode cL_act 145 = .ok (.ireturn, 1) := by decide +kernel
theorem dL_act_146 : decode cL_act 146 = .ok (.aload_n 0, 1) := by decide +kernel
theorem dL_act_147 : decode cL_act 147 = .ok (.iload_n 3, 1) := by decide +kernel
theorem dL_act_148 : decode cL_act 148 = .ok (.iload_n 2, 1) := by decide +kernel
theorem dL_act_149 : decode cL_act 149 = .ok (.iconst 2, 1) := by decide +kernel
theorem dL_act_150 : decode cL_act 150 = .ok (.ishr, 1) := by decide +kernel
theorem dL_act_151 : decode cL_act 151 = .ok (.iconst 4, 1) := by decide +kernel
theorem dL_act_152 : decode cL_act 152 = .ok (.irem, 1) := by decide +kernel
theorem dL_act_153 : decode cL_act 153 = .ok (.iload_n 2, 1) := by decide +kernel
theorem dL_act_154 : decode cL_act 154 = .ok (.iconst 4, 1) := by decide +kernel
theorem dL_act_155 : decode cL_act 155 = .ok (.ishr, 1) := by decide +kernel
theorem dL_act_156 : decode cL_act 156 = .ok (.bipush 30, 2) := by decide +kernel
theorem dL_act_158 : decode cL_act 158 = .ok (.irem, 1) := by decide +kernel
theorem dL_act_159 : decode cL_act 159 = .ok (.invokestatic 124, 3) := by decide +kernel
theorem dL_act_162 : decode cL_act 162 = .ok (.ireturn, 1) := by decide +kernel
theorem dL_act_163 : decode cL_act 163 = .ok (.aload_n 0, 1) := by decide +kernel
theorem dL_act_164 : decode cL_act 164 = .ok (.iload_n 3, 1) := by decide +kernel
theorem dL_act_165 : decode cL_act 165 = .ok (.iload 4, 2) := by decide +kernel
theorem dL_act_167 : decode cL_act 167 = .ok (.invokestatic 127, 3) := by decide +kernel
theorem dL_act_170 : decode cL_act 170 = .ok (.ireturn, 1) := by decide +kernel
theorem dL_act_171 : decode cL_act 171 = .ok (.iload_n 2, 1) := by decide +kernel
theorem dL_act_172 : decode cL_act 172 = .ok (.bipush 64, 2) := by decide +kernel
theorem dL_act_174 : decode cL_act 174 = .ok (.iand, 1) := by decide +kernel
theorem dL_act_175 : decode cL_act 175 = .ok (.ifCond .ne 13, 3) := by decide +kernel
theorem dL_act_178 : decode cL_act 178 = .ok (.aload_n 0, 1) := by decide +kernel
theorem dL_act_179 : decode cL_act 179 = .ok (.iload_n 3, 1) := by decide +kernel
theorem dL_act_180 : decode cL_act 180 = .ok (.iload 4, 2) := by decide +kernel
theorem dL_act_182 : decode cL_act 182 = .ok (.invokestatic 129, 3) := by decide +kernel
theorem dL_act_185 : decode cL_act 185 = .ok (.goto 10, 3) := by decide +kernel
theorem dL_act_188 : decode cL_act 188 = .ok (.aload_n 0, 1) := by decide +kernel
theorem dL_act_189 : decode cL_act 189 = .ok (.iload_n 3, 1) := by decide +kernel
theorem dL_act_190 : decode cL_act 190 = .ok (.iload 4, 2) := by decide +kernel
theorem dL_act_192 : decode cL_act 192 = .ok (.invokestatic 127, 3) := by decide +kernel
theorem dL_act_195 : decode cL_act 195 = .ok (.ireturn, 1) := by decide +kernel
theorem dL_act_196 : decode cL_act 196 = .ok (.aload_n 0, 1) := by decide +kernel
theorem dL_act_197 : decode cL_act 197 = .ok (.iload_n 3, 1) := by decide +kernel
theorem dL_act_198 : decode cL_act 198 = .ok (.iload_n 2, 1) := by decide +kernel
theorem dL_act_199 : decode cL_act 199 = .ok (.iconst 4, 1) := by decide +kernel
theorem dL_act_200 : decode cL_act 200 = .ok (.ishr, 1) := by decide +kernel
theorem dL_act_201 : decode cL_act 201 = .ok (.bipush 6, 2) := by decide +kernel
theorem dL_act_203 : decode cL_act 203 = .ok (.irem, 1) := by decide +kernel
theorem dL_act_204 : decode cL_act 204 = .ok (.iload 4, 2) := by decide +kernel
theorem dL_act_206 : decode cL_act 206 = .ok (.invokestatic 131, 3) := by decide +kernel
theorem dL_act_209 : decode cL_act 209 = .ok (.ireturn, 1) := by decide +kernel
theorem dL_act_210 : decode cL_act 210 = .ok (.aload_n 0, 1) := by decide +kernel
theorem dL_act_211 : decode cL_act 211 = .ok (.iload_n 2, 1) := by decide +kernel
theorem dL_act_212 : decode cL_act 212 = .ok (.iconst 4, 1) := by decide +kernel
theorem dL_act_213 : decode cL_act 213 = .ok (.ishr, 1) := by decide +kernel
theorem dL_act_214 : decode cL_act 214 = .ok (.bipush 6, 2) := by decide +kernel
theorem dL_act_216 : decode cL_act 216 = .ok (.irem, 1) := by decide +kernel
theorem dL_act_217 : decode cL_act 217 = .ok (.iload 4, 2) := by decide +kernel
theorem dL_act_219 : decode cL_act 219 = .ok (.invokestatic 133, 3) := by decide +kernel
theorem dL_act_222 : decode cL_act 222 = .ok (.ireturn, 1) := by decide +kernel
theorem dL_act_223 : decode cL_act 223 = .ok (.aload_n 0, 1) := by decide +kernel
theorem dL_act_224 : decode cL_act 224 = .ok (.iload_n 2, 1) := by decide +kernel
theorem dL_act_225 : decode cL_act 225 = .ok (.iconst 2, 1) := by decide +kernel
theorem dL_act_226 : decode cL_act 226 = .ok (.ishr, 1) := by decide +kernel
theorem dL_act_227 : decode cL_act 227 = .ok (.iconst 5, 1) := by decide +kernel
theorem dL_act_228 : decode cL_act 228 = .ok (.irem, 1) := by decide +kernel
theorem dL_act_229 : decode cL_act 229 = .ok (.invokestatic 135, 3) := by decide +kernel
theorem dL_act_232 : decode cL_act 232 = .ok (.ireturn, 1) := by decide +kernel
theorem dL_act_233 : decode cL_act 233 = .ok (.aload_n 0, 1) := by decide +kernel
theorem dL_act_234 : decode cL_act 234 = .ok (.iload_n 2, 1) := by decide +kernel
theorem dL_act_235 : decode cL_act 235 = .ok (.iconst 2, 1) := by decide +kernel
theorem dL_act_236 : decode cL_act 236 = .ok (.ishr, 1) := by decide +kernel
theorem dL_act_237 : decode cL_act 237 = .ok (.bipush 25, 2) := by decide +kernel
theorem dL_act_239 : decode cL_act 239 = .ok (.irem, 1) := by decide +kernel
theorem dL_act_240 : decode cL_act 240 = .ok (.invokestatic 138, 3) := by decide +kernel
theorem dL_act_243 : decode cL_act 243 = .ok (.ireturn, 1) := by decide +kernel
theorem dL_act_244 : decode cL_act 244 = .ok (.aload_n 0, 1) := by decide +kernel
theorem dL_act_245 : decode cL_act 245 = .ok (.getstatic 140, 3) := by decide +kernel
theorem dL_act_248 : decode cL_act 248 = .ok (.iload_n 2, 1) := by decide +kernel
theorem dL_act_249 : decode cL_act 249 = .ok (.getstatic 140, 3) := by decide +kernel
theorem dL_act_252 : decode cL_act 252 = .ok (.arraylength, 1) := by decide +kernel
theorem dL_act_253 : decode cL_act 253 = .ok (.irem, 1) := by decide +kernel
theorem dL_act_254 : decode cL_act 254 = .ok (.aaload, 1) := by decide +kernel
theorem dL_act_255 : decode cL_act 255 = .ok (.invokestatic 144, 3) := by decide +kernel
theorem dL_act_258 : decode cL_act 258 = .ok (.invokestatic 148, 3) := by decide +kernel
theorem dL_act_261 : decode cL_act 261 = .ok (.ireturn, 1) := by decide +kernel
theorem dL_act_262 : decode cL_act 262 = .ok (.iload_n 2, 1) := by decide +kernel
theorem dL_act_263 : decode cL_act 263 = .ok (.iconst 3, 1) := by decide +kernel
theorem dL_act_264 : decode cL_act 264 = .ok (.iand, 1) := by decide +kernel
theorem dL_act_265 : decode cL_act 265 = .ok (.ifCond .ne 10, 3) := by decide +kernel
theorem dL_act_268 : decode cL_act 268 = .ok (.aload_n 0, 1) := by decide +kernel
theorem dL_act_269 : decode cL_act 269 = .ok (.invokevirtual 150, 3) := by decide +kernel
theorem dL_act_272 : decode cL_act 272 = .ok (.goto 21, 3) := by decide +kernel
theorem dL_act_275 : decode cL_act 275 = .ok (.iload_n 2, 1) := by decide +kernel
theorem dL_act_276 : decode cL_act 276 = .ok (.iconst 3, 1) := by decide +kernel
theorem dL_act_277 : decode cL_act 277 = .ok (.iand, 1) := by decide +kernel
theorem dL_act_278 : decode cL_act 278 = .ok (.iconst 1, 1) := by decide +kernel
theorem dL_act_279 : decode cL_act 279 = .ok (.if_icmp .ne 10, 3) := by decide +kernel
theorem dL_act_282 : decode cL_act 282 = .ok (.aload_n 0, 1) := by decide +kernel
theorem dL_act_283 : decode cL_act 283 = .ok (.invokestatic 153, 3) := by decide +kernel
theorem dL_act_286 : decode cL_act 286 = .ok (.goto 7, 3) := by decide +kernel
theorem dL_act_289 : decode cL_act 289 = .ok (.aload_n 0, 1) := by decide +kernel
theorem dL_act_290 : decode cL_act 290 = .ok (.invokestatic 155, 3) := by decide +kernel
theorem dL_act_293 : decode cL_act 293 = .ok (.ireturn, 1) := by decide +kernel
theorem dL_digest_0 : decode cL_digest 0 = .ok (.ldc2_w 157, 3) := by decide +kernel
theorem dL_digest_3 : decode cL_digest 3 = .ok (.aload_n 0, 1) := by decide +kernel
theorem dL_digest_4 : decode cL_digest 4 = .ok (.invokevirtual 115, 3) := by decide +kernel
theorem dL_digest_7 : decode cL_digest 7 = .ok (.i2l, 1) := by decide +kernel
theorem dL_digest_8 : decode cL_digest 8 = .ok (.lmul, 1) := by decide +kernel
theorem dL_digest_9 : decode cL_digest 9 = .ok (.ldc2_w 159, 3) := by decide +kernel
theorem dL_digest_12 : decode cL_digest 12 = .ok (.aload_n 0, 1) := by decide +kernel
theorem dL_digest_13 : decode cL_digest 13 = .ok (.invokevirtual 161, 3) := by decide +kernel
theorem dL_digest_16 : decode cL_digest 16 = .ok (.i2l, 1) := by decide +kernel
theorem dL_digest_17 : decode cL_digest 17 = .ok (.lmul, 1) := by decide +kernel
theorem dL_digest_18 : decode cL_digest 18 = .ok (.ladd, 1) := by decide +kernel
theorem dL_digest_19 : decode cL_digest 19 = .ok (.ldc2_w 164, 3) := by decide +kernel
theorem dL_digest_22 : decode cL_digest 22 = .ok (.aload_n 0, 1) := by decide +kernel
theorem dL_digest_23 : decode cL_digest 23 = .ok (.invokevirtual 166, 3) := by decide +kernel
theorem dL_digest_26 : decode cL_digest 26 = .ok (.i2l, 1) := by decide +kernel
theorem dL_digest_27 : decode cL_digest 27 = .ok (.lmul, 1) := by decide +kernel
theorem dL_digest_28 : decode cL_digest 28 = .ok (.ladd, 1) := by decide +kernel
theorem dL_digest_29 : decode cL_digest 29 = .ok (.ldc2_w 169, 3) := by decide +kernel
theorem dL_digest_32 : decode cL_digest 32 = .ok (.aload_n 0, 1) := by decide +kernel
theorem dL_digest_33 : decode cL_digest 33 = .ok (.invokevirtual 171, 3) := by decide +kernel
theorem dL_digest_36 : decode cL_digest 36 = .ok (.i2l, 1) := by decide +kernel
theorem dL_digest_37 : decode cL_digest 37 = .ok (.lmul, 1) := by decide +kernel
theorem dL_digest_38 : decode cL_digest 38 = .ok (.ladd, 1) := by decide +kernel
theorem dL_digest_39 : decode cL_digest 39 = .ok (.ldc2_w 174, 3) := by decide +kernel
theorem dL_digest_42 : decode cL_digest 42 = .ok (.aload_n 0, 1) := by decide +kernel
theorem dL_digest_43 : decode cL_digest 43 = .ok (.invokevirtual 176, 3) := by decide +kernel
theorem dL_digest_46 : decode cL_digest 46 = .ok (.i2l, 1) := by decide +kernel
theorem dL_digest_47 : decode cL_digest 47 = .ok (.lmul, 1) := by decide +kernel
theorem dL_digest_48 : decode cL_digest 48 = .ok (.ladd, 1) := by decide +kernel
theorem dL_digest_49 : decode cL_digest 49 = .ok (.ldc2_w 179, 3) := by decide +kernel
theorem dL_digest_52 : decode cL_digest 52 = .ok (.aload_n 0, 1) := by decide +kernel
theorem dL_digest_53 : decode cL_digest 53 = .ok (.invokevirtual 181, 3) := by decide +kernel
theorem dL_digest_56 : decode cL_digest 56 = .ok (.i2l, 1) := by decide +kernel
theorem dL_digest_57 : decode cL_digest 57 = .ok (.lmul, 1) := by decide +kernel
theorem dL_digest_58 : decode cL_digest 58 = .ok (.ladd, 1) := by decide +kernel
theorem dL_digest_59 : decode cL_digest 59 = .ok (.ldc2_w 184, 3) := by decide +kernel
theorem dL_digest_62 : decode cL_digest 62 = .ok (.aload_n 0, 1) := by decide +kernel
theorem dL_digest_63 : decode cL_digest 63 = .ok (.invokevirtual 186, 3) := by decide +kernel
theorem dL_digest_66 : decode cL_digest 66 = .ok (.i2l, 1) := by decide +kernel
theorem dL_digest_67 : decode cL_digest 67 = .ok (.lmul, 1) := by decide +kernel
theorem dL_digest_68 : decode cL_digest 68 = .ok (.ladd, 1) := by decide +kernel
theorem dL_digest_69 : decode cL_digest 69 = .ok (.aload_n 0, 1) := by decide +kernel
theorem dL_digest_70 : decode cL_digest 70 = .ok (.invokevirtual 189, 3) := by decide +kernel
theorem dL_digest_73 : decode cL_digest 73 = .ok (.i2l, 1) := by decide +kernel
theorem dL_digest_74 : decode cL_digest 74 = .ok (.ladd, 1) := by decide +kernel
theorem dL_digest_75 : decode cL_digest 75 = .ok (.lstore_n 1, 1) := by decide +kernel
theorem dL_digest_76 : decode cL_digest 76 = .ok (.iconst 0, 1) := by decide +kernel
theorem dL_digest_77 : decode cL_digest 77 = .ok (.istore_n 3, 1) := by decide +kernel
theorem dL_digest_78 : decode cL_digest 78 = .ok (.iload_n 3, 1) := by decide +kernel
theorem dL_digest_79 : decode cL_digest 79 = .ok (.iconst 4, 1) := by decide +kernel
theorem dL_digest_80 : decode cL_digest 80 = .ok (.if_icmp .ge 33, 3) := by decide +kernel
theorem dL_digest_83 : decode cL_digest 83 = .ok (.ldc2_w 192, 3) := by decide +kernel
theorem dL_digest_86 : decode cL_digest 86 = .ok (.ldc2_w 192, 3) := by decide +kernel
theorem dL_digest_89 : decode cL_digest 89 = .ok (.lload_n 1, 1) := by decide +kernel
theorem dL_digest_90 : decode cL_digest 90 = .ok (.lmul, 1) := by decide +kernel
theorem dL_digest_91 : decode cL_digest 91 = .ok (.aload_n 0, 1) := by decide +kernel
theorem dL_digest_92 : decode cL_digest 92 = .ok (.iload_n 3, 1) := by decide +kernel
theorem dL_digest_93 : decode cL_digest 93 = .ok (.invokevirtual 194, 3) := by decide +kernel
theorem dL_digest_96 : decode cL_digest 96 = .ok (.i2l, 1) := by decide +kernel
theorem dL_digest_97 : decode cL_digest 97 = .ok (.ladd, 1) := by decide +kernel
theorem dL_digest_98 : decode cL_digest 98 = .ok (.lmul, 1) := by decide +kernel
theorem dL_digest_99 : decode cL_digest 99 = .ok (.aload_n 0, 1) := by decide +kernel
theorem dL_digest_100 : decode cL_digest 100 = .ok (.iload_n 3, 1) := by decide +kernel
theorem dL_digest_101 : decode cL_digest 101 = .ok (.invokevirtual 197, 3) := by decide +kernel
theorem dL_digest_104 : decode cL_digest 104 = .ok (.i2l, 1) := by decide +kernel
theorem dL_digest_105 : decode cL_digest 105 = .ok (.ladd, 1) := by decide +kernel
theorem dL_digest_106 : decode cL_digest 106 = .ok (.lstore_n 1, 1) := by decide +kernel
theorem dL_digest_107 : decode cL_digest 107 = .ok (.iinc 3 1, 3) := by decide +kernel
theorem dL_digest_110 : decode cL_digest 110 = .ok (.goto (-32), 3) := by decide +kernel
theorem dL_digest_113 : decode cL_digest 113 = .ok (.iconst 0, 1) := by decide +kernel
theorem dL_digest_114 : decode cL_digest 114 = .ok (.istore_n 3, 1) := by decide +kernel
theorem dL_digest_115 : decode cL_digest 115 = .ok (.iload_n 3, 1) := by decide +kernel
theorem dL_digest_116 : decode cL_digest 116 = .ok (.bipush 7, 2) := by decide +kernel
theorem dL_digest_118 : decode cL_digest 118 = .ok (.if_icmp .ge 39, 3) := by decide +kernel
theorem dL_digest_121 : decode cL_digest 121 = .ok (.iconst 0, 1) := by decide +kernel
theorem dL_digest_122 : decode cL_digest 122 = .ok (.istore 4, 2) := by decide +kernel
theorem dL_digest_124 : decode cL_digest 124 = .ok (.iload 4, 2) := by decide +kernel
theorem dL_digest_126 : decode cL_digest 126 = .ok (.iconst 5, 1) := by decide +kernel
theorem dL_digest_127 : decode cL_digest 127 = .ok (.if_icmp .ge 24, 3) := by decide +kernel
theorem dL_digest_130 : decode cL_digest 130 = .ok (.ldc2_w 192, 3) := by decide +kernel
theorem dL_digest_133 : decode cL_digest 133 = .ok (.lload_n 1, 1) := by decide +kernel
theorem dL_digest_134 : decode cL_digest 134 = .ok (.lmul, 1) := by decide +kernel
theorem dL_digest_135 : decode cL_digest 135 = .ok (.aload_n 0, 1) := by decide +kernel
theorem dL_digest_136 : decode cL_digest 136 = .ok (.iload 4, 2) := by decide +kernel
theorem dL_digest_138 : decode cL_digest 138 = .ok (.iload_n 3, 1) := by decide +kernel
theorem dL_digest_139 : decode cL_digest 139 = .ok (.invokestatic 200, 3) := by decide +kernel
theorem dL_digest_142 : decode cL_digest 142 = .ok (.i2l, 1) := by decide +kernel
theorem dL_digest_143 : decode cL_digest 143 = .ok (.ladd, 1) := by decide +kernel
theorem dL_digest_144 : decode cL_digest 144 = .ok (.lstore_n 1, 1) := by decide +kernel
theorem dL_digest_145 : decode cL_digest 145 = .ok (.iinc 4 1, 3) := by decide +kernel
theorem dL_digest_148 : decode cL_digest 148 = .ok (.goto (-24), 3) := by decide +kernel
theorem dL_digest_151 : decode cL_digest 151 = .ok (.iinc 3 1, 3) := by decide +kernel
theorem dL_digest_154 : decode cL_digest 154 = .ok (.goto (-39), 3) := by decide +kernel
