theorem dX6_init_0 : decode cX6_init 0 = .ok (.aload_n 0, 1) := by decide +kernel
theorem dX6_init_1 : decode cX6_init 1 = .ok (.invokespecial 3, 3) := by decide +kernel
theorem dX6_init_4 : decode cX6_init 4 = .ok (.aload_n 0, 1) := by decide +kernel
theorem dX6_init_5 : decode cX6_init 5 = .ok (.iconst 4, 1) := by decide +kernel
theorem dX6_init_6 : decode cX6_init 6 = .ok (.newarray .int, 2) := by decide +kernel
theorem dX6_init_8 : decode cX6_init 8 = .ok (.putfield 9, 3) := by decide +kernel
theorem dX6_init_11 : decode cX6_init 11 = .ok (.aload_n 0, 1) := by decide +kernel
theorem dX6_init_12 : decode cX6_init 12 = .ok (.bipush 9, 2) := by decide +kernel
theorem dX6_init_14 : decode cX6_init 14 = .ok (.newarray .int, 2) := by decide +kernel
theorem dX6_init_16 : decode cX6_init 16 = .ok (.putfield 15, 3) := by decide +kernel
theorem dX6_init_19 : decode cX6_init 19 = .ok (.return_, 1) := by decide +kernel
theorem dX6_copyFrom_0 : decode cX6_copyFrom 0 = .ok (.aload_n 1, 1) := by decide +kernel
theorem dX6_copyFrom_1 : decode cX6_copyFrom 1 = .ok (.getfield 9, 3) := by decide +kernel
theorem dX6_copyFrom_4 : decode cX6_copyFrom 4 = .ok (.iconst 0, 1) := by decide +kernel
theorem dX6_copyFrom_5 : decode cX6_copyFrom 5 = .ok (.aload_n 0, 1) := by decide +kernel
theorem dX6_copyFrom_6 : decode cX6_copyFrom 6 = .ok (.getfield 9, 3) := by decide +kernel
theorem dX6_copyFrom_9 : decode cX6_copyFrom 9 = .ok (.iconst 0, 1) := by decide +kernel
theorem dX6_copyFrom_10 : decode cX6_copyFrom 10 = .ok (.iconst 4, 1) := by decide +kernel
theorem dX6_copyFrom_11 : decode cX6_copyFrom 11 = .ok (.invokestatic 18, 3) := by decide +kernel
theorem dX6_copyFrom_14 : decode cX6_copyFrom 14 = .ok (.aload_n 1, 1) := by decide +kernel
theorem dX6_copyFrom_15 : decode cX6_copyFrom 15 = .ok (.getfield 15, 3) := by decide +kernel
theorem dX6_copyFrom_18 : decode cX6_copyFrom 18 = .ok (.iconst 0, 1) := by decide +kernel
theorem dX6_copyFrom_19 : decode cX6_copyFrom 19 = .ok (.aload_n 0, 1) := by decide +kernel
theorem dX6_copyFrom_20 : decode cX6_copyFrom 20 = .ok (.getfield 15, 3) := by decide +kernel
theorem dX6_copyFrom_23 : decode cX6_copyFrom 23 = .ok (.iconst 0, 1) := by decide +kernel
theorem dX6_copyFrom_24 : decode cX6_copyFrom 24 = .ok (.bipush 9, 2) := by decide +kernel
theorem dX6_copyFrom_26 : decode cX6_copyFrom 26 = .ok (.invokestatic 18, 3) := by decide +kernel
theorem dX6_copyFrom_29 : decode cX6_copyFrom 29 = .ok (.aload_n 0, 1) := by decide +kernel
theorem dX6_copyFrom_30 : decode cX6_copyFrom 30 = .ok (.aload_n 1, 1) := by decide +kernel
theorem dX6_copyFrom_31 : decode cX6_copyFrom 31 = .ok (.getfield 24, 3) := by decide +kernel
theorem dX6_copyFrom_34 : decode cX6_copyFrom 34 = .ok (.putfield 24, 3) := by decide +kernel
theorem dX6_copyFrom_37 : decode cX6_copyFrom 37 = .ok (.aload_n 0, 1) := by decide +kernel
theorem dX6_copyFrom_38 : decode cX6_copyFrom 38 = .ok (.aload_n 1, 1) := by decide +kernel
theorem dX6_copyFrom_39 : decode cX6_copyFrom 39 = .ok (.getfield 28, 3) := by decide +kernel
theorem dX6_copyFrom_42 : decode cX6_copyFrom 42 = .ok (.putfield 28, 3) := by decide +kernel
theorem dX6_copyFrom_45 : decode cX6_copyFrom 45 = .ok (.aload_n 0, 1) := by decide +kernel
theorem dX6_copyFrom_46 : decode cX6_copyFrom 46 = .ok (.aload_n 1, 1) := by decide +kernel
theorem dX6_copyFrom_47 : decode cX6_copyFrom 47 = .ok (.getfield 31, 3) := by decide +kernel
theorem dX6_copyFrom_50 : decode cX6_copyFrom 50 = .ok (.putfield 31, 3) := by decide +kernel
theorem dX6_copyFrom_53 : decode cX6_copyFrom 53 = .ok (.aload_n 0, 1) := by decide +kernel
theorem dX6_copyFrom_54 : decode cX6_copyFrom 54 = .ok (.aload_n 1, 1) := by decide +kernel
theorem dX6_copyFrom_55 : decode cX6_copyFrom 55 = .ok (.getfield 34, 3) := by decide +kernel
theorem dX6_copyFrom_58 : decode cX6_copyFrom 58 = .ok (.putfield 34, 3) := by decide +kernel
theorem dX6_copyFrom_61 : decode cX6_copyFrom 61 = .ok (.return_, 1) := by decide +kernel
theorem dX6_portionsOf_0 : decode cX6_portionsOf 0 = .ok (.iload_n 1, 1) := by decide +kernel
theorem dX6_portionsOf_1 : decode cX6_portionsOf 1 = .ok (.invokestatic 37, 3) := by decide +kernel
theorem dX6_portionsOf_4 : decode cX6_portionsOf 4 = .ok (.ifCond .eq 12, 3) := by decide +kernel
theorem dX6_portionsOf_7 : decode cX6_portionsOf 7 = .ok (.aload_n 0, 1) := by decide +kernel
theorem dX6_portionsOf_8 : decode cX6_portionsOf 8 = .ok (.getfield 9, 3) := by decide +kernel
theorem dX6_portionsOf_11 : decode cX6_portionsOf 11 = .ok (.iload_n 1, 1) := by decide +kernel
theorem dX6_portionsOf_12 : decode cX6_portionsOf 12 = .ok (.iaload, 1) := by decide +kernel
theorem dX6_portionsOf_13 : decode cX6_portionsOf 13 = .ok (.goto 4, 3) := by decide +kernel
theorem dX6_portionsOf_16 : decode cX6_portionsOf 16 = .ok (.iconst 0, 1) := by decide +kernel
theorem dX6_portionsOf_17 : decode cX6_portionsOf 17 = .ok (.ireturn, 1) := by decide +kernel
theorem dX6_sumOfPortions_0 : decode cX6_sumOfPortions 0 = .ok (.iconst 0, 1) := by decide +kernel
theorem dX6_sumOfPortions_1 : decode cX6_sumOfPortions 1 = .ok (.istore_n 1, 1) := by decide +kernel
theorem dX6_sumOfPortions_2 : decode cX6_sumOfPortions 2 = .ok (.iconst 0, 1) := by decide +kernel
theorem dX6_sumOfPortions_3 : decode cX6_sumOfPortions 3 = .ok (.istore_n 2, 1) := by decide +kernel
theorem dX6_sumOfPortions_4 : decode cX6_sumOfPortions 4 = .ok (.iload_n 2, 1) := by decide +kernel
theorem dX6_sumOfPortions_5 : decode cX6_sumOfPortions 5 = .ok (.iconst 4, 1) := by decide +kernel
theorem dX6_sumOfPortions_6 : decode cX6_sumOfPortions 6 = .ok (.if_icmp .ge 18, 3) := by decide +kernel
theorem dX6_sumOfPortions_9 : decode cX6_sumOfPortions 9 = .ok (.iload_n 1, 1) := by decide +kernel
theorem dX6_sumOfPortions_10 : decode cX6_sumOfPortions 10 = .ok (.aload_n 0, 1) := by decide +kernel
theorem dX6_sumOfPortions_11 : decode cX6_sumOfPortions 11 = .ok (.getfield 9, 3) := by decide +kernel
theorem dX6_sumOfPortions_14 : decode cX6_sumOfPortions 14 = .ok (.iload_n 2, 1) := by decide +kernel
theorem dX6_sumOfPortions_15 : decode cX6_sumOfPortions 15 = .ok (.iaload, 1) := by decide +kernel
theorem dX6_sumOfPortions_16 : decode cX6_sumOfPortions 16 = .ok (.iadd, 1) := by decide +kernel
theorem dX6_sumOfPortions_17 : decode cX6_sumOfPortions 17 = .ok (.istore_n 1, 1) := by decide +kernel
theorem dX6_sumOfPortions_18 : decode cX6_sumOfPortions 18 = .ok (.iinc 2 1, 3) := by decide +kernel
theorem dX6_sumOfPortions_21 : decode cX6_sumOfPortions 21 = .ok (.goto (-17), 3) := by decide +kernel
theorem dX6_sumOfPortions_24 : decode cX6_sumOfPortions 24 = .ok (.iload_n 1, 1) := by decide +kernel
theorem dX6_sumOfPortions_25 : decode cX6_sumOfPortions 25 = .ok (.ireturn, 1) := by decide +kernel
theorem dX6_isPermitted_0 : decode cX6_isPermitted 0 = .ok (.iload_n 1, 1) := by decide +kernel
theorem dX6_isPermitted_1 : decode cX6_isPermitted 1 = .ok (.invokestatic 41, 3) := by decide +kernel
theorem dX6_isPermitted_4 : decode cX6_isPermitted 4 = .ok (.ifCond .eq 18, 3) := by decide +kernel
theorem dX6_isPermitted_7 : decode cX6_isPermitted 7 = .ok (.aload_n 0, 1) := by decide +kernel
theorem dX6_isPermitted_8 : decode cX6_isPermitted 8 = .ok (.getfield 34, 3) := by decide +kernel
theorem dX6_isPermitted_11 : decode cX6_isPermitted 11 = .ok (.iconst 1, 1) := by decide +kernel
theorem dX6_isPermitted_12 : decode cX6_isPermitted 12 = .ok (.iload_n 1, 1) := by decide +kernel
theorem dX6_isPermitted_13 : decode cX6_isPermitted 13 = .ok (.ishl, 1) := by decide +kernel
theorem dX6_isPermitted_14 : decode cX6_isPermitted 14 = .ok (.iand, 1) := by decide +kernel
theorem dX6_isPermitted_15 : decode cX6_isPermitted 15 = .ok (.ifCond .eq 7, 3) := by decide +kernel
theorem dX6_isPermitted_18 : decode cX6_isPermitted 18 = .ok (.iconst 1, 1) := by decide +kernel
theorem dX6_isPermitted_19 : decode cX6_isPermitted 19 = .ok (.goto 4, 3) := by decide +kernel
theorem dX6_isPermitted_22 : decode cX6_isPermitted 22 = .ok (.iconst 0, 1) := by decide +kernel
theorem dX6_isPermitted_23 : decode cX6_isPermitted 23 = .ok (.ireturn, 1) := by decide +kernel
theorem dX6_joinQueue_0 : decode cX6_joinQueue 0 = .ok (.aload_n 0, 1) := by decide +kernel
theorem dX6_joinQueue_1 : decode cX6_joinQueue 1 = .ok (.getfield 24, 3) := by decide +kernel
theorem dX6_joinQueue_4 : decode cX6_joinQueue 4 = .ok (.ifCond .lt 12, 3) := by decide +kernel
theorem dX6_joinQueue_7 : decode cX6_joinQueue 7 = .ok (.aload_n 0, 1) := by decide +kernel
theorem dX6_joinQueue_8 : decode cX6_joinQueue 8 = .ok (.getfield 24, 3) := by decide +kernel
theorem dX6_joinQueue_11 : decode cX6_joinQueue 11 = .ok (.bipush 9, 2) := by decide +kernel
theorem dX6_joinQueue_13 : decode cX6_joinQueue 13 = .ok (.if_icmp .lt 5, 3) := by decide +kernel
theorem dX6_joinQueue_16 : decode cX6_joinQueue 16 = .ok (.iconst 0, 1) := by decide +kernel
theorem dX6_joinQueue_17 : decode cX6_joinQueue 17 = .ok (.ireturn, 1) := by decide +kernel
theorem dX6_joinQueue_18 : decode cX6_joinQueue 18 = .ok (.aload_n 0, 1) := by decide +kernel
theorem dX6_joinQueue_19 : decode cX6_joinQueue 19 = .ok (.getfield 15, 3) := by decide +kernel
theorem dX6_joinQueue_22 : decode cX6_joinQueue 22 = .ok (.aload_n 0, 1) := by decide +kernel
theorem dX6_joinQueue_23 : decode cX6_joinQueue 23 = .ok (.getfield 24, 3) := by decide +kernel
theorem dX6_joinQueue_26 : decode cX6_joinQueue 26 = .ok (.iload_n 1, 1) := by decide +kernel
theorem dX6_joinQueue_27 : decode cX6_joinQueue 27 = .ok (.iastore, 1) := by decide +kernel
theorem dX6_joinQueue_28 : decode cX6_joinQueue 28 = .ok (.aload_n 0, 1) := by decide +kernel
theorem dX6_joinQueue_29 : decode cX6_joinQueue 29 = .ok (.dup, 1) := by decide +kernel
theorem dX6_joinQueue_30 : decode cX6_joinQueue 30 = .ok (.getfield 24, 3) := by decide +kernel
theorem dX6_joinQueue_33 : decode cX6_joinQueue 33 = .ok (.iconst 1, 1) := by decide +kernel
theorem dX6_joinQueue_34 : decode cX6_joinQueue 34 = .ok (.iadd, 1) := by decide +kernel
theorem dX6_joinQueue_35 : decode cX6_joinQueue 35 = .ok (.putfield 24, 3) := by decide +kernel
theorem dX6_joinQueue_38 : decode cX6_joinQueue 38 = .ok (.iconst 1, 1) := by decide +kernel
theorem dX6_joinQueue_39 : decode cX6_joinQueue 39 = .ok (.ireturn, 1) := by decide +kernel
theorem dX6_wishAt_0 : decode cX6_wishAt 0 = .ok (.iload_n 1, 1) := by decide +kernel
theorem dX6_wishAt_1 : decode cX6_wishAt 1 = .ok (.ifCond .lt 17, 3) := by decide +kernel
theorem dX6_wishAt_4 : decode cX6_wishAt 4 = .ok (.iload_n 1, 1) := by decide +kernel
theorem dX6_wishAt_5 : decode cX6_wishAt 5 = .ok (.aload_n 0, 1) := by decide +kernel
theorem dX6_wishAt_6 : decode cX6_wishAt 6 = .ok (.getfield 24, 3) := by decide +kernel
theorem dX6_wishAt_9 : decode cX6_wishAt 9 = .ok (.if_icmp .ge 9, 3) := by decide +kernel
theorem dX6_wishAt_12 : decode cX6_wishAt 12 = .ok (.iload_n 1, 1) := by decide +kernel
theorem dX6_wishAt_13 : decode cX6_wishAt 13 = .ok (.bipush 9, 2) := by decide +kernel
theorem dX6_wishAt_15 : decode cX6_wishAt 15 = .ok (.if_icmp .lt 5, 3) := by decide +kernel
theorem dX6_wishAt_18 : decode cX6_wishAt 18 = .ok (.iconst (-1), 1) := by decide +kernel
theorem dX6_wishAt_19 : decode cX6_wishAt 19 = .ok (.ireturn, 1) := by decide +kernel
theorem dX6_wishAt_20 : decode cX6_wishAt 20 = .ok (.aload_n 0, 1) := by decide +kernel
theorem dX6_wishAt_21 : decode cX6_wishAt 21 = .ok (.getfield 15, 3) := by decide +kernel
theorem dX6_wishAt_24 : decode cX6_wishAt 24 = .ok (.iload_n 1, 1) := by decide +kernel
theorem dX6_wishAt_25 : decode cX6_wishAt 25 = .ok (.iaload, 1) := by decide +kernel
theorem dX6_wishAt_26 : decode cX6_wishAt 26 = .ok (.ireturn, 1) := by decide +kernel
theorem dX6_dropFirst_0 : decode cX6_dropFirst 0 = .ok (.iconst 1, 1) := by decide +kernel
theorem dX6_dropFirst_1 : decode cX6_dropFirst 1 = .ok (.istore_n 1, 1) := by decide +kernel
theorem dX6_dropFirst_2 : decode cX6_dropFirst 2 = .ok (.iload_n 1, 1) := by decide +kernel
theorem dX6_dropFirst_3 : decode cX6_dropFirst 3 = .ok (.bipush 9, 2) := by decide +kernel
theorem dX6_dropFirst_5 : decode cX6_dropFirst 5 = .ok (.if_icmp .ge 23, 3) := by decide +kernel
theorem dX6_dropFirst_8 : decode cX6_dropFirst 8 = .ok (.aload_n 0, 1) := by decide +kernel
theorem dX6_dropFirst_9 : decode cX6_dropFirst 9 = .ok (.getfield 15, 3) := by decide +kernel
theorem dX6_dropFirst_12 : decode cX6_dropFirst 12 = .ok (.iload_n 1, 1) := by decide +kernel
theorem dX6_dropFirst_13 : decode cX6_dropFirst 13 = .ok (.iconst 1, 1) := by decide +kernel
theorem dX6_dropFirst_14 : decode cX6_dropFirst 14 = .ok (.isub, 1) := by decide +kernel
theorem dX6_dropFirst_15 : decode cX6_dropFirst 15 = .ok (.aload_n 0, 1) := by decide +kernel
theorem dX6_dropFirst_16 : decode cX6_dropFirst 16 = .ok (.getfield 15, 3) := by decide +kernel
theorem dX6_dropFirst_19 : decode cX6_dropFirst 19 = .ok (.iload_n 1, 1) := by decide +kernel
theorem dX6_dropFirst_20 : decode cX6_dropFirst 20 = .ok (.iaload, 1) := by decide +kernel
theorem dX6_dropFirst_21 : decode cX6_dropFirst 21 = .ok (.iastore, 1) := by decide +kernel
theorem dX6_dropFirst_22 : decode cX6_dropFirst 22 = .ok (.iinc 1 1, 3) := by decide +kernel
theorem dX6_dropFirst_25 : decode cX6_dropFirst 25 = .ok (.goto (-23), 3) := by decide +kernel
theorem dX6_dropFirst_28 : decode cX6_dropFirst 28 = .ok (.aload_n 0, 1) := by decide +kernel
theorem dX6_dropFirst_29 : decode cX6_dropFirst 29 = .ok (.dup, 1) := by decide +kernel
theorem dX6_dropFirst_30 : decode cX6_dropFirst 30 = .ok (.getfield 24, 3) := by decide +kernel
theorem dX6_dropFirst_33 : decode cX6_dropFirst 33 = .ok (.iconst 1, 1) := by decide +kernel
theorem dX6_dropFirst_34 : decode cX6_dropFirst 34 = .ok (.isub, 1) := by decide +kernel
theorem dX6_dropFirst_35 : decode cX6_dropFirst 35 = .ok (.putfield 24, 3) := by decide +kernel
theorem dX6_dropFirst_38 : decode cX6_dropFirst 38 = .ok (.return_, 1) := by decide +kernel
theorem dX6_sendAllAway_0 : decode cX6_sendAllAway 0 = .ok (.aload_n 0, 1) := by decide +kernel
theorem dX6_sendAllAway_1 : decode cX6_sendAllAway 1 = .ok (.getfield 24, 3) := by decide +kernel
theorem dX6_sendAllAway_4 : decode cX6_sendAllAway 4 = .ok (.istore_n 1, 1) := by decide +kernel
theorem dX6_sendAllAway_5 : decode cX6_sendAllAway 5 = .ok (.aload_n 0, 1) := by decide +kernel
theorem dX6_sendAllAway_6 : decode cX6_sendAllAway 6 = .ok (.iconst 0, 1) := by decide +kernel
theorem dX6_sendAllAway_7 : decode cX6_sendAllAway 7 = .ok (.putfield 24, 3) := by decide +kernel
theorem dX6_sendAllAway_10 : decode cX6_sendAllAway 10 = .ok (.aload_n 0, 1) := by decide +kernel
theorem dX6_sendAllAway_11 : decode cX6_sendAllAway 11 = .ok (.iconst 0, 1) := by decide +kernel
theorem dX6_sendAllAway_12 : decode cX6_sendAllAway 12 = .ok (.putfield 28, 3) := by decide +kernel
theorem dX6_sendAllAway_15 : decode cX6_sendAllAway 15 = .ok (.iload_n 1, 1) := by decide +kernel
theorem dX6_sendAllAway_16 : decode cX6_sendAllAway 16 = .ok (.ireturn, 1) := by decide +kernel
theorem dX6_minutesForQueue_0 : decode cX6_minutesForQueue 0 = .ok (.iconst 0, 1) := by decide +kernel
theorem dX6_minutesForQueue_1 : decode cX6_minutesForQueue 1 = .ok (.istore_n 1, 1) := by decide +kernel
theorem dX6_minutesForQueue_2 : decode cX6_minutesForQueue 2 = .ok (.iconst 0, 1) := by decide +kernel
theorem dX6_minutesForQueue_3 : decode cX6_minutesForQueue 3 = .ok (.istore_n 2, 1) := by decide +kernel
theorem dX6_minutesForQueue_4 : decode cX6_minutesForQueue 4 = .ok (.iload_n 2, 1) := by decide +kernel
theorem dX6_minutesForQueue_5 : decode cX6_minutesForQueue 5 = .ok (.aload_n 0, 1) := by decide +kernel
theorem dX6_minutesForQueue_6 : decode cX6_minutesForQueue 6 = .ok (.getfield 24, 3) := by decide +kernel
theorem dX6_minutesForQueue_9 : decode cX6_minutesForQueue 9 = .ok (.if_icmp .ge 20, 3) := by decide +kernel
theorem dX6_minutesForQueue_12 : decode cX6_minutesForQueue 12 = .ok (.iload_n 1, 1) := by decide +kernel
theorem dX6_minutesForQueue_13 : decode cX6_minutesForQueue 13 = .ok (.aload_n 0, 1) := by decide +kernel
theorem dX6_minutesForQueue_14 : decode cX6_minutesForQueue 14 = .ok (.iload_n 2, 1) := by decide +kernel
theorem dX6_minutesForQueue_15 : decode cX6_minutesForQueue 15 = .ok (.invokevirtual 44, 3) := by decide +kernel
theorem dX6_minutesForQueue_18 : decode cX6_minutesForQueue 18 = .ok (.invokestatic 48, 3) := by decide +kernel
theorem dX6_minutesForQueue_21 : decode cX6_minutesForQueue 21 = .ok (.iadd, 1) := by decide +kernel
theorem dX6_minutesForQueue_22 : decode cX6_minutesForQueue 22 = .ok (.istore_n 1, 1) := by decide +kernel
theorem dX6_minutesForQueue_23 : decode cX6_minutesForQueue 23 = .ok (.iinc 2 1, 3) := by decide +kernel
theorem dX6_minutesForQueue_26 : decode cX6_minutesForQueue 26 = .ok (.goto (-22), 3) := by decide +kernel
theorem dX6_minutesForQueue_29 : decode cX6_minutesForQueue 29 = .ok (.aload_n 0, 1) := by decide +kernel
theorem dX6_minutesForQueue_30 : decode cX6_minutesForQueue 30 = .ok (.getfield 28, 3) := by decide +kernel
theorem dX6_minutesForQueue_33 : decode cX6_minutesForQueue 33 = .ok (.ifCond .le 19, 3) := by decide +kernel
theorem dX6_minutesForQueue_36 : decode cX6_minutesForQueue 36 = .ok (.iload_n 1, 1) := by decide +kernel
theorem dX6_minutesForQueue_37 : decode cX6_minutesForQueue 37 = .ok (.aload_n 0, 1) := by decide +kernel
theorem dX6_minutesForQueue_38 : decode cX6_minutesForQueue 38 = .ok (.iconst 0, 1) := by decide +kernel
theorem dX6_minutesForQueue_39 : decode cX6_minutesForQueue 39 = .ok (.invokevirtual 44, 3) := by decide +kernel
theorem dX6_minutesForQueue_42 : decode cX6_minutesForQueue 42 = .ok (.invokestatic 48, 3) := by decide +kernel
theorem dX6_minutesForQueue_45 : decode cX6_minutesForQueue 45 = .ok (.aload_n 0, 1) := by decide +kernel
theorem dX6_minutesForQueue_46 : decode cX6_minutesForQueue 46 = .ok (.getfield 28, 3) := by decide +kernel
theorem dX6_minutesForQueue_49 : decode cX6_minutesForQueue 49 = .ok (.isub, 1) := by decide +kernel
theorem dX6_minutesForQueue_50 : decode cX6_minutesForQueue 50 = .ok (.isub, 1) := by decide +kernel
theorem dX6_minutesForQueue_51 : decode cX6_minutesForQueue 51 = .ok (.istore_n 1, 1) := by decide +kernel
theorem dX6_minutesForQueue_52 : decode cX6_minutesForQueue 52 = .ok (.iload_n 1, 1) := by decide +kernel
theorem dX6_minutesForQueue_53 : decode cX6_minutesForQueue 53 = .ok (.ireturn, 1) := by decide +kernel
theorem dX6_ranksBefore_0 : decode cX6_ranksBefore 0 = .ok (.aload_n 0, 1) := by decide +kernel
theorem dX6_ranksBefore_1 : decode cX6_ranksBefore 1 = .ok (.getfield 31, 3) := by decide +kernel
theorem dX6_ranksBefore_4 : decode cX6_ranksBefore 4 = .ok (.aload_n 1, 1) := by decide +kernel
theorem dX6_ranksBefore_5 : decode cX6_ranksBefore 5 = .ok (.getfield 31, 3) := by decide +kernel
theorem dX6_ranksBefore_8 : decode cX6_ranksBefore 8 = .ok (.if_icmp .eq 20, 3) := by decide +kernel
theorem dX6_ranksBefore_11 : decode cX6_ranksBefore 11 = .ok (.aload_n 0, 1) := by decide +kernel
theorem dX6_ranksBefore_12 : decode cX6_ranksBefore 12 = .ok (.getfield 31, 3) := by decide +kernel
theorem dX6_ranksBefore_15 : decode cX6_ranksBefore 15 = .ok (.aload_n 1, 1) := by decide +kernel
theorem dX6_ranksBefore_16 : decode cX6_ranksBefore 16 = .ok (.getfield 31, 3) := by decide +kernel
theorem dX6_ranksBefore_19 : decode cX6_ranksBefore 19 = .ok (.if_icmp .le 7, 3) := by decide +kernel
theorem dX6_ranksBefore_22 : decode cX6_ranksBefore 22 = .ok (.iconst 1, 1) := by decide +kernel
theorem dX6_ranksBefore_23 : decode cX6_ranksBefore 23 = .ok (.goto 4, 3) := by decide +kernel
theorem dX6_ranksBefore_26 : decode cX6_ranksBefore 26 = .ok (.iconst 0, 1) := by decide +kernel
theorem dX6_ranksBefore_27 : decode cX6_ranksBefore 27 = .ok (.ireturn, 1) := by decide +kernel
theorem dX6_ranksBefore_28 : decode cX6_ranksBefore 28 = .ok (.aload_n 0, 1) := by decide +kernel
theorem dX6_ranksBefore_29 : decode cX6_ranksBefore 29 = .ok (.invokevirtual 51, 3) := by decide +kernel
theorem dX6_ranksBefore_32 : decode cX6_ranksBefore 32 = .ok (.aload_n 1, 1) := by decide +kernel
theorem dX6_ranksBefore_33 : decode cX6_ranksBefore 33 = .ok (.invokevirtual 51, 3) := by decide +kernel
theorem dX6_ranksBefore_36 : decode cX6_ranksBefore 36 = .ok (.if_icmp .le 7, 3) := by decide +kernel
theorem dX6_ranksBefore_39 : decode cX6_ranksBefore 39 = .ok (.iconst 1, 1) := by decide +kernel
theorem dX6_ranksBefore_40 : decode cX6_ranksBefore 40 = .ok (.goto 4, 3) := by decide +kernel
theorem dX6_ranksBefore_43 : decode cX6_ranksBefore 43 = .ok (.iconst 0, 1) := by decide +kernel
theorem dX6_ranksBefore_44 : decode cX6_ranksBefore 44 = .ok (.ireturn, 1) := by decide +kernel
set_option maxRecDepth 20000 in
theorem ggX6_portionsOf_X7_isDish : GoodIn wsX6_portionsOf wsX7_isDish := goodIn_r _ [4] (by decide +kernel) (by decide +kernel)
set_option maxRecDepth 20000 in
theorem gX6_portionsOf_X7_isDish_n37 : GoodIn wsX6_portionsOf (wsX7_isDish) := ggX6_portionsOf_X7_isDish
set_option maxRecDepth 20000 in
theorem ggX6_isPermitted_X7_isWeekday : GoodIn wsX6_isPermitted wsX7_isWeekday := goodIn_r _ [4] (by decide +kernel) (by decide +kernel)
set_option maxRecDepth 20000 in
theorem gX6_isPermitted_X7_isWeekday_n41 : GoodIn wsX6_isPermitted (wsX7_isWeekday) := ggX6_isPermitted_X7_isWeekday
set_option maxRecDepth 20000 in
theorem ggX6_minutesForQueue_X6_wishAt : GoodIn wsX6_minutesForQueue wsX6_wishAt := goodIn_ca (goodIn_r _ [7, 1, 8, 12, 13, 14, 15, 16, 17] (by decide +kernel) (by decide +kernel)) (goodIn_sub (fun _ h => List.mem_cons_of_mem _ (List.mem_append_right _ h)) (by decide +kernel))
set_option maxRecDepth 20000 in
theorem gX6_minutesForQueue_X6_wishAt : GoodIn wsX6_minutesForQueue (wsV RX6 44 RX6 yX6_wishAt wsX6_wishAt) := goodIn_app (goodIn_of _ (by decide +kernel)) ggX6_minutesForQueue_X6_wishAt
set_option maxRecDepth 20000 in
theorem ggX6_minutesForQueue_X7_minutesFor : GoodIn wsX6_minutesForQueue wsX7_minutesFor := goodIn_r _ [11] (by decide +kernel) (by decide +kernel)
set_option maxRecDepth 20000 in
theorem gX6_minutesForQueue_X7_minutesFor_n48 : GoodIn wsX6_minutesForQueue (wsX7_minutesFor) := ggX6_minutesForQueue_X7_minutesFor
set_option maxRecDepth 20000 in
theorem ggX6_ranksBefore_X6_sumOfPortions : GoodIn wsX6_ranksBefore wsX6_sumOfPortions := goodIn_ca (goodIn_r _ [6, 7, 8, 9, 10, 11, 12, 13] (by decide +kernel) (by decide +kernel)) (goodIn_sub (fun _ h => List.mem_cons_of_mem _ (List.mem_append_right _ h)) (by decide +kernel))
set_option maxRecDepth 20000 in
theorem gX6_ranksBefore_X6_sumOfPortions : GoodIn wsX6_ranksBefore (wsV RX6 51 RX6 yX6_sumOfPortions wsX6_sumOfPortions) := goodIn_app (goodIn_of _ (by decide +kernel)) ggX6_ranksBefore_X6_sumOfPortions
theorem dX4_init_0 : decode cX4_init 0 = .ok (.aload_n 0, 1) := by decide +kernel
theorem dX4_init_1 : decode cX4_init 1 = .ok (.invokespecial 3, 3) := by decide +kernel
theorem dX4_init_4 : decode cX4_init 4 = .ok (.aload_n 0, 1) := by decide +kernel
theorem dX4_init_5 : decode cX4_init 5 = .ok (.bipush 6, 2) := by decide +kernel
theorem dX4_init_7 : decode cX4_init 7 = .ok (.anewarray 9, 3) := by decide +kernel
theorem dX4_init_10 : decode cX4_init 10 = .ok (.putfield 11, 3) := by decide +kernel
theorem dX4_init_13 : decode cX4_init 13 = .ok (.aload_n 0, 1) := by decide +kernel
theorem dX4_init_14 : decode cX4_init 14 = .ok (.bipush 35, 2) := by decide +kernel
theorem dX4_init_16 : decode cX4_init 16 = .ok (.newarray .int, 2) := by decide +kernel
theorem dX4_init_18 : decode cX4_init 18 = .ok (.putfield 17, 3) := by decide +kernel
theorem dX4_init_21 : decode cX4_init 21 = .ok (.aload_n 0, 1) := by decide +kernel
theorem dX4_init_22 : decode cX4_init 22 = .ok (.iconst 4, 1) := by decide +kernel
theorem dX4_init_23 : decode cX4_init 23 = .ok (.newarray .int, 2) := by decide +kernel
theorem dX4_init_25 : decode cX4_init 25 = .ok (.putfield 21, 3) := by decide +kernel
theorem dX4_init_28 : decode cX4_init 28 = .ok (.aload_n 0, 1) := by decide +kernel
theorem dX4_init_29 : decode cX4_init 29 = .ok (.iconst 4, 1) := by decide +kernel
theorem dX4_init_30 : decode cX4_init 30 = .ok (.newarray .int, 2) := by decide +kernel
theorem dX4_init_32 : decode cX4_init 32 = .ok (.putfield 24, 3) := by decide +kernel
theorem dX4_init_35 : decode cX4_init 35 = .ok (.aload_n 0, 1) := by decide +kernel
theorem dX4_init_36 : decode cX4_init 36 = .ok (.iconst 1, 1) := by decide +kernel
theorem dX4_init_37 : decode cX4_init 37 = .ok (.putfield 27, 3) := by decide +kernel
theorem dX4_init_40 : decode cX4_init 40 = .ok (.iconst 0, 1) := by decide +kernel
theorem dX4_init_41 : decode cX4_init 41 = .ok (.istore_n 1, 1) := by decide +kernel
theorem dX4_init_42 : decode cX4_init 42 = .ok (.iload_n 1, 1) := by decide +kernel
theorem dX4_init_43 : decode cX4_init 43 = .ok (.bipush 6, 2) := by decide +kernel
theorem dX4_init_45 : decode cX4_init 45 = .ok (.if_icmp .ge 22, 3) := by decide +kernel
theorem dX4_init_48 : decode cX4_init 48 = .ok (.aload_n 0, 1) := by decide +kernel
theorem dX4_init_49 : decode cX4_init 49 = .ok (.getfield 11, 3) := by decide +kernel
theorem dX4_init_52 : decode cX4_init 52 = .ok (.iload_n 1, 1) := by decide +kernel
theorem dX4_init_53 : decode cX4_init 53 = .ok (.new 9, 3) := by decide +kernel
theorem dX4_init_56 : decode cX4_init 56 = .ok (.dup, 1) := by decide +kernel
theorem dX4_init_57 : decode cX4_init 57 = .ok (.invokespecial 31, 3) := by decide +kernel
theorem dX4_init_60 : decode cX4_init 60 = .ok (.aastore, 1) := by decide +kernel
theorem dX4_init_61 : decode cX4_init 61 = .ok (.iinc 1 1, 3) := by decide +kernel
theorem dX4_init_64 : decode cX4_init 64 = .ok (.goto (-22), 3) := by decide +kernel
theorem dX4_init_67 : decode cX4_init 67 = .ok (.aload_n 0, 1) := by decide +kernel
theorem dX4_init_68 : decode cX4_init 68 = .ok (.getfield 17, 3) := by decide +kernel
theorem dX4_init_71 : decode cX4_init 71 = .ok (.iconst (-1), 1) := by decide +kernel
theorem dX4_init_72 : decode cX4_init 72 = .ok (.invokestatic 32, 3) := by decide +kernel
theorem dX4_init_75 : decode cX4_init 75 = .ok (.aload_n 0, 1) := by decide +kernel
theorem dX4_init_76 : decode cX4_init 76 = .ok (.getfield 21, 3) := by decide +kernel
theorem dX4_init_79 : decode cX4_init 79 = .ok (.iconst 5, 1) := by decide +kernel
theorem dX4_init_80 : decode cX4_init 80 = .ok (.invokestatic 32, 3) := by decide +kernel
theorem dX4_init_83 : decode cX4_init 83 = .ok (.return_, 1) := by decide +kernel
theorem dX4_copyFrom_0 : decode cX4_copyFrom 0 = .ok (.iconst 0, 1) := by decide +kernel
theorem dX4_copyFrom_1 : decode cX4_copyFrom 1 = .ok (.istore_n 2, 1) := by decide +kernel
theorem dX4_copyFrom_2 : decode cX4_copyFrom 2 = .ok (.iload_n 2, 1) := by decide +kernel
theorem dX4_copyFrom_3 : decode cX4_copyFrom 3 = .ok (.bipush 6, 2) := by decide +kernel
theorem dX4_copyFrom_5 : decode cX4_copyFrom 5 = .ok (.if_icmp .ge 24, 3) := by decide +kernel
theorem dX4_copyFrom_8 : decode cX4_copyFrom 8 = .ok (.aload_n 0, 1) := by decide +kernel
theorem dX4_copyFrom_9 : decode cX4_copyFrom 9 = .ok (.getfield 11, 3) := by decide +kernel
theorem dX4_copyFrom_12 : decode cX4_copyFrom 12 = .ok (.iload_n 2, 1) := by decide +kernel
theorem dX4_copyFrom_13 : decode cX4_copyFrom 13 = .ok (.aaload, 1) := by decide +kernel
theorem dX4_copyFrom_14 : decode cX4_copyFrom 14 = .ok (.aload_n 1, 1) := by decide +kernel
theorem dX4_copyFrom_15 : decode cX4_copyFrom 15 = .ok (.getfield 11, 3) := by decide +kernel
theorem dX4_copyFrom_18 : decode cX4_copyFrom 18 = .ok (.iload_n 2, 1) := by decide +kernel
theorem dX4_copyFrom_19 : decode cX4_copyFrom 19 = .ok (.aaload, 1) := by decide +kernel
theorem dX4_copyFrom_20 : decode cX4_copyFrom 20 = .ok (.invokevirtual 38, 3) := by decide +kernel
theorem dX4_copyFrom_23 : decode cX4_copyFrom 23 = .ok (.iinc 2 1, 3) := by decide +kernel
theorem dX4_copyFrom_26 : decode cX4_copyFrom 26 = .ok (.goto (-24), 3) := by decide +kernel
theorem dX4_copyFrom_29 : decode cX4_copyFrom 29 = .ok (.aload_n 1, 1) := by decide +kernel
theorem dX4_copyFrom_30 : decode cX4_copyFrom 30 = .ok (.getfield 17, 3) := by decide +kernel
theorem dX4_copyFrom_33 : decode cX4_copyFrom 33 = .ok (.iconst 0, 1) := by decide +kernel
theorem dX4_copyFrom_34 : decode cX4_copyFrom 34 = .ok (.aload_n 0, 1) := by decide +kernel
theorem dX4_copyFrom_35 : decode cX4_copyFrom 35 = .ok (.getfield 17, 3) := by decide +kernel
theorem dX4_copyFrom_38 : decode cX4_copyFrom 38 = .ok (.iconst 0, 1) := by decide +kernel
theorem dX4_copyFrom_39 : decode cX4_copyFrom 39 = .ok (.bipush 35, 2) := by decide +kernel
theorem dX4_copyFrom_41 : decode cX4_copyFrom 41 = .ok (.invokestatic 42, 3) := by decide +kernel
theorem dX4_copyFrom_44 : decode cX4_copyFrom 44 = .ok (.aload_n 1, 1) := by decide +kernel
theorem dX4_copyFrom_45 : decode cX4_copyFrom 45 = .ok (.getfield 21, 3) := by decide +kernel
theorem dX4_copyFrom_48 : decode cX4_copyFrom 48 = .ok (.iconst 0, 1) := by decide +kernel
theorem dX4_copyFrom_49 : decode cX4_copyFrom 49 = .ok (.aload_n 0, 1) := by decide +kernel
theorem dX4_copyFrom_50 : decode cX4_copyFrom 50 = .ok (.getfield 21, 3) := by decide +kernel
theorem dX4_copyFrom_53 : decode cX4_copyFrom 53 = .ok (.iconst 0, 1) := by decide +kernel
theorem dX4_copyFrom_54 : decode cX4_copyFrom 54 = .ok (.iconst 4, 1) := by decide +kernel
theorem dX4_copyFrom_55 : decode cX4_copyFrom 55 = .ok (.invokestatic 42, 3) := by decide +kernel
theorem dX4_copyFrom_58 : decode cX4_copyFrom 58 = .ok (.aload_n 1, 1) := by decide +kernel
theorem dX4_copyFrom_59 : decode cX4_copyFrom 59 = .ok (.getfield 24, 3) := by decide +kernel
theorem dX4_copyFrom_62 : decode cX4_copyFrom 62 = .ok (.iconst 0, 1) := by decide +kernel
theorem dX4_copyFrom_63 : decode cX4_copyFrom 63 = .ok (.aload_n 0, 1) := by decide +kernel
theorem dX4_copyFrom_64 : decode cX4_copyFrom 64 = .ok (.getfield 24, 3) := by decide +kernel
theorem dX4_copyFrom_67 : decode cX4_copyFrom 67 = .ok (.iconst 0, 1) := by decide +kernel
theorem dX4_copyFrom_68 : decode cX4_copyFrom 68 = .ok (.iconst 4, 1) := by decide +kernel
theorem dX4_copyFrom_69 : decode cX4_copyFrom 69 = .ok (.invokestatic 42, 3) := by decide +kernel
theorem dX4_copyFrom_72 : decode cX4_copyFrom 72 = .ok (.aload_n 0, 1) := by decide +kernel
theorem dX4_copyFrom_73 : decode cX4_copyFrom 73 = .ok (.aload_n 1, 1) := by decide +kernel
theorem dX4_copyFrom_74 : decode cX4_copyFrom 74 = .ok (.getfield 48, 3) := by decide +kernel
theorem dX4_copyFrom_77 : decode cX4_copyFrom 77 = .ok (.putfield 48, 3) := by decide +kernel
theorem dX4_copyFrom_80 : decode cX4_copyFrom 80 = .ok (.aload_n 0, 1) := by decide +kernel
theorem dX4_copyFrom_81 : decode cX4_copyFrom 81 = .ok (.aload_n 1, 1) := by decide +kernel
theorem dX4_copyFrom_82 : decode cX4_copyFrom 82 = .ok (.getfield 51, 3) := by decide +kernel
theorem dX4_copyFrom_85 : decode cX4_copyFrom 85 = .ok (.putfield 51, 3) := by decide +kernel
theorem dX4_copyFrom_88 : decode cX4_copyFrom 88 = .ok (.aload_n 0, 1) := by decide +kernel
theorem dX4_copyFrom_89 : decode cX4_copyFrom 89 = .ok (.aload_n 1, 1) := by decide +kernel
theorem dX4_copyFrom_90 : decode cX4_copyFrom 90 = .ok (.getfield 54, 3) := by decide +kernel
theorem dX4_copyFrom_93 : decode cX4_copyFrom 93 = .ok (.putfield 54, 3) := by decide +kernel
theorem dX4_copyFrom_96 : decode cX4_copyFrom 96 = .ok (.aload_n 0, 1) := by decide +kernel
theorem dX4_copyFrom_97 : decode cX4_copyFrom 97 = .ok (.aload_n 1, 1) := by decide +kernel
theorem dX4_copyFrom_98 : decode cX4_copyFrom 98 = .ok (.getfield 27, 3) := by decide +kernel
theorem dX4_copyFrom_101 : decode cX4_copyFrom 101 = .ok (.putfield 27, 3) := by decide +kernel
theorem dX4_copyFrom_104 : decode cX4_copyFrom 104 = .ok (.aload_n 0, 1) := by decide +kernel
theorem dX4_copyFrom_105 : decode cX4_copyFrom 105 = .ok (.aload_n 1, 1) := by decide +kernel
theorem dX4_copyFrom_106 : decode cX4_copyFrom 106 = .ok (.getfield 57, 3) := by decide +kernel
theorem dX4_copyFrom_109 : decode cX4_copyFrom 109 = .ok (.putfield 57, 3) := by decide +kernel
theorem dX4_copyFrom_112 : decode cX4_copyFrom 112 = .ok (.aload_n 0, 1) := by decide +kernel
theorem dX4_copyFrom_113 : decode cX4_copyFrom 113 = .ok (.aload_n 1, 1) := by decide +kernel
theorem dX4_copyFrom_114 : decode cX4_copyFrom 114 = .ok (.getfield 60, 3) := by decide +kernel
theorem dX4_copyFrom_117 : decode cX4_copyFrom 117 = .ok (.putfield 60, 3) := by decide +kernel
theorem dX4_copyFrom_120 : decode cX4_copyFrom 120 = .ok (.aload_n 0, 1) := by decide +kernel
theorem dX4_copyFrom_121 : decode cX4_copyFrom 121 = .ok (.aload_n 1, 1) := by decide +kernel
theorem dX4_copyFrom_122 : decode cX4_copyFrom 122 = .ok (.getfield 63, 3) := by decide +kernel
theorem dX4_copyFrom_125 : decode cX4_copyFrom 125 = .ok (.putfield 63, 3) := by decide +kernel
theorem dX4_copyFrom_128 : decode cX4_copyFrom 128 = .ok (.aload_n 0, 1) := by decide +kernel
theorem dX4_copyFrom_129 : decode cX4_copyFrom 129 = .ok (.aload_n 1, 1) := by decide +kernel
theorem dX4_copyFrom_130 : decode cX4_copyFrom 130 = .ok (.getfield 66, 3) := by decide +kernel
theorem dX4_copyFrom_133 : decode cX4_copyFrom 133 = .ok (.putfield 66, 3) := by decide +kernel
theorem dX4_copyFrom_136 : decode cX4_copyFrom 136 = .ok (.return_, 1) := by decide +kernel
theorem dX4_carryOut_0 : decode cX4_carryOut 0 = .ok (.getstatic 69, 3) := by decide +kernel
theorem dX4_carryOut_3 : decode cX4_carryOut 3 = .ok (.aload_n 1, 1) := by decide +kernel
theorem dX4_carryOut_4 : decode cX4_carryOut 4 = .ok (.invokevirtual 74, 3) := by decide +kernel
theorem dX4_carryOut_7 : decode cX4_carryOut 7 = .ok (.iaload, 1) := by decide +kernel
theorem dX4_carryOut_8 : decode cX4_carryOut 8 = .ok (.tableswitch 105 1 8 #[48, 53, 62, 69, 76, 83, 92, 99], 48) := by decide +kernel
theorem dX4_carryOut_56 : decode cX4_carryOut 56 = .ok (.aload_n 0, 1) := by decide +kernel
theorem dX4_carryOut_57 : decode cX4_carryOut 57 = .ok (.invokevirtual 80, 3) := by decide +kernel
theorem dX4_carryOut_60 : decode cX4_carryOut 60 = .ok (.ireturn, 1) := by decide +kernel
theorem dX4_carryOut_61 : decode cX4_carryOut 61 = .ok (.aload_n 0, 1) := by decide +kernel
theorem dX4_carryOut_62 : decode cX4_carryOut 62 = .ok (.iload_n 2, 1) := by decide +kernel
theorem dX4_carryOut_63 : decode cX4_carryOut 63 = .ok (.iload_n 3, 1) := by decide +kernel
theorem dX4_carryOut_64 : decode cX4_carryOut 64 = .ok (.iload 4, 2) := by decide +kernel
theorem dX4_carryOut_66 : decode cX4_carryOut 66 = .ok (.invokevirtual 83, 3) := by decide +kernel
theorem dX4_carryOut_69 : decode cX4_carryOut 69 = .ok (.ireturn, 1) := by decide +kernel
theorem dX4_carryOut_70 : decode cX4_carryOut 70 = .ok (.aload_n 0, 1) := by decide +kernel
theorem dX4_carryOut_71 : decode cX4_carryOut 71 = .ok (.iload_n 2, 1) := by decide +kernel
theorem dX4_carryOut_72 : decode cX4_carryOut 72 = .ok (.iload_n 3, 1) := by decide +kernel
theorem dX4_carryOut_73 : decode cX4_carryOut 73 = .ok (.invokevirtual 87, 3) := by decide +kernel
theorem dX4_carryOut_76 : decode cX4_carryOut 76 = .ok (.ireturn, 1) := by decide +kernel
theorem dX4_carryOut_77 : decode cX4_carryOut 77 = .ok (.aload_n 0, 1) := by decide +kernel
theorem dX4_carryOut_78 : decode cX4_carryOut 78 = .ok (.iload_n 2, 1) := by decide +kernel
theorem dX4_carryOut_79 : decode cX4_carryOut 79 = .ok (.iload_n 3, 1) := by decide +kernel
theorem dX4_carryOut_80 : decode cX4_carryOut 80 = .ok (.invokevirtual 91, 3) := by decide +kernel
theorem dX4_carryOut_83 : decode cX4_carryOut 83 = .ok (.ireturn, 1) := by decide +kernel
theorem dX4_carryOut_84 : decode cX4_carryOut 84 = .ok (.aload_n 0, 1) := by decide +kernel
theorem dX4_carryOut_85 : decode cX4_carryOut 85 = .ok (.iload_n 2, 1) := by decide +kernel
theorem dX4_carryOut_86 : decode cX4_carryOut 86 = .ok (.iload_n 3, 1) := by decide +kernel
theorem dX4_carryOut_87 : decode cX4_carryOut 87 = .ok (.invokevirtual 94, 3) := by decide +kernel
theorem dX4_carryOut_90 : decode cX4_carryOut 90 = .ok (.ireturn, 1) := by decide +kernel
theorem dX4_carryOut_91 : decode cX4_carryOut 91 = .ok (.aload_n 0, 1) := by decide +kernel
theorem dX4_carryOut_92 : decode cX4_carryOut 92 = .ok (.iload_n 2, 1) := by decide +kernel
theorem dX4_carryOut_93 : decode cX4_carryOut 93 = .ok (.iload_n 3, 1) := by decide +kernel
theorem dX4_carryOut_94 : decode cX4_carryOut 94 = .ok (.iload 4, 2) := by decide +kernel
theorem dX4_carryOut_96 : decode cX4_carryOut 96 = .ok (.invokevirtual 97, 3) := by decide +kernel
theorem dX4_carryOut_99 : decode cX4_carryOut 99 = .ok (.ireturn, 1) := by decide +kernel
theorem dX4_carryOut_100 : decode cX4_carryOut 100 = .ok (.aload_n 0, 1) := by decide +kernel
theorem dX4_carryOut_101 : decode cX4_carryOut 101 = .ok (.iload_n 2, 1) := by decide +kernel
theorem dX4_carryOut_102 : decode cX4_carryOut 102 = .ok (.iload_n 3, 1) := by decide +kernel
theorem dX4_carryOut_103 : decode cX4_carryOut 103 = .ok (.invokevirtual 100, 3) := by decide +kernel
theorem dX4_carryOut_106 : decode cX4_carryOut 106 = .ok (.ireturn, 1) := by decide +kernel
theorem dX4_carryOut_107 : decode cX4_carryOut 107 = .ok (.aload_n 0, 1) := by decide +kernel
theorem dX4_carryOut_108 : decode cX4_carryOut 108 = .ok (.iload_n 2, 1) := by decide +kernel
theorem dX4_carryOut_109 : decode cX4_carryOut 109 = .ok (.invokevirtual 103, 3) := by decide +kernel
theorem dX4_carryOut_112 : decode cX4_carryOut 112 = .ok (.ireturn, 1) := by decide +kernel
theorem dX4_carryOut_113 : decode cX4_carryOut 113 = .ok (.iload_n 2, 1) := by decide +kernel
theorem dX4_carryOut_114 : decode cX4_carryOut 114 = .ok (.invokestatic 107, 3) := by decide +kernel
theorem dX4_carryOut_117 : decode cX4_carryOut 117 = .ok (.ifCond .eq 11, 3) := by decide +kernel
theorem dX4_carryOut_120 : decode cX4_carryOut 120 = .ok (.aload_n 0, 1) := by decide +kernel
theorem dX4_carryOut_121 : decode cX4_carryOut 121 = .ok (.iload_n 2, 1) := by decide +kernel
theorem dX4_carryOut_122 : decode cX4_carryOut 122 = .ok (.invokevirtual 111, 3) := by decide +kernel
theorem dX4_carryOut_125 : decode cX4_carryOut 125 = .ok (.goto 5, 3) := by decide +kernel
theorem dX4_carryOut_128 : decode cX4_carryOut 128 = .ok (.bipush (-2), 2) := by decide +kernel
theorem dX4_carryOut_130 : decode cX4_carryOut 130 = .ok (.ireturn, 1) := by decide +kernel
theorem dX4_openTruck_0 : decode cX4_openTruck 0 = .ok (.aload_n 0, 1) := by decide +kernel
theorem dX4_openTruck_1 : decode cX4_openTruck 1 = .ok (.getfield 48, 3) := by decide +kernel
theorem dX4_openTruck_4 : decode cX4_openTruck 4 = .ok (.bipush 6, 2) := by decide +kernel
theorem dX4_openTruck_6 : decode cX4_openTruck 6 = .ok (.if_icmp .lt 6, 3) := by decide +kernel
theorem dX4_openTruck_9 : decode cX4_openTruck 9 = .ok (.bipush (-4), 2) := by decide +kernel
theorem dX4_openTruck_11 : decode cX4_openTruck 11 = .ok (.ireturn, 1) := by decide +kernel
theorem dX4_openTruck_12 : decode cX4_openTruck 12 = .ok (.aload_n 0, 1) := by decide +kernel
theorem dX4_openTruck_13 : decode cX4_openTruck 13 = .ok (.dup, 1) := by decide +kernel
theorem dX4_openTruck_14 : decode cX4_openTruck 14 = .ok (.getfield 48, 3) := by decide +kernel
theorem dX4_openTruck_17 : decode cX4_openTruck 17 = .ok (.iconst 1, 1) := by decide +kernel
theorem dX4_openTruck_18 : decode cX4_openTruck 18 = .ok (.iadd, 1) := by decide +kernel
theorem dX4_openTruck_19 : decode cX4_openTruck 19 = .ok (.putfield 48, 3) := by decide +kernel
theorem dX4_openTruck_22 : decode cX4_openTruck 22 = .ok (.aload_n 0, 1) := by decide +kernel
theorem dX4_openTruck_23 : decode cX4_openTruck 23 = .ok (.getfield 48, 3) := by decide +kernel
theorem dX4_openTruck_26 : decode cX4_openTruck 26 = .ok (.iconst 1, 1) := by decide +kernel
theorem dX4_openTruck_27 : decode cX4_openTruck 27 = .ok (.isub, 1) := by decide +kernel
theorem dX4_openTruck_28 : decode cX4_openTruck 28 = .ok (.ireturn, 1) := by decide +kernel
theorem dX4_loadPortions_0 : decode cX4_loadPortions 0 = .ok (.aload_n 0, 1) := by decide +kernel
theorem dX4_loadPortions_1 : decode cX4_loadPortions 1 = .ok (.iload_n 1, 1) := by decide +kernel
theorem dX4_loadPortions_2 : decode cX4_loadPortions 2 = .ok (.invokevirtual 114, 3) := by decide +kernel
theorem dX4_loadPortions_5 : decode cX4_loadPortions 5 = .ok (.ifCond .eq 10, 3) := by decide +kernel
theorem dX4_loadPortions_8 : decode cX4_loadPortions 8 = .ok (.iload_n 2, 1) := by decide +kernel
theorem dX4_loadPortions_9 : decode cX4_loadPortions 9 = .ok (.invokestatic 117, 3) := by decide +kernel
theorem dX4_loadPortions_12 : decode cX4_loadPortions 12 = .ok (.ifCond .ne 5, 3) := by decide +kernel
theorem dX4_loadPortions_15 : decode cX4_loadPortions 15 = .ok (.iconst (-1), 1) := by decide +kernel
theorem dX4_loadPortions_16 : decode cX4_loadPortions 16 = .ok (.ireturn, 1) := by decide +kernel
theorem dX4_loadPortions_17 : decode cX4_loadPortions 17 = .ok (.iload_n 3, 1) := by decide +kernel
theorem dX4_loadPortions_18 : decode cX4_loadPortions 18 = .ok (.iconst 1, 1) := by decide +kernel
theorem dX4_loadPortions_19 : decode cX4_loadPortions 19 = .ok (.if_icmp .lt 9, 3) := by decide +kernel
theorem dX4_loadPortions_22 : decode cX4_loadPortions 22 = .ok (.iload_n 3, 1) := by decide +kernel
theorem dX4_loadPortions_23 : decode cX4_loadPortions 23 = .ok (.bipush 50, 2) := by decide +kernel
theorem dX4_loadPortions_25 : decode cX4_loadPortions 25 = .ok (.if_icmp .le 6, 3) := by decide +kernel
theorem dX4_loadPortions_28 : decode cX4_loadPortions 28 = .ok (.bipush (-2), 2) := by decide +kernel
theorem dX4_loadPortions_30 : decode cX4_loadPortions 30 = .ok (.ireturn, 1) := by decide +kernel
theorem dX4_loadPortions_31 : decode cX4_loadPortions 31 = .ok (.aload_n 0, 1) := by decide +kernel
theorem dX4_loadPortions_32 : decode cX4_loadPortions 32 = .ok (.getfield 11, 3) := by decide +kernel
theorem dX4_loadPortions_35 : decode cX4_loadPortions 35 = .ok (.iload_n 1, 1) := by decide +kernel
theorem dX4_loadPortions_36 : decode cX4_loadPortions 36 = .ok (.aaload, 1) := by decide +kernel
theorem dX4_loadPortions_37 : decode cX4_loadPortions 37 = .ok (.getfield 120, 3) := by decide +kernel
theorem dX4_loadPortions_40 : decode cX4_loadPortions 40 = .ok (.astore 4, 2) := by decide +kernel
theorem dX4_loadPortions_42 : decode cX4_loadPortions 42 = .ok (.aload 4, 2) := by decide +kernel
theorem dX4_loadPortions_44 : decode cX4_loadPortions 44 = .ok (.iload_n 2, 1) := by decide +kernel
theorem dX4_loadPortions_45 : decode cX4_loadPortions 45 = .ok (.iaload, 1) := by decide +kernel
theorem dX4_loadPortions_46 : decode cX4_loadPortions 46 = .ok (.iload_n 3, 1) := by decide +kernel
theorem dX4_loadPortions_47 : decode cX4_loadPortions 47 = .ok (.iadd, 1) := by decide +kernel
theorem dX4_loadPortions_48 : decode cX4_loadPortions 48 = .ok (.bipush 99, 2) := by decide +kernel
theorem dX4_loadPortions_50 : decode cX4_loadPortions 50 = .ok (.if_icmp .le 6, 3) := by decide +kernel
theorem dX4_loadPortions_53 : decode cX4_loadPortions 53 = .ok (.bipush (-4), 2) := by decide +kernel
theorem dX4_loadPortions_55 : decode cX4_loadPortions 55 = .ok (.ireturn, 1) := by decide +kernel
theorem dX4_loadPortions_56 : decode cX4_loadPortions 56 = .ok (.aload 4, 2) := by decide +kernel
theorem dX4_loadPortions_58 : decode cX4_loadPortions 58 = .ok (.iload_n 2, 1) := by decide +kernel
theorem dX4_loadPortions_59 : decode cX4_loadPortions 59 = .ok (.dup2, 1) := by decide +kernel
theorem dX4_loadPortions_60 : decode cX4_loadPortions 60 = .ok (.iaload, 1) := by decide +kernel
theorem dX4_loadPortions_61 : decode cX4_loadPortions 61 = .ok (.iload_n 3, 1) := by decide +kernel
theorem dX4_loadPortions_62 : decode cX4_loadPortions 62 = .ok (.iadd, 1) := by decide +kernel
theorem dX4_loadPortions_63 : decode cX4_loadPortions 63 = .ok (.iastore, 1) := by decide +kernel
theorem dX4_loadPortions_64 : decode cX4_loadPortions 64 = .ok (.aload 4, 2) := by decide +kernel
theorem dX4_loadPortions_66 : decode cX4_loadPortions 66 = .ok (.iload_n 2, 1) := by decide +kernel
theorem dX4_loadPortions_67 : decode cX4_loadPortions 67 = .ok (.iaload, 1) := by decide +kernel
theorem dX4_loadPortions_68 : decode cX4_loadPortions 68 = .ok (.ireturn, 1) := by decide +kernel
theorem dX4_changePrice_0 : decode cX4_changePrice 0 = .ok (.iload_n 1, 1) := by decide +kernel
theorem dX4_changePrice_1 : decode cX4_changePrice 1 = .ok (.invokestatic 117, 3) := by decide +kernel
theorem dX4_changePrice_4 : decode cX4_changePrice 4 = .ok (.ifCond .ne 5, 3) := by decide +kernel
theorem dX4_changePrice_7 : decode cX4_changePrice 7 = .ok (.iconst (-1), 1) := by decide +kernel
theorem dX4_changePrice_8 : decode cX4_changePrice 8 = .ok (.ireturn, 1) := by decide +kernel
theorem dX4_changePrice_9 : decode cX4_changePrice 9 = .ok (.iload_n 2, 1) := by decide +kernel
theorem dX4_changePrice_10 : decode cX4_changePrice 10 = .ok (.iconst 1, 1) := by decide +kernel
theorem dX4_changePrice_11 : decode cX4_changePrice 11 = .ok (.if_icmp .lt 9, 3) := by decide +kernel
theorem dX4_changePrice_14 : decode cX4_changePrice 14 = .ok (.iload_n 2, 1) := by decide +kernel
theorem dX4_changePrice_15 : decode cX4_changePrice 15 = .ok (.bipush 20, 2) := by decide +kernel
theorem dX4_changePrice_17 : decode cX4_changePrice 17 = .ok (.if_icmp .le 6, 3) := by decide +kernel
theorem dX4_changePrice_20 : decode cX4_changePrice 20 = .ok (.bipush (-2), 2) := by decide +kernel
theorem dX4_changePrice_22 : decode cX4_changePrice 22 = .ok (.ireturn, 1) := by decide +kernel
theorem dX4_changePrice_23 : decode cX4_changePrice 23 = .ok (.aload_n 0, 1) := by decide +kernel
theorem dX4_changePrice_24 : decode cX4_changePrice 24 = .ok (.getfield 21, 3) := by decide +kernel
theorem dX4_changePrice_27 : decode cX4_changePrice 27 = .ok (.iload_n 1, 1) := by decide +kernel
theorem dX4_changePrice_28 : decode cX4_changePrice 28 = .ok (.iaload, 1) := by decide +kernel
theorem dX4_changePrice_29 : decode cX4_changePrice 29 = .ok (.istore_n 3, 1) := by decide +kernel
theorem dX4_changePrice_30 : decode cX4_changePrice 30 = .ok (.aload_n 0, 1) := by decide +kernel
theorem dX4_changePrice_31 : decode cX4_changePrice 31 = .ok (.getfield 21, 3) := by decide +kernel
theorem dX4_changePrice_34 : decode cX4_changePrice 34 = .ok (.iload_n 1, 1) := by decide +kernel
theorem dX4_changePrice_35 : decode cX4_changePrice 35 = .ok (.iload_n 2, 1) := by decide +kernel
theorem dX4_changePrice_36 : decode cX4_changePrice 36 = .ok (.iastore, 1) := by decide +kernel
theorem dX4_changePrice_37 : decode cX4_changePrice 37 = .ok (.iload_n 3, 1) := by decide +kernel
theorem dX4_changePrice_38 : decode cX4_changePrice 38 = .ok (.ireturn, 1) := by decide +kernel
theorem dX4_givePermit_0 : decode cX4_givePermit 0 = .ok (.aload_n 0, 1) := by decide +kernel
theorem dX4_givePermit_1 : decode cX4_givePermit 1 = .ok (.iload_n 1, 1) := by decide +kernel
theorem dX4_givePermit_2 : decode cX4_givePermit 2 = .ok (.invokevirtual 114, 3) := by decide +kernel
theorem dX4_givePermit_5 : decode cX4_givePermit 5 = .ok (.ifCond .ne 5, 3) := by decide +kernel
theorem dX4_givePermit_8 : decode cX4_givePermit 8 = .ok (.iconst (-1), 1) := by decide +kernel
theorem dX4_givePermit_9 : decode cX4_givePermit 9 = .ok (.ireturn, 1) := by decide +kernel
theorem dX4_givePermit_10 : decode cX4_givePermit 10 = .ok (.iload_n 2, 1) := by decide +kernel
theorem dX4_givePermit_11 : decode cX4_givePermit 11 = .ok (.invokestatic 123, 3) := by decide +kernel
theorem dX4_givePermit_14 : decode cX4_givePermit 14 = .ok (.ifCond .ne 6, 3) := by decide +kernel
theorem dX4_givePermit_17 : decode cX4_givePermit 17 = .ok (.bipush (-2), 2) := by decide +kernel
theorem dX4_givePermit_19 : decode cX4_givePermit 19 = .ok (.ireturn, 1) := by decide +kernel
theorem dX4_givePermit_20 : decode cX4_givePermit 20 = .ok (.aload_n 0, 1) := by decide +kernel
theorem dX4_givePermit_21 : decode cX4_givePermit 21 = .ok (.getfield 11, 3) := by decide +kernel
theorem dX4_givePermit_24 : decode cX4_givePermit 24 = .ok (.iload_n 1, 1) := by decide +kernel
theorem dX4_givePermit_25 : decode cX4_givePermit 25 = .ok (.aaload, 1) := by decide +kernel
theorem dX4_givePermit_26 : decode cX4_givePermit 26 = .ok (.iload_n 2, 1) := by decide +kernel
theorem dX4_givePermit_27 : decode cX4_givePermit 27 = .ok (.invokevirtual 126, 3) := by decide +kernel
theorem dX4_givePermit_30 : decode cX4_givePermit 30 = .ok (.ifCond .eq 6, 3) := by decide +kernel
theorem dX4_givePermit_33 : decode cX4_givePermit 33 = .ok (.bipush (-4), 2) := by decide +kernel
theorem dX4_givePermit_35 : decode cX4_givePermit 35 = .ok (.ireturn, 1) := by decide +kernel
theorem dX4_givePermit_36 : decode cX4_givePermit 36 = .ok (.aload_n 0, 1) := by decide +kernel
theorem dX4_givePermit_37 : decode cX4_givePermit 37 = .ok (.getfield 11, 3) := by decide +kernel
theorem dX4_givePermit_40 : decode cX4_givePermit 40 = .ok (.iload_n 1, 1) := by decide +kernel
theorem dX4_givePermit_41 : decode cX4_givePermit 41 = .ok (.aaload, 1) := by decide +kernel
theorem dX4_givePermit_42 : decode cX4_givePermit 42 = .ok (.dup, 1) := by decide +kernel
theorem dX4_givePermit_43 : decode cX4_givePermit 43 = .ok (.getfield 129, 3) := by decide +kernel
theorem dX4_givePermit_46 : decode cX4_givePermit 46 = .ok (.iconst 1, 1) := by decide +kernel
theorem dX4_givePermit_47 : decode cX4_givePermit 47 = .ok (.iload_n 2, 1) := by decide +kernel
theorem dX4_givePermit_48 : decode cX4_givePermit 48 = .ok (.ishl, 1) := by decide +kernel
theorem dX4_givePermit_49 : decode cX4_givePermit 49 = .ok (.ior, 1) := by decide +kernel
theorem dX4_givePermit_50 : decode cX4_givePermit 50 = .ok (.putfield 129, 3) := by decide +kernel
theorem dX4_givePermit_53 : decode cX4_givePermit 53 = .ok (.aload_n 0, 1) := by decide +kernel
theorem dX4_givePermit_54 : decode cX4_givePermit 54 = .ok (.getfield 11, 3) := by decide +kernel
theorem dX4_givePermit_57 : decode cX4_givePermit 57 = .ok (.iload_n 1, 1) := by decide +kernel
theorem dX4_givePermit_58 : decode cX4_givePermit 58 = .ok (.aaload, 1) := by decide +kernel
theorem dX4_givePermit_59 : decode cX4_givePermit 59 = .ok (.getfield 129, 3) := by decide +kernel
theorem dX4_givePermit_62 : decode cX4_givePermit 62 = .ok (.invokestatic 132, 3) := by decide +kernel
theorem dX4_givePermit_65 : decode cX4_givePermit 65 = .ok (.ireturn, 1) := by decide +kernel
theorem dX4_takePermit_0 : decode cX4_takePermit 0 = .ok (.aload_n 0, 1) := by decide +kernel
theorem dX4_takePermit_1 : decode cX4_takePermit 1 = .ok (.iload_n 1, 1) := by decide +kernel
theorem dX4_takePermit_2 : decode cX4_takePermit 2 = .ok (.invokevirtual 114, 3) := by decide +kernel
theorem dX4_takePermit_5 : decode cX4_takePermit 5 = .ok (.ifCond .ne 5, 3) := by decide +kernel
theorem dX4_takePermit_8 : decode cX4_takePermit 8 = .ok (.iconst (-1), 1) := by decide +kernel
theorem dX4_takePermit_9 : decode cX4_takePermit 9 = .ok (.ireturn, 1) := by decide +kernel
theorem dX4_takePermit_10 : decode cX4_takePermit 10 = .ok (.iload_n 2, 1) := by decide +kernel
theorem dX4_takePermit_11 : decode cX4_takePermit 11 = .ok (.invokestatic 123, 3) := by decide +kernel
theorem dX4_takePermit_14 : decode cX4_takePermit 14 = .ok (.ifCond .ne 6, 3) := by decide +kernel
theorem dX4_takePermit_17 : decode cX4_takePermit 17 = .ok (.bipush (-2), 2) := by decide +kernel
theorem dX4_takePermit_19 : decode cX4_takePermit 19 = .ok (.ireturn, 1) := by decide +kernel
theorem dX4_takePermit_20 : decode cX4_takePermit 20 = .ok (.aload_n 0, 1) := by decide +kernel
theorem dX4_takePermit_21 : decode cX4_takePermit 21 = .ok (.getfield 11, 3) := by decide +kernel
theorem dX4_takePermit_24 : decode cX4_takePermit 24 = .ok (.iload_n 1, 1) := by decide +kernel
theorem dX4_takePermit_25 : decode cX4_takePermit 25 = .ok (.aaload, 1) := by decide +kernel
theorem dX4_takePermit_26 : decode cX4_takePermit 26 = .ok (.iload_n 2, 1) := by decide +kernel
theorem dX4_takePermit_27 : decode cX4_takePermit 27 = .ok (.invokevirtual 126, 3) := by decide +kernel
theorem dX4_takePermit_30 : decode cX4_takePermit 30 = .ok (.ifCond .ne 6, 3) := by decide +kernel
theorem dX4_takePermit_33 : decode cX4_takePermit 33 = .ok (.bipush (-4), 2) := by decide +kernel
theorem dX4_takePermit_35 : decode cX4_takePermit 35 = .ok (.ireturn, 1) := by decide +kernel
theorem dX4_takePermit_36 : decode cX4_takePermit 36 = .ok (.aload_n 0, 1) := by decide +kernel
theorem dX4_takePermit_37 : decode cX4_takePermit 37 = .ok (.getfield 11, 3) := by decide +kernel
theorem dX4_takePermit_40 : decode cX4_takePermit 40 = .ok (.iload_n 1, 1) := by decide +kernel
theorem dX4_takePermit_41 : decode cX4_takePermit 41 = .ok (.aaload, 1) := by decide +kernel
theorem dX4_takePermit_42 : decode cX4_takePermit 42 = .ok (.dup, 1) := by decide +kernel
theorem dX4_takePermit_43 : decode cX4_takePermit 43 = .ok (.getfield 129, 3) := by decide +kernel
theorem dX4_takePermit_46 : decode cX4_takePermit 46 = .ok (.iconst 1, 1) := by decide +kernel
theorem dX4_takePermit_47 : decode cX4_takePermit 47 = .ok (.iload_n 2, 1) := by decide +kernel
theorem dX4_takePermit_48 : decode cX4_takePermit 48 = .ok (.ishl, 1) := by decide +kernel
theorem dX4_takePermit_49 : decode cX4_takePermit 49 = .ok (.iconst (-1), 1) := by decide +kernel
theorem dX4_takePermit_50 : decode cX4_takePermit 50 = .ok (.ixor, 1) := by decide +kernel
theorem dX4_takePermit_51 : decode cX4_takePermit 51 = .ok (.iand, 1) := by decide +kernel
theorem dX4_takePermit_52 : decode cX4_takePermit 52 = .ok (.putfield 129, 3) := by decide +kernel
theorem dX4_takePermit_55 : decode cX4_takePermit 55 = .ok (.aload_n 0, 1) := by decide +kernel
theorem dX4_takePermit_56 : decode cX4_takePermit 56 = .ok (.iload_n 1, 1) := by decide +kernel
theorem dX4_takePermit_57 : decode cX4_takePermit 57 = .ok (.iload_n 2, 1) := by decide +kernel
theorem dX4_takePermit_58 : decode cX4_takePermit 58 = .ok (.invokevirtual 137, 3) := by decide +kernel
theorem dX4_takePermit_61 : decode cX4_takePermit 61 = .ok (.istore_n 3, 1) := by decide +kernel
theorem dX4_takePermit_62 : decode cX4_takePermit 62 = .ok (.iload_n 3, 1) := by decide +kernel
theorem dX4_takePermit_63 : decode cX4_takePermit 63 = .ok (.iconst (-1), 1) := by decide +kernel
theorem dX4_takePermit_64 : decode cX4_takePermit 64 = .ok (.if_icmp .ne 5, 3) := by decide +kernel
theorem dX4_takePermit_67 : decode cX4_takePermit 67 = .ok (.iconst 0, 1) := by decide +kernel
theorem dX4_takePermit_68 : decode cX4_takePermit 68 = .ok (.ireturn, 1) := by decide +kernel
theorem dX4_takePermit_69 : decode cX4_takePermit 69 = .ok (.aload_n 0, 1) := by decide +kernel
theorem dX4_takePermit_70 : decode cX4_takePermit 70 = .ok (.iload_n 3, 1) := by decide +kernel
theorem dX4_takePermit_71 : decode cX4_takePermit 71 = .ok (.iload_n 2, 1) := by decide +kernel
theorem dX4_takePermit_72 : decode cX4_takePermit 72 = .ok (.invokevirtual 140, 3) := by decide +kernel
theorem dX4_takePermit_75 : decode cX4_takePermit 75 = .ok (.iconst 1, 1) := by decide +kernel
theorem dX4_takePermit_76 : decode cX4_takePermit 76 = .ok (.ireturn, 1) := by decide +kernel
theorem dX4_holdPitch_0 : decode cX4_holdPitch 0 = .ok (.aload_n 0, 1) := by decide +kernel
theorem dX4_holdPitch_1 : decode cX4_holdPitch 1 = .ok (.iload_n 1, 1) := by decide +kernel
theorem dX4_holdPitch_2 : decode cX4_holdPitch 2 = .ok (.invokevirtual 114, 3) := by decide +kernel
theorem dX4_holdPitch_5 : decode cX4_holdPitch 5 = .ok (.ifCond .eq 10, 3) := by decide +kernel
theorem dX4_holdPitch_8 : decode cX4_holdPitch 8 = .ok (.iload_n 2, 1) := by decide +kernel
theorem dX4_holdPitch_9 : decode cX4_holdPitch 9 = .ok (.invokestatic 144, 3) := by decide +kernel
theorem dX4_holdPitch_12 : decode cX4_holdPitch 12 = .ok (.ifCond .ne 5, 3) := by decide +kernel
theorem dX4_holdPitch_15 : decode cX4_holdPitch 15 = .ok (.iconst (-1), 1) := by decide +kernel
theorem dX4_holdPitch_16 : decode cX4_holdPitch 16 = .ok (.ireturn, 1) := by decide +kernel
theorem dX4_holdPitch_17 : decode cX4_holdPitch 17 = .ok (.iload_n 3, 1) := by decide +kernel
theorem dX4_holdPitch_18 : decode cX4_holdPitch 18 = .ok (.invokestatic 123, 3) := by decide +kernel
theorem dX4_holdPitch_21 : decode cX4_holdPitch 21 = .ok (.ifCond .ne 6, 3) := by decide +kernel
theorem dX4_holdPitch_24 : decode cX4_holdPitch 24 = .ok (.bipush (-2), 2) := by decide +kernel
theorem dX4_holdPitch_26 : decode cX4_holdPitch 26 = .ok (.ireturn, 1) := by decide +kernel
theorem dX4_holdPitch_27 : decode cX4_holdPitch 27 = .ok (.aload_n 0, 1) := by decide +kernel
theorem dX4_holdPitch_28 : decode cX4_holdPitch 28 = .ok (.getfield 11, 3) := by decide +kernel
theorem dX4_holdPitch_31 : decode cX4_holdPitch 31 = .ok (.iload_n 1, 1) := by decide +kernel
theorem dX4_holdPitch_32 : decode cX4_holdPitch 32 = .ok (.aaload, 1) := by decide +kernel
theorem dX4_holdPitch_33 : decode cX4_holdPitch 33 = .ok (.iload_n 3, 1) := by decide +kernel
theorem dX4_holdPitch_34 : decode cX4_holdPitch 34 = .ok (.invokevirtual 126, 3) := by decide +kernel
theorem dX4_holdPitch_37 : decode cX4_holdPitch 37 = .ok (.ifCond .ne 6, 3) := by decide +kernel
theorem dX4_holdPitch_40 : decode cX4_holdPitch 40 = .ok (.bipush (-3), 2) := by decide +kernel
theorem dX4_holdPitch_42 : decode cX4_holdPitch 42 = .ok (.ireturn, 1) := by decide +kernel
theorem dX4_holdPitch_43 : decode cX4_holdPitch 43 = .ok (.aload_n 0, 1) := by decide +kernel
theorem dX4_holdPitch_44 : decode cX4_holdPitch 44 = .ok (.iload_n 2, 1) := by decide +kernel
theorem dX4_holdPitch_45 : decode cX4_holdPitch 45 = .ok (.iload_n 3, 1) := by decide +kernel
theorem dX4_holdPitch_46 : decode cX4_holdPitch 46 = .ok (.invokevirtual 147, 3) := by decide +kernel
theorem dX4_holdPitch_49 : decode cX4_holdPitch 49 = .ok (.iconst (-1), 1) := by decide +kernel
theorem dX4_holdPitch_50 : decode cX4_holdPitch 50 = .ok (.if_icmp .ne 13, 3) := by decide +kernel
theorem dX4_holdPitch_53 : decode cX4_holdPitch 53 = .ok (.aload_n 0, 1) := by decide +kernel
theorem dX4_holdPitch_54 : decode cX4_holdPitch 54 = .ok (.iload_n 1, 1) := by decide +kernel
theorem dX4_holdPitch_55 : decode cX4_holdPitch 55 = .ok (.iload_n 3, 1) := by decide +kernel
theorem dX4_holdPitch_56 : decode cX4_holdPitch 56 = .ok (.invokevirtual 137, 3) := by decide +kernel
theorem dX4_holdPitch_59 : decode cX4_holdPitch 59 = .ok (.iconst (-1), 1) := by decide +kernel
theorem dX4_holdPitch_60 : decode cX4_holdPitch 60 = .ok (.if_icmp .eq 6, 3) := by decide +kernel
theorem dX4_holdPitch_63 : decode cX4_holdPitch 63 = .ok (.bipush (-4), 2) := by decide +kernel
theorem dX4_holdPitch_65 : decode cX4_holdPitch 65 = .ok (.ireturn, 1) := by decide +kernel
theorem dX4_holdPitch_66 : decode cX4_holdPitch 66 = .ok (.aload_n 0, 1) := by decide +kernel
theorem dX4_holdPitch_67 : decode cX4_holdPitch 67 = .ok (.iload_n 2, 1) := by decide +kernel
theorem dX4_holdPitch_68 : decode cX4_holdPitch 68 = .ok (.iload_n 3, 1) := by decide +kernel
theorem dX4_holdPitch_69 : decode cX4_holdPitch 69 = .ok (.iload_n 1, 1) := by decide +kernel
theorem dX4_holdPitch_70 : decode cX4_holdPitch 70 = .ok (.invokevirtual 150, 3) := by decide +kernel
theorem dX4_holdPitch_73 : decode cX4_holdPitch 73 = .ok (.aload_n 0, 1) := by decide +kernel
theorem dX4_holdPitch_74 : decode cX4_holdPitch 74 = .ok (.iload_n 1, 1) := by decide +kernel
theorem dX4_holdPitch_75 : decode cX4_holdPitch 75 = .ok (.invokevirtual 154, 3) := by decide +kernel
theorem dX4_holdPitch_78 : decode cX4_holdPitch 78 = .ok (.ireturn, 1) := by decide +kernel
theorem dX4_leavePitch_0 : decode cX4_leavePitch 0 = .ok (.iload_n 1, 1) := by decide +kernel
theorem dX4_leavePitch_1 : decode cX4_leavePitch 1 = .ok (.invokestatic 144, 3) := by decide +kernel
theorem dX4_leavePitch_4 : decode cX4_leavePitch 4 = .ok (.ifCond .ne 5, 3) := by decide +kernel
theorem dX4_leavePitch_7 : decode cX4_leavePitch 7 = .ok (.iconst (-1), 1) := by decide +kernel
theorem dX4_leavePitch_8 : decode cX4_leavePitch 8 = .ok (.ireturn, 1) := by decide +kernel
theorem dX4_leavePitch_9 : decode cX4_leavePitch 9 = .ok (.iload_n 2, 1) := by decide +kernel
theorem dX4_leavePitch_10 : decode cX4_leavePitch 10 = .ok (.invokestatic 123, 3) := by decide +kernel
theorem dX4_leavePitch_13 : decode cX4_leavePitch 13 = .ok (.ifCond .ne 6, 3) := by decide +kernel
theorem dX4_leavePitch_16 : decode cX4_leavePitch 16 = .ok (.bipush (-2), 2) := by decide +kernel
theorem dX4_leavePitch_18 : decode cX4_leavePitch 18 = .ok (.ireturn, 1) := by decide +kernel
theorem dX4_leavePitch_19 : decode cX4_leavePitch 19 = .ok (.aload_n 0, 1) := by decide +kernel
theorem dX4_leavePitch_20 : decode cX4_leavePitch 20 = .ok (.iload_n 1, 1) := by decide +kernel
theorem dX4_leavePitch_21 : decode cX4_leavePitch 21 = .ok (.iload_n 2, 1) := by decide +kernel
theorem dX4_leavePitch_22 : decode cX4_leavePitch 22 = .ok (.invokevirtual 147, 3) := by decide +kernel
theorem dX4_leavePitch_25 : decode cX4_leavePitch 25 = .ok (.istore_n 3, 1) := by decide +kernel
theorem dX4_leavePitch_26 : decode cX4_leavePitch 26 = .ok (.iload_n 3, 1) := by decide +kernel
theorem dX4_leavePitch_27 : decode cX4_leavePitch 27 = .ok (.iconst (-1), 1) := by decide +kernel
theorem dX4_leavePitch_28 : decode cX4_leavePitch 28 = .ok (.if_icmp .ne 6, 3) := by decide +kernel
theorem dX4_leavePitch_31 : decode cX4_leavePitch 31 = .ok (.bipush (-5), 2) := by decide +kernel
theorem dX4_leavePitch_33 : decode cX4_leavePitch 33 = .ok (.ireturn, 1) := by decide +kernel
theorem dX4_leavePitch_34 : decode cX4_leavePitch 34 = .ok (.aload_n 0, 1) := by decide +kernel
theorem dX4_leavePitch_35 : decode cX4_leavePitch 35 = .ok (.iload_n 1, 1) := by decide +kernel
theorem dX4_leavePitch_36 : decode cX4_leavePitch 36 = .ok (.iload_n 2, 1) := by decide +kernel
theorem dX4_leavePitch_37 : decode cX4_leavePitch 37 = .ok (.invokevirtual 140, 3) := by decide +kernel
theorem dX4_leavePitch_40 : decode cX4_leavePitch 40 = .ok (.iload_n 3, 1) := by decide +kernel
theorem dX4_leavePitch_41 : decode cX4_leavePitch 41 = .ok (.ireturn, 1) := by decide +kernel
theorem dX4_changeWeather_0 : decode cX4_changeWeather 0 = .ok (.iload_n 1, 1) := by decide +kernel
theorem dX4_changeWeather_1 : decode cX4_changeWeather 1 = .ok (.ifCond .lt 8, 3) := by decide +kernel
theorem dX4_changeWeather_4 : decode cX4_changeWeather 4 = .ok (.iload_n 1, 1) := by decide +kernel
theorem dX4_changeWeather_5 : decode cX4_changeWeather 5 = .ok (.iconst 3, 1) := by decide +kernel
theorem dX4_changeWeather_6 : decode cX4_changeWeather 6 = .ok (.if_icmp .le 6, 3) := by decide +kernel
theorem dX4_changeWeather_9 : decode cX4_changeWeather 9 = .ok (.bipush (-2), 2) := by decide +kernel
theorem dX4_changeWeather_11 : decode cX4_changeWeather 11 = .ok (.ireturn, 1) := by decide +kernel
theorem dX4_changeWeather_12 : decode cX4_changeWeather 12 = .ok (.aload_n 0, 1) := by decide +kernel
theorem dX4_changeWeather_13 : decode cX4_changeWeather 13 = .ok (.getfield 27, 3) := by decide +kernel
theorem dX4_changeWeather_16 : decode cX4_changeWeather 16 = .ok (.istore_n 2, 1) := by decide +kernel
theorem dX4_changeWeather_17 : decode cX4_changeWeather 17 = .ok (.aload_n 0, 1) := by decide +kernel
theorem dX4_changeWeather_18 : decode cX4_changeWeather 18 = .ok (.iload_n 1, 1) := by decide +kernel
theorem dX4_changeWeather_19 : decode cX4_changeWeather 19 = .ok (.putfield 27, 3) := by decide +kernel
theorem dX4_changeWeather_22 : decode cX4_changeWeather 22 = .ok (.iload_n 2, 1) := by decide +kernel
theorem dX4_changeWeather_23 : decode cX4_changeWeather 23 = .ok (.ireturn, 1) := by decide +kernel
theorem dX4_isWait_0 : decode cX4_isWait 0 = .ok (.iload_n 0, 1) := by decide +kernel
theorem dX4_isWait_1 : decode cX4_isWait 1 = .ok (.iconst 1, 1) := by decide +kernel
theorem dX4_isWait_2 : decode cX4_isWait 2 = .ok (.if_icmp .lt 13, 3) := by decide +kernel
theorem dX4_isWait_5 : decode cX4_isWait 5 = .ok (.iload_n 0, 1) := by decide +kernel
theorem dX4_isWait_6 : decode cX4_isWait 6 = .ok (.bipush 60, 2) := by decide +kernel
theorem dX4_isWait_8 : decode cX4_isWait 8 = .ok (.if_icmp .gt 7, 3) := by decide +kernel
theorem dX4_isWait_11 : decode cX4_isWait 11 = .ok (.iconst 1, 1) := by decide +kernel
theorem dX4_isWait_12 : decode cX4_isWait 12 = .ok (.goto 4, 3) := by decide +kernel
theorem dX4_isWait_15 : decode cX4_isWait 15 = .ok (.iconst 0, 1) := by decide +kernel
theorem dX4_isWait_16 : decode cX4_isWait 16 = .ok (.ireturn, 1) := by decide +kernel
theorem dX4_isTruck_0 : decode cX4_isTruck 0 = .ok (.iload_n 1, 1) := by decide +kernel
theorem dX4_isTruck_1 : decode cX4_isTruck 1 = .ok (.ifCond .lt 21, 3) := by decide +kernel
theorem dX4_isTruck_4 : decode cX4_isTruck 4 = .ok (.iload_n 1, 1) := by decide +kernel
theorem dX4_isTruck_5 : decode cX4_isTruck 5 = .ok (.aload_n 0, 1) := by decide +kernel
theorem dX4_isTruck_6 : decode cX4_isTruck 6 = .ok (.getfield 48, 3) := by decide +kernel
theorem dX4_isTruck_9 : decode cX4_isTruck 9 = .ok (.if_icmp .ge 13, 3) := by decide +kernel
theorem dX4_isTruck_12 : decode cX4_isTruck 12 = .ok (.iload_n 1, 1) := by decide +kernel
theorem dX4_isTruck_13 : decode cX4_isTruck 13 = .ok (.bipush 6, 2) := by decide +kernel
theorem dX4_isTruck_15 : decode cX4_isTruck 15 = .ok (.if_icmp .ge 7, 3) := by decide +kernel
theorem dX4_isTruck_18 : decode cX4_isTruck 18 = .ok (.iconst 1, 1) := by decide +kernel
theorem dX4_isTruck_19 : decode cX4_isTruck 19 = .ok (.goto 4, 3) := by decide +kernel
theorem dX4_isTruck_22 : decode cX4_isTruck 22 = .ok (.iconst 0, 1) := by decide +kernel
theorem dX4_isTruck_23 : decode cX4_isTruck 23 = .ok (.ireturn, 1) := by decide +kernel
theorem dX4_holderOf_0 : decode cX4_holderOf 0 = .ok (.iload_n 1, 1) := by decide +kernel
theorem dX4_holderOf_1 : decode cX4_holderOf 1 = .ok (.ifCond .lt 18, 3) := by decide +kernel
theorem dX4_holderOf_4 : decode cX4_holderOf 4 = .ok (.iload_n 1, 1) := by decide +kernel
theorem dX4_holderOf_5 : decode cX4_holderOf 5 = .ok (.iconst 5, 1) := by decide +kernel
theorem dX4_holderOf_6 : decode cX4_holderOf 6 = .ok (.if_icmp .ge 13, 3) := by decide +kernel
theorem dX4_holderOf_9 : decode cX4_holderOf 9 = .ok (.iload_n 2, 1) := by decide +kernel
theorem dX4_holderOf_10 : decode cX4_holderOf 10 = .ok (.ifCond .lt 9, 3) := by decide +kernel
theorem dX4_holderOf_13 : decode cX4_holderOf 13 = .ok (.iload_n 2, 1) := by decide +kernel
theorem dX4_holderOf_14 : decode cX4_holderOf 14 = .ok (.bipush 7, 2) := by decide +kernel
theorem dX4_holderOf_16 : decode cX4_holderOf 16 = .ok (.if_icmp .lt 5, 3) := by decide +kernel
theorem dX4_holderOf_19 : decode cX4_holderOf 19 = .ok (.iconst (-1), 1) := by decide +kernel
theorem dX4_holderOf_20 : decode cX4_holderOf 20 = .ok (.ireturn, 1) := by decide +kernel
theorem dX4_holderOf_21 : decode cX4_holderOf 21 = .ok (.aload_n 0, 1) := by decide +kernel
theorem dX4_holderOf_22 : decode cX4_holderOf 22 = .ok (.getfield 17, 3) := by decide +kernel
theorem dX4_holderOf_25 : decode cX4_holderOf 25 = .ok (.iload_n 1, 1) := by decide +kernel
theorem dX4_holderOf_26 : decode cX4_holderOf 26 = .ok (.bipush 7, 2) := by decide +kernel
theorem dX4_holderOf_28 : decode cX4_holderOf 28 = .ok (.imul, 1) := by decide +kernel
theorem dX4_holderOf_29 : decode cX4_holderOf 29 = .ok (.iload_n 2, 1) := by decide +kernel
theorem dX4_holderOf_30 : decode cX4_holderOf 30 = .ok (.iadd, 1) := by decide +kernel
theorem dX4_holderOf_31 : decode cX4_holderOf 31 = .ok (.iaload, 1) := by decide +kernel
theorem dX4_holderOf_32 : decode cX4_holderOf 32 = .ok (.ireturn, 1) := by decide +kernel
theorem dX4_setHolder_0 : decode cX4_setHolder 0 = .ok (.iload_n 1, 1) := by decide +kernel
theorem dX4_setHolder_1 : decode cX4_setHolder 1 = .ok (.invokestatic 144, 3) := by decide +kernel
theorem dX4_setHolder_4 : decode cX4_setHolder 4 = .ok (.ifCond .eq 22, 3) := by decide +kernel
theorem dX4_setHolder_7 : decode cX4_setHolder 7 = .ok (.iload_n 2, 1) := by decide +kernel
theorem dX4_setHolder_8 : decode cX4_setHolder 8 = .ok (.invokestatic 123, 3) := by decide +kernel
theorem dX4_setHolder_11 : decode cX4_setHolder 11 = .ok (.ifCond .eq 15, 3) := by decide +kernel
theorem dX4_setHolder_14 : decode cX4_setHolder 14 = .ok (.aload_n 0, 1) := by decide +kernel
theorem dX4_setHolder_15 : decode cX4_setHolder 15 = .ok (.getfield 17, 3) := by decide +kernel
theorem dX4_setHolder_18 : decode cX4_setHolder 18 = .ok (.iload_n 1, 1) := by decide +kernel
theorem dX4_setHolder_19 : decode cX4_setHolder 19 = .ok (.bipush 7, 2) := by decide +kernel
theorem dX4_setHolder_21 : decode cX4_setHolder 21 = .ok (.imul, 1) := by decide +kernel
theorem dX4_setHolder_22 : decode cX4_setHolder 22 = .ok (.iload_n 2, 1) := by decide +kernel
theorem dX4_setHolder_23 : decode cX4_setHolder 23 = .ok (.iadd, 1) := by decide +kernel
theorem dX4_setHolder_24 : decode cX4_setHolder 24 = .ok (.iload_n 3, 1) := by decide +kernel
theorem dX4_setHolder_25 : decode cX4_setHolder 25 = .ok (.iastore, 1) := by decide +kernel
theorem dX4_setHolder_26 : decode cX4_setHolder 26 = .ok (.return_, 1) := by decide +kernel
theorem dX4_pitchHeldBy_0 : decode cX4_pitchHeldBy 0 = .ok (.iconst 0, 1) := by decide +kernel
theorem dX4_pitchHeldBy_1 : decode cX4_pitchHeldBy 1 = .ok (.istore_n 3, 1) := by decide +kernel
theorem dX4_pitchHeldBy_2 : decode cX4_pitchHeldBy 2 = .ok (.iload_n 3, 1) := by decide +kernel
theorem dX4_pitchHeldBy_3 : decode cX4_pitchHeldBy 3 = .ok (.iconst 5, 1) := by decide +kernel
theorem dX4_pitchHeldBy_4 : decode cX4_pitchHeldBy 4 = .ok (.if_icmp .ge 21, 3) := by decide +kernel
theorem dX4_pitchHeldBy_7 : decode cX4_pitchHeldBy 7 = .ok (.aload_n 0, 1) := by decide +kernel
theorem dX4_pitchHeldBy_8 : decode cX4_pitchHeldBy 8 = .ok (.iload_n 3, 1) := by decide +kernel
theorem dX4_pitchHeldBy_9 : decode cX4_pitchHeldBy 9 = .ok (.iload_n 2, 1) := by decide +kernel
theorem dX4_pitchHeldBy_10 : decode cX4_pitchHeldBy 10 = .ok (.invokevirtual 147, 3) := by decide +kernel
theorem dX4_pitchHeldBy_13 : decode cX4_pitchHeldBy 13 = .ok (.iload_n 1, 1) := by decide +kernel
theorem dX4_pitchHeldBy_14 : decode cX4_pitchHeldBy 14 = .ok (.if_icmp .ne 5, 3) := by decide +kernel
theorem dX4_pitchHeldBy_17 : decode cX4_pitchHeldBy 17 = .ok (.iload_n 3, 1) := by decide +kernel
theorem dX4_pitchHeldBy_18 : decode cX4_pitchHeldBy 18 = .ok (.ireturn, 1) := by decide +kernel
theorem dX4_pitchHeldBy_19 : decode cX4_pitchHeldBy 19 = .ok (.iinc 3 1, 3) := by decide +kernel
theorem dX4_pitchHeldBy_22 : decode cX4_pitchHeldBy 22 = .ok (.goto (-20), 3) := by decide +kernel
theorem dX4_pitchHeldBy_25 : decode cX4_pitchHeldBy 25 = .ok (.iconst (-1), 1) := by decide +kernel
theorem dX4_pitchHeldBy_26 : decode cX4_pitchHeldBy 26 = .ok (.ireturn, 1) := by decide +kernel
theorem dX4_pitchToday_0 : decode cX4_pitchToday 0 = .ok (.aload_n 0, 1) := by decide +kernel
theorem dX4_pitchToday_1 : decode cX4_pitchToday 1 = .ok (.iload_n 1, 1) := by decide +kernel
theorem dX4_pitchToday_2 : decode cX4_pitchToday 2 = .ok (.aload_n 0, 1) := by decide +kernel
theorem dX4_pitchToday_3 : decode cX4_pitchToday 3 = .ok (.invokevirtual 157, 3) := by decide +kernel
theorem dX4_pitchToday_6 : decode cX4_pitchToday 6 = .ok (.invokevirtual 137, 3) := by decide +kernel
theorem dX4_pitchToday_9 : decode cX4_pitchToday 9 = .ok (.ireturn, 1) := by decide +kernel
theorem dX4_today_0 : decode cX4_today 0 = .ok (.aload_n 0, 1) := by decide +kernel
theorem dX4_today_1 : decode cX4_today 1 = .ok (.getfield 51, 3) := by decide +kernel
theorem dX4_today_4 : decode cX4_today 4 = .ok (.bipush 7, 2) := by decide +kernel
theorem dX4_today_6 : decode cX4_today 6 = .ok (.invokestatic 160, 3) := by decide +kernel
theorem dX4_today_9 : decode cX4_today 9 = .ok (.ireturn, 1) := by decide +kernel
theorem dX4_endAssignment_0 : decode cX4_endAssignment 0 = .ok (.aload_n 0, 1) := by decide +kernel
theorem dX4_endAssignment_1 : decode cX4_endAssignment 1 = .ok (.iload_n 1, 1) := by decide +kernel
theorem dX4_endAssignment_2 : decode cX4_endAssignment 2 = .ok (.iload_n 2, 1) := by decide +kernel
theorem dX4_endAssignment_3 : decode cX4_endAssignment 3 = .ok (.invokevirtual 147, 3) := by decide +kernel
theorem dX4_endAssignment_6 : decode cX4_endAssignment 6 = .ok (.istore_n 3, 1) := by decide +kernel
theorem dX4_endAssignment_7 : decode cX4_endAssignment 7 = .ok (.aload_n 0, 1) := by decide +kernel
theorem dX4_endAssignment_8 : decode cX4_endAssignment 8 = .ok (.iload_n 1, 1) := by decide +kernel
theorem dX4_endAssignment_9 : decode cX4_endAssignment 9 = .ok (.iload_n 2, 1) := by decide +kernel
theorem dX4_endAssignment_10 : decode cX4_endAssignment 10 = .ok (.iconst (-1), 1) := by decide +kernel
theorem dX4_endAssignment_11 : decode cX4_endAssignment 11 = .ok (.invokevirtual 150, 3) := by decide +kernel
theorem dX4_endAssignment_14 : decode cX4_endAssignment 14 = .ok (.iload_n 2, 1) := by decide +kernel
theorem dX4_endAssignment_15 : decode cX4_endAssignment 15 = .ok (.aload_n 0, 1) := by decide +kernel
theorem dX4_endAssignment_16 : decode cX4_endAssignment 16 = .ok (.invokevirtual 157, 3) := by decide +kernel
theorem dX4_endAssignment_19 : decode cX4_endAssignment 19 = .ok (.if_icmp .ne 29, 3) := by decide +kernel
theorem dX4_endAssignment_22 : decode cX4_endAssignment 22 = .ok (.aload_n 0, 1) := by decide +kernel
theorem dX4_endAssignment_23 : decode cX4_endAssignment 23 = .ok (.iload_n 3, 1) := by decide +kernel
theorem dX4_endAssignment_24 : decode cX4_endAssignment 24 = .ok (.invokevirtual 114, 3) := by decide +kernel
theorem dX4_endAssignment_27 : decode cX4_endAssignment 27 = .ok (.ifCond .eq 21, 3) := by decide +kernel
theorem dX4_endAssignment_30 : decode cX4_endAssignment 30 = .ok (.aload_n 0, 1) := by decide +kernel
theorem dX4_endAssignment_31 : decode cX4_endAssignment 31 = .ok (.dup, 1) := by decide +kernel
theorem dX4_endAssignment_32 : decode cX4_endAssignment 32 = .ok (.getfield 63, 3) := by decide +kernel
theorem dX4_endAssignment_35 : decode cX4_endAssignment 35 = .ok (.aload_n 0, 1) := by decide +kernel
theorem dX4_endAssignment_36 : decode cX4_endAssignment 36 = .ok (.getfield 11, 3) := by decide +kernel
theorem dX4_endAssignment_39 : decode cX4_endAssignment 39 = .ok (.iload_n 3, 1) := by decide +kernel
theorem dX4_endAssignment_40 : decode cX4_endAssignment 40 = .ok (.aaload, 1) := by decide +kernel
theorem dX4_endAssignment_41 : decode cX4_endAssignment 41 = .ok (.invokevirtual 165, 3) := by decide +kernel
theorem dX4_endAssignment_44 : decode cX4_endAssignment 44 = .ok (.iadd, 1) := by decide +kernel
theorem dX4_endAssignment_45 : decode cX4_endAssignment 45 = .ok (.putfield 63, 3) := by decide +kernel
theorem dX4_endAssignment_48 : decode cX4_endAssignment 48 = .ok (.return_, 1) := by decide +kernel
theorem dX4_countByPitches_0 : decode cX4_countByPitches 0 = .ok (.iconst 0, 1) := by decide +kernel
theorem dX4_countByPitches_1 : decode cX4_countByPitches 1 = .ok (.istore_n 1, 1) := by decide +kernel
theorem dX4_countByPitches_2 : decode cX4_countByPitches 2 = .ok (.iconst 0, 1) := by decide +kernel
theorem dX4_countByPitches_3 : decode cX4_countByPitches 3 = .ok (.istore_n 2, 1) := by decide +kernel
theorem dX4_countByPitches_4 : decode cX4_countByPitches 4 = .ok (.iload_n 2, 1) := by decide +kernel
theorem dX4_countByPitches_5 : decode cX4_countByPitches 5 = .ok (.iconst 5, 1) := by decide +kernel
theorem dX4_countByPitches_6 : decode cX4_countByPitches 6 = .ok (.if_icmp .ge 36, 3) := by decide +kernel
theorem dX4_countByPitches_9 : decode cX4_countByPitches 9 = .ok (.iconst 0, 1) := by decide +kernel
theorem dX4_countByPitches_10 : decode cX4_countByPitches 10 = .ok (.istore_n 3, 1) := by decide +kernel
theorem dX4_countByPitches_11 : decode cX4_countByPitches 11 = .ok (.iload_n 3, 1) := by decide +kernel
theorem dX4_countByPitches_12 : decode cX4_countByPitches 12 = .ok (.bipush 7, 2) := by decide +kernel
theorem dX4_countByPitches_14 : decode cX4_countByPitches 14 = .ok (.if_icmp .ge 22, 3) := by decide +kernel
theorem dX4_countByPitches_17 : decode cX4_countByPitches 17 = .ok (.aload_n 0, 1) := by decide +kernel
theorem dX4_countByPitches_18 : decode cX4_countByPitches 18 = .ok (.iload_n 2, 1) := by decide +kernel
theorem dX4_countByPitches_19 : decode cX4_countByPitches 19 = .ok (.iload_n 3, 1) := by decide +kernel
theorem dX4_countByPitches_20 : decode cX4_countByPitches 20 = .ok (.invokevirtual 147, 3) := by decide +kernel
theorem dX4_countByPitches_23 : decode cX4_countByPitches 23 = .ok (.iconst (-1), 1) := by decide +kernel
theorem dX4_countByPitches_24 : decode cX4_countByPitches 24 = .ok (.if_icmp .eq 6, 3) := by decide +kernel
theorem dX4_countByPitches_27 : decode cX4_countByPitches 27 = .ok (.iinc 1 1, 3) := by decide +kernel
theorem dX4_countByPitches_30 : decode cX4_countByPitches 30 = .ok (.iinc 3 1, 3) := by decide +kernel
theorem dX4_countByPitches_33 : decode cX4_countByPitches 33 = .ok (.goto (-22), 3) := by decide +kernel
theorem dX4_countByPitches_36 : decode cX4_countByPitches 36 = .ok (.iinc 2 1, 3) := by decide +kernel
theorem dX4_countByPitches_39 : decode cX4_countByPitches 39 = .ok (.goto (-35), 3) := by decide +kernel
theorem dX4_countByPitches_42 : decode cX4_countByPitches 42 = .ok (.iload_n 1, 1) := by decide +kernel
theorem dX4_countByPitches_43 : decode cX4_countByPitches 43 = .ok (.ireturn, 1) := by decide +kernel
theorem dX4_countByTrucks_0 : decode cX4_countByTrucks 0 = .ok (.iconst 0, 1) := by decide +kernel
theorem dX4_countByTrucks_1 : decode cX4_countByTrucks 1 = .ok (.istore_n 1, 1) := by decide +kernel
theorem dX4_countByTrucks_2 : decode cX4_countByTrucks 2 = .ok (.iconst 0, 1) := by decide +kernel
theorem dX4_countByTrucks_3 : decode cX4_countByTrucks 3 = .ok (.istore_n 2, 1) := by decide +kernel
theorem dX4_countByTrucks_4 : decode cX4_countByTrucks 4 = .ok (.iload_n 2, 1) := by decide +kernel
theorem dX4_countByTrucks_5 : decode cX4_countByTrucks 5 = .ok (.aload_n 0, 1) := by decide +kernel
theorem dX4_countByTrucks_6 : decode cX4_countByTrucks 6 = .ok (.getfield 48, 3) := by decide +kernel
theorem dX4_countByTrucks_9 : decode cX4_countByTrucks 9 = .ok (.if_icmp .ge 17, 3) := by decide +kernel
theorem dX4_countByTrucks_12 : decode cX4_countByTrucks 12 = .ok (.iload_n 1, 1) := by decide +kernel
theorem dX4_countByTrucks_13 : decode cX4_countByTrucks 13 = .ok (.aload_n 0, 1) := by decide +kernel
theorem dX4_countByTrucks_14 : decode cX4_countByTrucks 14 = .ok (.iload_n 2, 1) := by decide +kernel
theorem dX4_countByTrucks_15 : decode cX4_countByTrucks 15 = .ok (.invokevirtual 154, 3) := by decide +kernel
theorem dX4_countByTrucks_18 : decode cX4_countByTrucks 18 = .ok (.iadd, 1) := by decide +kernel
theorem dX4_countByTrucks_19 : decode cX4_countByTrucks 19 = .ok (.istore_n 1, 1) := by decide +kernel
theorem dX4_countByTrucks_20 : decode cX4_countByTrucks 20 = .ok (.iinc 2 1, 3) := by decide +kernel
theorem dX4_countByTrucks_23 : decode cX4_countByTrucks 23 = .ok (.goto (-19), 3) := by decide +kernel
theorem dX4_countByTrucks_26 : decode cX4_countByTrucks 26 = .ok (.iload_n 1, 1) := by decide +kernel
theorem dX4_countByTrucks_27 : decode cX4_countByTrucks 27 = .ok (.ireturn, 1) := by decide +kernel
theorem dX4_countFor_0 : decode cX4_countFor 0 = .ok (.iconst 0, 1) := by decide +kernel
theorem dX4_countFor_1 : decode cX4_countFor 1 = .ok (.istore_n 2, 1) := by decide +kernel
theorem dX4_countFor_2 : decode cX4_countFor 2 = .ok (.iconst 0, 1) := by decide +kernel
theorem dX4_countFor_3 : decode cX4_countFor 3 = .ok (.istore_n 3, 1) := by decide +kernel
theorem dX4_countFor_4 : decode cX4_countFor 4 = .ok (.iload_n 3, 1) := by decide +kernel
theorem dX4_countFor_5 : decode cX4_countFor 5 = .ok (.bipush 7, 2) := by decide +kernel
theorem dX4_countFor_7 : decode cX4_countFor 7 = .ok (.if_icmp .ge 22, 3) := by decide +kernel
theorem dX4_countFor_10 : decode cX4_countFor 10 = .ok (.aload_n 0, 1) := by decide +kernel
theorem dX4_countFor_11 : decode cX4_countFor 11 = .ok (.iload_n 1, 1) := by decide +kernel
theorem dX4_countFor_12 : decode cX4_countFor 12 = .ok (.iload_n 3, 1) := by decide +kernel
theorem dX4_countFor_13 : decode cX4_countFor 13 = .ok (.invokevirtual 137, 3) := by decide +kernel
theorem dX4_countFor_16 : decode cX4_countFor 16 = .ok (.iconst (-1), 1) := by decide +kernel
theorem dX4_countFor_17 : decode cX4_countFor 17 = .ok (.if_icmp .eq 6, 3) := by decide +kernel
theorem dX4_countFor_20 : decode cX4_countFor 20 = .ok (.iinc 2 1, 3) := by decide +kernel
theorem dX4_countFor_23 : decode cX4_countFor 23 = .ok (.iinc 3 1, 3) := by decide +kernel
theorem dX4_countFor_26 : decode cX4_countFor 26 = .ok (.goto (-22), 3) := by decide +kernel
theorem dX4_countFor_29 : decode cX4_countFor 29 = .ok (.iload_n 2, 1) := by decide +kernel
theorem dX4_countFor_30 : decode cX4_countFor 30 = .ok (.ireturn, 1) := by decide +kernel
theorem dX4_freeDayFor_0 : decode cX4_freeDayFor 0 = .ok (.aload_n 0, 1) := by decide +kernel
theorem dX4_freeDayFor_1 : decode cX4_freeDayFor 1 = .ok (.iload_n 1, 1) := by decide +kernel
theorem dX4_freeDayFor_2 : decode cX4_freeDayFor 2 = .ok (.invokevirtual 114, 3) := by decide +kernel
theorem dX4_freeDayFor_5 : decode cX4_freeDayFor 5 = .ok (.ifCond .ne 5, 3) := by decide +kernel
theorem dX4_freeDayFor_8 : decode cX4_freeDayFor 8 = .ok (.iconst (-1), 1) := by decide +kernel
theorem dX4_freeDayFor_9 : decode cX4_freeDayFor 9 = .ok (.ireturn, 1) := by decide +kernel
theorem dX4_freeDayFor_10 : decode cX4_freeDayFor 10 = .ok (.iconst 0, 1) := by decide +kernel
theorem dX4_freeDayFor_11 : decode cX4_freeDayFor 11 = .ok (.istore_n 2, 1) := by decide +kernel
theorem dX4_freeDayFor_12 : decode cX4_freeDayFor 12 = .ok (.iload_n 2, 1) := by decide +kernel
theorem dX4_freeDayFor_13 : decode cX4_freeDayFor 13 = .ok (.bipush 7, 2) := by decide +kernel
theorem dX4_freeDayFor_15 : decode cX4_freeDayFor 15 = .ok (.if_icmp .ge 44, 3) := by decide +kernel
theorem dX4_freeDayFor_18 : decode cX4_freeDayFor 18 = .ok (.aload_n 0, 1) := by decide +kernel
theorem dX4_freeDayFor_19 : decode cX4_freeDayFor 19 = .ok (.getfield 11, 3) := by decide +kernel
theorem dX4_freeDayFor_22 : decode cX4_freeDayFor 22 = .ok (.iload_n 1, 1) := by decide +kernel
theorem dX4_freeDayFor_23 : decode cX4_freeDayFor 23 = .ok (.aaload, 1) := by decide +kernel
theorem dX4_freeDayFor_24 : decode cX4_freeDayFor 24 = .ok (.iload_n 2, 1) := by decide +kernel
theorem dX4_freeDayFor_25 : decode cX4_freeDayFor 25 = .ok (.invokevirtual 126, 3) := by decide +kernel
theorem dX4_freeDayFor_28 : decode cX4_freeDayFor 28 = .ok (.ifCond .eq 25, 3) := by decide +kernel
theorem dX4_freeDayFor_31 : decode cX4_freeDayFor 31 = .ok (.aload_n 0, 1) := by decide +kernel
theorem dX4_freeDayFor_32 : decode cX4_freeDayFor 32 = .ok (.iload_n 1, 1) := by decide +kernel
theorem dX4_freeDayFor_33 : decode cX4_freeDayFor 33 = .ok (.iload_n 2, 1) := by decide +kernel
theorem dX4_freeDayFor_34 : decode cX4_freeDayFor 34 = .ok (.invokevirtual 137, 3) := by decide +kernel
theorem dX4_freeDayFor_37 : decode cX4_freeDayFor 37 = .ok (.iconst (-1), 1) := by decide +kernel
theorem dX4_freeDayFor_38 : decode cX4_freeDayFor 38 = .ok (.if_icmp .ne 15, 3) := by decide +kernel
theorem dX4_freeDayFor_41 : decode cX4_freeDayFor 41 = .ok (.aload_n 0, 1) := by decide +kernel
theorem dX4_freeDayFor_42 : decode cX4_freeDayFor 42 = .ok (.iconst (-1), 1) := by decide +kernel
theorem dX4_freeDayFor_43 : decode cX4_freeDayFor 43 = .ok (.iload_n 2, 1) := by decide +kernel
theorem dX4_freeDayFor_44 : decode cX4_freeDayFor 44 = .ok (.invokevirtual 137, 3) := by decide +kernel
theorem dX4_freeDayFor_47 : decode cX4_freeDayFor 47 = .ok (.iconst (-1), 1) := by decide +kernel
theorem dX4_freeDayFor_48 : decode cX4_freeDayFor 48 = .ok (.if_icmp .eq 5, 3) := by decide +kernel
theorem dX4_freeDayFor_51 : decode cX4_freeDayFor 51 = .ok (.iload_n 2, 1) := by decide +kernel
theorem dX4_freeDayFor_52 : decode cX4_freeDayFor 52 = .ok (.ireturn, 1) := by decide +kernel
theorem dX4_freeDayFor_53 : decode cX4_freeDayFor 53 = .ok (.iinc 2 1, 3) := by decide +kernel
theorem dX4_freeDayFor_56 : decode cX4_freeDayFor 56 = .ok (.goto (-44), 3) := by decide +kernel
theorem dX4_freeDayFor_59 : decode cX4_freeDayFor 59 = .ok (.iconst (-1), 1) := by decide +kernel
theorem dX4_freeDayFor_60 : decode cX4_freeDayFor 60 = .ok (.ireturn, 1) := by decide +kernel
theorem dX4_passMinutes_0 : decode cX4_passMinutes 0 = .ok (.aload_n 0, 1) := by decide +kernel
theorem dX4_passMinutes_1 : decode cX4_passMinutes 1 = .ok (.getfield 60, 3) := by decide +kernel
theorem dX4_passMinutes_4 : decode cX4_passMinutes 4 = .ok (.istore_n 2, 1) := by decide +kernel
theorem dX4_passMinutes_5 : decode cX4_passMinutes 5 = .ok (.iconst 0, 1) := by decide +kernel
theorem dX4_passMinutes_6 : decode cX4_passMinutes 6 = .ok (.istore_n 3, 1) := by decide +kernel
theorem dX4_passMinutes_7 : decode cX4_passMinutes 7 = .ok (.iload_n 3, 1) := by decide +kernel
theorem dX4_passMinutes_8 : decode cX4_passMinutes 8 = .ok (.iload_n 1, 1) := by decide +kernel
theorem dX4_passMinutes_9 : decode cX4_passMinutes 9 = .ok (.if_icmp .ge 40, 3) := by decide +kernel
theorem dX4_passMinutes_12 : decode cX4_passMinutes 12 = .ok (.aload_n 0, 1) := by decide +kernel
theorem dX4_passMinutes_13 : decode cX4_passMinutes 13 = .ok (.invokevirtual 168, 3) := by decide +kernel
theorem dX4_passMinutes_16 : decode cX4_passMinutes 16 = .ok (.aload_n 0, 1) := by decide +kernel
theorem dX4_passMinutes_17 : decode cX4_passMinutes 17 = .ok (.invokevirtual 171, 3) := by decide +kernel
theorem dX4_passMinutes_20 : decode cX4_passMinutes 20 = .ok (.aload_n 0, 1) := by decide +kernel
theorem dX4_passMinutes_21 : decode cX4_passMinutes 21 = .ok (.dup, 1) := by decide +kernel
theorem dX4_passMinutes_22 : decode cX4_passMinutes 22 = .ok (.getfield 54, 3) := by decide +kernel
theorem dX4_passMinutes_25 : decode cX4_passMinutes 25 = .ok (.iconst 1, 1) := by decide +kernel
theorem dX4_passMinutes_26 : decode cX4_passMinutes 26 = .ok (.iadd, 1) := by decide +kernel
theorem dX4_passMinutes_27 : decode cX4_passMinutes 27 = .ok (.putfield 54, 3) := by decide +kernel
theorem dX4_passMinutes_30 : decode cX4_passMinutes 30 = .ok (.aload_n 0, 1) := by decide +kernel
theorem dX4_passMinutes_31 : decode cX4_passMinutes 31 = .ok (.getfield 54, 3) := by decide +kernel
theorem dX4_passMinutes_34 : decode cX4_passMinutes 34 = .ok (.bipush 60, 2) := by decide +kernel
theorem dX4_passMinutes_36 : decode cX4_passMinutes 36 = .ok (.if_icmp .lt 7, 3) := by decide +kernel
theorem dX4_passMinutes_39 : decode cX4_passMinutes 39 = .ok (.aload_n 0, 1) := by decide +kernel
theorem dX4_passMinutes_40 : decode cX4_passMinutes 40 = .ok (.invokevirtual 174, 3) := by decide +kernel
theorem dX4_passMinutes_43 : decode cX4_passMinutes 43 = .ok (.iinc 3 1, 3) := by decide +kernel
theorem dX4_passMinutes_46 : decode cX4_passMinutes 46 = .ok (.goto (-39), 3) := by decide +kernel
theorem dX4_passMinutes_49 : decode cX4_passMinutes 49 = .ok (.aload_n 0, 1) := by decide +kernel
theorem dX4_passMinutes_50 : decode cX4_passMinutes 50 = .ok (.getfield 60, 3) := by decide +kernel
theorem dX4_passMinutes_53 : decode cX4_passMinutes 53 = .ok (.iload_n 2, 1) := by decide +kernel
theorem dX4_passMinutes_54 : decode cX4_passMinutes 54 = .ok (.isub, 1) := by decide +kernel
theorem dX4_passMinutes_55 : decode cX4_passMinutes 55 = .ok (.ireturn, 1) := by decide +kernel
theorem dX4_letCustomersArrive_0 : decode cX4_letCustomersArrive 0 = .ok (.iconst 0, 1) := by decide +kernel
theorem dX4_letCustomersArrive_1 : decode cX4_letCustomersArrive 1 = .ok (.istore_n 1, 1) := by decide +kernel
theorem dX4_letCustomersArrive_2 : decode cX4_letCustomersArrive 2 = .ok (.iload_n 1, 1) := by decide +kernel
theorem dX4_letCustomersArrive_3 : decode cX4_letCustomersArrive 3 = .ok (.aload_n 0, 1) := by decide +kernel
theorem dX4_letCustomersArrive_4 : decode cX4_letCustomersArrive 4 = .ok (.getfield 27, 3) := by decide +kernel
theorem dX4_letCustomersArrive_7 : decode cX4_letCustomersArrive 7 = .ok (.if_icmp .ge 55, 3) := by decide +kernel
theorem dX4_letCustomersArrive_10 : decode cX4_letCustomersArrive 10 = .ok (.aload_n 0, 1) := by decide +kernel
theorem dX4_letCustomersArrive_11 : decode cX4_letCustomersArrive 11 = .ok (.getfield 57, 3) := by decide +kernel
theorem dX4_letCustomersArrive_14 : decode cX4_letCustomersArrive 14 = .ok (.iconst 4, 1) := by decide +kernel
theorem dX4_letCustomersArrive_15 : decode cX4_letCustomersArrive 15 = .ok (.invokestatic 160, 3) := by decide +kernel
theorem dX4_letCustomersArrive_18 : decode cX4_letCustomersArrive 18 = .ok (.istore_n 2, 1) := by decide +kernel
theorem dX4_letCustomersArrive_19 : decode cX4_letCustomersArrive 19 = .ok (.aload_n 0, 1) := by decide +kernel
theorem dX4_letCustomersArrive_20 : decode cX4_letCustomersArrive 20 = .ok (.dup, 1) := by decide +kernel
theorem dX4_letCustomersArrive_21 : decode cX4_letCustomersArrive 21 = .ok (.getfield 57, 3) := by decide +kernel
theorem dX4_letCustomersArrive_24 : decode cX4_letCustomersArrive 24 = .ok (.iconst 1, 1) := by decide +kernel
theorem dX4_letCustomersArrive_25 : decode cX4_letCustomersArrive 25 = .ok (.iadd, 1) := by decide +kernel
theorem dX4_letCustomersArrive_26 : decode cX4_letCustomersArrive 26 = .ok (.putfield 57, 3) := by decide +kernel
theorem dX4_letCustomersArrive_29 : decode cX4_letCustomersArrive 29 = .ok (.aload_n 0, 1) := by decide +kernel
theorem dX4_letCustomersArrive_30 : decode cX4_letCustomersArrive 30 = .ok (.invokevirtual 177, 3) := by decide +kernel
theorem dX4_letCustomersArrive_33 : decode cX4_letCustomersArrive 33 = .ok (.astore_n 3, 1) := by decide +kernel
theorem dX4_letCustomersArrive_34 : decode cX4_letCustomersArrive 34 = .ok (.aload_n 3, 1) := by decide +kernel
theorem dX4_letCustomersArrive_35 : decode cX4_letCustomersArrive 35 = .ok (.ifnull 11, 3) := by decide +kernel
theorem dX4_letCustomersArrive_38 : decode cX4_letCustomersArrive 38 = .ok (.aload_n 3, 1) := by decide +kernel
theorem dX4_letCustomersArrive_39 : decode cX4_letCustomersArrive 39 = .ok (.iload_n 2, 1) := by decide +kernel
theorem dX4_letCustomersArrive_40 : decode cX4_letCustomersArrive 40 = .ok (.invokevirtual 181, 3) := by decide +kernel
theorem dX4_letCustomersArrive_43 : decode cX4_letCustomersArrive 43 = .ok (.ifCond .ne 13, 3) := by decide +kernel
theorem dX4_letCustomersArrive_46 : decode cX4_letCustomersArrive 46 = .ok (.aload_n 0, 1) := by decide +kernel
theorem dX4_letCustomersArrive_47 : decode cX4_letCustomersArrive 47 = .ok (.dup, 1) := by decide +kernel
theorem dX4_letCustomersArrive_48 : decode cX4_letCustomersArrive 48 = .ok (.getfield 66, 3) := by decide +kernel
theorem dX4_letCustomersArrive_51 : decode cX4_letCustomersArrive 51 = .ok (.iconst 1, 1) := by decide +kernel
theorem dX4_letCustomersArrive_52 : decode cX4_letCustomersArrive 52 = .ok (.iadd, 1) := by decide +kernel
theorem dX4_letCustomersArrive_53 : decode cX4_letCustomersArrive 53 = .ok (.putfield 66, 3) := by decide +kernel
theorem dX4_letCustomersArrive_56 : decode cX4_letCustomersArrive 56 = .ok (.iinc 1 1, 3) := by decide +kernel
theorem dX4_letCustomersArrive_59 : decode cX4_letCustomersArrive 59 = .ok (.goto (-57), 3) := by decide +kernel
theorem dX4_letCustomersArrive_62 : decode cX4_letCustomersArrive 62 = .ok (.return_, 1) := by decide +kernel
theorem dX4_shortestOpenQueue_0 : decode cX4_shortestOpenQueue 0 = .ok (.aconst_null, 1) := by decide +kernel
theorem dX4_shortestOpenQueue_1 : decode cX4_shortestOpenQueue 1 = .ok (.astore_n 1, 1) := by decide +kernel
theorem dX4_shortestOpenQueue_2 : decode cX4_shortestOpenQueue 2 = .ok (.aload_n 0, 1) := by decide +kernel
theorem dX4_shortestOpenQueue_3 : decode cX4_shortestOpenQueue 3 = .ok (.invokevirtual 157, 3) := by decide +kernel
theorem dX4_shortestOpenQueue_6 : decode cX4_shortestOpenQueue 6 = .ok (.istore_n 2, 1) := by decide +kernel
theorem dX4_shortestOpenQueue_7 : decode cX4_shortestOpenQueue 7 = .ok (.iconst 0, 1) := by decide +kernel
theorem dX4_shortestOpenQueue_8 : decode cX4_shortestOpenQueue 8 = .ok (.istore_n 3, 1) := by decide +kernel
theorem dX4_shortestOpenQueue_9 : decode cX4_shortestOpenQueue 9 = .ok (.iload_n 3, 1) := by decide +kernel
theorem dX4_shortestOpenQueue_10 : decode cX4_shortestOpenQueue 10 = .ok (.iconst 5, 1) := by decide +kernel
theorem dX4_shortestOpenQueue_11 : decode cX4_shortestOpenQueue 11 = .ok (.if_icmp .ge 55, 3) := by decide +kernel
theorem dX4_shortestOpenQueue_14 : decode cX4_shortestOpenQueue 14 = .ok (.aload_n 0, 1) := by decide +kernel
theorem dX4_shortestOpenQueue_15 : decode cX4_shortestOpenQueue 15 = .ok (.iload_n 3, 1) := by decide +kernel
theorem dX4_shortestOpenQueue_16 : decode cX4_shortestOpenQueue 16 = .ok (.iload_n 2, 1) := by decide +kernel
theorem dX4_shortestOpenQueue_17 : decode cX4_shortestOpenQueue 17 = .ok (.invokevirtual 147, 3) := by decide +kernel
theorem dX4_shortestOpenQueue_20 : decode cX4_shortestOpenQueue 20 = .ok (.istore 4, 2) := by decide +kernel
theorem dX4_shortestOpenQueue_22 : decode cX4_shortestOpenQueue 22 = .ok (.aload_n 0, 1) := by decide +kernel
theorem dX4_shortestOpenQueue_23 : decode cX4_shortestOpenQueue 23 = .ok (.iload 4, 2) := by decide +kernel
theorem dX4_shortestOpenQueue_25 : decode cX4_shortestOpenQueue 25 = .ok (.invokevirtual 114, 3) := by decide +kernel
theorem dX4_shortestOpenQueue_28 : decode cX4_shortestOpenQueue 28 = .ok (.ifCond .eq 32, 3) := by decide +kernel
theorem dX4_shortestOpenQueue_31 : decode cX4_shortestOpenQueue 31 = .ok (.aload_n 1, 1) := by decide +kernel
theorem dX4_shortestOpenQueue_32 : decode cX4_shortestOpenQueue 32 = .ok (.ifnull 20, 3) := by decide +kernel
theorem dX4_shortestOpenQueue_35 : decode cX4_shortestOpenQueue 35 = .ok (.aload_n 0, 1) := by decide +kernel
theorem dX4_shortestOpenQueue_36 : decode cX4_shortestOpenQueue 36 = .ok (.getfield 11, 3) := by decide +kernel
theorem dX4_shortestOpenQueue_39 : decode cX4_shortestOpenQueue 39 = .ok (.iload 4, 2) := by decide +kernel
theorem dX4_shortestOpenQueue_41 : decode cX4_shortestOpenQueue 41 = .ok (.aaload, 1) := by decide +kernel
theorem dX4_shortestOpenQueue_42 : decode cX4_shortestOpenQueue 42 = .ok (.getfield 184, 3) := by decide +kernel
theorem dX4_shortestOpenQueue_45 : decode cX4_shortestOpenQueue 45 = .ok (.aload_n 1, 1) := by decide +kernel
theorem dX4_shortestOpenQueue_46 : decode cX4_shortestOpenQueue 46 = .ok (.getfield 184, 3) := by decide +kernel
theorem dX4_shortestOpenQueue_49 : decode cX4_shortestOpenQueue 49 = .ok (.if_icmp .ge 11, 3) := by decide +kernel
theorem dX4_shortestOpenQueue_52 : decode cX4_shortestOpenQueue 52 = .ok (.aload_n 0, 1) := by decide +kernel
theorem dX4_shortestOpenQueue_53 : decode cX4_shortestOpenQueue 53 = .ok (.getfield 11, 3) := by decide +kernel
theorem dX4_shortestOpenQueue_56 : decode cX4_shortestOpenQueue 56 = .ok (.iload 4, 2) := by decide +kernel
theorem dX4_shortestOpenQueue_58 : decode cX4_shortestOpenQueue 58 = .ok (.aaload, 1) := by decide +kernel
theorem dX4_shortestOpenQueue_59 : decode cX4_shortestOpenQueue 59 = .ok (.astore_n 1, 1) := by decide +kernel
theorem dX4_shortestOpenQueue_60 : decode cX4_shortestOpenQueue 60 = .ok (.iinc 3 1, 3) := by decide +kernel
theorem dX4_shortestOpenQueue_63 : decode cX4_shortestOpenQueue 63 = .ok (.goto (-54), 3) := by decide +kernel
theorem dX4_shortestOpenQueue_66 : decode cX4_shortestOpenQueue 66 = .ok (.aload_n 1, 1) := by decide +kernel
theorem dX4_shortestOpenQueue_67 : decode cX4_shortestOpenQueue 67 = .ok (.areturn, 1) := by decide +kernel
theorem dX4_letTrucksWork_0 : decode cX4_letTrucksWork 0 = .ok (.aload_n 0, 1) := by decide +kernel
theorem dX4_letTrucksWork_1 : decode cX4_letTrucksWork 1 = .ok (.invokevirtual 157, 3) := by decide +kernel
theorem dX4_letTrucksWork_4 : decode cX4_letTrucksWork 4 = .ok (.istore_n 1, 1) := by decide +kernel
theorem dX4_letTrucksWork_5 : decode cX4_letTrucksWork 5 = .ok (.iconst 0, 1) := by decide +kernel
theorem dX4_letTrucksWork_6 : decode cX4_letTrucksWork 6 = .ok (.istore_n 2, 1) := by decide +kernel
theorem dX4_letTrucksWork_7 : decode cX4_letTrucksWork 7 = .ok (.iload_n 2, 1) := by decide +kernel
theorem dX4_letTrucksWork_8 : decode cX4_letTrucksWork 8 = .ok (.iconst 5, 1) := by decide +kernel
theorem dX4_letTrucksWork_9 : decode cX4_letTrucksWork 9 = .ok (.if_icmp .ge 34, 3) := by decide +kernel
theorem dX4_letTrucksWork_12 : decode cX4_letTrucksWork 12 = .ok (.aload_n 0, 1) := by decide +kernel
theorem dX4_letTrucksWork_13 : decode cX4_letTrucksWork 13 = .ok (.iload_n 2, 1) := by decide +kernel
theorem dX4_letTrucksWork_14 : decode cX4_letTrucksWork 14 = .ok (.iload_n 1, 1) := by decide +kernel
theorem dX4_letTrucksWork_15 : decode cX4_letTrucksWork 15 = .ok (.invokevirtual 147, 3) := by decide +kernel
theorem dX4_letTrucksWork_18 : decode cX4_letTrucksWork 18 = .ok (.istore_n 3, 1) := by decide +kernel
theorem dX4_letTrucksWork_19 : decode cX4_letTrucksWork 19 = .ok (.aload_n 0, 1) := by decide +kernel
theorem dX4_letTrucksWork_20 : decode cX4_letTrucksWork 20 = .ok (.iload_n 3, 1) := by decide +kernel
theorem dX4_letTrucksWork_21 : decode cX4_letTrucksWork 21 = .ok (.invokevirtual 114, 3) := by decide +kernel
theorem dX4_letTrucksWork_24 : decode cX4_letTrucksWork 24 = .ok (.ifCond .eq 13, 3) := by decide +kernel
theorem dX4_letTrucksWork_27 : decode cX4_letTrucksWork 27 = .ok (.aload_n 0, 1) := by decide +kernel
theorem dX4_letTrucksWork_28 : decode cX4_letTrucksWork 28 = .ok (.aload_n 0, 1) := by decide +kernel
theorem dX4_letTrucksWork_29 : decode cX4_letTrucksWork 29 = .ok (.getfield 11, 3) := by decide +kernel
theorem dX4_letTrucksWork_32 : decode cX4_letTrucksWork 32 = .ok (.iload_n 3, 1) := by decide +kernel
theorem dX4_letTrucksWork_33 : decode cX4_letTrucksWork 33 = .ok (.aaload, 1) := by decide +kernel
theorem dX4_letTrucksWork_34 : decode cX4_letTrucksWork 34 = .ok (.invokevirtual 187, 3) := by decide +kernel
theorem dX4_letTrucksWork_37 : decode cX4_letTrucksWork 37 = .ok (.iinc 2 1, 3) := by decide +kernel
theorem dX4_letTrucksWork_40 : decode cX4_letTrucksWork 40 = .ok (.goto (-33), 3) := by decide +kernel
theorem dX4_letTrucksWork_43 : decode cX4_letTrucksWork 43 = .ok (.return_, 1) := by decide +kernel
theorem dX4_letWork_0 : decode cX4_letWork 0 = .ok (.aload_n 1, 1) := by decide +kernel
theorem dX4_letWork_1 : decode cX4_letWork 1 = .ok (.iconst 0, 1) := by decide +kernel
theorem dX4_letWork_2 : decode cX4_letWork 2 = .ok (.invokevirtual 190, 3) := by decide +kernel
theorem dX4_letWork_5 : decode cX4_letWork 5 = .ok (.istore_n 2, 1) := by decide +kernel
theorem dX4_letWork_6 : decode cX4_letWork 6 = .ok (.iload_n 2, 1) := by decide +kernel
theorem dX4_letWork_7 : decode cX4_letWork 7 = .ok (.invokestatic 117, 3) := by decide +kernel
theorem dX4_letWork_10 : decode cX4_letWork 10 = .ok (.ifCond .ne 4, 3) := by decide +kernel
theorem dX4_letWork_13 : decode cX4_letWork 13 = .ok (.return_, 1) := by decide +kernel
theorem dX4_letWork_14 : decode cX4_letWork 14 = .ok (.aload_n 1, 1) := by decide +kernel
theorem dX4_letWork_15 : decode cX4_letWork 15 = .ok (.getfield 193, 3) := by decide +kernel
theorem dX4_letWork_18 : decode cX4_letWork 18 = .ok (.ifCond .ne 35, 3) := by decide +kernel
theorem dX4_letWork_21 : decode cX4_letWork 21 = .ok (.aload_n 1, 1) := by decide +kernel
theorem dX4_letWork_22 : decode cX4_letWork 22 = .ok (.getfield 120, 3) := by decide +kernel
theorem dX4_letWork_25 : decode cX4_letWork 25 = .ok (.iload_n 2, 1) := by decide +kernel
theorem dX4_letWork_26 : decode cX4_letWork 26 = .ok (.iaload, 1) := by decide +kernel
theorem dX4_letWork_27 : decode cX4_letWork 27 = .ok (.ifCond .ne 18, 3) := by decide +kernel
theorem dX4_letWork_30 : decode cX4_letWork 30 = .ok (.aload_n 1, 1) := by decide +kernel
theorem dX4_letWork_31 : decode cX4_letWork 31 = .ok (.invokevirtual 196, 3) := by decide +kernel
theorem dX4_letWork_34 : decode cX4_letWork 34 = .ok (.aload_n 0, 1) := by decide +kernel
theorem dX4_letWork_35 : decode cX4_letWork 35 = .ok (.dup, 1) := by decide +kernel
theorem dX4_letWork_36 : decode cX4_letWork 36 = .ok (.getfield 63, 3) := by decide +kernel
theorem dX4_letWork_39 : decode cX4_letWork 39 = .ok (.iconst 1, 1) := by decide +kernel
theorem dX4_letWork_40 : decode cX4_letWork 40 = .ok (.iadd, 1) := by decide +kernel
theorem dX4_letWork_41 : decode cX4_letWork 41 = .ok (.putfield 63, 3) := by decide +kernel
theorem dX4_letWork_44 : decode cX4_letWork 44 = .ok (.return_, 1) := by decide +kernel
theorem dX4_letWork_45 : decode cX4_letWork 45 = .ok (.aload_n 1, 1) := by decide +kernel
theorem dX4_letWork_46 : decode cX4_letWork 46 = .ok (.iload_n 2, 1) := by decide +kernel
theorem dX4_letWork_47 : decode cX4_letWork 47 = .ok (.invokestatic 199, 3) := by decide +kernel
theorem dX4_letWork_50 : decode cX4_letWork 50 = .ok (.putfield 193, 3) := by decide +kernel
theorem dX4_letWork_53 : decode cX4_letWork 53 = .ok (.aload_n 1, 1) := by decide +kernel
theorem dX4_letWork_54 : decode cX4_letWork 54 = .ok (.dup, 1) := by decide +kernel
theorem dX4_letWork_55 : decode cX4_letWork 55 = .ok (.getfield 193, 3) := by decide +kernel
theorem dX4_letWork_58 : decode cX4_letWork 58 = .ok (.iconst 1, 1) := by decide +kernel
theorem dX4_letWork_59 : decode cX4_letWork 59 = .ok (.isub, 1) := by decide +kernel
theorem dX4_letWork_60 : decode cX4_letWork 60 = .ok (.putfield 193, 3) := by decide +kernel
theorem dX4_letWork_63 : decode cX4_letWork 63 = .ok (.aload_n 1, 1) := by decide +kernel
theorem dX4_letWork_64 : decode cX4_letWork 64 = .ok (.getfield 193, 3) := by decide +kernel
theorem dX4_letWork_67 : decode cX4_letWork 67 = .ok (.ifCond .le 4, 3) := by decide +kernel
theorem dX4_letWork_70 : decode cX4_letWork 70 = .ok (.return_, 1) := by decide +kernel
theorem dX4_letWork_71 : decode cX4_letWork 71 = .ok (.aload_n 1, 1) := by decide +kernel
theorem dX4_letWork_72 : decode cX4_letWork 72 = .ok (.invokevirtual 196, 3) := by decide +kernel
theorem dX4_letWork_75 : decode cX4_letWork 75 = .ok (.aload_n 1, 1) := by decide +kernel
theorem dX4_letWork_76 : decode cX4_letWork 76 = .ok (.getfield 120, 3) := by decide +kernel
theorem dX4_letWork_79 : decode cX4_letWork 79 = .ok (.iload_n 2, 1) := by decide +kernel
theorem dX4_letWork_80 : decode cX4_letWork 80 = .ok (.dup2, 1) := by decide +kernel
theorem dX4_letWork_81 : decode cX4_letWork 81 = .ok (.iaload, 1) := by decide +kernel
theorem dX4_letWork_82 : decode cX4_letWork 82 = .ok (.iconst 1, 1) := by decide +kernel
theorem dX4_letWork_83 : decode cX4_letWork 83 = .ok (.isub, 1) := by decide +kernel
theorem dX4_letWork_84 : decode cX4_letWork 84 = .ok (.iastore, 1) := by decide +kernel
theorem dX4_letWork_85 : decode cX4_letWork 85 = .ok (.aload_n 1, 1) := by decide +kernel
theorem dX4_letWork_86 : decode cX4_letWork 86 = .ok (.dup, 1) := by decide +kernel
theorem dX4_letWork_87 : decode cX4_letWork 87 = .ok (.getfield 202, 3) := by decide +kernel
theorem dX4_letWork_90 : decode cX4_letWork 90 = .ok (.aload_n 0, 1) := by decide +kernel
theorem dX4_letWork_91 : decode cX4_letWork 91 = .ok (.getfield 21, 3) := by decide +kernel
theorem dX4_letWork_94 : decode cX4_letWork 94 = .ok (.iload_n 2, 1) := by decide +kernel
theorem dX4_letWork_95 : decode cX4_letWork 95 = .ok (.iaload, 1) := by decide +kernel
theorem dX4_letWork_96 : decode cX4_letWork 96 = .ok (.iadd, 1) := by decide +kernel
theorem dX4_letWork_97 : decode cX4_letWork 97 = .ok (.putfield 202, 3) := by decide +kernel
theorem dX4_letWork_100 : decode cX4_letWork 100 = .ok (.aload_n 0, 1) := by decide +kernel
theorem dX4_letWork_101 : decode cX4_letWork 101 = .ok (.getfield 24, 3) := by decide +kernel
theorem dX4_letWork_104 : decode cX4_letWork 104 = .ok (.iload_n 2, 1) := by decide +kernel
theorem dX4_letWork_105 : decode cX4_letWork 105 = .ok (.dup2, 1) := by decide +kernel
theorem dX4_letWork_106 : decode cX4_letWork 106 = .ok (.iaload, 1) := by decide +kernel
theorem dX4_letWork_107 : decode cX4_letWork 107 = .ok (.iconst 1, 1) := by decide +kernel
theorem dX4_letWork_108 : decode cX4_letWork 108 = .ok (.iadd, 1) := by decide +kernel
theorem dX4_letWork_109 : decode cX4_letWork 109 = .ok (.iastore, 1) := by decide +kernel
theorem dX4_letWork_110 : decode cX4_letWork 110 = .ok (.aload_n 0, 1) := by decide +kernel
theorem dX4_letWork_111 : decode cX4_letWork 111 = .ok (.dup, 1) := by decide +kernel
theorem dX4_letWork_112 : decode cX4_letWork 112 = .ok (.getfield 60, 3) := by decide +kernel
theorem dX4_letWork_115 : decode cX4_letWork 115 = .ok (.iconst 1, 1) := by decide +kernel
theorem dX4_letWork_116 : decode cX4_letWork 116 = .ok (.iadd, 1) := by decide +kernel
theorem dX4_letWork_117 : decode cX4_letWork 117 = .ok (.putfield 60, 3) := by decide +kernel
theorem dX4_letWork_120 : decode cX4_letWork 120 = .ok (.return_, 1) := by decide +kernel
theorem dX4_endDay_0 : decode cX4_endDay 0 = .ok (.iconst 0, 1) := by decide +kernel
theorem dX4_endDay_1 : decode cX4_endDay 1 = .ok (.istore_n 1, 1) := by decide +kernel
theorem dX4_endDay_2 : decode cX4_endDay 2 = .ok (.iload_n 1, 1) := by decide +kernel
theorem dX4_endDay_3 : decode cX4_endDay 3 = .ok (.bipush 6, 2) := by decide +kernel
theorem dX4_endDay_5 : decode cX4_endDay 5 = .ok (.if_icmp .ge 27, 3) := by decide +kernel
theorem dX4_endDay_8 : decode cX4_endDay 8 = .ok (.aload_n 0, 1) := by decide +kernel
theorem dX4_endDay_9 : decode cX4_endDay 9 = .ok (.dup, 1) := by decide +kernel
theorem dX4_endDay_10 : decode cX4_endDay 10 = .ok (.getfield 63, 3) := by decide +kernel
theorem dX4_endDay_13 : decode cX4_endDay 13 = .ok (.aload_n 0, 1) := by decide +kernel
theorem dX4_endDay_14 : decode cX4_endDay 14 = .ok (.getfield 11, 3) := by decide +kernel
theorem dX4_endDay_17 : decode cX4_endDay 17 = .ok (.iload_n 1, 1) := by decide +kernel
theorem dX4_endDay_18 : decode cX4_endDay 18 = .ok (.aaload, 1) := by decide +kernel
theorem dX4_endDay_19 : decode cX4_endDay 19 = .ok (.invokevirtual 165, 3) := by decide +kernel
theorem dX4_endDay_22 : decode cX4_endDay 22 = .ok (.iadd, 1) := by decide +kernel
theorem dX4_endDay_23 : decode cX4_endDay 23 = .ok (.putfield 63, 3) := by decide +kernel
theorem dX4_endDay_26 : decode cX4_endDay 26 = .ok (.iinc 1 1, 3) := by decide +kernel
theorem dX4_endDay_29 : decode cX4_endDay 29 = .ok (.goto (-27), 3) := by decide +kernel
theorem dX4_endDay_32 : decode cX4_endDay 32 = .ok (.aload_n 0, 1) := by decide +kernel
theorem dX4_endDay_33 : decode cX4_endDay 33 = .ok (.dup, 1) := by decide +kernel
theorem dX4_endDay_34 : decode cX4_endDay 34 = .ok (.getfield 51, 3) := by decide +kernel
theorem dX4_endDay_37 : decode cX4_endDay 37 = .ok (.iconst 1, 1) := by decide +kernel
theorem dX4_endDay_38 : decode cX4_endDay 38 = .ok (.iadd, 1) := by decide +kernel
theorem dX4_endDay_39 : decode cX4_endDay 39 = .ok (.putfield 51, 3) := by decide +kernel
theorem dX4_endDay_42 : decode cX4_endDay 42 = .ok (.aload_n 0, 1) := by decide +kernel
theorem dX4_endDay_43 : decode cX4_endDay 43 = .ok (.iconst 0, 1) := by decide +kernel
theorem dX4_endDay_44 : decode cX4_endDay 44 = .ok (.putfield 54, 3) := by decide +kernel
theorem dX4_endDay_47 : decode cX4_endDay 47 = .ok (.return_, 1) := by decide +kernel
theorem dX4_truckRanked_0 : decode cX4_truckRanked 0 = .ok (.iconst 0, 1) := by decide +kernel
theorem dX4_truckRanked_1 : decode cX4_truckRanked 1 = .ok (.istore_n 2, 1) := by decide +kernel
theorem dX4_truckRanked_2 : decode cX4_truckRanked 2 = .ok (.iload_n 2, 1) := by decide +kernel
theorem dX4_truckRanked_3 : decode cX4_truckRanked 3 = .ok (.aload_n 0, 1) := by decide +kernel
theorem dX4_truckRanked_4 : decode cX4_truckRanked 4 = .ok (.getfield 48, 3) := by decide +kernel
theorem dX4_truckRanked_7 : decode cX4_truckRanked 7 = .ok (.if_icmp .ge 20, 3) := by decide +kernel
theorem dX4_truckRanked_10 : decode cX4_truckRanked 10 = .ok (.aload_n 0, 1) := by decide +kernel
theorem dX4_truckRanked_11 : decode cX4_truckRanked 11 = .ok (.iload_n 2, 1) := by decide +kernel
theorem dX4_truckRanked_12 : decode cX4_truckRanked 12 = .ok (.invokevirtual 205, 3) := by decide +kernel
theorem dX4_truckRanked_15 : decode cX4_truckRanked 15 = .ok (.iload_n 1, 1) := by decide +kernel
theorem dX4_truckRanked_16 : decode cX4_truckRanked 16 = .ok (.if_icmp .ne 5, 3) := by decide +kernel
theorem dX4_truckRanked_19 : decode cX4_truckRanked 19 = .ok (.iload_n 2, 1) := by decide +kernel
theorem dX4_truckRanked_20 : decode cX4_truckRanked 20 = .ok (.ireturn, 1) := by decide +kernel
theorem dX4_truckRanked_21 : decode cX4_truckRanked 21 = .ok (.iinc 2 1, 3) := by decide +kernel
theorem dX4_truckRanked_24 : decode cX4_truckRanked 24 = .ok (.goto (-22), 3) := by decide +kernel
theorem dX4_truckRanked_27 : decode cX4_truckRanked 27 = .ok (.iconst (-1), 1) := by decide +kernel
theorem dX4_truckRanked_28 : decode cX4_truckRanked 28 = .ok (.ireturn, 1) := by decide +kernel
theorem dX4_rankOf_0 : decode cX4_rankOf 0 = .ok (.aload_n 0, 1) := by decide +kernel
theorem dX4_rankOf_1 : decode cX4_rankOf 1 = .ok (.iload_n 1, 1) := by decide +kernel
theorem dX4_rankOf_2 : decode cX4_rankOf 2 = .ok (.invokevirtual 114, 3) := by decide +kernel
theorem dX4_rankOf_5 : decode cX4_rankOf 5 = .ok (.ifCond .ne 5, 3) := by decide +kernel
theorem dX4_rankOf_8 : decode cX4_rankOf 8 = .ok (.iconst (-1), 1) := by decide +kernel
theorem dX4_rankOf_9 : decode cX4_rankOf 9 = .ok (.ireturn, 1) := by decide +kernel
theorem dX4_rankOf_10 : decode cX4_rankOf 10 = .ok (.iconst 0, 1) := by decide +kernel
theorem dX4_rankOf_11 : decode cX4_rankOf 11 = .ok (.istore_n 2, 1) := by decide +kernel
theorem dX4_rankOf_12 : decode cX4_rankOf 12 = .ok (.iconst 0, 1) := by decide +kernel
theorem dX4_rankOf_13 : decode cX4_rankOf 13 = .ok (.istore_n 3, 1) := by decide +kernel
theorem dX4_rankOf_14 : decode cX4_rankOf 14 = .ok (.iload_n 3, 1) := by decide +kernel
theorem dX4_rankOf_15 : decode cX4_rankOf 15 = .ok (.aload_n 0, 1) := by decide +kernel
theorem dX4_rankOf_16 : decode cX4_rankOf 16 = .ok (.getfield 48, 3) := by decide +kernel
theorem dX4_rankOf_19 : decode cX4_rankOf 19 = .ok (.if_icmp .ge 71, 3) := by decide +kernel
theorem dX4_rankOf_22 : decode cX4_rankOf 22 = .ok (.iload_n 3, 1) := by decide +kernel
theorem dX4_rankOf_23 : decode cX4_rankOf 23 = .ok (.bipush 6, 2) := by decide +kernel
theorem dX4_rankOf_25 : decode cX4_rankOf 25 = .ok (.if_icmp .ge 65, 3) := by decide +kernel
theorem dX4_rankOf_28 : decode cX4_rankOf 28 = .ok (.iload_n 3, 1) := by decide +kernel
theorem dX4_rankOf_29 : decode cX4_rankOf 29 = .ok (.iload_n 1, 1) := by decide +kernel
theorem dX4_rankOf_30 : decode cX4_rankOf 30 = .ok (.if_icmp .ge 29, 3) := by decide +kernel
theorem dX4_rankOf_33 : decode cX4_rankOf 33 = .ok (.aload_n 0, 1) := by decide +kernel
theorem dX4_rankOf_34 : decode cX4_rankOf 34 = .ok (.getfield 11, 3) := by decide +kernel
theorem dX4_rankOf_37 : decode cX4_rankOf 37 = .ok (.iload_n 1, 1) := by decide +kernel
theorem dX4_rankOf_38 : decode cX4_rankOf 38 = .ok (.aaload, 1) := by decide +kernel
theorem dX4_rankOf_39 : decode cX4_rankOf 39 = .ok (.aload_n 0, 1) := by decide +kernel
theorem dX4_rankOf_40 : decode cX4_rankOf 40 = .ok (.getfield 11, 3) := by decide +kernel
theorem dX4_rankOf_43 : decode cX4_rankOf 43 = .ok (.iload_n 3, 1) := by decide +kernel
theorem dX4_rankOf_44 : decode cX4_rankOf 44 = .ok (.aaload, 1) := by decide +kernel
theorem dX4_rankOf_45 : decode cX4_rankOf 45 = .ok (.invokevirtual 208, 3) := by decide +kernel
theorem dX4_rankOf_48 : decode cX4_rankOf 48 = .ok (.ifCond .ne 7, 3) := by decide +kernel
theorem dX4_rankOf_51 : decode cX4_rankOf 51 = .ok (.iconst 1, 1) := by decide +kernel
theorem dX4_rankOf_52 : decode cX4_rankOf 52 = .ok (.goto 22, 3) := by decide +kernel
theorem dX4_rankOf_55 : decode cX4_rankOf 55 = .ok (.iconst 0, 1) := by decide +kernel
theorem dX4_rankOf_56 : decode cX4_rankOf 56 = .ok (.goto 18, 3) := by decide +kernel
theorem dX4_rankOf_59 : decode cX4_rankOf 59 = .ok (.aload_n 0, 1) := by decide +kernel
theorem dX4_rankOf_60 : decode cX4_rankOf 60 = .ok (.getfield 11, 3) := by decide +kernel
theorem dX4_rankOf_63 : decode cX4_rankOf 63 = .ok (.iload_n 3, 1) := by decide +kernel
theorem dX4_rankOf_64 : decode cX4_rankOf 64 = .ok (.aaload, 1) := by decide +kernel
theorem dX4_rankOf_65 : decode cX4_rankOf 65 = .ok (.aload_n 0, 1) := by decide +kernel
theorem dX4_rankOf_66 : decode cX4_rankOf 66 = .ok (.getfield 11, 3) := by decide +kernel
theorem dX4_rankOf_69 : decode cX4_rankOf 69 = .ok (.iload_n 1, 1) := by decide +kernel
theorem dX4_rankOf_70 : decode cX4_rankOf 70 = .ok (.aaload, 1) := by decide +kernel
theorem dX4_rankOf_71 : decode cX4_rankOf 71 = .ok (.invokevirtual 208, 3) := by decide +kernel
theorem dX4_rankOf_74 : decode cX4_rankOf 74 = .ok (.istore 4, 2) := by decide +kernel
theorem dX4_rankOf_76 : decode cX4_rankOf 76 = .ok (.iload 4, 2) := by decide +kernel
theorem dX4_rankOf_78 : decode cX4_rankOf 78 = .ok (.ifCond .eq 6, 3) := by decide +kernel
theorem dX4_rankOf_81 : decode cX4_rankOf 81 = .ok (.iinc 2 1, 3) := by decide +kernel
theorem dX4_rankOf_84 : decode cX4_rankOf 84 = .ok (.iinc 3 1, 3) := by decide +kernel
theorem dX4_rankOf_87 : decode cX4_rankOf 87 = .ok (.goto (-73), 3) := by decide +kernel
theorem dX4_rankOf_90 : decode cX4_rankOf 90 = .ok (.iload_n 2, 1) := by decide +kernel
theorem dX4_rankOf_91 : decode cX4_rankOf 91 = .ok (.ireturn, 1) := by decide +kernel
theorem dX4_sumOfCoins_0 : decode cX4_sumOfCoins 0 = .ok (.iconst 0, 1) := by decide +kernel
theorem dX4_sumOfCoins_1 : decode cX4_sumOfCoins 1 = .ok (.istore_n 1, 1) := by decide +kernel
theorem dX4_sumOfCoins_2 : decode cX4_sumOfCoins 2 = .ok (.iconst 0, 1) := by decide +kernel
theorem dX4_sumOfCoins_3 : decode cX4_sumOfCoins 3 = .ok (.istore_n 2, 1) := by decide +kernel
theorem dX4_sumOfCoins_4 : decode cX4_sumOfCoins 4 = .ok (.iload_n 2, 1) := by decide +kernel
theorem dX4_sumOfCoins_5 : decode cX4_sumOfCoins 5 = .ok (.bipush 6, 2) := by decide +kernel
theorem dX4_sumOfCoins_7 : decode cX4_sumOfCoins 7 = .ok (.if_icmp .ge 21, 3) := by decide +kernel
theorem dX4_sumOfCoins_10 : decode cX4_sumOfCoins 10 = .ok (.iload_n 1, 1) := by decide +kernel
theorem dX4_sumOfCoins_11 : decode cX4_sumOfCoins 11 = .ok (.aload_n 0, 1) := by decide +kernel
theorem dX4_sumOfCoins_12 : decode cX4_sumOfCoins 12 = .ok (.getfield 11, 3) := by decide +kernel
theorem dX4_sumOfCoins_15 : decode cX4_sumOfCoins 15 = .ok (.iload_n 2, 1) := by decide +kernel
theorem dX4_sumOfCoins_16 : decode cX4_sumOfCoins 16 = .ok (.aaload, 1) := by decide +kernel
theorem dX4_sumOfCoins_17 : decode cX4_sumOfCoins 17 = .ok (.getfield 202, 3) := by decide +kernel
theorem dX4_sumOfCoins_20 : decode cX4_sumOfCoins 20 = .ok (.iadd, 1) := by decide +kernel
theorem dX4_sumOfCoins_21 : decode cX4_sumOfCoins 21 = .ok (.istore_n 1, 1) := by decide +kernel
theorem dX4_sumOfCoins_22 : decode cX4_sumOfCoins 22 = .ok (.iinc 2 1, 3) := by decide +kernel
theorem dX4_sumOfCoins_25 : decode cX4_sumOfCoins 25 = .ok (.goto (-21), 3) := by decide +kernel
theorem dX4_sumOfCoins_28 : decode cX4_sumOfCoins 28 = .ok (.iload_n 1, 1) := by decide +kernel
theorem dX4_sumOfCoins_29 : decode cX4_sumOfCoins 29 = .ok (.ireturn, 1) := by decide +kernel
theorem dX4_sumOfQueues_0 : decode cX4_sumOfQueues 0 = .ok (.iconst 0, 1) := by decide +kernel
theorem dX4_sumOfQueues_1 : decode cX4_sumOfQueues 1 = .ok (.istore_n 1, 1) := by decide +kernel
theorem dX4_sumOfQueues_2 : decode cX4_sumOfQueues 2 = .ok (.iconst 0, 1) := by decide +kernel
theorem dX4_sumOfQueues_3 : decode cX4_sumOfQueues 3 = .ok (.istore_n 2, 1) := by decide +kernel
theorem dX4_sumOfQueues_4 : decode cX4_sumOfQueues 4 = .ok (.iload_n 2, 1) := by decide +kernel
theorem dX4_sumOfQueues_5 : decode cX4_sumOfQueues 5 = .ok (.bipush 6, 2) := by decide +kernel
theorem dX4_sumOfQueues_7 : decode cX4_sumOfQueues 7 = .ok (.if_icmp .ge 21, 3) := by decide +kernel
theorem dX4_sumOfQueues_10 : decode cX4_sumOfQueues 10 = .ok (.iload_n 1, 1) := by decide +kernel
theorem dX4_sumOfQueues_11 : decode cX4_sumOfQueues 11 = .ok (.aload_n 0, 1) := by decide +kernel
theorem dX4_sumOfQueues_12 : decode cX4_sumOfQueues 12 = .ok (.getfield 11, 3) := by decide +kernel
theorem dX4_sumOfQueues_15 : decode cX4_sumOfQueues 15 = .ok (.iload_n 2, 1) := by decide +kernel
theorem dX4_sumOfQueues_16 : decode cX4_sumOfQueues 16 = .ok (.aaload, 1) := by decide +kernel
theorem dX4_sumOfQueues_17 : decode cX4_sumOfQueues 17 = .ok (.getfield 184, 3) := by decide +kernel
theorem dX4_sumOfQueues_20 : decode cX4_sumOfQueues 20 = .ok (.iadd, 1) := by decide +kernel
theorem dX4_sumOfQueues_21 : decode cX4_sumOfQueues 21 = .ok (.istore_n 1, 1) := by decide +kernel
theorem dX4_sumOfQueues_22 : decode cX4_sumOfQueues 22 = .ok (.iinc 2 1, 3) := by decide +kernel
theorem dX4_sumOfQueues_25 : decode cX4_sumOfQueues 25 = .ok (.goto (-21), 3) := by decide +kernel
theorem dX4_sumOfQueues_28 : decode cX4_sumOfQueues 28 = .ok (.iload_n 1, 1) := by decide +kernel
theorem dX4_sumOfQueues_29 : decode cX4_sumOfQueues 29 = .ok (.ireturn, 1) := by decide +kernel
theorem dX4_sumOfSold_0 : decode cX4_sumOfSold 0 = .ok (.iconst 0, 1) := by decide +kernel
theorem dX4_sumOfSold_1 : decode cX4_sumOfSold 1 = .ok (.istore_n 1, 1) := by decide +kernel
theorem dX4_sumOfSold_2 : decode cX4_sumOfSold 2 = .ok (.iconst 0, 1) := by decide +kernel
theorem dX4_sumOfSold_3 : decode cX4_sumOfSold 3 = .ok (.istore_n 2, 1) := by decide +kernel
theorem dX4_sumOfSold_4 : decode cX4_sumOfSold 4 = .ok (.iload_n 2, 1) := by decide +kernel
theorem dX4_sumOfSold_5 : decode cX4_sumOfSold 5 = .ok (.iconst 4, 1) := by decide +kernel
theorem dX4_sumOfSold_6 : decode cX4_sumOfSold 6 = .ok (.if_icmp .ge 18, 3) := by decide +kernel
theorem dX4_sumOfSold_9 : decode cX4_sumOfSold 9 = .ok (.iload_n 1, 1) := by decide +kernel
theorem dX4_sumOfSold_10 : decode cX4_sumOfSold 10 = .ok (.aload_n 0, 1) := by decide +kernel
theorem dX4_sumOfSold_11 : decode cX4_sumOfSold 11 = .ok (.getfield 24, 3) := by decide +kernel
theorem dX4_sumOfSold_14 : decode cX4_sumOfSold 14 = .ok (.iload_n 2, 1) := by decide +kernel
theorem dX4_sumOfSold_15 : decode cX4_sumOfSold 15 = .ok (.iaload, 1) := by decide +kernel
theorem dX4_sumOfSold_16 : decode cX4_sumOfSold 16 = .ok (.iadd, 1) := by decide +kernel
theorem dX4_sumOfSold_17 : decode cX4_sumOfSold 17 = .ok (.istore_n 1, 1) := by decide +kernel
theorem dX4_sumOfSold_18 : decode cX4_sumOfSold 18 = .ok (.iinc 2 1, 3) := by decide +kernel
theorem dX4_sumOfSold_21 : decode cX4_sumOfSold 21 = .ok (.goto (-17), 3) := by decide +kernel
theorem dX4_sumOfSold_24 : decode cX4_sumOfSold 24 = .ok (.iload_n 1, 1) := by decide +kernel
theorem dX4_sumOfSold_25 : decode cX4_sumOfSold 25 = .ok (.ireturn, 1) := by decide +kernel
theorem dX4_everyHolderIsPermitted_0 : decode cX4_everyHolderIsPermitted 0 = .ok (.iconst 0, 1) := by decide +kernel
theorem dX4_everyHolderIsPermitted_1 : decode cX4_everyHolderIsPermitted 1 = .ok (.istore_n 1, 1) := by decide +kernel
theorem dX4_everyHolderIsPermitted_2 : decode cX4_everyHolderIsPermitted 2 = .ok (.iload_n 1, 1) := by decide +kernel
theorem dX4_everyHolderIsPermitted_3 : decode cX4_everyHolderIsPermitted 3 = .ok (.iconst 5, 1) := by decide +kernel
theorem dX4_everyHolderIsPermitted_4 : decode cX4_everyHolderIsPermitted 4 = .ok (.if_icmp .ge 58, 3) := by decide +kernel
theorem dX4_everyHolderIsPermitted_7 : decode cX4_everyHolderIsPermitted 7 = .ok (.iconst 0, 1) := by decide +kernel
theorem dX4_everyHolderIsPermitted_8 : decode cX4_everyHolderIsPermitted 8 = .ok (.istore_n 2, 1) := by decide +kernel
theorem dX4_everyHolderIsPermitted_9 : decode cX4_everyHolderIsPermitted 9 = .ok (.iload_n 2, 1) := by decide +kernel
theorem dX4_everyHolderIsPermitted_10 : decode cX4_everyHolderIsPermitted 10 = .ok (.bipush 7, 2) := by decide +kernel
theorem dX4_everyHolderIsPermitted_12 : decode cX4_everyHolderIsPermitted 12 = .ok (.if_icmp .ge 44, 3) := by decide +kernel
theorem dX4_everyHolderIsPermitted_15 : decode cX4_everyHolderIsPermitted 15 = .ok (.aload_n 0, 1) := by decide +kernel
theorem dX4_everyHolderIsPermitted_16 : decode cX4_everyHolderIsPermitted 16 = .ok (.iload_n 1, 1) := by decide +kernel
theorem dX4_everyHolderIsPermitted_17 : decode cX4_everyHolderIsPermitted 17 = .ok (.iload_n 2, 1) := by decide +kernel
theorem dX4_everyHolderIsPermitted_18 : decode cX4_everyHolderIsPermitted 18 = .ok (.invokevirtual 147, 3) := by decide +kernel
theorem dX4_everyHolderIsPermitted_21 : decode cX4_everyHolderIsPermitted 21 = .ok (.istore_n 3, 1) := by decide +kernel
theorem dX4_everyHolderIsPermitted_22 : decode cX4_everyHolderIsPermitted 22 = .ok (.iload_n 3, 1) := by decide +kernel
theorem dX4_everyHolderIsPermitted_23 : decode cX4_everyHolderIsPermitted 23 = .ok (.iconst (-1), 1) := by decide +kernel
theorem dX4_everyHolderIsPermitted_24 : decode cX4_everyHolderIsPermitted 24 = .ok (.if_icmp .eq 26, 3) := by decide +kernel
theorem dX4_everyHolderIsPermitted_27 : decode cX4_everyHolderIsPermitted 27 = .ok (.aload_n 0, 1) := by decide +kernel
theorem dX4_everyHolderIsPermitted_28 : decode cX4_everyHolderIsPermitted 28 = .ok (.iload_n 3, 1) := by decide +kernel
theorem dX4_everyHolderIsPermitted_29 : decode cX4_everyHolderIsPermitted 29 = .ok (.invokevirtual 114, 3) := by decide +kernel
theorem dX4_everyHolderIsPermitted_32 : decode cX4_everyHolderIsPermitted 32 = .ok (.ifCond .eq 16, 3) := by decide +kernel
theorem dX4_everyHolderIsPermitted_35 : decode cX4_everyHolderIsPermitted 35 = .ok (.aload_n 0, 1) := by decide +kernel
theorem dX4_everyHolderIsPermitted_36 : decode cX4_everyHolderIsPermitted 36 = .ok (.getfield 11, 3) := by decide +kernel
theorem dX4_everyHolderIsPermitted_39 : decode cX4_everyHolderIsPermitted 39 = .ok (.iload_n 3, 1) := by decide +kernel
theorem dX4_everyHolderIsPermitted_40 : decode cX4_everyHolderIsPermitted 40 = .ok (.aaload, 1) := by decide +kernel
theorem dX4_everyHolderIsPermitted_41 : decode cX4_everyHolderIsPermitted 41 = .ok (.iload_n 2, 1) := by decide +kernel
theorem dX4_everyHolderIsPermitted_42 : decode cX4_everyHolderIsPermitted 42 = .ok (.invokevirtual 126, 3) := by decide +kernel
theorem dX4_everyHolderIsPermitted_45 : decode cX4_everyHolderIsPermitted 45 = .ok (.ifCond .ne 5, 3) := by decide +kernel
theorem dX4_everyHolderIsPermitted_48 : decode cX4_everyHolderIsPermitted 48 = .ok (.iconst 0, 1) := by decide +kernel
theorem dX4_everyHolderIsPermitted_49 : decode cX4_everyHolderIsPermitted 49 = .ok (.ireturn, 1) := by decide +kernel
theorem dX4_everyHolderIsPermitted_50 : decode cX4_everyHolderIsPermitted 50 = .ok (.iinc 2 1, 3) := by decide +kernel
theorem dX4_everyHolderIsPermitted_53 : decode cX4_everyHolderIsPermitted 53 = .ok (.goto (-44), 3) := by decide +kernel
theorem dX4_everyHolderIsPermitted_56 : decode cX4_everyHolderIsPermitted 56 = .ok (.iinc 1 1, 3) := by decide +kernel
theorem dX4_everyHolderIsPermitted_59 : decode cX4_everyHolderIsPermitted 59 = .ok (.goto (-57), 3) := by decide +kernel
theorem dX4_everyHolderIsPermitted_62 : decode cX4_everyHolderIsPermitted 62 = .ok (.iconst 1, 1) := by decide +kernel
theorem dX4_everyHolderIsPermitted_63 : decode cX4_everyHolderIsPermitted 63 = .ok (.ireturn, 1) := by decide +kernel
set_option maxRecDepth 20000 in
theorem ggX4_init_X6_init : GoodIn wsX4_init wsX6_init := goodIn_r _ [14, 15, 2, 3, 6, 16, 17, 34, 35, 36, 37, 38, 39] (by decide +kernel) (by decide +kernel)
set_option maxRecDepth 20000 in
theorem gX4_init_X6_init_n31 : GoodIn wsX4_init (wsX6_init) := ggX4_init_X6_init
set_option maxRecDepth 20000 in
theorem ggX4_init_J7_fill_53178 : GoodIn wsX4_init wsJ7_fill_53178 := goodIn_r _ [21] (by decide +kernel) (by decide +kernel)
set_option maxRecDepth 20000 in
theorem gX4_init_J7_fill_53178 : GoodIn wsX4_init (va_wsS RX4 32 yJ7_fill_53178 wsJ7_fill_53178) := goodIn_app (goodIn_of _ (by decide +kernel)) ggX4_init_J7_fill_53178
set_option maxRecDepth 20000 in
theorem ggX4_copyFrom_X6_copyFrom : GoodIn wsX4_copyFrom wsX6_copyFrom := goodIn_r _ [21, 22, 23, 4, 5, 6, 24, 25, 26, 27, 28, 41, 42, 43, 44, 45, 46] (by decide +kernel) (by decide +kernel)
set_option maxRecDepth 20000 in
theorem gX4_copyFrom_X6_copyFrom : GoodIn wsX4_copyFrom (wsV RX4 38 RX6 yX6_copyFrom wsX6_copyFrom) := goodIn_app (goodIn_of _ (by decide +kernel)) ggX4_copyFrom_X6_copyFrom
set_option maxRecDepth 20000 in
theorem ggX4_carryOut_Jx29ce0_ordinal_8abf5 : GoodIn wsX4_carryOut wsJx29ce0_ordinal_8abf5 := goodIn_r _ [7, 8] (by decide +kernel) (by decide +kernel)
set_option maxRecDepth 20000 in
theorem gX4_carryOut_Jx29ce0_ordinal_8abf5_u74X1 : GoodIn wsX4_carryOut (va_wsU RX4 74 RX1 "java/lang/Enum" ⟨"FoodTruckRota$Command", "ordinal", "()I"⟩ yJx29ce0_ordinal_8abf5 wsJx29ce0_ordinal_8abf5) := goodIn_app (goodIn_of _ (by decide +kernel)) ggX4_carryOut_Jx29ce0_ordinal_8abf5
set_option maxRecDepth 20000 in
theorem ggX4_carryOut_X4_openTruck : GoodIn wsX4_carryOut wsX4_openTruck := goodIn_r _ [13, 14, 154, 155, 156, 157, 158, 159, 160, 161, 162, 163, 164, 165] (by decide +kernel) (by decide +kernel)
set_option maxRecDepth 20000 in
theorem gX4_carryOut_X4_openTruck : GoodIn wsX4_carryOut (wsV RX4 80 RX4 yX4_openTruck wsX4_openTruck) := goodIn_app (goodIn_of _ (by decide +kernel)) ggX4_carryOut_X4_openTruck
set_option maxRecDepth 20000 in
theorem ggX4_carryOut_X4_loadPortions : GoodIn wsX4_carryOut wsX4_loadPortions := goodIn_ca (goodIn_r _ [18, 19, 20, 21, 22, 12, 23, 14, 24, 25, 26, 154, 155, 156, 157, 158, 159, 160, 161, 162, 163, 164, 165, 166, 167, 168, 169, 170, 171] (by decide +kernel) (by decide +kernel)) (goodIn_sub (fun _ h => List.mem_cons_of_mem _ (List.mem_append_right _ h)) (by decide +kernel))
set_option maxRecDepth 20000 in
theorem gX4_carryOut_X4_loadPortions : GoodIn wsX4_carryOut (wsV RX4 83 RX4 yX4_loadPortions wsX4_loadPortions) := goodIn_app (goodIn_of _ (by decide +kernel)) ggX4_carryOut_X4_loadPortions
set_option maxRecDepth 20000 in
theorem ggX4_carryOut_X4_changePrice : GoodIn wsX4_carryOut wsX4_changePrice := goodIn_ca (goodIn_r _ [30, 31, 24, 25, 26, 154, 155, 156, 157, 158, 159, 160, 161, 162, 163, 164, 165] (by decide +kernel) (by decide +kernel)) (goodIn_sub (fun _ h => List.mem_cons_of_mem _ (List.mem_append_right _ h)) (by decide +kernel))
set_option maxRecDepth 20000 in
theorem gX4_carryOut_X4_changePrice : GoodIn wsX4_carryOut (wsV RX4 87 RX4 yX4_changePrice wsX4_changePrice) := goodIn_app (goodIn_of _ (by decide +kernel)) ggX4_carryOut_X4_changePrice
set_option maxRecDepth 20000 in
theorem ggX4_carryOut_X4_givePermit : GoodIn wsX4_carryOut wsX4_givePermit := goodIn_r _ [35, 19, 20, 21, 22, 12, 23, 14, 36, 25, 37, 38, 39, 40, 41, 42, 43, 44, 45, 46, 47, 48, 49, 50, 154, 155, 156, 157, 158, 159, 160, 161, 162, 163, 164, 165, 166, 167, 168, 169, 170, 171] (by decide +kernel) (by decide +kernel)
set_option maxRecDepth 20000 in
theorem gX4_carryOut_X4_givePermit : GoodIn wsX4_carryOut (wsV RX4 91 RX4 yX4_givePermit wsX4_givePermit) := goodIn_app (goodIn_of _ (by decide +kernel)) ggX4_carryOut_X4_givePermit
set_option maxRecDepth 20000 in
theorem ggX4_carryOut_X4_takePermit : GoodIn wsX4_carryOut wsX4_takePermit := goodIn_ca (goodIn_r _ [54, 19, 20, 21, 22, 12, 23, 14, 36, 25, 37, 38, 39, 40, 41, 42, 43, 55, 56, 57, 58, 59, 60, 61, 62, 63, 64, 65, 66, 67, 68, 69, 70, 71, 72, 73, 74, 75, 76, 77, 78, 79, 80, 81, 82, 83, 84, 85, 86, 87, 88, 89, 154, 155, 156, 157, 158, 159, 160, 161, 162, 163, 164, 165, 166, 167, 168, 169, 170, 171] (by decide +kernel) (by decide +kernel)) (goodIn_sub (fun _ h => List.mem_cons_of_mem _ (List.mem_append_right _ h)) (by decide +kernel))
set_option maxRecDepth 20000 in
theorem gX4_carryOut_X4_takePermit : GoodIn wsX4_carryOut (wsV RX4 94 RX4 yX4_takePermit wsX4_takePermit) := goodIn_app (goodIn_of _ (by decide +kernel)) ggX4_carryOut_X4_takePermit
set_option maxRecDepth 20000 in
theorem ggX4_carryOut_X4_holdPitch : GoodIn wsX4_carryOut wsX4_holdPitch := goodIn_ca (goodIn_r _ [93, 19, 20, 21, 22, 12, 23, 14, 73, 25, 74, 36, 37, 38, 39, 40, 41, 42, 43, 59, 60, 61, 62, 63, 55, 56, 57, 58, 69, 70, 71, 72, 94, 95, 96, 97, 154, 155, 156, 157, 158, 159, 160, 161, 162, 163, 164, 165, 166, 167, 168, 169, 170, 171] (by decide +kernel) (by decide +kernel)) (goodIn_sub (fun _ h => List.mem_cons_of_mem _ (List.mem_append_right _ h)) (by decide +kernel))
set_option maxRecDepth 20000 in
theorem gX4_carryOut_X4_holdPitch : GoodIn wsX4_carryOut (wsV RX4 97 RX4 yX4_holdPitch wsX4_holdPitch) := goodIn_app (goodIn_of _ (by decide +kernel)) ggX4_carryOut_X4_holdPitch
set_option maxRecDepth 20000 in
theorem ggX4_carryOut_X4_leavePitch : GoodIn wsX4_carryOut wsX4_leavePitch := goodIn_ca (goodIn_r _ [101, 73, 25, 74, 36, 37, 59, 60, 61, 12, 62, 63, 64, 65, 66, 67, 68, 19, 69, 70, 71, 72, 75, 76, 77, 78, 79, 80, 81, 82, 83, 20, 21, 22, 23, 14, 84, 85, 86, 41, 87, 88, 89, 154, 155, 156, 157, 158, 159, 160, 161, 162, 163, 164, 165, 166, 167, 168, 169, 170, 171] (by decide +kernel) (by decide +kernel)) (goodIn_sub (fun _ h => List.mem_cons_of_mem _ (List.mem_append_right _ h)) (by decide +kernel))
set_option maxRecDepth 20000 in
theorem gX4_carryOut_X4_leavePitch : GoodIn wsX4_carryOut (wsV RX4 100 RX4 yX4_leavePitch wsX4_leavePitch) := goodIn_app (goodIn_of _ (by decide +kernel)) ggX4_carryOut_X4_leavePitch
set_option maxRecDepth 20000 in
theorem ggX4_carryOut_X4_changeWeather : GoodIn wsX4_carryOut wsX4_changeWeather := goodIn_r _ [105, 106, 154, 155, 156, 157, 158, 159, 160, 161, 162, 163, 164, 165] (by decide +kernel) (by decide +kernel)
set_option maxRecDepth 20000 in
theorem gX4_carryOut_X4_changeWeather : GoodIn wsX4_carryOut (wsV RX4 103 RX4 yX4_changeWeather wsX4_changeWeather) := goodIn_app (goodIn_of _ (by decide +kernel)) ggX4_carryOut_X4_changeWeather
set_option maxRecDepth 20000 in
theorem ggX4_carryOut_X4_isWait : GoodIn wsX4_carryOut wsX4_isWait := goodIn_r _ [109] (by decide +kernel) (by decide +kernel)
set_option maxRecDepth 20000 in
theorem gX4_carryOut_X4_isWait : GoodIn wsX4_carryOut (va_wsS RX4 107 yX4_isWait wsX4_isWait) := goodIn_app (goodIn_of _ (by decide +kernel)) ggX4_carryOut_X4_isWait
set_option maxRecDepth 20000 in
theorem ggX4_carryOut_X4_passMinutes : GoodIn wsX4_carryOut wsX4_passMinutes := goodIn_ca (goodIn_r _ [113, 114, 115, 116, 117, 118, 12, 119, 106, 120, 121, 80, 81, 82, 83, 122, 123, 124, 125, 19, 75, 76, 77, 78, 79, 59, 60, 61, 62, 63, 20, 21, 22, 23, 14, 126, 127, 128, 41, 129, 88, 130, 131, 132, 133, 134, 135, 136, 137, 138, 68, 31, 139, 140, 141, 142, 143, 24, 25, 26, 144, 145, 146, 147, 148, 149, 150, 151, 152, 153, 84, 85, 86, 87, 89, 154, 155, 156, 157, 158, 159, 160, 161, 162, 163, 164, 165, 166, 167, 168, 169, 170, 171] (by decide +kernel) (by decide +kernel)) (goodIn_sub (fun _ h => List.mem_cons_of_mem _ (List.mem_append_right _ h)) (by decide +kernel))
set_option maxRecDepth 20000 in
theorem gX4_carryOut_X4_passMinutes : GoodIn wsX4_carryOut (wsV RX4 111 RX4 yX4_passMinutes wsX4_passMinutes) := goodIn_app (goodIn_of _ (by decide +kernel)) ggX4_carryOut_X4_passMinutes
set_option maxRecDepth 20000 in
theorem ggX4_loadPortions_X4_isTruck : GoodIn wsX4_loadPortions wsX4_isTruck := goodIn_r _ [6, 7, 11, 12, 13, 14, 15, 16, 17, 18, 19, 20, 21, 22] (by decide +kernel) (by decide +kernel)
set_option maxRecDepth 20000 in
theorem gX4_loadPortions_X4_isTruck : GoodIn wsX4_loadPortions (wsV RX4 114 RX4 yX4_isTruck wsX4_isTruck) := goodIn_app (goodIn_of _ (by decide +kernel)) ggX4_loadPortions_X4_isTruck
set_option maxRecDepth 20000 in
theorem ggX4_loadPortions_X7_isDish : GoodIn wsX4_loadPortions wsX7_isDish := goodIn_r _ [10] (by decide +kernel) (by decide +kernel)
set_option maxRecDepth 20000 in
theorem gX4_loadPortions_X7_isDish_n117 : GoodIn wsX4_loadPortions (wsX7_isDish) := ggX4_loadPortions_X7_isDish
set_option maxRecDepth 20000 in
theorem ggX4_changePrice_X7_isDish : GoodIn wsX4_changePrice wsX7_isDish := goodIn_r _ [4] (by decide +kernel) (by decide +kernel)
set_option maxRecDepth 20000 in
theorem gX4_changePrice_X7_isDish_n117 : GoodIn wsX4_changePrice (wsX7_isDish) := ggX4_changePrice_X7_isDish
set_option maxRecDepth 20000 in
theorem ggX4_givePermit_X4_isTruck : GoodIn wsX4_givePermit wsX4_isTruck := goodIn_r _ [6, 7, 24, 25, 26, 27, 28, 29, 30, 31, 32, 33, 34, 35] (by decide +kernel) (by decide +kernel)
set_option maxRecDepth 20000 in
theorem gX4_givePermit_X4_isTruck : GoodIn wsX4_givePermit (wsV RX4 114 RX4 yX4_isTruck wsX4_isTruck) := goodIn_app (goodIn_of _ (by decide +kernel)) ggX4_givePermit_X4_isTruck
set_option maxRecDepth 20000 in
theorem ggX4_givePermit_X7_isWeekday : GoodIn wsX4_givePermit wsX7_isWeekday := goodIn_r _ [10] (by decide +kernel) (by decide +kernel)
set_option maxRecDepth 20000 in
theorem gX4_givePermit_X7_isWeekday_n123 : GoodIn wsX4_givePermit (wsX7_isWeekday) := ggX4_givePermit_X7_isWeekday
set_option maxRecDepth 20000 in
theorem ggX4_givePermit_X6_isPermitted : GoodIn wsX4_givePermit wsX6_isPermitted := goodIn_r _ [15, 16, 8, 9, 10, 36, 37, 38, 39, 40, 41] (by decide +kernel) (by decide +kernel)
set_option maxRecDepth 20000 in
theorem gX4_givePermit_X6_isPermitted : GoodIn wsX4_givePermit (wsV RX4 126 RX6 yX6_isPermitted wsX6_isPermitted) := goodIn_app (goodIn_of _ (by decide +kernel)) ggX4_givePermit_X6_isPermitted
set_option maxRecDepth 20000 in
theorem ggX4_givePermit_J6_bitCount_0f7a4 : GoodIn wsX4_givePermit wsJ6_bitCount_0f7a4 := goodIn_r _ [20, 21, 22, 23] (by decide +kernel) (by decide +kernel)
set_option maxRecDepth 20000 in
theorem gX4_givePermit_J6_bitCount_0f7a4 : GoodIn wsX4_givePermit (va_wsS RX4 132 yJ6_bitCount_0f7a4 wsJ6_bitCount_0f7a4) := goodIn_app (goodIn_of _ (by decide +kernel)) ggX4_givePermit_J6_bitCount_0f7a4
set_option maxRecDepth 20000 in
theorem ggX4_takePermit_X4_isTruck : GoodIn wsX4_takePermit wsX4_isTruck := goodIn_r _ [6, 7, 52, 53, 54, 55, 56, 57, 58, 59, 60, 61, 62, 63] (by decide +kernel) (by decide +kernel)
set_option maxRecDepth 20000 in
theorem gX4_takePermit_X4_isTruck : GoodIn wsX4_takePermit (wsV RX4 114 RX4 yX4_isTruck wsX4_isTruck) := goodIn_app (goodIn_of _ (by decide +kernel)) ggX4_takePermit_X4_isTruck
set_option maxRecDepth 20000 in
theorem ggX4_takePermit_X7_isWeekday : GoodIn wsX4_takePermit wsX7_isWeekday := goodIn_r _ [10] (by decide +kernel) (by decide +kernel)
set_option maxRecDepth 20000 in
theorem gX4_takePermit_X7_isWeekday_n123 : GoodIn wsX4_takePermit (wsX7_isWeekday) := ggX4_takePermit_X7_isWeekday
set_option maxRecDepth 20000 in
theorem ggX4_takePermit_X6_isPermitted : GoodIn wsX4_takePermit wsX6_isPermitted := goodIn_r _ [15, 16, 8, 9, 10, 64, 65, 66, 67, 68, 69] (by decide +kernel) (by decide +kernel)
set_option maxRecDepth 20000 in
theorem gX4_takePermit_X6_isPermitted : GoodIn wsX4_takePermit (wsV RX4 126 RX6 yX6_isPermitted wsX6_isPermitted) := goodIn_app (goodIn_of _ (by decide +kernel)) ggX4_takePermit_X6_isPermitted
set_option maxRecDepth 20000 in
theorem ggX4_takePermit_X4_pitchHeldBy : GoodIn wsX4_takePermit wsX4_pitchHeldBy := goodIn_ca (goodIn_r _ [20, 21, 22, 23, 5, 24, 25, 52, 53, 54, 55, 56, 57, 58, 59, 60, 61, 62, 63] (by decide +kernel) (by decide +kernel)) (goodIn_sub (fun _ h => List.mem_cons_of_mem _ (List.mem_append_right _ h)) (by decide +kernel))
set_option maxRecDepth 20000 in
theorem gX4_takePermit_X4_pitchHeldBy : GoodIn wsX4_takePermit (wsV RX4 137 RX4 yX4_pitchHeldBy wsX4_pitchHeldBy) := goodIn_app (goodIn_of _ (by decide +kernel)) ggX4_takePermit_X4_pitchHeldBy
set_option maxRecDepth 20000 in
theorem ggX4_takePermit_X4_endAssignment : GoodIn wsX4_takePermit wsX4_endAssignment := goodIn_ca (goodIn_r _ [29, 30, 1, 21, 22, 23, 5, 24, 25, 31, 32, 33, 34, 35, 9, 36, 8, 10, 37, 38, 39, 40, 41, 42, 43, 44, 45, 2, 3, 4, 6, 7, 46, 47, 48, 14, 49, 50, 51, 52, 53, 54, 55, 56, 57, 58, 59, 60, 61, 62, 63, 64, 65, 66, 67, 68, 69] (by decide +kernel) (by decide +kernel)) (goodIn_sub (fun _ h => List.mem_cons_of_mem _ (List.mem_append_right _ h)) (by decide +kernel))
set_option maxRecDepth 20000 in
theorem gX4_takePermit_X4_endAssignment : GoodIn wsX4_takePermit (wsV RX4 140 RX4 yX4_endAssignment wsX4_endAssignment) := goodIn_app (goodIn_of _ (by decide +kernel)) ggX4_takePermit_X4_endAssignment
set_option maxRecDepth 20000 in
theorem ggX4_holdPitch_X4_isTruck : GoodIn wsX4_holdPitch wsX4_isTruck := goodIn_r _ [6, 7, 36, 37, 38, 39, 40, 41, 42, 43, 44, 45, 46, 47] (by decide +kernel) (by decide +kernel)
set_option maxRecDepth 20000 in
theorem gX4_holdPitch_X4_isTruck : GoodIn wsX4_holdPitch (wsV RX4 114 RX4 yX4_isTruck wsX4_isTruck) := goodIn_app (goodIn_of _ (by decide +kernel)) ggX4_holdPitch_X4_isTruck
set_option maxRecDepth 20000 in
theorem ggX4_holdPitch_X7_isPitch : GoodIn wsX4_holdPitch wsX7_isPitch := goodIn_r _ [10] (by decide +kernel) (by decide +kernel)
set_option maxRecDepth 20000 in
theorem gX4_holdPitch_X7_isPitch_n144 : GoodIn wsX4_holdPitch (wsX7_isPitch) := ggX4_holdPitch_X7_isPitch
set_option maxRecDepth 20000 in
theorem ggX4_holdPitch_X7_isWeekday : GoodIn wsX4_holdPitch wsX7_isWeekday := goodIn_r _ [12] (by decide +kernel) (by decide +kernel)
set_option maxRecDepth 20000 in
theorem gX4_holdPitch_X7_isWeekday_n123 : GoodIn wsX4_holdPitch (wsX7_isWeekday) := ggX4_holdPitch_X7_isWeekday
set_option maxRecDepth 20000 in
theorem ggX4_holdPitch_X6_isPermitted : GoodIn wsX4_holdPitch wsX6_isPermitted := goodIn_r _ [17, 18, 11, 9, 12, 48, 49, 50, 51, 52, 53] (by decide +kernel) (by decide +kernel)
set_option maxRecDepth 20000 in
theorem gX4_holdPitch_X6_isPermitted : GoodIn wsX4_holdPitch (wsV RX4 126 RX6 yX6_isPermitted wsX6_isPermitted) := goodIn_app (goodIn_of _ (by decide +kernel)) ggX4_holdPitch_X6_isPermitted
set_option maxRecDepth 20000 in
theorem ggX4_holdPitch_X4_holderOf : GoodIn wsX4_holdPitch wsX4_holderOf := goodIn_ca (goodIn_r _ [22, 23, 36, 37, 38, 39, 40, 41, 42, 43, 44, 45, 46, 47] (by decide +kernel) (by decide +kernel)) (goodIn_sub (fun _ h => List.mem_cons_of_mem _ (List.mem_append_right _ h)) (by decide +kernel))
set_option maxRecDepth 20000 in
theorem gX4_holdPitch_X4_holderOf : GoodIn wsX4_holdPitch (wsV RX4 147 RX4 yX4_holderOf wsX4_holderOf) := goodIn_app (goodIn_of _ (by decide +kernel)) ggX4_holdPitch_X4_holderOf
set_option maxRecDepth 20000 in
theorem ggX4_holdPitch_X4_pitchHeldBy : GoodIn wsX4_holdPitch wsX4_pitchHeldBy := goodIn_ca (goodIn_r _ [27, 19, 20, 21, 5, 22, 23, 36, 37, 38, 39, 40, 41, 42, 43, 44, 45, 46, 47] (by decide +kernel) (by decide +kernel)) (goodIn_sub (fun _ h => List.mem_cons_of_mem _ (List.mem_append_right _ h)) (by decide +kernel))
set_option maxRecDepth 20000 in
theorem gX4_holdPitch_X4_pitchHeldBy : GoodIn wsX4_holdPitch (wsV RX4 137 RX4 yX4_pitchHeldBy wsX4_pitchHeldBy) := goodIn_app (goodIn_of _ (by decide +kernel)) ggX4_holdPitch_X4_pitchHeldBy
set_option maxRecDepth 20000 in
theorem ggX4_holdPitch_X4_setHolder : GoodIn wsX4_holdPitch wsX4_setHolder := goodIn_ca (goodIn_r _ [31, 23, 8, 9, 10, 11, 12, 36, 37, 38, 39, 40, 41, 42, 43, 44, 45, 46, 47] (by decide +kernel) (by decide +kernel)) (goodIn_sub (fun _ h => List.mem_cons_of_mem _ (List.mem_append_right _ h)) (by decide +kernel))
set_option maxRecDepth 20000 in
theorem gX4_holdPitch_X4_setHolder : GoodIn wsX4_holdPitch (wsV RX4 150 RX4 yX4_setHolder wsX4_setHolder) := goodIn_app (goodIn_of _ (by decide +kernel)) ggX4_holdPitch_X4_setHolder
set_option maxRecDepth 20000 in
theorem ggX4_holdPitch_X4_countFor : GoodIn wsX4_holdPitch wsX4_countFor := goodIn_ca (goodIn_r _ [35, 24, 25, 26, 5, 27, 19, 20, 21, 22, 23, 36, 37, 38, 39, 40, 41, 42, 43, 44, 45, 46, 47] (by decide +kernel) (by decide +kernel)) (goodIn_sub (fun _ h => List.mem_cons_of_mem _ (List.mem_append_right _ h)) (by decide +kernel))
set_option maxRecDepth 20000 in
theorem gX4_holdPitch_X4_countFor : GoodIn wsX4_holdPitch (wsV RX4 154 RX4 yX4_countFor wsX4_countFor) := goodIn_app (goodIn_of _ (by decide +kernel)) ggX4_holdPitch_X4_countFor
set_option maxRecDepth 20000 in
theorem ggX4_leavePitch_X7_isPitch : GoodIn wsX4_leavePitch wsX7_isPitch := goodIn_r _ [3] (by decide +kernel) (by decide +kernel)
set_option maxRecDepth 20000 in
theorem gX4_leavePitch_X7_isPitch_n144 : GoodIn wsX4_leavePitch (wsX7_isPitch) := ggX4_leavePitch_X7_isPitch
set_option maxRecDepth 20000 in
theorem ggX4_leavePitch_X7_isWeekday : GoodIn wsX4_leavePitch wsX7_isWeekday := goodIn_r _ [5] (by decide +kernel) (by decide +kernel)
set_option maxRecDepth 20000 in
theorem gX4_leavePitch_X7_isWeekday_n123 : GoodIn wsX4_leavePitch (wsX7_isWeekday) := ggX4_leavePitch_X7_isWeekday
set_option maxRecDepth 20000 in
theorem ggX4_leavePitch_X4_holderOf : GoodIn wsX4_leavePitch wsX4_holderOf := goodIn_ca (goodIn_r _ [10, 11, 43, 44, 45, 46, 47, 48, 49, 50, 51, 52, 53, 54] (by decide +kernel) (by decide +kernel)) (goodIn_sub (fun _ h => List.mem_cons_of_mem _ (List.mem_append_right _ h)) (by decide +kernel))
set_option maxRecDepth 20000 in
theorem gX4_leavePitch_X4_holderOf : GoodIn wsX4_leavePitch (wsV RX4 147 RX4 yX4_holderOf wsX4_holderOf) := goodIn_app (goodIn_of _ (by decide +kernel)) ggX4_leavePitch_X4_holderOf
set_option maxRecDepth 20000 in
theorem ggX4_leavePitch_X4_endAssignment : GoodIn wsX4_leavePitch wsX4_endAssignment := goodIn_ca (goodIn_r _ [15, 16, 17, 6, 7, 8, 9, 10, 11, 18, 19, 20, 21, 1, 2, 3, 4, 5, 22, 23, 24, 25, 26, 27, 28, 29, 30, 31, 32, 33, 34, 35, 36, 37, 38, 39, 40, 41, 42, 43, 44, 45, 46, 47, 48, 49, 50, 51, 52, 53, 54, 55, 56, 57, 58, 59, 60] (by decide +kernel) (by decide +kernel)) (goodIn_sub (fun _ h => List.mem_cons_of_mem _ (List.mem_append_right _ h)) (by decide +kernel))
set_option maxRecDepth 20000 in
theorem gX4_leavePitch_X4_endAssignment : GoodIn wsX4_leavePitch (wsV RX4 140 RX4 yX4_endAssignment wsX4_endAssignment) := goodIn_app (goodIn_of _ (by decide +kernel)) ggX4_leavePitch_X4_endAssignment
set_option maxRecDepth 20000 in
theorem ggX4_setHolder_X7_isPitch : GoodIn wsX4_setHolder wsX7_isPitch := goodIn_r _ [4] (by decide +kernel) (by decide +kernel)
set_option maxRecDepth 20000 in
theorem gX4_setHolder_X7_isPitch_n144 : GoodIn wsX4_setHolder (wsX7_isPitch) := ggX4_setHolder_X7_isPitch
set_option maxRecDepth 20000 in
theorem ggX4_setHolder_X7_isWeekday : GoodIn wsX4_setHolder wsX7_isWeekday := goodIn_r _ [6] (by decide +kernel) (by decide +kernel)
set_option maxRecDepth 20000 in
theorem gX4_setHolder_X7_isWeekday_n123 : GoodIn wsX4_setHolder (wsX7_isWeekday) := ggX4_setHolder_X7_isWeekday
set_option maxRecDepth 20000 in
theorem ggX4_pitchHeldBy_X4_holderOf : GoodIn wsX4_pitchHeldBy wsX4_holderOf := goodIn_ca (goodIn_r _ [5, 6, 7, 8, 9, 10, 11, 12, 13, 14, 15, 16, 17, 18] (by decide +kernel) (by decide +kernel)) (goodIn_sub (fun _ h => List.mem_cons_of_mem _ (List.mem_append_right _ h)) (by decide +kernel))
set_option maxRecDepth 20000 in
theorem gX4_pitchHeldBy_X4_holderOf : GoodIn wsX4_pitchHeldBy (wsV RX4 147 RX4 yX4_holderOf wsX4_holderOf) := goodIn_app (goodIn_of _ (by decide +kernel)) ggX4_pitchHeldBy_X4_holderOf
set_option maxRecDepth 20000 in
theorem ggX4_pitchToday_X4_today : GoodIn wsX4_pitchToday wsX4_today := goodIn_r _ [5, 6, 7, 8, 9, 10, 20, 21, 22, 23, 24, 25, 26, 27, 28, 29, 30, 31] (by decide +kernel) (by decide +kernel)
set_option maxRecDepth 20000 in
theorem gX4_pitchToday_X4_today : GoodIn wsX4_pitchToday (wsV RX4 157 RX4 yX4_today wsX4_today) := goodIn_app (goodIn_of _ (by decide +kernel)) ggX4_pitchToday_X4_today
set_option maxRecDepth 20000 in
theorem ggX4_pitchToday_X4_pitchHeldBy : GoodIn wsX4_pitchToday wsX4_pitchHeldBy := goodIn_ca (goodIn_r _ [14, 15, 16, 17, 4, 18, 19, 20, 21, 22, 23, 24, 25, 26, 27, 28, 29, 30, 31] (by decide +kernel) (by decide +kernel)) (goodIn_sub (fun _ h => List.mem_cons_of_mem _ (List.mem_append_right _ h)) (by decide +kernel))
set_option maxRecDepth 20000 in
theorem gX4_pitchToday_X4_pitchHeldBy : GoodIn wsX4_pitchToday (wsV RX4 137 RX4 yX4_pitchHeldBy wsX4_pitchHeldBy) := goodIn_app (goodIn_of _ (by decide +kernel)) ggX4_pitchToday_X4_pitchHeldBy
set_option maxRecDepth 20000 in
theorem ggX4_today_J9_floorMod_7cf53 : GoodIn wsX4_today wsJ9_floorMod_7cf53 := goodIn_r _ [5] (by decide +kernel) (by decide +kernel)
set_option maxRecDepth 20000 in
theorem gX4_today_J9_floorMod_7cf53 : GoodIn wsX4_today (va_wsS RX4 160 yJ9_floorMod_7cf53 wsJ9_floorMod_7cf53) := goodIn_app (goodIn_of _ (by decide +kernel)) ggX4_today_J9_floorMod_7cf53
set_option maxRecDepth 20000 in
theorem ggX4_endAssignment_X4_holderOf : GoodIn wsX4_endAssignment wsX4_holderOf := goodIn_ca (goodIn_r _ [7, 8, 39, 40, 41, 42, 43, 44, 45, 46, 47, 48, 49, 50] (by decide +kernel) (by decide +kernel)) (goodIn_sub (fun _ h => List.mem_cons_of_mem _ (List.mem_append_right _ h)) (by decide +kernel))
set_option maxRecDepth 20000 in
theorem gX4_endAssignment_X4_holderOf : GoodIn wsX4_endAssignment (wsV RX4 147 RX4 yX4_holderOf wsX4_holderOf) := goodIn_app (goodIn_of _ (by decide +kernel)) ggX4_endAssignment_X4_holderOf
set_option maxRecDepth 20000 in
theorem ggX4_endAssignment_X4_setHolder : GoodIn wsX4_endAssignment wsX4_setHolder := goodIn_ca (goodIn_r _ [12, 8, 13, 14, 15, 16, 17, 39, 40, 41, 42, 43, 44, 45, 46, 47, 48, 49, 50] (by decide +kernel) (by decide +kernel)) (goodIn_sub (fun _ h => List.mem_cons_of_mem _ (List.mem_append_right _ h)) (by decide +kernel))
set_option maxRecDepth 20000 in
theorem gX4_endAssignment_X4_setHolder : GoodIn wsX4_endAssignment (wsV RX4 150 RX4 yX4_setHolder wsX4_setHolder) := goodIn_app (goodIn_of _ (by decide +kernel)) ggX4_endAssignment_X4_setHolder
set_option maxRecDepth 20000 in
theorem ggX4_endAssignment_X4_today : GoodIn wsX4_endAssignment wsX4_today := goodIn_r _ [21, 22, 23, 24, 25, 26, 39, 40, 41, 42, 43, 44, 45, 46, 47, 48, 49, 50] (by decide +kernel) (by decide +kernel)
set_option maxRecDepth 20000 in
theorem gX4_endAssignment_X4_today : GoodIn wsX4_endAssignment (wsV RX4 157 RX4 yX4_today wsX4_today) := goodIn_app (goodIn_of _ (by decide +kernel)) ggX4_endAssignment_X4_today
set_option maxRecDepth 20000 in
theorem ggX4_endAssignment_X4_isTruck : GoodIn wsX4_endAssignment wsX4_isTruck := goodIn_r _ [30, 31, 39, 40, 41, 42, 43, 44, 45, 46, 47, 48, 49, 50] (by decide +kernel) (by decide +kernel)
set_option maxRecDepth 20000 in
theorem gX4_endAssignment_X4_isTruck : GoodIn wsX4_endAssignment (wsV RX4 114 RX4 yX4_isTruck wsX4_isTruck) := goodIn_app (goodIn_of _ (by decide +kernel)) ggX4_endAssignment_X4_isTruck
set_option maxRecDepth 20000 in
theorem ggX4_endAssignment_X6_sendAllAway : GoodIn wsX4_endAssignment wsX6_sendAllAway := goodIn_r _ [36, 37, 38, 51, 52, 53, 54, 55, 56] (by decide +kernel) (by decide +kernel)
set_option maxRecDepth 20000 in
theorem gX4_endAssignment_X6_sendAllAway : GoodIn wsX4_endAssignment (wsV RX4 165 RX6 yX6_sendAllAway wsX6_sendAllAway) := goodIn_app (goodIn_of _ (by decide +kernel)) ggX4_endAssignment_X6_sendAllAway
set_option maxRecDepth 20000 in
theorem ggX4_countByPitches_X4_holderOf : GoodIn wsX4_countByPitches wsX4_holderOf := goodIn_ca (goodIn_r _ [5, 6, 7, 8, 9, 10, 11, 12, 13, 14, 15, 16, 17, 18] (by decide +kernel) (by decide +kernel)) (goodIn_sub (fun _ h => List.mem_cons_of_mem _ (List.mem_append_right _ h)) (by decide +kernel))
set_option maxRecDepth 20000 in
theorem gX4_countByPitches_X4_holderOf : GoodIn wsX4_countByPitches (wsV RX4 147 RX4 yX4_holderOf wsX4_holderOf) := goodIn_app (goodIn_of _ (by decide +kernel)) ggX4_countByPitches_X4_holderOf
set_option maxRecDepth 20000 in
theorem ggX4_countByTrucks_X4_countFor : GoodIn wsX4_countByTrucks wsX4_countFor := goodIn_ca (goodIn_r _ [6, 7, 8, 9, 5, 10, 11, 12, 13, 14, 15, 16, 17, 18, 19, 20, 21, 22, 23, 24, 25, 26, 27] (by decide +kernel) (by decide +kernel)) (goodIn_sub (fun _ h => List.mem_cons_of_mem _ (List.mem_append_right _ h)) (by decide +kernel))
set_option maxRecDepth 20000 in
theorem gX4_countByTrucks_X4_countFor : GoodIn wsX4_countByTrucks (wsV RX4 154 RX4 yX4_countFor wsX4_countFor) := goodIn_app (goodIn_of _ (by decide +kernel)) ggX4_countByTrucks_X4_countFor
set_option maxRecDepth 20000 in
theorem ggX4_countFor_X4_pitchHeldBy : GoodIn wsX4_countFor wsX4_pitchHeldBy := goodIn_ca (goodIn_r _ [5, 6, 7, 8, 4, 9, 10, 11, 12, 13, 14, 15, 16, 17, 18, 19, 20, 21, 22] (by decide +kernel) (by decide +kernel)) (goodIn_sub (fun _ h => List.mem_cons_of_mem _ (List.mem_append_right _ h)) (by decide +kernel))
set_option maxRecDepth 20000 in
theorem gX4_countFor_X4_pitchHeldBy : GoodIn wsX4_countFor (wsV RX4 137 RX4 yX4_pitchHeldBy wsX4_pitchHeldBy) := goodIn_app (goodIn_of _ (by decide +kernel)) ggX4_countFor_X4_pitchHeldBy
set_option maxRecDepth 20000 in
theorem ggX4_freeDayFor_X4_isTruck : GoodIn wsX4_freeDayFor wsX4_isTruck := goodIn_r _ [6, 7, 26, 27, 28, 29, 30, 31, 32, 33, 34, 35, 36, 37] (by decide +kernel) (by decide +kernel)
set_option maxRecDepth 20000 in
theorem gX4_freeDayFor_X4_isTruck : GoodIn wsX4_freeDayFor (wsV RX4 114 RX4 yX4_isTruck wsX4_isTruck) := goodIn_app (goodIn_of _ (by decide +kernel)) ggX4_freeDayFor_X4_isTruck
set_option maxRecDepth 20000 in
theorem ggX4_freeDayFor_X6_isPermitted : GoodIn wsX4_freeDayFor wsX6_isPermitted := goodIn_r _ [12, 13, 14, 15, 16, 38, 39, 40, 41, 42, 43] (by decide +kernel) (by decide +kernel)
set_option maxRecDepth 20000 in
theorem gX4_freeDayFor_X6_isPermitted : GoodIn wsX4_freeDayFor (wsV RX4 126 RX6 yX6_isPermitted wsX6_isPermitted) := goodIn_app (goodIn_of _ (by decide +kernel)) ggX4_freeDayFor_X6_isPermitted
set_option maxRecDepth 20000 in
theorem ggX4_freeDayFor_X4_pitchHeldBy : GoodIn wsX4_freeDayFor wsX4_pitchHeldBy := goodIn_ca (goodIn_r _ [20, 21, 22, 23, 5, 24, 25, 26, 27, 28, 29, 30, 31, 32, 33, 34, 35, 36, 37] (by decide +kernel) (by decide +kernel)) (goodIn_sub (fun _ h => List.mem_cons_of_mem _ (List.mem_append_right _ h)) (by decide +kernel))
set_option maxRecDepth 20000 in
theorem gX4_freeDayFor_X4_pitchHeldBy : GoodIn wsX4_freeDayFor (wsV RX4 137 RX4 yX4_pitchHeldBy wsX4_pitchHeldBy) := goodIn_app (goodIn_of _ (by decide +kernel)) ggX4_freeDayFor_X4_pitchHeldBy
set_option maxRecDepth 20000 in
theorem ggX4_passMinutes_X4_letCustomersArrive : GoodIn wsX4_passMinutes wsX4_letCustomersArrive := goodIn_ca (goodIn_r _ [7, 8, 9, 10, 11, 12, 13, 14, 15, 16, 17, 6, 18, 19, 20, 21, 22, 23, 24, 25, 26, 27, 28, 29, 30, 31, 32, 33, 34, 35, 36, 37, 38, 39, 40, 41, 75, 76, 77, 78, 79, 80, 81, 82, 83, 84, 85, 86, 87, 88, 89, 90, 91, 92] (by decide +kernel) (by decide +kernel)) (goodIn_sub (fun _ h => List.mem_cons_of_mem _ (List.mem_append_right _ h)) (by decide +kernel))
set_option maxRecDepth 20000 in
theorem gX4_passMinutes_X4_letCustomersArrive : GoodIn wsX4_passMinutes (wsV RX4 168 RX4 yX4_letCustomersArrive wsX4_letCustomersArrive) := goodIn_app (goodIn_of _ (by decide +kernel)) ggX4_passMinutes_X4_letCustomersArrive
set_option maxRecDepth 20000 in
theorem ggX4_passMinutes_X4_letTrucksWork : GoodIn wsX4_passMinutes wsX4_letTrucksWork := goodIn_ca (goodIn_r _ [45, 19, 20, 21, 22, 6, 23, 24, 11, 12, 13, 14, 25, 26, 27, 28, 29, 30, 31, 32, 33, 34, 46, 47, 48, 49, 50, 51, 52, 1, 53, 54, 55, 38, 56, 40, 41, 57, 58, 59, 60, 61, 62, 63, 64, 65, 75, 76, 77, 78, 79, 80, 81, 82, 83, 84, 85, 86, 87, 88, 89, 90, 91, 92] (by decide +kernel) (by decide +kernel)) (goodIn_sub (fun _ h => List.mem_cons_of_mem _ (List.mem_append_right _ h)) (by decide +kernel))
set_option maxRecDepth 20000 in
theorem gX4_passMinutes_X4_letTrucksWork : GoodIn wsX4_passMinutes (wsV RX4 171 RX4 yX4_letTrucksWork wsX4_letTrucksWork) := goodIn_app (goodIn_of _ (by decide +kernel)) ggX4_passMinutes_X4_letTrucksWork
set_option maxRecDepth 20000 in
theorem ggX4_passMinutes_X4_endDay : GoodIn wsX4_passMinutes wsX4_endDay := goodIn_r _ [69, 50, 19, 24, 2, 70, 71, 72, 38, 73, 40, 74, 75, 76, 77, 78, 79, 80, 81, 82, 83, 84, 85, 86, 87, 88, 89, 90, 91, 92] (by decide +kernel) (by decide +kernel)
set_option maxRecDepth 20000 in
theorem gX4_passMinutes_X4_endDay : GoodIn wsX4_passMinutes (wsV RX4 174 RX4 yX4_endDay wsX4_endDay) := goodIn_app (goodIn_of _ (by decide +kernel)) ggX4_passMinutes_X4_endDay
set_option maxRecDepth 20000 in
theorem ggX4_letCustomersArrive_J9_floorMod_7cf53 : GoodIn wsX4_letCustomersArrive wsJ9_floorMod_7cf53 := goodIn_r _ [7] (by decide +kernel) (by decide +kernel)
set_option maxRecDepth 20000 in
theorem gX4_letCustomersArrive_J9_floorMod_7cf53 : GoodIn wsX4_letCustomersArrive (va_wsS RX4 160 yJ9_floorMod_7cf53 wsJ9_floorMod_7cf53) := goodIn_app (goodIn_of _ (by decide +kernel)) ggX4_letCustomersArrive_J9_floorMod_7cf53
set_option maxRecDepth 20000 in
theorem ggX4_letCustomersArrive_X4_shortestOpenQueue : GoodIn wsX4_letCustomersArrive wsX4_shortestOpenQueue := goodIn_ca (goodIn_r _ [12, 13, 14, 15, 16, 11, 17, 18, 4, 5, 6, 7, 19, 20, 21, 22, 23, 24, 25, 26, 27, 28, 36, 37, 38, 39, 40, 41, 42, 43, 44, 45, 46, 47, 48, 49, 50, 51, 52, 53] (by decide +kernel) (by decide +kernel)) (goodIn_sub (fun _ h => List.mem_cons_of_mem _ (List.mem_append_right _ h)) (by decide +kernel))
set_option maxRecDepth 20000 in
theorem gX4_letCustomersArrive_X4_shortestOpenQueue : GoodIn wsX4_letCustomersArrive (wsV RX4 177 RX4 yX4_shortestOpenQueue wsX4_shortestOpenQueue) := goodIn_app (goodIn_of _ (by decide +kernel)) ggX4_letCustomersArrive_X4_shortestOpenQueue
set_option maxRecDepth 20000 in
theorem ggX4_letCustomersArrive_X6_joinQueue : GoodIn wsX4_letCustomersArrive wsX6_joinQueue := goodIn_ca (goodIn_r _ [33, 34, 35, 48, 49, 50, 51, 52, 53] (by decide +kernel) (by decide +kernel)) (goodIn_sub (fun _ h => List.mem_cons_of_mem _ (List.mem_append_right _ h)) (by decide +kernel))
set_option maxRecDepth 20000 in
theorem gX4_letCustomersArrive_X6_joinQueue : GoodIn wsX4_letCustomersArrive (wsV RX4 181 RX6 yX6_joinQueue wsX6_joinQueue) := goodIn_app (goodIn_of _ (by decide +kernel)) ggX4_letCustomersArrive_X6_joinQueue
set_option maxRecDepth 20000 in
theorem ggX4_shortestOpenQueue_X4_today : GoodIn wsX4_shortestOpenQueue wsX4_today := goodIn_r _ [6, 7, 8, 9, 10, 11, 22, 23, 24, 25, 26, 27, 28, 29, 30, 31, 32, 33] (by decide +kernel) (by decide +kernel)
set_option maxRecDepth 20000 in
theorem gX4_shortestOpenQueue_X4_today : GoodIn wsX4_shortestOpenQueue (wsV RX4 157 RX4 yX4_today wsX4_today) := goodIn_app (goodIn_of _ (by decide +kernel)) ggX4_shortestOpenQueue_X4_today
set_option maxRecDepth 20000 in
theorem ggX4_shortestOpenQueue_X4_holderOf : GoodIn wsX4_shortestOpenQueue wsX4_holderOf := goodIn_ca (goodIn_r _ [15, 16, 22, 23, 24, 25, 26, 27, 28, 29, 30, 31, 32, 33] (by decide +kernel) (by decide +kernel)) (goodIn_sub (fun _ h => List.mem_cons_of_mem _ (List.mem_append_right _ h)) (by decide +kernel))
set_option maxRecDepth 20000 in
theorem gX4_shortestOpenQueue_X4_holderOf : GoodIn wsX4_shortestOpenQueue (wsV RX4 147 RX4 yX4_holderOf wsX4_holderOf) := goodIn_app (goodIn_of _ (by decide +kernel)) ggX4_shortestOpenQueue_X4_holderOf
set_option maxRecDepth 20000 in
theorem ggX4_shortestOpenQueue_X4_isTruck : GoodIn wsX4_shortestOpenQueue wsX4_isTruck := goodIn_r _ [20, 21, 22, 23, 24, 25, 26, 27, 28, 29, 30, 31, 32, 33] (by decide +kernel) (by decide +kernel)
set_option maxRecDepth 20000 in
theorem gX4_shortestOpenQueue_X4_isTruck : GoodIn wsX4_shortestOpenQueue (wsV RX4 114 RX4 yX4_isTruck wsX4_isTruck) := goodIn_app (goodIn_of _ (by decide +kernel)) ggX4_shortestOpenQueue_X4_isTruck
set_option maxRecDepth 20000 in
theorem ggX4_letTrucksWork_X4_today : GoodIn wsX4_letTrucksWork wsX4_today := goodIn_r _ [6, 7, 8, 9, 10, 11, 46, 47, 48, 49, 50, 51, 52, 53, 54, 55, 56, 57] (by decide +kernel) (by decide +kernel)
set_option maxRecDepth 20000 in
theorem gX4_letTrucksWork_X4_today : GoodIn wsX4_letTrucksWork (wsV RX4 157 RX4 yX4_today wsX4_today) := goodIn_app (goodIn_of _ (by decide +kernel)) ggX4_letTrucksWork_X4_today
set_option maxRecDepth 20000 in
theorem ggX4_letTrucksWork_X4_holderOf : GoodIn wsX4_letTrucksWork wsX4_holderOf := goodIn_ca (goodIn_r _ [15, 16, 46, 47, 48, 49, 50, 51, 52, 53, 54, 55, 56, 57] (by decide +kernel) (by decide +kernel)) (goodIn_sub (fun _ h => List.mem_cons_of_mem _ (List.mem_append_right _ h)) (by decide +kernel))
set_option maxRecDepth 20000 in
theorem gX4_letTrucksWork_X4_holderOf : GoodIn wsX4_letTrucksWork (wsV RX4 147 RX4 yX4_holderOf wsX4_holderOf) := goodIn_app (goodIn_of _ (by decide +kernel)) ggX4_letTrucksWork_X4_holderOf
set_option maxRecDepth 20000 in
theorem ggX4_letTrucksWork_X4_isTruck : GoodIn wsX4_letTrucksWork wsX4_isTruck := goodIn_r _ [20, 21, 46, 47, 48, 49, 50, 51, 52, 53, 54, 55, 56, 57] (by decide +kernel) (by decide +kernel)
set_option maxRecDepth 20000 in
theorem gX4_letTrucksWork_X4_isTruck : GoodIn wsX4_letTrucksWork (wsV RX4 114 RX4 yX4_isTruck wsX4_isTruck) := goodIn_app (goodIn_of _ (by decide +kernel)) ggX4_letTrucksWork_X4_isTruck
set_option maxRecDepth 20000 in
theorem ggX4_letTrucksWork_X4_letWork : GoodIn wsX4_letTrucksWork wsX4_letWork := goodIn_ca (goodIn_r _ [25, 26, 27, 28, 29, 30, 31, 32, 33, 34, 35, 36, 37, 38, 39, 40, 41, 42, 43, 44, 45, 58, 59, 60, 61, 62, 63, 46, 47, 48, 49, 50, 51, 52, 53, 54, 55, 56, 57] (by decide +kernel) (by decide +kernel)) (goodIn_sub (fun _ h => List.mem_cons_of_mem _ (List.mem_append_right _ h)) (by decide +kernel))
set_option maxRecDepth 20000 in
theorem gX4_letTrucksWork_X4_letWork : GoodIn wsX4_letTrucksWork (wsV RX4 187 RX4 yX4_letWork wsX4_letWork) := goodIn_app (goodIn_of _ (by decide +kernel)) ggX4_letTrucksWork_X4_letWork
set_option maxRecDepth 20000 in
theorem ggX4_letWork_X6_wishAt : GoodIn wsX4_letWork wsX6_wishAt := goodIn_ca (goodIn_r _ [9, 10, 11, 21, 22, 23, 24, 25, 26] (by decide +kernel) (by decide +kernel)) (goodIn_sub (fun _ h => List.mem_cons_of_mem _ (List.mem_append_right _ h)) (by decide +kernel))
set_option maxRecDepth 20000 in
theorem gX4_letWork_X6_wishAt : GoodIn wsX4_letWork (wsV RX4 190 RX6 yX6_wishAt wsX6_wishAt) := goodIn_app (goodIn_of _ (by decide +kernel)) ggX4_letWork_X6_wishAt
set_option maxRecDepth 20000 in
theorem ggX4_letWork_X7_isDish : GoodIn wsX4_letWork wsX7_isDish := goodIn_r _ [14] (by decide +kernel) (by decide +kernel)
set_option maxRecDepth 20000 in
theorem gX4_letWork_X7_isDish_n117 : GoodIn wsX4_letWork (wsX7_isDish) := ggX4_letWork_X7_isDish
set_option maxRecDepth 20000 in
theorem ggX4_letWork_X6_dropFirst : GoodIn wsX4_letWork wsX6_dropFirst := goodIn_ca (goodIn_r _ [18, 11, 10, 21, 22, 23, 24, 25, 26] (by decide +kernel) (by decide +kernel)) (goodIn_sub (fun _ h => List.mem_cons_of_mem _ (List.mem_append_right _ h)) (by decide +kernel))
set_option maxRecDepth 20000 in
theorem gX4_letWork_X6_dropFirst : GoodIn wsX4_letWork (wsV RX4 196 RX6 yX6_dropFirst wsX6_dropFirst) := goodIn_app (goodIn_of _ (by decide +kernel)) ggX4_letWork_X6_dropFirst
set_option maxRecDepth 20000 in
theorem ggX4_letWork_X7_minutesFor : GoodIn wsX4_letWork wsX7_minutesFor := goodIn_r _ [20] (by decide +kernel) (by decide +kernel)
set_option maxRecDepth 20000 in
theorem gX4_letWork_X7_minutesFor_n199 : GoodIn wsX4_letWork (wsX7_minutesFor) := ggX4_letWork_X7_minutesFor
set_option maxRecDepth 20000 in
theorem ggX4_endDay_X6_sendAllAway : GoodIn wsX4_endDay wsX6_sendAllAway := goodIn_r _ [9, 10, 11, 24, 25, 26, 27, 28, 29] (by decide +kernel) (by decide +kernel)
set_option maxRecDepth 20000 in
theorem gX4_endDay_X6_sendAllAway : GoodIn wsX4_endDay (wsV RX4 165 RX6 yX6_sendAllAway wsX6_sendAllAway) := goodIn_app (goodIn_of _ (by decide +kernel)) ggX4_endDay_X6_sendAllAway
set_option maxRecDepth 20000 in
theorem ggX4_truckRanked_X4_rankOf : GoodIn wsX4_truckRanked wsX4_rankOf := goodIn_ca (goodIn_r _ [6, 1, 7, 8, 9, 10, 5, 11, 12, 13, 14, 15, 16, 17, 18, 19, 20, 21, 22, 23, 24, 25, 26, 27, 28, 29, 30, 31, 32, 33, 34, 35, 36, 37, 38, 39, 40] (by decide +kernel) (by decide +kernel)) (goodIn_sub (fun _ h => List.mem_cons_of_mem _ (List.mem_append_right _ h)) (by decide +kernel))
set_option maxRecDepth 20000 in
theorem gX4_truckRanked_X4_rankOf : GoodIn wsX4_truckRanked (wsV RX4 205 RX4 yX4_rankOf wsX4_rankOf) := goodIn_app (goodIn_of _ (by decide +kernel)) ggX4_truckRanked_X4_rankOf
set_option maxRecDepth 20000 in
theorem ggX4_rankOf_X4_isTruck : GoodIn wsX4_rankOf wsX4_isTruck := goodIn_r _ [7, 1, 19, 20, 21, 22, 23, 24, 25, 26, 27, 28, 29, 30] (by decide +kernel) (by decide +kernel)
set_option maxRecDepth 20000 in
theorem gX4_rankOf_X4_isTruck : GoodIn wsX4_rankOf (wsV RX4 114 RX4 yX4_isTruck wsX4_isTruck) := goodIn_app (goodIn_of _ (by decide +kernel)) ggX4_rankOf_X4_isTruck
set_option maxRecDepth 20000 in
theorem ggX4_rankOf_X6_ranksBefore : GoodIn wsX4_rankOf wsX6_ranksBefore := goodIn_ca (goodIn_r _ [12, 13, 14, 15, 16, 11, 17, 18, 31, 32, 33, 34, 35, 36] (by decide +kernel) (by decide +kernel)) (goodIn_sub (fun _ h => List.mem_cons_of_mem _ (List.mem_append_right _ h)) (by decide +kernel))
set_option maxRecDepth 20000 in
theorem gX4_rankOf_X6_ranksBefore : GoodIn wsX4_rankOf (wsV RX4 208 RX6 yX6_ranksBefore wsX6_ranksBefore) := goodIn_app (goodIn_of _ (by decide +kernel)) ggX4_rankOf_X6_ranksBefore
set_option maxRecDepth 20000 in
theorem ggX4_everyHolderIsPermitted_X4_holderOf : GoodIn wsX4_everyHolderIsPermitted wsX4_holderOf := goodIn_ca (goodIn_r _ [6, 7, 22, 23, 24, 25, 26, 27, 28, 29, 30, 31, 32, 33] (by decide +kernel) (by decide +kernel)) (goodIn_sub (fun _ h => List.mem_cons_of_mem _ (List.mem_append_right _ h)) (by decide +kernel))
set_option maxRecDepth 20000 in
theorem gX4_everyHolderIsPermitted_X4_holderOf : GoodIn wsX4_everyHolderIsPermitted (wsV RX4 147 RX4 yX4_holderOf wsX4_holderOf) := goodIn_app (goodIn_of _ (by decide +kernel)) ggX4_everyHolderIsPermitted_X4_holderOf
set_option maxRecDepth 20000 in
theorem ggX4_everyHolderIsPermitted_X4_isTruck : GoodIn wsX4_everyHolderIsPermitted wsX4_isTruck := goodIn_r _ [11, 12, 22, 23, 24, 25, 26, 27, 28, 29, 30, 31, 32, 33] (by decide +kernel) (by decide +kernel)
set_option maxRecDepth 20000 in
theorem gX4_everyHolderIsPermitted_X4_isTruck : GoodIn wsX4_everyHolderIsPermitted (wsV RX4 114 RX4 yX4_isTruck wsX4_isTruck) := goodIn_app (goodIn_of _ (by decide +kernel)) ggX4_everyHolderIsPermitted_X4_isTruck
set_option maxRecDepth 20000 in
theorem ggX4_everyHolderIsPermitted_X6_isPermitted : GoodIn wsX4_everyHolderIsPermitted wsX6_isPermitted := goodIn_r _ [17, 18, 19, 20, 21, 34, 35, 36, 37, 38, 39] (by decide +kernel) (by decide +kernel)
set_option maxRecDepth 20000 in
theorem gX4_everyHolderIsPermitted_X6_isPermitted : GoodIn wsX4_everyHolderIsPermitted (wsV RX4 126 RX6 yX6_isPermitted wsX6_isPermitted) := goodIn_app (goodIn_of _ (by decide +kernel)) ggX4_everyHolderIsPermitted_X6_isPermitted
theorem dX7_isDish_0 : decode cX7_isDish 0 = .ok (.iload_n 0, 1) := by decide +kernel
theorem dX7_isDish_1 : decode cX7_isDish 1 = .ok (.ifCond .lt 12, 3) := by decide +kernel
theorem dX7_isDish_4 : decode cX7_isDish 4 = .ok (.iload_n 0, 1) := by decide +kernel
theorem dX7_isDish_5 : decode cX7_isDish 5 = .ok (.iconst 4, 1) := by decide +kernel
theorem dX7_isDish_6 : decode cX7_isDish 6 = .ok (.if_icmp .ge 7, 3) := by decide +kernel
theorem dX7_isDish_9 : decode cX7_isDish 9 = .ok (.iconst 1, 1) := by decide +kernel
theorem dX7_isDish_10 : decode cX7_isDish 10 = .ok (.goto 4, 3) := by decide +kernel
theorem dX7_isDish_13 : decode cX7_isDish 13 = .ok (.iconst 0, 1) := by decide +kernel
theorem dX7_isDish_14 : decode cX7_isDish 14 = .ok (.ireturn, 1) := by decide +kernel
theorem dX7_isPitch_0 : decode cX7_isPitch 0 = .ok (.iload_n 0, 1) := by decide +kernel
theorem dX7_isPitch_1 : decode cX7_isPitch 1 = .ok (.ifCond .lt 12, 3) := by decide +kernel
theorem dX7_isPitch_4 : decode cX7_isPitch 4 = .ok (.iload_n 0, 1) := by decide +kernel
theorem dX7_isPitch_5 : decode cX7_isPitch 5 = .ok (.iconst 5, 1) := by decide +kernel
theorem dX7_isPitch_6 : decode cX7_isPitch 6 = .ok (.if_icmp .ge 7, 3) := by decide +kernel
theorem dX7_isPitch_9 : decode cX7_isPitch 9 = .ok (.iconst 1, 1) := by decide +kernel
theorem dX7_isPitch_10 : decode cX7_isPitch 10 = .ok (.goto 4, 3) := by decide +kernel
theorem dX7_isPitch_13 : decode cX7_isPitch 13 = .ok (.iconst 0, 1) := by decide +kernel
theorem dX7_isPitch_14 : decode cX7_isPitch 14 = .ok (.ireturn, 1) := by decide +kernel
theorem dX7_isWeekday_0 : decode cX7_isWeekday 0 = .ok (.iload_n 0, 1) := by decide +kernel
theorem dX7_isWeekday_1 : decode cX7_isWeekday 1 = .ok (.ifCond .lt 13, 3) := by decide +kernel
theorem dX7_isWeekday_4 : decode cX7_isWeekday 4 = .ok (.iload_n 0, 1) := by decide +kernel
theorem dX7_isWeekday_5 : decode cX7_isWeekday 5 = .ok (.bipush 7, 2) := by decide +kernel
theorem dX7_isWeekday_7 : decode cX7_isWeekday 7 = .ok (.if_icmp .ge 7, 3) := by decide +kernel
theorem dX7_isWeekday_10 : decode cX7_isWeekday 10 = .ok (.iconst 1, 1) := by decide +kernel
theorem dX7_isWeekday_11 : decode cX7_isWeekday 11 = .ok (.goto 4, 3) := by decide +kernel
theorem dX7_isWeekday_14 : decode cX7_isWeekday 14 = .ok (.iconst 0, 1) := by decide +kernel
theorem dX7_isWeekday_15 : decode cX7_isWeekday 15 = .ok (.ireturn, 1) := by decide +kernel
theorem dX7_minutesFor_0 : decode cX7_minutesFor 0 = .ok (.iload_n 0, 1) := by decide +kernel
theorem dX7_minutesFor_1 : decode cX7_minutesFor 1 = .ok (.iconst 1, 1) := by decide +kernel
theorem dX7_minutesFor_2 : decode cX7_minutesFor 2 = .ok (.iadd, 1) := by decide +kernel
theorem dX7_minutesFor_3 : decode cX7_minutesFor 3 = .ok (.ireturn, 1) := by decide +kernel
