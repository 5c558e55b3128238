theorem dX2_init_0 : decode cX2_init 0 = .ok (.aload_n 0, 1) := by decide +kernel
theorem dX2_init_1 : decode cX2_init 1 = .ok (.invokespecial 3, 3) := by decide +kernel
theorem dX2_init_4 : decode cX2_init 4 = .ok (.aload_n 0, 1) := by decide +kernel
theorem dX2_init_5 : decode cX2_init 5 = .ok (.bipush 8, 2) := by decide +kernel
theorem dX2_init_7 : decode cX2_init 7 = .ok (.anewarray 9, 3) := by decide +kernel
theorem dX2_init_10 : decode cX2_init 10 = .ok (.putfield 11, 3) := by decide +kernel
theorem dX2_init_13 : decode cX2_init 13 = .ok (.iconst 0, 1) := by decide +kernel
theorem dX2_init_14 : decode cX2_init 14 = .ok (.istore_n 1, 1) := by decide +kernel
theorem dX2_init_15 : decode cX2_init 15 = .ok (.iload_n 1, 1) := by decide +kernel
theorem dX2_init_16 : decode cX2_init 16 = .ok (.bipush 8, 2) := by decide +kernel
theorem dX2_init_18 : decode cX2_init 18 = .ok (.if_icmp .ge 22, 3) := by decide +kernel
theorem dX2_init_21 : decode cX2_init 21 = .ok (.aload_n 0, 1) := by decide +kernel
theorem dX2_init_22 : decode cX2_init 22 = .ok (.getfield 11, 3) := by decide +kernel
theorem dX2_init_25 : decode cX2_init 25 = .ok (.iload_n 1, 1) := by decide +kernel
theorem dX2_init_26 : decode cX2_init 26 = .ok (.new 9, 3) := by decide +kernel
theorem dX2_init_29 : decode cX2_init 29 = .ok (.dup, 1) := by decide +kernel
theorem dX2_init_30 : decode cX2_init 30 = .ok (.invokespecial 17, 3) := by decide +kernel
theorem dX2_init_33 : decode cX2_init 33 = .ok (.aastore, 1) := by decide +kernel
theorem dX2_init_34 : decode cX2_init 34 = .ok (.iinc 1 1, 3) := by decide +kernel
theorem dX2_init_37 : decode cX2_init 37 = .ok (.goto (-22), 3) := by decide +kernel
theorem dX2_init_40 : decode cX2_init 40 = .ok (.return_, 1) := by decide +kernel
theorem dX2_keep_0 : decode cX2_keep 0 = .ok (.aload_n 0, 1) := by decide +kernel
theorem dX2_keep_1 : decode cX2_keep 1 = .ok (.getfield 18, 3) := by decide +kernel
theorem dX2_keep_4 : decode cX2_keep 4 = .ok (.bipush 8, 2) := by decide +kernel
theorem dX2_keep_6 : decode cX2_keep 6 = .ok (.if_icmp .lt 7, 3) := by decide +kernel
theorem dX2_keep_9 : decode cX2_keep 9 = .ok (.aload_n 0, 1) := by decide +kernel
theorem dX2_keep_10 : decode cX2_keep 10 = .ok (.invokevirtual 22, 3) := by decide +kernel
theorem dX2_keep_13 : decode cX2_keep 13 = .ok (.aload_n 0, 1) := by decide +kernel
theorem dX2_keep_14 : decode cX2_keep 14 = .ok (.getfield 18, 3) := by decide +kernel
theorem dX2_keep_17 : decode cX2_keep 17 = .ok (.ifCond .lt 35, 3) := by decide +kernel
theorem dX2_keep_20 : decode cX2_keep 20 = .ok (.aload_n 0, 1) := by decide +kernel
theorem dX2_keep_21 : decode cX2_keep 21 = .ok (.getfield 18, 3) := by decide +kernel
theorem dX2_keep_24 : decode cX2_keep 24 = .ok (.bipush 8, 2) := by decide +kernel
theorem dX2_keep_26 : decode cX2_keep 26 = .ok (.if_icmp .ge 26, 3) := by decide +kernel
theorem dX2_keep_29 : decode cX2_keep 29 = .ok (.aload_n 0, 1) := by decide +kernel
theorem dX2_keep_30 : decode cX2_keep 30 = .ok (.getfield 11, 3) := by decide +kernel
theorem dX2_keep_33 : decode cX2_keep 33 = .ok (.aload_n 0, 1) := by decide +kernel
theorem dX2_keep_34 : decode cX2_keep 34 = .ok (.getfield 18, 3) := by decide +kernel
theorem dX2_keep_37 : decode cX2_keep 37 = .ok (.aaload, 1) := by decide +kernel
theorem dX2_keep_38 : decode cX2_keep 38 = .ok (.aload_n 1, 1) := by decide +kernel
theorem dX2_keep_39 : decode cX2_keep 39 = .ok (.invokevirtual 25, 3) := by decide +kernel
theorem dX2_keep_42 : decode cX2_keep 42 = .ok (.aload_n 0, 1) := by decide +kernel
theorem dX2_keep_43 : decode cX2_keep 43 = .ok (.dup, 1) := by decide +kernel
theorem dX2_keep_44 : decode cX2_keep 44 = .ok (.getfield 18, 3) := by decide +kernel
theorem dX2_keep_47 : decode cX2_keep 47 = .ok (.iconst 1, 1) := by decide +kernel
theorem dX2_keep_48 : decode cX2_keep 48 = .ok (.iadd, 1) := by decide +kernel
theorem dX2_keep_49 : decode cX2_keep 49 = .ok (.putfield 18, 3) := by decide +kernel
theorem dX2_keep_52 : decode cX2_keep 52 = .ok (.return_, 1) := by decide +kernel
theorem dX2_forgetOldest_0 : decode cX2_forgetOldest 0 = .ok (.aload_n 0, 1) := by decide +kernel
theorem dX2_forgetOldest_1 : decode cX2_forgetOldest 1 = .ok (.getfield 11, 3) := by decide +kernel
theorem dX2_forgetOldest_4 : decode cX2_forgetOldest 4 = .ok (.iconst 0, 1) := by decide +kernel
theorem dX2_forgetOldest_5 : decode cX2_forgetOldest 5 = .ok (.aaload, 1) := by decide +kernel
theorem dX2_forgetOldest_6 : decode cX2_forgetOldest 6 = .ok (.astore_n 1, 1) := by decide +kernel
theorem dX2_forgetOldest_7 : decode cX2_forgetOldest 7 = .ok (.iconst 1, 1) := by decide +kernel
theorem dX2_forgetOldest_8 : decode cX2_forgetOldest 8 = .ok (.istore_n 2, 1) := by decide +kernel
theorem dX2_forgetOldest_9 : decode cX2_forgetOldest 9 = .ok (.iload_n 2, 1) := by decide +kernel
theorem dX2_forgetOldest_10 : decode cX2_forgetOldest 10 = .ok (.bipush 8, 2) := by decide +kernel
theorem dX2_forgetOldest_12 : decode cX2_forgetOldest 12 = .ok (.if_icmp .ge 23, 3) := by decide +kernel
theorem dX2_forgetOldest_15 : decode cX2_forgetOldest 15 = .ok (.aload_n 0, 1) := by decide +kernel
theorem dX2_forgetOldest_16 : decode cX2_forgetOldest 16 = .ok (.getfield 11, 3) := by decide +kernel
theorem dX2_forgetOldest_19 : decode cX2_forgetOldest 19 = .ok (.iload_n 2, 1) := by decide +kernel
theorem dX2_forgetOldest_20 : decode cX2_forgetOldest 20 = .ok (.iconst 1, 1) := by decide +kernel
theorem dX2_forgetOldest_21 : decode cX2_forgetOldest 21 = .ok (.isub, 1) := by decide +kernel
theorem dX2_forgetOldest_22 : decode cX2_forgetOldest 22 = .ok (.aload_n 0, 1) := by decide +kernel
theorem dX2_forgetOldest_23 : decode cX2_forgetOldest 23 = .ok (.getfield 11, 3) := by decide +kernel
theorem dX2_forgetOldest_26 : decode cX2_forgetOldest 26 = .ok (.iload_n 2, 1) := by decide +kernel
theorem dX2_forgetOldest_27 : decode cX2_forgetOldest 27 = .ok (.aaload, 1) := by decide +kernel
theorem dX2_forgetOldest_28 : decode cX2_forgetOldest 28 = .ok (.aastore, 1) := by decide +kernel
theorem dX2_forgetOldest_29 : decode cX2_forgetOldest 29 = .ok (.iinc 2 1, 3) := by decide +kernel
theorem dX2_forgetOldest_32 : decode cX2_forgetOldest 32 = .ok (.goto (-23), 3) := by decide +kernel
theorem dX2_forgetOldest_35 : decode cX2_forgetOldest 35 = .ok (.aload_n 0, 1) := by decide +kernel
theorem dX2_forgetOldest_36 : decode cX2_forgetOldest 36 = .ok (.getfield 11, 3) := by decide +kernel
theorem dX2_forgetOldest_39 : decode cX2_forgetOldest 39 = .ok (.bipush 7, 2) := by decide +kernel
theorem dX2_forgetOldest_41 : decode cX2_forgetOldest 41 = .ok (.aload_n 1, 1) := by decide +kernel
theorem dX2_forgetOldest_42 : decode cX2_forgetOldest 42 = .ok (.aastore, 1) := by decide +kernel
theorem dX2_forgetOldest_43 : decode cX2_forgetOldest 43 = .ok (.aload_n 0, 1) := by decide +kernel
theorem dX2_forgetOldest_44 : decode cX2_forgetOldest 44 = .ok (.bipush 7, 2) := by decide +kernel
theorem dX2_forgetOldest_46 : decode cX2_forgetOldest 46 = .ok (.putfield 18, 3) := by decide +kernel
theorem dX2_forgetOldest_49 : decode cX2_forgetOldest 49 = .ok (.return_, 1) := by decide +kernel
theorem dX2_giveBack_0 : decode cX2_giveBack 0 = .ok (.aload_n 0, 1) := by decide +kernel
theorem dX2_giveBack_1 : decode cX2_giveBack 1 = .ok (.getfield 18, 3) := by decide +kernel
theorem dX2_giveBack_4 : decode cX2_giveBack 4 = .ok (.iconst 1, 1) := by decide +kernel
theorem dX2_giveBack_5 : decode cX2_giveBack 5 = .ok (.if_icmp .lt 12, 3) := by decide +kernel
theorem dX2_giveBack_8 : decode cX2_giveBack 8 = .ok (.aload_n 0, 1) := by decide +kernel
theorem dX2_giveBack_9 : decode cX2_giveBack 9 = .ok (.getfield 18, 3) := by decide +kernel
theorem dX2_giveBack_12 : decode cX2_giveBack 12 = .ok (.bipush 8, 2) := by decide +kernel
theorem dX2_giveBack_14 : decode cX2_giveBack 14 = .ok (.if_icmp .le 5, 3) := by decide +kernel
theorem dX2_giveBack_17 : decode cX2_giveBack 17 = .ok (.iconst 0, 1) := by decide +kernel
theorem dX2_giveBack_18 : decode cX2_giveBack 18 = .ok (.ireturn, 1) := by decide +kernel
theorem dX2_giveBack_19 : decode cX2_giveBack 19 = .ok (.aload_n 0, 1) := by decide +kernel
theorem dX2_giveBack_20 : decode cX2_giveBack 20 = .ok (.dup, 1) := by decide +kernel
theorem dX2_giveBack_21 : decode cX2_giveBack 21 = .ok (.getfield 18, 3) := by decide +kernel
theorem dX2_giveBack_24 : decode cX2_giveBack 24 = .ok (.iconst 1, 1) := by decide +kernel
theorem dX2_giveBack_25 : decode cX2_giveBack 25 = .ok (.isub, 1) := by decide +kernel
theorem dX2_giveBack_26 : decode cX2_giveBack 26 = .ok (.putfield 18, 3) := by decide +kernel
theorem dX2_giveBack_29 : decode cX2_giveBack 29 = .ok (.aload_n 1, 1) := by decide +kernel
theorem dX2_giveBack_30 : decode cX2_giveBack 30 = .ok (.aload_n 0, 1) := by decide +kernel
theorem dX2_giveBack_31 : decode cX2_giveBack 31 = .ok (.getfield 11, 3) := by decide +kernel
theorem dX2_giveBack_34 : decode cX2_giveBack 34 = .ok (.aload_n 0, 1) := by decide +kernel
theorem dX2_giveBack_35 : decode cX2_giveBack 35 = .ok (.getfield 18, 3) := by decide +kernel
theorem dX2_giveBack_38 : decode cX2_giveBack 38 = .ok (.aaload, 1) := by decide +kernel
theorem dX2_giveBack_39 : decode cX2_giveBack 39 = .ok (.invokevirtual 25, 3) := by decide +kernel
theorem dX2_giveBack_42 : decode cX2_giveBack 42 = .ok (.iconst 1, 1) := by decide +kernel
theorem dX2_giveBack_43 : decode cX2_giveBack 43 = .ok (.ireturn, 1) := by decide +kernel
set_option maxRecDepth 20000 in
theorem ggX2_init_X4_init : GoodIn wsX2_init wsX4_init := goodIn_r _ [10, 11, 2, 3, 12, 13, 14, 15, 16, 17, 18, 19, 20, 21, 22, 23, 24, 25, 26, 27, 28, 29, 32, 33, 34, 35, 36, 37, 38, 39, 40, 41, 42, 43, 44, 45, 46, 47, 48, 49] (by decide +kernel) (by decide +kernel)
set_option maxRecDepth 20000 in
theorem gX2_init_X4_init : GoodIn wsX2_init (wsX4_init) := ggX2_init_X4_init
set_option maxRecDepth 20000 in
theorem ggX2_keep_X2_forgetOldest : GoodIn wsX2_keep wsX2_forgetOldest := goodIn_r _ [7, 2, 1, 41, 42] (by decide +kernel) (by decide +kernel)
set_option maxRecDepth 20000 in
theorem gX2_keep_X2_forgetOldest : GoodIn wsX2_keep (wsV RX2 22 RX2 yX2_forgetOldest wsX2_forgetOldest) := goodIn_app (goodIn_of _ (by decide +kernel)) ggX2_keep_X2_forgetOldest
set_option maxRecDepth 20000 in
theorem ggX2_keep_X4_copyFrom : GoodIn wsX2_keep wsX4_copyFrom := goodIn_r _ [12, 13, 14, 15, 16, 17, 18, 19, 20, 21, 22, 23, 24, 25, 26, 27, 28, 29, 30, 31, 32, 33, 34, 35, 36, 37, 38, 39, 40, 43, 44, 45, 46, 47, 48, 49, 50, 51, 52, 53, 54, 55, 56, 57, 58, 59, 60] (by decide +kernel) (by decide +kernel)
set_option maxRecDepth 20000 in
theorem gX2_keep_X4_copyFrom : GoodIn wsX2_keep (wsV RX2 25 RX4 yX4_copyFrom wsX4_copyFrom) := goodIn_app (goodIn_of _ (by decide +kernel)) ggX2_keep_X4_copyFrom
set_option maxRecDepth 20000 in
theorem ggX2_giveBack_X4_copyFrom : GoodIn wsX2_giveBack wsX4_copyFrom := goodIn_r _ [7, 8, 9, 10, 11, 12, 13, 14, 15, 16, 17, 18, 19, 20, 21, 22, 23, 24, 25, 26, 27, 28, 29, 30, 31, 32, 33, 34, 35, 38, 39, 40, 41, 42, 43, 44, 45, 46, 47, 48, 49, 50, 51, 52, 53, 54, 55] (by decide +kernel) (by decide +kernel)
set_option maxRecDepth 20000 in
theorem gX2_giveBack_X4_copyFrom : GoodIn wsX2_giveBack (wsV RX2 25 RX4 yX4_copyFrom wsX4_copyFrom) := goodIn_app (goodIn_of _ (by decide +kernel)) ggX2_giveBack_X4_copyFrom
theorem dX3_init_0 : decode cX3_init 0 = .ok (.aload_n 0, 1) := by decide +kernel
theorem dX3_init_1 : decode cX3_init 1 = .ok (.invokespecial 3, 3) := by decide +kernel
theorem dX3_init_4 : decode cX3_init 4 = .ok (.aload_n 0, 1) := by decide +kernel
theorem dX3_init_5 : decode cX3_init 5 = .ok (.new 9, 3) := by decide +kernel
theorem dX3_init_8 : decode cX3_init 8 = .ok (.dup, 1) := by decide +kernel
theorem dX3_init_9 : decode cX3_init 9 = .ok (.invokespecial 11, 3) := by decide +kernel
theorem dX3_init_12 : decode cX3_init 12 = .ok (.putfield 12, 3) := by decide +kernel
theorem dX3_init_15 : decode cX3_init 15 = .ok (.aload_n 0, 1) := by decide +kernel
theorem dX3_init_16 : decode cX3_init 16 = .ok (.bipush 15, 2) := by decide +kernel
theorem dX3_init_18 : decode cX3_init 18 = .ok (.anewarray 18, 3) := by decide +kernel
theorem dX3_init_21 : decode cX3_init 21 = .ok (.putfield 20, 3) := by decide +kernel
theorem dX3_init_24 : decode cX3_init 24 = .ok (.iconst 0, 1) := by decide +kernel
theorem dX3_init_25 : decode cX3_init 25 = .ok (.istore_n 1, 1) := by decide +kernel
theorem dX3_init_26 : decode cX3_init 26 = .ok (.iload_n 1, 1) := by decide +kernel
theorem dX3_init_27 : decode cX3_init 27 = .ok (.bipush 15, 2) := by decide +kernel
theorem dX3_init_29 : decode cX3_init 29 = .ok (.if_icmp .ge 22, 3) := by decide +kernel
theorem dX3_init_32 : decode cX3_init 32 = .ok (.aload_n 0, 1) := by decide +kernel
theorem dX3_init_33 : decode cX3_init 33 = .ok (.getfield 20, 3) := by decide +kernel
theorem dX3_init_36 : decode cX3_init 36 = .ok (.iload_n 1, 1) := by decide +kernel
theorem dX3_init_37 : decode cX3_init 37 = .ok (.new 18, 3) := by decide +kernel
theorem dX3_init_40 : decode cX3_init 40 = .ok (.dup, 1) := by decide +kernel
theorem dX3_init_41 : decode cX3_init 41 = .ok (.invokespecial 24, 3) := by decide +kernel
theorem dX3_init_44 : decode cX3_init 44 = .ok (.aastore, 1) := by decide +kernel
theorem dX3_init_45 : decode cX3_init 45 = .ok (.iinc 1 1, 3) := by decide +kernel
theorem dX3_init_48 : decode cX3_init 48 = .ok (.goto (-22), 3) := by decide +kernel
theorem dX3_init_51 : decode cX3_init 51 = .ok (.return_, 1) := by decide +kernel
theorem dX3_read_0 : decode cX3_read 0 = .ok (.aload_n 0, 1) := by decide +kernel
theorem dX3_read_1 : decode cX3_read 1 = .ok (.iconst 0, 1) := by decide +kernel
theorem dX3_read_2 : decode cX3_read 2 = .ok (.putfield 25, 3) := by decide +kernel
theorem dX3_read_5 : decode cX3_read 5 = .ok (.aload_n 0, 1) := by decide +kernel
theorem dX3_read_6 : decode cX3_read 6 = .ok (.iconst 0, 1) := by decide +kernel
theorem dX3_read_7 : decode cX3_read 7 = .ok (.putfield 29, 3) := by decide +kernel
theorem dX3_read_10 : decode cX3_read 10 = .ok (.aload_n 0, 1) := by decide +kernel
theorem dX3_read_11 : decode cX3_read 11 = .ok (.getfield 29, 3) := by decide +kernel
theorem dX3_read_14 : decode cX3_read 14 = .ok (.bipush 15, 2) := by decide +kernel
theorem dX3_read_16 : decode cX3_read 16 = .ok (.if_icmp .ge 58, 3) := by decide +kernel
theorem dX3_read_19 : decode cX3_read 19 = .ok (.aload_n 0, 1) := by decide +kernel
theorem dX3_read_20 : decode cX3_read 20 = .ok (.aload_n 0, 1) := by decide +kernel
theorem dX3_read_21 : decode cX3_read 21 = .ok (.getfield 20, 3) := by decide +kernel
theorem dX3_read_24 : decode cX3_read 24 = .ok (.aload_n 0, 1) := by decide +kernel
theorem dX3_read_25 : decode cX3_read 25 = .ok (.getfield 29, 3) := by decide +kernel
theorem dX3_read_28 : decode cX3_read 28 = .ok (.aaload, 1) := by decide +kernel
theorem dX3_read_29 : decode cX3_read 29 = .ok (.invokevirtual 32, 3) := by decide +kernel
theorem dX3_read_32 : decode cX3_read 32 = .ok (.ifCond .ne 5, 3) := by decide +kernel
theorem dX3_read_35 : decode cX3_read 35 = .ok (.iconst 0, 1) := by decide +kernel
theorem dX3_read_36 : decode cX3_read 36 = .ok (.ireturn, 1) := by decide +kernel
theorem dX3_read_37 : decode cX3_read 37 = .ok (.aload_n 0, 1) := by decide +kernel
theorem dX3_read_38 : decode cX3_read 38 = .ok (.dup, 1) := by decide +kernel
theorem dX3_read_39 : decode cX3_read 39 = .ok (.getfield 29, 3) := by decide +kernel
theorem dX3_read_42 : decode cX3_read 42 = .ok (.iconst 1, 1) := by decide +kernel
theorem dX3_read_43 : decode cX3_read 43 = .ok (.iadd, 1) := by decide +kernel
theorem dX3_read_44 : decode cX3_read 44 = .ok (.putfield 29, 3) := by decide +kernel
theorem dX3_read_47 : decode cX3_read 47 = .ok (.aload_n 0, 1) := by decide +kernel
theorem dX3_read_48 : decode cX3_read 48 = .ok (.getfield 25, 3) := by decide +kernel
theorem dX3_read_51 : decode cX3_read 51 = .ok (.aload_n 0, 1) := by decide +kernel
theorem dX3_read_52 : decode cX3_read 52 = .ok (.getfield 12, 3) := by decide +kernel
theorem dX3_read_55 : decode cX3_read 55 = .ok (.invokevirtual 36, 3) := by decide +kernel
theorem dX3_read_58 : decode cX3_read 58 = .ok (.if_icmp .lt 5, 3) := by decide +kernel
theorem dX3_read_61 : decode cX3_read 61 = .ok (.iconst 1, 1) := by decide +kernel
theorem dX3_read_62 : decode cX3_read 62 = .ok (.ireturn, 1) := by decide +kernel
theorem dX3_read_63 : decode cX3_read 63 = .ok (.aload_n 0, 1) := by decide +kernel
theorem dX3_read_64 : decode cX3_read 64 = .ok (.bipush 59, 2) := by decide +kernel
theorem dX3_read_66 : decode cX3_read 66 = .ok (.invokevirtual 40, 3) := by decide +kernel
theorem dX3_read_69 : decode cX3_read 69 = .ok (.ifCond .ne (-59), 3) := by decide +kernel
theorem dX3_read_72 : decode cX3_read 72 = .ok (.iconst 0, 1) := by decide +kernel
theorem dX3_read_73 : decode cX3_read 73 = .ok (.ireturn, 1) := by decide +kernel
theorem dX3_read_74 : decode cX3_read 74 = .ok (.iconst 0, 1) := by decide +kernel
theorem dX3_read_75 : decode cX3_read 75 = .ok (.ireturn, 1) := by decide +kernel
theorem dX3_readStep_0 : decode cX3_readStep 0 = .ok (.aload_n 0, 1) := by decide +kernel
theorem dX3_readStep_1 : decode cX3_readStep 1 = .ok (.invokevirtual 44, 3) := by decide +kernel
theorem dX3_readStep_4 : decode cX3_readStep 4 = .ok (.astore_n 2, 1) := by decide +kernel
theorem dX3_readStep_5 : decode cX3_readStep 5 = .ok (.aload_n 2, 1) := by decide +kernel
theorem dX3_readStep_6 : decode cX3_readStep 6 = .ok (.ifnonnull 5, 3) := by decide +kernel
theorem dX3_readStep_9 : decode cX3_readStep 9 = .ok (.iconst 0, 1) := by decide +kernel
theorem dX3_readStep_10 : decode cX3_readStep 10 = .ok (.ireturn, 1) := by decide +kernel
theorem dX3_readStep_11 : decode cX3_readStep 11 = .ok (.aload_n 1, 1) := by decide +kernel
theorem dX3_readStep_12 : decode cX3_readStep 12 = .ok (.aload_n 2, 1) := by decide +kernel
theorem dX3_readStep_13 : decode cX3_readStep 13 = .ok (.putfield 48, 3) := by decide +kernel
theorem dX3_readStep_16 : decode cX3_readStep 16 = .ok (.aload_n 2, 1) := by decide +kernel
theorem dX3_readStep_17 : decode cX3_readStep 17 = .ok (.getstatic 52, 3) := by decide +kernel
theorem dX3_readStep_20 : decode cX3_readStep 20 = .ok (.if_acmp .ne 25, 3) := by decide +kernel
theorem dX3_readStep_23 : decode cX3_readStep 23 = .ok (.aload_n 0, 1) := by decide +kernel
theorem dX3_readStep_24 : decode cX3_readStep 24 = .ok (.aload_n 0, 1) := by decide +kernel
theorem dX3_readStep_25 : decode cX3_readStep 25 = .ok (.getfield 25, 3) := by decide +kernel
theorem dX3_readStep_28 : decode cX3_readStep 28 = .ok (.bipush 32, 2) := by decide +kernel
theorem dX3_readStep_30 : decode cX3_readStep 30 = .ok (.invokevirtual 57, 3) := by decide +kernel
theorem dX3_readStep_33 : decode cX3_readStep 33 = .ok (.ifCond .ne 12, 3) := by decide +kernel
theorem dX3_readStep_36 : decode cX3_readStep 36 = .ok (.aload_n 1, 1) := by decide +kernel
theorem dX3_readStep_37 : decode cX3_readStep 37 = .ok (.getfield 61, 3) := by decide +kernel
theorem dX3_readStep_40 : decode cX3_readStep 40 = .ok (.iconst 0, 1) := by decide +kernel
theorem dX3_readStep_41 : decode cX3_readStep 41 = .ok (.iconst 1, 1) := by decide +kernel
theorem dX3_readStep_42 : decode cX3_readStep 42 = .ok (.iastore, 1) := by decide +kernel
theorem dX3_readStep_43 : decode cX3_readStep 43 = .ok (.iconst 1, 1) := by decide +kernel
theorem dX3_readStep_44 : decode cX3_readStep 44 = .ok (.ireturn, 1) := by decide +kernel
theorem dX3_readStep_45 : decode cX3_readStep 45 = .ok (.aload_n 2, 1) := by decide +kernel
theorem dX3_readStep_46 : decode cX3_readStep 46 = .ok (.getfield 65, 3) := by decide +kernel
theorem dX3_readStep_49 : decode cX3_readStep 49 = .ok (.iconst 1, 1) := by decide +kernel
theorem dX3_readStep_50 : decode cX3_readStep 50 = .ok (.isub, 1) := by decide +kernel
theorem dX3_readStep_51 : decode cX3_readStep 51 = .ok (.istore_n 3, 1) := by decide +kernel
theorem dX3_readStep_52 : decode cX3_readStep 52 = .ok (.iconst 0, 1) := by decide +kernel
theorem dX3_readStep_53 : decode cX3_readStep 53 = .ok (.istore 4, 2) := by decide +kernel
theorem dX3_readStep_55 : decode cX3_readStep 55 = .ok (.iload 4, 2) := by decide +kernel
theorem dX3_readStep_57 : decode cX3_readStep 57 = .ok (.iload_n 3, 1) := by decide +kernel
theorem dX3_readStep_58 : decode cX3_readStep 58 = .ok (.if_icmp .gt 56, 3) := by decide +kernel
theorem dX3_readStep_61 : decode cX3_readStep 61 = .ok (.iload 4, 2) := by decide +kernel
theorem dX3_readStep_63 : decode cX3_readStep 63 = .ok (.iconst 3, 1) := by decide +kernel
theorem dX3_readStep_64 : decode cX3_readStep 64 = .ok (.if_icmp .ge 50, 3) := by decide +kernel
theorem dX3_readStep_67 : decode cX3_readStep 67 = .ok (.aload_n 0, 1) := by decide +kernel
theorem dX3_readStep_68 : decode cX3_readStep 68 = .ok (.iload 4, 2) := by decide +kernel
theorem dX3_readStep_70 : decode cX3_readStep 70 = .ok (.iload_n 3, 1) := by decide +kernel
theorem dX3_readStep_71 : decode cX3_readStep 71 = .ok (.if_icmp .ne 14, 3) := by decide +kernel
theorem dX3_readStep_74 : decode cX3_readStep 74 = .ok (.aload_n 2, 1) := by decide +kernel
theorem dX3_readStep_75 : decode cX3_readStep 75 = .ok (.getfield 68, 3) := by decide +kernel
theorem dX3_readStep_78 : decode cX3_readStep 78 = .ok (.ifCond .eq 7, 3) := by decide +kernel
theorem dX3_readStep_81 : decode cX3_readStep 81 = .ok (.iconst 1, 1) := by decide +kernel
theorem dX3_readStep_82 : decode cX3_readStep 82 = .ok (.goto 4, 3) := by decide +kernel
theorem dX3_readStep_85 : decode cX3_readStep 85 = .ok (.iconst 0, 1) := by decide +kernel
theorem dX3_readStep_86 : decode cX3_readStep 86 = .ok (.invokevirtual 72, 3) := by decide +kernel
theorem dX3_readStep_89 : decode cX3_readStep 89 = .ok (.istore 5, 2) := by decide +kernel
theorem dX3_readStep_91 : decode cX3_readStep 91 = .ok (.iload 5, 2) := by decide +kernel
theorem dX3_readStep_93 : decode cX3_readStep 93 = .ok (.iconst (-1), 1) := by decide +kernel
theorem dX3_readStep_94 : decode cX3_readStep 94 = .ok (.if_icmp .ne 5, 3) := by decide +kernel
theorem dX3_readStep_97 : decode cX3_readStep 97 = .ok (.iconst 0, 1) := by decide +kernel
theorem dX3_readStep_98 : decode cX3_readStep 98 = .ok (.ireturn, 1) := by decide +kernel
theorem dX3_readStep_99 : decode cX3_readStep 99 = .ok (.aload_n 1, 1) := by decide +kernel
theorem dX3_readStep_100 : decode cX3_readStep 100 = .ok (.getfield 61, 3) := by decide +kernel
theorem dX3_readStep_103 : decode cX3_readStep 103 = .ok (.iload 4, 2) := by decide +kernel
theorem dX3_readStep_105 : decode cX3_readStep 105 = .ok (.iload 5, 2) := by decide +kernel
theorem dX3_readStep_107 : decode cX3_readStep 107 = .ok (.iastore, 1) := by decide +kernel
theorem dX3_readStep_108 : decode cX3_readStep 108 = .ok (.iinc 4 1, 3) := by decide +kernel
theorem dX3_readStep_111 : decode cX3_readStep 111 = .ok (.goto (-56), 3) := by decide +kernel
theorem dX3_readStep_114 : decode cX3_readStep 114 = .ok (.iconst 1, 1) := by decide +kernel
theorem dX3_readStep_115 : decode cX3_readStep 115 = .ok (.ireturn, 1) := by decide +kernel
theorem dX3_readArgument_0 : decode cX3_readArgument 0 = .ok (.aload_n 0, 1) := by decide +kernel
theorem dX3_readArgument_1 : decode cX3_readArgument 1 = .ok (.bipush 32, 2) := by decide +kernel
theorem dX3_readArgument_3 : decode cX3_readArgument 3 = .ok (.invokevirtual 40, 3) := by decide +kernel
theorem dX3_readArgument_6 : decode cX3_readArgument 6 = .ok (.ifCond .ne 5, 3) := by decide +kernel
theorem dX3_readArgument_9 : decode cX3_readArgument 9 = .ok (.iconst (-1), 1) := by decide +kernel
theorem dX3_readArgument_10 : decode cX3_readArgument 10 = .ok (.ireturn, 1) := by decide +kernel
theorem dX3_readArgument_11 : decode cX3_readArgument 11 = .ok (.aload_n 0, 1) := by decide +kernel
theorem dX3_readArgument_12 : decode cX3_readArgument 12 = .ok (.invokevirtual 76, 3) := by decide +kernel
theorem dX3_readArgument_15 : decode cX3_readArgument 15 = .ok (.istore_n 2, 1) := by decide +kernel
theorem dX3_readArgument_16 : decode cX3_readArgument 16 = .ok (.iload_n 2, 1) := by decide +kernel
theorem dX3_readArgument_17 : decode cX3_readArgument 17 = .ok (.iconst (-1), 1) := by decide +kernel
theorem dX3_readArgument_18 : decode cX3_readArgument 18 = .ok (.if_icmp .eq 7, 3) := by decide +kernel
theorem dX3_readArgument_21 : decode cX3_readArgument 21 = .ok (.iload_n 1, 1) := by decide +kernel
theorem dX3_readArgument_22 : decode cX3_readArgument 22 = .ok (.ifCond .ne 5, 3) := by decide +kernel
theorem dX3_readArgument_25 : decode cX3_readArgument 25 = .ok (.iload_n 2, 1) := by decide +kernel
theorem dX3_readArgument_26 : decode cX3_readArgument 26 = .ok (.ireturn, 1) := by decide +kernel
theorem dX3_readArgument_27 : decode cX3_readArgument 27 = .ok (.aload_n 0, 1) := by decide +kernel
theorem dX3_readArgument_28 : decode cX3_readArgument 28 = .ok (.invokevirtual 76, 3) := by decide +kernel
theorem dX3_readArgument_31 : decode cX3_readArgument 31 = .ok (.istore_n 3, 1) := by decide +kernel
theorem dX3_readArgument_32 : decode cX3_readArgument 32 = .ok (.iload_n 3, 1) := by decide +kernel
theorem dX3_readArgument_33 : decode cX3_readArgument 33 = .ok (.iconst (-1), 1) := by decide +kernel
theorem dX3_readArgument_34 : decode cX3_readArgument 34 = .ok (.if_icmp .ne 7, 3) := by decide +kernel
theorem dX3_readArgument_37 : decode cX3_readArgument 37 = .ok (.iload_n 2, 1) := by decide +kernel
theorem dX3_readArgument_38 : decode cX3_readArgument 38 = .ok (.goto 9, 3) := by decide +kernel
theorem dX3_readArgument_41 : decode cX3_readArgument 41 = .ok (.iload_n 2, 1) := by decide +kernel
theorem dX3_readArgument_42 : decode cX3_readArgument 42 = .ok (.bipush 10, 2) := by decide +kernel
theorem dX3_readArgument_44 : decode cX3_readArgument 44 = .ok (.imul, 1) := by decide +kernel
theorem dX3_readArgument_45 : decode cX3_readArgument 45 = .ok (.iload_n 3, 1) := by decide +kernel
theorem dX3_readArgument_46 : decode cX3_readArgument 46 = .ok (.iadd, 1) := by decide +kernel
theorem dX3_readArgument_47 : decode cX3_readArgument 47 = .ok (.ireturn, 1) := by decide +kernel
theorem dX3_readWord_0 : decode cX3_readWord 0 = .ok (.iconst 0, 1) := by decide +kernel
theorem dX3_readWord_1 : decode cX3_readWord 1 = .ok (.istore_n 1, 1) := by decide +kernel
theorem dX3_readWord_2 : decode cX3_readWord 2 = .ok (.iconst 0, 1) := by decide +kernel
theorem dX3_readWord_3 : decode cX3_readWord 3 = .ok (.istore_n 2, 1) := by decide +kernel
theorem dX3_readWord_4 : decode cX3_readWord 4 = .ok (.iload_n 2, 1) := by decide +kernel
theorem dX3_readWord_5 : decode cX3_readWord 5 = .ok (.getstatic 79, 3) := by decide +kernel
theorem dX3_readWord_8 : decode cX3_readWord 8 = .ok (.arraylength, 1) := by decide +kernel
theorem dX3_readWord_9 : decode cX3_readWord 9 = .ok (.if_icmp .ge 57, 3) := by decide +kernel
theorem dX3_readWord_12 : decode cX3_readWord 12 = .ok (.getstatic 79, 3) := by decide +kernel
theorem dX3_readWord_15 : decode cX3_readWord 15 = .ok (.iload_n 2, 1) := by decide +kernel
theorem dX3_readWord_16 : decode cX3_readWord 16 = .ok (.aaload, 1) := by decide +kernel
theorem dX3_readWord_17 : decode cX3_readWord 17 = .ok (.astore_n 3, 1) := by decide +kernel
theorem dX3_readWord_18 : decode cX3_readWord 18 = .ok (.aload_n 0, 1) := by decide +kernel
theorem dX3_readWord_19 : decode cX3_readWord 19 = .ok (.aload_n 3, 1) := by decide +kernel
theorem dX3_readWord_20 : decode cX3_readWord 20 = .ok (.getfield 83, 3) := by decide +kernel
theorem dX3_readWord_23 : decode cX3_readWord 23 = .ok (.invokevirtual 87, 3) := by decide +kernel
theorem dX3_readWord_26 : decode cX3_readWord 26 = .ok (.istore 4, 2) := by decide +kernel
theorem dX3_readWord_28 : decode cX3_readWord 28 = .ok (.iload 4, 2) := by decide +kernel
theorem dX3_readWord_30 : decode cX3_readWord 30 = .ok (.aload_n 3, 1) := by decide +kernel
theorem dX3_readWord_31 : decode cX3_readWord 31 = .ok (.getfield 83, 3) := by decide +kernel
theorem dX3_readWord_34 : decode cX3_readWord 34 = .ok (.invokevirtual 91, 3) := by decide +kernel
theorem dX3_readWord_37 : decode cX3_readWord 37 = .ok (.if_icmp .ne 16, 3) := by decide +kernel
theorem dX3_readWord_40 : decode cX3_readWord 40 = .ok (.aload_n 0, 1) := by decide +kernel
theorem dX3_readWord_41 : decode cX3_readWord 41 = .ok (.dup, 1) := by decide +kernel
theorem dX3_readWord_42 : decode cX3_readWord 42 = .ok (.getfield 25, 3) := by decide +kernel
theorem dX3_readWord_45 : decode cX3_readWord 45 = .ok (.iload 4, 2) := by decide +kernel
theorem dX3_readWord_47 : decode cX3_readWord 47 = .ok (.iadd, 1) := by decide +kernel
theorem dX3_readWord_48 : decode cX3_readWord 48 = .ok (.putfield 25, 3) := by decide +kernel
theorem dX3_readWord_51 : decode cX3_readWord 51 = .ok (.aload_n 3, 1) := by decide +kernel
theorem dX3_readWord_52 : decode cX3_readWord 52 = .ok (.areturn, 1) := by decide +kernel
theorem dX3_readWord_53 : decode cX3_readWord 53 = .ok (.iload_n 1, 1) := by decide +kernel
theorem dX3_readWord_54 : decode cX3_readWord 54 = .ok (.iload 4, 2) := by decide +kernel
theorem dX3_readWord_56 : decode cX3_readWord 56 = .ok (.invokestatic 94, 3) := by decide +kernel
theorem dX3_readWord_59 : decode cX3_readWord 59 = .ok (.istore_n 1, 1) := by decide +kernel
theorem dX3_readWord_60 : decode cX3_readWord 60 = .ok (.iinc 2 1, 3) := by decide +kernel
theorem dX3_readWord_63 : decode cX3_readWord 63 = .ok (.goto (-59), 3) := by decide +kernel
theorem dX3_readWord_66 : decode cX3_readWord 66 = .ok (.aload_n 0, 1) := by decide +kernel
theorem dX3_readWord_67 : decode cX3_readWord 67 = .ok (.dup, 1) := by decide +kernel
theorem dX3_readWord_68 : decode cX3_readWord 68 = .ok (.getfield 25, 3) := by decide +kernel
theorem dX3_readWord_71 : decode cX3_readWord 71 = .ok (.iload_n 1, 1) := by decide +kernel
theorem dX3_readWord_72 : decode cX3_readWord 72 = .ok (.iadd, 1) := by decide +kernel
theorem dX3_readWord_73 : decode cX3_readWord 73 = .ok (.putfield 25, 3) := by decide +kernel
theorem dX3_readWord_76 : decode cX3_readWord 76 = .ok (.aconst_null, 1) := by decide +kernel
theorem dX3_readWord_77 : decode cX3_readWord 77 = .ok (.areturn, 1) := by decide +kernel
theorem dX3_matchedSigns_0 : decode cX3_matchedSigns 0 = .ok (.iconst 0, 1) := by decide +kernel
theorem dX3_matchedSigns_1 : decode cX3_matchedSigns 1 = .ok (.istore_n 2, 1) := by decide +kernel
theorem dX3_matchedSigns_2 : decode cX3_matchedSigns 2 = .ok (.iload_n 2, 1) := by decide +kernel
theorem dX3_matchedSigns_3 : decode cX3_matchedSigns 3 = .ok (.aload_n 1, 1) := by decide +kernel
theorem dX3_matchedSigns_4 : decode cX3_matchedSigns 4 = .ok (.invokevirtual 91, 3) := by decide +kernel
theorem dX3_matchedSigns_7 : decode cX3_matchedSigns 7 = .ok (.if_icmp .ge 27, 3) := by decide +kernel
theorem dX3_matchedSigns_10 : decode cX3_matchedSigns 10 = .ok (.aload_n 0, 1) := by decide +kernel
theorem dX3_matchedSigns_11 : decode cX3_matchedSigns 11 = .ok (.aload_n 0, 1) := by decide +kernel
theorem dX3_matchedSigns_12 : decode cX3_matchedSigns 12 = .ok (.getfield 25, 3) := by decide +kernel
theorem dX3_matchedSigns_15 : decode cX3_matchedSigns 15 = .ok (.iload_n 2, 1) := by decide +kernel
theorem dX3_matchedSigns_16 : decode cX3_matchedSigns 16 = .ok (.iadd, 1) := by decide +kernel
theorem dX3_matchedSigns_17 : decode cX3_matchedSigns 17 = .ok (.aload_n 1, 1) := by decide +kernel
theorem dX3_matchedSigns_18 : decode cX3_matchedSigns 18 = .ok (.iload_n 2, 1) := by decide +kernel
theorem dX3_matchedSigns_19 : decode cX3_matchedSigns 19 = .ok (.invokevirtual 100, 3) := by decide +kernel
theorem dX3_matchedSigns_22 : decode cX3_matchedSigns 22 = .ok (.invokevirtual 57, 3) := by decide +kernel
theorem dX3_matchedSigns_25 : decode cX3_matchedSigns 25 = .ok (.ifCond .eq 9, 3) := by decide +kernel
theorem dX3_matchedSigns_28 : decode cX3_matchedSigns 28 = .ok (.iinc 2 1, 3) := by decide +kernel
theorem dX3_matchedSigns_31 : decode cX3_matchedSigns 31 = .ok (.goto (-29), 3) := by decide +kernel
theorem dX3_matchedSigns_34 : decode cX3_matchedSigns 34 = .ok (.iload_n 2, 1) := by decide +kernel
theorem dX3_matchedSigns_35 : decode cX3_matchedSigns 35 = .ok (.ireturn, 1) := by decide +kernel
set_option maxRecDepth 20000 in
theorem ggX3_readSign_X3_hasAt : GoodIn wsX3_readSign wsX3_hasAt := goodIn_r _ [6, 7, 8, 9, 10, 11, 12, 13, 14, 15, 16, 17, 18, 19, 20, 21, 22, 23, 24, 25, 26, 27, 28, 29, 30, 31, 32, 33, 34, 35, 36, 37, 38, 39, 40, 41, 42, 43, 44, 45, 46, 47, 48, 49, 50, 51, 52, 53, 54, 55, 56, 57, 58, 59, 60] (by decide +kernel) (by decide +kernel)
set_option maxRecDepth 20000 in
theorem gX3_readSign_X3_hasAt : GoodIn wsX3_readSign (wsV RX3 57 RX3 yX3_hasAt wsX3_hasAt) := goodIn_app (goodIn_of _ (by decide +kernel)) ggX3_readSign_X3_hasAt
theorem dX3_readSign_0 : decode cX3_readSign 0 = .ok (.aload_n 0, 1) := by decide +kernel
theorem dX3_readSign_1 : decode cX3_readSign 1 = .ok (.aload_n 0, 1) := by decide +kernel
theorem dX3_readSign_2 : decode cX3_readSign 2 = .ok (.getfield 25, 3) := by decide +kernel
theorem dX3_readSign_5 : decode cX3_readSign 5 = .ok (.iload_n 1, 1) := by decide +kernel
theorem dX3_readSign_6 : decode cX3_readSign 6 = .ok (.invokevirtual 57, 3) := by decide +kernel
theorem dX3_readSign_9 : decode cX3_readSign 9 = .ok (.ifCond .ne 5, 3) := by decide +kernel
theorem dX3_readSign_12 : decode cX3_readSign 12 = .ok (.iconst 0, 1) := by decide +kernel
theorem dX3_readSign_13 : decode cX3_readSign 13 = .ok (.ireturn, 1) := by decide +kernel
theorem dX3_readSign_14 : decode cX3_readSign 14 = .ok (.aload_n 0, 1) := by decide +kernel
theorem dX3_readSign_15 : decode cX3_readSign 15 = .ok (.dup, 1) := by decide +kernel
theorem dX3_readSign_16 : decode cX3_readSign 16 = .ok (.getfield 25, 3) := by decide +kernel
theorem dX3_readSign_19 : decode cX3_readSign 19 = .ok (.iconst 1, 1) := by decide +kernel
theorem dX3_readSign_20 : decode cX3_readSign 20 = .ok (.iadd, 1) := by decide +kernel
theorem dX3_readSign_21 : decode cX3_readSign 21 = .ok (.putfield 25, 3) := by decide +kernel
theorem dX3_readSign_24 : decode cX3_readSign 24 = .ok (.iconst 1, 1) := by decide +kernel
theorem dX3_readSign_25 : decode cX3_readSign 25 = .ok (.ireturn, 1) := by decide +kernel
theorem dX3_readDigit_0 : decode cX3_readDigit 0 = .ok (.aload_n 0, 1) := by decide +kernel
theorem dX3_readDigit_1 : decode cX3_readDigit 1 = .ok (.getfield 25, 3) := by decide +kernel
theorem dX3_readDigit_4 : decode cX3_readDigit 4 = .ok (.ifCond .lt 17, 3) := by decide +kernel
theorem dX3_readDigit_7 : decode cX3_readDigit 7 = .ok (.aload_n 0, 1) := by decide +kernel
theorem dX3_readDigit_8 : decode cX3_readDigit 8 = .ok (.getfield 25, 3) := by decide +kernel
theorem dX3_readDigit_11 : decode cX3_readDigit 11 = .ok (.aload_n 0, 1) := by decide +kernel
theorem dX3_readDigit_12 : decode cX3_readDigit 12 = .ok (.getfield 12, 3) := by decide +kernel
theorem dX3_readDigit_15 : decode cX3_readDigit 15 = .ok (.invokevirtual 36, 3) := by decide +kernel
theorem dX3_readDigit_18 : decode cX3_readDigit 18 = .ok (.if_icmp .lt 5, 3) := by decide +kernel
theorem dX3_readDigit_21 : decode cX3_readDigit 21 = .ok (.iconst (-1), 1) := by decide +kernel
theorem dX3_readDigit_22 : decode cX3_readDigit 22 = .ok (.ireturn, 1) := by decide +kernel
theorem dX3_readDigit_23 : decode cX3_readDigit 23 = .ok (.aload_n 0, 1) := by decide +kernel
theorem dX3_readDigit_24 : decode cX3_readDigit 24 = .ok (.getfield 12, 3) := by decide +kernel
theorem dX3_readDigit_27 : decode cX3_readDigit 27 = .ok (.aload_n 0, 1) := by decide +kernel
theorem dX3_readDigit_28 : decode cX3_readDigit 28 = .ok (.getfield 25, 3) := by decide +kernel
theorem dX3_readDigit_31 : decode cX3_readDigit 31 = .ok (.invokevirtual 104, 3) := by decide +kernel
theorem dX3_readDigit_34 : decode cX3_readDigit 34 = .ok (.istore_n 1, 1) := by decide +kernel
theorem dX3_readDigit_35 : decode cX3_readDigit 35 = .ok (.iload_n 1, 1) := by decide +kernel
theorem dX3_readDigit_36 : decode cX3_readDigit 36 = .ok (.bipush 48, 2) := by decide +kernel
theorem dX3_readDigit_38 : decode cX3_readDigit 38 = .ok (.if_icmp .lt 9, 3) := by decide +kernel
theorem dX3_readDigit_41 : decode cX3_readDigit 41 = .ok (.iload_n 1, 1) := by decide +kernel
theorem dX3_readDigit_42 : decode cX3_readDigit 42 = .ok (.bipush 57, 2) := by decide +kernel
theorem dX3_readDigit_44 : decode cX3_readDigit 44 = .ok (.if_icmp .le 5, 3) := by decide +kernel
theorem dX3_readDigit_47 : decode cX3_readDigit 47 = .ok (.iconst (-1), 1) := by decide +kernel
theorem dX3_readDigit_48 : decode cX3_readDigit 48 = .ok (.ireturn, 1) := by decide +kernel
theorem dX3_readDigit_49 : decode cX3_readDigit 49 = .ok (.aload_n 0, 1) := by decide +kernel
theorem dX3_readDigit_50 : decode cX3_readDigit 50 = .ok (.dup, 1) := by decide +kernel
theorem dX3_readDigit_51 : decode cX3_readDigit 51 = .ok (.getfield 25, 3) := by decide +kernel
theorem dX3_readDigit_54 : decode cX3_readDigit 54 = .ok (.iconst 1, 1) := by decide +kernel
theorem dX3_readDigit_55 : decode cX3_readDigit 55 = .ok (.iadd, 1) := by decide +kernel
theorem dX3_readDigit_56 : decode cX3_readDigit 56 = .ok (.putfield 25, 3) := by decide +kernel
theorem dX3_readDigit_59 : decode cX3_readDigit 59 = .ok (.iload_n 1, 1) := by decide +kernel
theorem dX3_readDigit_60 : decode cX3_readDigit 60 = .ok (.bipush 48, 2) := by decide +kernel
theorem dX3_readDigit_62 : decode cX3_readDigit 62 = .ok (.isub, 1) := by decide +kernel
theorem dX3_readDigit_63 : decode cX3_readDigit 63 = .ok (.ireturn, 1) := by decide +kernel
set_option maxRecDepth 20000 in
theorem ggX3_hasAt_J4_length_8abf5 : GoodIn wsX3_hasAt wsJ4_length_8abf5 := goodIn_r _ [6, 7, 8, 9, 10, 11, 12, 13, 51, 52, 53, 54] (by decide +kernel) (by decide +kernel)
set_option maxRecDepth 20000 in
theorem gX3_hasAt_J4_length_8abf5 : GoodIn wsX3_hasAt (wsV RX3 36 RJ4 yJ4_length_8abf5 wsJ4_length_8abf5) := goodIn_app (goodIn_of _ (by decide +kernel)) ggX3_hasAt_J4_length_8abf5
set_option maxRecDepth 20000 in
theorem ggX3_hasAt_J4_charAt_5068e : GoodIn wsX3_hasAt wsJ4_charAt_5068e := goodIn_r _ [17, 18, 19, 9, 20, 11, 21, 22, 23, 13, 24, 25, 26, 27, 28, 29, 30, 31, 32, 33, 34, 35, 36, 37, 38, 39, 40, 41, 42, 43, 44, 45, 46, 51, 52, 53, 54] (by decide +kernel) (by decide +kernel)
set_option maxRecDepth 20000 in
theorem gX3_hasAt_J4_charAt_5068e : GoodIn wsX3_hasAt (wsV RX3 104 RJ4 yJ4_charAt_5068e wsJ4_charAt_5068e) := goodIn_app (goodIn_of _ (by decide +kernel)) ggX3_hasAt_J4_charAt_5068e
theorem dX3_hasAt_0 : decode cX3_hasAt 0 = .ok (.iload_n 1, 1) := by decide +kernel
theorem dX3_hasAt_1 : decode cX3_hasAt 1 = .ok (.ifCond .lt 30, 3) := by decide +kernel
theorem dX3_hasAt_4 : decode cX3_hasAt 4 = .ok (.iload_n 1, 1) := by decide +kernel
theorem dX3_hasAt_5 : decode cX3_hasAt 5 = .ok (.aload_n 0, 1) := by decide +kernel
theorem dX3_hasAt_6 : decode cX3_hasAt 6 = .ok (.getfield 12, 3) := by decide +kernel
theorem dX3_hasAt_9 : decode cX3_hasAt 9 = .ok (.invokevirtual 36, 3) := by decide +kernel
theorem dX3_hasAt_12 : decode cX3_hasAt 12 = .ok (.if_icmp .ge 19, 3) := by decide +kernel
theorem dX3_hasAt_15 : decode cX3_hasAt 15 = .ok (.aload_n 0, 1) := by decide +kernel
theorem dX3_hasAt_16 : decode cX3_hasAt 16 = .ok (.getfield 12, 3) := by decide +kernel
theorem dX3_hasAt_19 : decode cX3_hasAt 19 = .ok (.iload_n 1, 1) := by decide +kernel
theorem dX3_hasAt_20 : decode cX3_hasAt 20 = .ok (.invokevirtual 104, 3) := by decide +kernel
theorem dX3_hasAt_23 : decode cX3_hasAt 23 = .ok (.iload_n 2, 1) := by decide +kernel
theorem dX3_hasAt_24 : decode cX3_hasAt 24 = .ok (.if_icmp .ne 7, 3) := by decide +kernel
theorem dX3_hasAt_27 : decode cX3_hasAt 27 = .ok (.iconst 1, 1) := by decide +kernel
theorem dX3_hasAt_28 : decode cX3_hasAt 28 = .ok (.goto 4, 3) := by decide +kernel
theorem dX3_hasAt_31 : decode cX3_hasAt 31 = .ok (.iconst 0, 1) := by decide +kernel
theorem dX3_hasAt_32 : decode cX3_hasAt 32 = .ok (.ireturn, 1) := by decide +kernel
set_option maxRecDepth 20000 in
theorem ggX3_init_J4_init_da8c8 : GoodIn wsX3_init wsJ4_init_da8c8 := goodIn_r _ [14, 15, 16, 17, 18, 19, 2, 3, 20, 21, 22, 23, 24, 25, 26, 27, 28, 29, 30, 31, 39, 40, 41, 42] (by decide +kernel) (by decide +kernel)
set_option maxRecDepth 20000 in
theorem gX3_init_J4_init_da8c8 : GoodIn wsX3_init (wsJ4_init_da8c8) := ggX3_init_J4_init_da8c8
set_option maxRecDepth 20000 in
theorem ggX3_init_X5_init : GoodIn wsX3_init wsX5_init := goodIn_r _ [33, 34, 2, 3, 35, 36, 37, 38, 47, 48] (by decide +kernel) (by decide +kernel)
set_option maxRecDepth 20000 in
theorem gX3_init_X5_init_n24 : GoodIn wsX3_init (wsX5_init) := ggX3_init_X5_init
set_option maxRecDepth 20000 in
theorem ggX3_read_X3_readStep : GoodIn wsX3_read wsX3_readStep := goodIn_ca (goodIn_r _ [9, 10, 1, 11, 12, 13, 8, 14, 15, 16, 17, 18, 19, 20, 21, 22, 23, 24, 25, 26, 27, 28, 29, 30, 31, 32, 33, 34, 35, 36, 37, 38, 39, 40, 41, 42, 43, 44, 45, 46, 47, 48, 49, 50, 51, 52, 53, 54, 55, 56, 57, 58, 59, 60, 61, 62, 63, 64, 65, 66, 67, 68, 69, 70, 71, 72, 73, 74, 75, 4, 76, 77, 78, 79, 80, 81, 82, 83, 84, 85, 86, 87, 88, 89, 90, 91, 92, 93, 94, 95, 96, 97, 98, 99, 100, 101, 102, 103, 104, 105, 106, 107, 108, 109, 110, 111, 112, 113, 114, 119, 120, 115, 116, 117, 118, 121, 122, 123, 124, 125, 126, 127, 128] (by decide +kernel) (by decide +kernel)) (goodIn_sub (fun _ h => List.mem_cons_of_mem _ (List.mem_append_right _ h)) (by decide +kernel))
set_option maxRecDepth 20000 in
theorem gX3_read_X3_readStep : GoodIn wsX3_read (wsV RX3 32 RX3 yX3_readStep wsX3_readStep) := goodIn_app (goodIn_of _ (by decide +kernel)) ggX3_read_X3_readStep
set_option maxRecDepth 20000 in
theorem ggX3_read_J4_length_8abf5 : GoodIn wsX3_read wsJ4_length_8abf5 := goodIn_r _ [80, 81, 82, 83, 84, 85, 86, 87, 125, 126, 127, 128] (by decide +kernel) (by decide +kernel)
set_option maxRecDepth 20000 in
theorem gX3_read_J4_length_8abf5 : GoodIn wsX3_read (wsV RX3 36 RJ4 yJ4_length_8abf5 wsJ4_length_8abf5) := goodIn_app (goodIn_of _ (by decide +kernel)) ggX3_read_J4_length_8abf5
set_option maxRecDepth 20000 in
theorem ggX3_read_X3_readSign : GoodIn wsX3_read wsX3_readSign := goodIn_r _ [110, 1, 72, 73, 74, 8, 75, 4, 76, 77, 78, 79, 80, 81, 82, 83, 84, 85, 86, 87, 88, 89, 90, 91, 92, 93, 94, 95, 96, 97, 98, 99, 17, 100, 101, 48, 26, 49, 50, 51, 52, 53, 54, 102, 67, 57, 68, 69, 70, 71, 62, 63, 64, 115, 116, 117, 118, 125, 126, 127, 128] (by decide +kernel) (by decide +kernel)
set_option maxRecDepth 20000 in
theorem gX3_read_X3_readSign : GoodIn wsX3_read (wsV RX3 40 RX3 yX3_readSign wsX3_readSign) := goodIn_app (goodIn_of _ (by decide +kernel)) ggX3_read_X3_readSign
set_option maxRecDepth 20000 in
theorem ggX3_readStep_X3_readWord : GoodIn wsX3_readStep wsX3_readWord := goodIn_r _ [7, 2, 8, 9, 10, 11, 12, 13, 14, 6, 15, 16, 17, 18, 19, 20, 21, 22, 23, 24, 25, 26, 27, 28, 29, 30, 31, 32, 33, 34, 35, 36, 37, 38, 39, 40, 41, 42, 43, 44, 45, 46, 47, 48, 49, 50, 51, 52, 53, 54, 55, 56, 57, 58, 59, 60, 61, 62, 63, 64, 65, 66, 67, 68, 69, 70, 71, 72, 73, 74, 75, 76, 77, 78, 79, 80, 81, 82, 83, 84, 85, 86, 87, 88, 89, 90, 91, 92, 93, 94, 95, 96, 111, 112, 113, 114, 115, 116, 117, 118, 119, 120, 121, 122] (by decide +kernel) (by decide +kernel)
set_option maxRecDepth 20000 in
theorem gX3_readStep_X3_readWord : GoodIn wsX3_readStep (wsV RX3 44 RX3 yX3_readWord wsX3_readWord) := goodIn_app (goodIn_of _ (by decide +kernel)) ggX3_readStep_X3_readWord
set_option maxRecDepth 20000 in
theorem ggX3_readStep_X3_hasAt : GoodIn wsX3_readStep wsX3_hasAt := goodIn_r _ [68, 69, 70, 71, 72, 73, 74, 75, 76, 77, 78, 79, 80, 81, 82, 83, 84, 85, 86, 87, 88, 89, 90, 91, 92, 93, 10, 94, 95, 41, 19, 42, 43, 44, 45, 46, 47, 96, 60, 50, 61, 62, 63, 64, 55, 56, 57, 111, 112, 113, 114, 119, 120, 121, 122] (by decide +kernel) (by decide +kernel)
set_option maxRecDepth 20000 in
theorem gX3_readStep_X3_hasAt : GoodIn wsX3_readStep (wsV RX3 57 RX3 yX3_hasAt wsX3_hasAt) := goodIn_app (goodIn_of _ (by decide +kernel)) ggX3_readStep_X3_hasAt
set_option maxRecDepth 20000 in
theorem ggX3_readStep_X3_readArgument : GoodIn wsX3_readStep wsX3_readArgument := goodIn_r _ [100, 101, 102, 103, 6, 104, 2, 65, 66, 67, 68, 69, 70, 71, 72, 73, 74, 75, 76, 77, 78, 79, 80, 81, 82, 83, 84, 85, 86, 87, 88, 89, 90, 91, 92, 93, 10, 94, 95, 41, 19, 42, 43, 44, 45, 46, 47, 96, 60, 50, 61, 62, 63, 64, 55, 56, 57, 105, 106, 107, 108, 111, 112, 113, 114, 119, 120, 121, 122] (by decide +kernel) (by decide +kernel)
set_option maxRecDepth 20000 in
theorem gX3_readStep_X3_readArgument : GoodIn wsX3_readStep (wsV RX3 72 RX3 yX3_readArgument wsX3_readArgument) := goodIn_app (goodIn_of _ (by decide +kernel)) ggX3_readStep_X3_readArgument
set_option maxRecDepth 20000 in
theorem ggX3_readArgument_X3_readSign : GoodIn wsX3_readArgument wsX3_readSign := goodIn_r _ [5, 6, 7, 8, 9, 4, 10, 11, 12, 13, 14, 15, 16, 17, 18, 19, 20, 21, 22, 23, 24, 25, 26, 27, 28, 29, 30, 31, 32, 33, 34, 35, 36, 37, 38, 39, 40, 41, 42, 43, 44, 45, 46, 47, 48, 49, 50, 51, 52, 53, 54, 55, 56, 61, 62, 63, 64, 65, 66, 67, 68] (by decide +kernel) (by decide +kernel)
set_option maxRecDepth 20000 in
theorem gX3_readArgument_X3_readSign : GoodIn wsX3_readArgument (wsV RX3 40 RX3 yX3_readSign wsX3_readSign) := goodIn_app (goodIn_of _ (by decide +kernel)) ggX3_readArgument_X3_readSign
set_option maxRecDepth 20000 in
theorem ggX3_readArgument_X3_readDigit : GoodIn wsX3_readArgument wsX3_readDigit := goodIn_r _ [60, 6, 11, 12, 13, 14, 15, 16, 17, 18, 19, 20, 21, 22, 23, 24, 25, 26, 27, 28, 29, 30, 31, 32, 33, 34, 35, 36, 37, 38, 39, 40, 41, 42, 43, 44, 45, 46, 47, 48, 49, 50, 51, 52, 53, 54, 55, 56, 61, 62, 63, 64, 65, 66, 67, 68] (by decide +kernel) (by decide +kernel)
set_option maxRecDepth 20000 in
theorem gX3_readArgument_X3_readDigit : GoodIn wsX3_readArgument (wsV RX3 76 RX3 yX3_readDigit wsX3_readDigit) := goodIn_app (goodIn_of _ (by decide +kernel)) ggX3_readArgument_X3_readDigit
set_option maxRecDepth 20000 in
theorem ggX3_readWord_X3_matchedSigns : GoodIn wsX3_readWord wsX3_matchedSigns := goodIn_r _ [10, 1, 11, 12, 13, 14, 15, 16, 17, 18, 19, 20, 21, 22, 23, 24, 25, 26, 27, 28, 29, 30, 31, 32, 33, 34, 35, 36, 37, 38, 39, 40, 41, 42, 43, 44, 45, 46, 47, 48, 49, 50, 51, 52, 53, 54, 55, 56, 57, 58, 59, 60, 61, 62, 9, 63, 64, 65, 66, 67, 68, 69, 70, 71, 72, 73, 74, 75, 76, 77, 78, 79, 80, 81, 82, 83, 84, 85, 86, 87, 88, 4, 89, 90, 91, 92, 93, 94, 95, 96, 97, 98, 99, 100, 101, 102, 103] (by decide +kernel) (by decide +kernel)
set_option maxRecDepth 20000 in
theorem gX3_readWord_X3_matchedSigns : GoodIn wsX3_readWord (wsV RX3 87 RX3 yX3_matchedSigns wsX3_matchedSigns) := goodIn_app (goodIn_of _ (by decide +kernel)) ggX3_readWord_X3_matchedSigns
set_option maxRecDepth 20000 in
theorem ggX3_readWord_J0_length_8abf5 : GoodIn wsX3_readWord wsJ0_length_8abf5 := goodIn_r _ [15, 16, 17, 18, 19, 14, 20, 21, 22, 96, 97, 98, 99] (by decide +kernel) (by decide +kernel)
set_option maxRecDepth 20000 in
theorem gX3_readWord_J0_length_8abf5 : GoodIn wsX3_readWord (wsV RX3 91 RJ0 yJ0_length_8abf5 wsJ0_length_8abf5) := goodIn_app (goodIn_of _ (by decide +kernel)) ggX3_readWord_J0_length_8abf5
set_option maxRecDepth 20000 in
theorem ggX3_matchedSigns_J0_length_8abf5 : GoodIn wsX3_matchedSigns wsJ0_length_8abf5 := goodIn_r _ [6, 7, 8, 9, 10, 5, 11, 12, 13, 89, 90, 91, 92] (by decide +kernel) (by decide +kernel)
set_option maxRecDepth 20000 in
theorem gX3_matchedSigns_J0_length_8abf5 : GoodIn wsX3_matchedSigns (wsV RX3 91 RJ0 yJ0_length_8abf5 wsJ0_length_8abf5) := goodIn_app (goodIn_of _ (by decide +kernel)) ggX3_matchedSigns_J0_length_8abf5
set_option maxRecDepth 20000 in
theorem ggX3_matchedSigns_J0_charAt_5068e : GoodIn wsX3_matchedSigns wsJ0_charAt_5068e := goodIn_r _ [17, 7, 18, 19, 20, 5, 21, 12, 13, 22, 23, 24, 25, 26, 27, 28, 29, 30, 31, 32, 33, 34, 35, 36, 37, 38, 39, 40, 41, 42, 43, 44, 45, 46, 47, 48, 49, 50, 89, 90, 91, 92] (by decide +kernel) (by decide +kernel)
set_option maxRecDepth 20000 in
theorem gX3_matchedSigns_J0_charAt_5068e : GoodIn wsX3_matchedSigns (wsV RX3 100 RJ0 yJ0_charAt_5068e wsJ0_charAt_5068e) := goodIn_app (goodIn_of _ (by decide +kernel)) ggX3_matchedSigns_J0_charAt_5068e
set_option maxRecDepth 20000 in
theorem ggX3_matchedSigns_X3_hasAt : GoodIn wsX3_matchedSigns wsX3_hasAt := goodIn_r _ [55, 56, 57, 58, 59, 60, 61, 62, 63, 64, 65, 66, 67, 68, 69, 70, 71, 72, 73, 74, 75, 76, 77, 78, 79, 80, 81, 82, 83, 27, 5, 28, 29, 30, 31, 32, 33, 84, 46, 36, 47, 48, 49, 50, 41, 42, 43, 85, 86, 87, 88, 93, 94, 95, 96] (by decide +kernel) (by decide +kernel)
set_option maxRecDepth 20000 in
theorem gX3_matchedSigns_X3_hasAt : GoodIn wsX3_matchedSigns (wsV RX3 57 RX3 yX3_hasAt wsX3_hasAt) := goodIn_app (goodIn_of _ (by decide +kernel)) ggX3_matchedSigns_X3_hasAt
set_option maxRecDepth 20000 in
theorem ggX3_readDigit_J4_length_8abf5 : GoodIn wsX3_readDigit wsJ4_length_8abf5 := goodIn_r _ [7, 8, 9, 10, 11, 12, 13, 14, 52, 53, 54, 55] (by decide +kernel) (by decide +kernel)
set_option maxRecDepth 20000 in
theorem gX3_readDigit_J4_length_8abf5 : GoodIn wsX3_readDigit (wsV RX3 36 RJ4 yJ4_length_8abf5 wsJ4_length_8abf5) := goodIn_app (goodIn_of _ (by decide +kernel)) ggX3_readDigit_J4_length_8abf5
set_option maxRecDepth 20000 in
theorem ggX3_readDigit_J4_charAt_5068e : GoodIn wsX3_readDigit wsJ4_charAt_5068e := goodIn_r _ [18, 19, 20, 10, 21, 12, 22, 23, 24, 14, 25, 26, 27, 28, 29, 30, 31, 32, 33, 34, 35, 36, 37, 38, 39, 40, 41, 42, 43, 44, 45, 46, 47, 52, 53, 54, 55] (by decide +kernel) (by decide +kernel)
set_option maxRecDepth 20000 in
theorem gX3_readDigit_J4_charAt_5068e : GoodIn wsX3_readDigit (wsV RX3 104 RJ4 yJ4_charAt_5068e wsJ4_charAt_5068e) := goodIn_app (goodIn_of _ (by decide +kernel)) ggX3_readDigit_J4_charAt_5068e
theorem dX5_init_0 : decode cX5_init 0 = .ok (.aload_n 0, 1) := by decide +kernel
theorem dX5_init_1 : decode cX5_init 1 = .ok (.invokespecial 3, 3) := by decide +kernel
theorem dX5_init_4 : decode cX5_init 4 = .ok (.aload_n 0, 1) := by decide +kernel
theorem dX5_init_5 : decode cX5_init 5 = .ok (.getstatic 9, 3) := by decide +kernel
theorem dX5_init_8 : decode cX5_init 8 = .ok (.putfield 15, 3) := by decide +kernel
theorem dX5_init_11 : decode cX5_init 11 = .ok (.aload_n 0, 1) := by decide +kernel
theorem dX5_init_12 : decode cX5_init 12 = .ok (.iconst 3, 1) := by decide +kernel
theorem dX5_init_13 : decode cX5_init 13 = .ok (.newarray .int, 2) := by decide +kernel
theorem dX5_init_15 : decode cX5_init 15 = .ok (.putfield 20, 3) := by decide +kernel
theorem dX5_init_18 : decode cX5_init 18 = .ok (.return_, 1) := by decide +kernel
theorem dX7_init_0 : decode cX7_init 0 = .ok (.aload_n 0, 1) := by decide +kernel
theorem dX7_init_1 : decode cX7_init 1 = .ok (.invokespecial 3, 3) := by decide +kernel
theorem dX7_init_4 : decode cX7_init 4 = .ok (.aload_n 0, 1) := by decide +kernel
theorem dX7_init_5 : decode cX7_init 5 = .ok (.new 9, 3) := by decide +kernel
theorem dX7_init_8 : decode cX7_init 8 = .ok (.dup, 1) := by decide +kernel
theorem dX7_init_9 : decode cX7_init 9 = .ok (.invokespecial 11, 3) := by decide +kernel
theorem dX7_init_12 : decode cX7_init 12 = .ok (.putfield 12, 3) := by decide +kernel
theorem dX7_init_15 : decode cX7_init 15 = .ok (.aload_n 0, 1) := by decide +kernel
theorem dX7_init_16 : decode cX7_init 16 = .ok (.new 9, 3) := by decide +kernel
theorem dX7_init_19 : decode cX7_init 19 = .ok (.dup, 1) := by decide +kernel
theorem dX7_init_20 : decode cX7_init 20 = .ok (.invokespecial 11, 3) := by decide +kernel
theorem dX7_init_23 : decode cX7_init 23 = .ok (.putfield 16, 3) := by decide +kernel
theorem dX7_init_26 : decode cX7_init 26 = .ok (.aload_n 0, 1) := by decide +kernel
theorem dX7_init_27 : decode cX7_init 27 = .ok (.new 9, 3) := by decide +kernel
theorem dX7_init_30 : decode cX7_init 30 = .ok (.dup, 1) := by decide +kernel
theorem dX7_init_31 : decode cX7_init 31 = .ok (.invokespecial 11, 3) := by decide +kernel
theorem dX7_init_34 : decode cX7_init 34 = .ok (.putfield 19, 3) := by decide +kernel
theorem dX7_init_37 : decode cX7_init 37 = .ok (.aload_n 0, 1) := by decide +kernel
theorem dX7_init_38 : decode cX7_init 38 = .ok (.new 22, 3) := by decide +kernel
theorem dX7_init_41 : decode cX7_init 41 = .ok (.dup, 1) := by decide +kernel
theorem dX7_init_42 : decode cX7_init 42 = .ok (.invokespecial 24, 3) := by decide +kernel
theorem dX7_init_45 : decode cX7_init 45 = .ok (.putfield 25, 3) := by decide +kernel
theorem dX7_init_48 : decode cX7_init 48 = .ok (.aload_n 0, 1) := by decide +kernel
theorem dX7_init_49 : decode cX7_init 49 = .ok (.new 29, 3) := by decide +kernel
theorem dX7_init_52 : decode cX7_init 52 = .ok (.dup, 1) := by decide +kernel
theorem dX7_init_53 : decode cX7_init 53 = .ok (.invokespecial 31, 3) := by decide +kernel
theorem dX7_init_56 : decode cX7_init 56 = .ok (.putfield 32, 3) := by decide +kernel
theorem dX7_init_59 : decode cX7_init 59 = .ok (.aload_n 0, 1) := by decide +kernel
theorem dX7_init_60 : decode cX7_init 60 = .ok (.new 36, 3) := by decide +kernel
theorem dX7_init_63 : decode cX7_init 63 = .ok (.dup, 1) := by decide +kernel
theorem dX7_init_64 : decode cX7_init 64 = .ok (.invokespecial 38, 3) := by decide +kernel
theorem dX7_init_67 : decode cX7_init 67 = .ok (.putfield 39, 3) := by decide +kernel
theorem dX7_init_70 : decode cX7_init 70 = .ok (.aload_n 0, 1) := by decide +kernel
theorem dX7_init_71 : decode cX7_init 71 = .ok (.iconst (-1), 1) := by decide +kernel
theorem dX7_init_72 : decode cX7_init 72 = .ok (.putfield 43, 3) := by decide +kernel
theorem dX7_init_75 : decode cX7_init 75 = .ok (.aload_n 0, 1) := by decide +kernel
theorem dX7_init_76 : decode cX7_init 76 = .ok (.iconst (-1), 1) := by decide +kernel
theorem dX7_init_77 : decode cX7_init 77 = .ok (.putfield 47, 3) := by decide +kernel
theorem dX7_init_80 : decode cX7_init 80 = .ok (.return_, 1) := by decide +kernel
theorem dX7_addTruck_0 : decode cX7_addTruck 0 = .ok (.aload_n 0, 1) := by decide +kernel
theorem dX7_addTruck_1 : decode cX7_addTruck 1 = .ok (.getstatic 50, 3) := by decide +kernel
theorem dX7_addTruck_4 : decode cX7_addTruck 4 = .ok (.iconst 0, 1) := by decide +kernel
theorem dX7_addTruck_5 : decode cX7_addTruck 5 = .ok (.iconst 0, 1) := by decide +kernel
theorem dX7_addTruck_6 : decode cX7_addTruck 6 = .ok (.iconst 0, 1) := by decide +kernel
theorem dX7_addTruck_7 : decode cX7_addTruck 7 = .ok (.invokevirtual 56, 3) := by decide +kernel
theorem dX7_addTruck_10 : decode cX7_addTruck 10 = .ok (.ireturn, 1) := by decide +kernel
theorem dX7_addStock_0 : decode cX7_addStock 0 = .ok (.aload_n 0, 1) := by decide +kernel
theorem dX7_addStock_1 : decode cX7_addStock 1 = .ok (.getstatic 60, 3) := by decide +kernel
theorem dX7_addStock_4 : decode cX7_addStock 4 = .ok (.iload_n 1, 1) := by decide +kernel
theorem dX7_addStock_5 : decode cX7_addStock 5 = .ok (.iload_n 2, 1) := by decide +kernel
theorem dX7_addStock_6 : decode cX7_addStock 6 = .ok (.iload_n 3, 1) := by decide +kernel
theorem dX7_addStock_7 : decode cX7_addStock 7 = .ok (.invokevirtual 56, 3) := by decide +kernel
theorem dX7_addStock_10 : decode cX7_addStock 10 = .ok (.ireturn, 1) := by decide +kernel
theorem dX7_setPrice_0 : decode cX7_setPrice 0 = .ok (.aload_n 0, 1) := by decide +kernel
theorem dX7_setPrice_1 : decode cX7_setPrice 1 = .ok (.getstatic 63, 3) := by decide +kernel
theorem dX7_setPrice_4 : decode cX7_setPrice 4 = .ok (.iload_n 1, 1) := by decide +kernel
theorem dX7_setPrice_5 : decode cX7_setPrice 5 = .ok (.iload_n 2, 1) := by decide +kernel
theorem dX7_setPrice_6 : decode cX7_setPrice 6 = .ok (.iconst 0, 1) := by decide +kernel
theorem dX7_setPrice_7 : decode cX7_setPrice 7 = .ok (.invokevirtual 56, 3) := by decide +kernel
theorem dX7_setPrice_10 : decode cX7_setPrice 10 = .ok (.ireturn, 1) := by decide +kernel
theorem dX7_grantPermit_0 : decode cX7_grantPermit 0 = .ok (.aload_n 0, 1) := by decide +kernel
theorem dX7_grantPermit_1 : decode cX7_grantPermit 1 = .ok (.getstatic 66, 3) := by decide +kernel
theorem dX7_grantPermit_4 : decode cX7_grantPermit 4 = .ok (.iload_n 1, 1) := by decide +kernel
theorem dX7_grantPermit_5 : decode cX7_grantPermit 5 = .ok (.iload_n 2, 1) := by decide +kernel
theorem dX7_grantPermit_6 : decode cX7_grantPermit 6 = .ok (.iconst 0, 1) := by decide +kernel
theorem dX7_grantPermit_7 : decode cX7_grantPermit 7 = .ok (.invokevirtual 56, 3) := by decide +kernel
theorem dX7_grantPermit_10 : decode cX7_grantPermit 10 = .ok (.ireturn, 1) := by decide +kernel
theorem dX7_revokePermit_0 : decode cX7_revokePermit 0 = .ok (.aload_n 0, 1) := by decide +kernel
theorem dX7_revokePermit_1 : decode cX7_revokePermit 1 = .ok (.getstatic 69, 3) := by decide +kernel
theorem dX7_revokePermit_4 : decode cX7_revokePermit 4 = .ok (.iload_n 1, 1) := by decide +kernel
theorem dX7_revokePermit_5 : decode cX7_revokePermit 5 = .ok (.iload_n 2, 1) := by decide +kernel
theorem dX7_revokePermit_6 : decode cX7_revokePermit 6 = .ok (.iconst 0, 1) := by decide +kernel
theorem dX7_revokePermit_7 : decode cX7_revokePermit 7 = .ok (.invokevirtual 56, 3) := by decide +kernel
theorem dX7_revokePermit_10 : decode cX7_revokePermit 10 = .ok (.ifCond .le 7, 3) := by decide +kernel
theorem dX7_revokePermit_13 : decode cX7_revokePermit 13 = .ok (.iconst 1, 1) := by decide +kernel
theorem dX7_revokePermit_14 : decode cX7_revokePermit 14 = .ok (.goto 4, 3) := by decide +kernel
theorem dX7_revokePermit_17 : decode cX7_revokePermit 17 = .ok (.iconst 0, 1) := by decide +kernel
theorem dX7_revokePermit_18 : decode cX7_revokePermit 18 = .ok (.ireturn, 1) := by decide +kernel
theorem dX7_assign_0 : decode cX7_assign 0 = .ok (.aload_n 0, 1) := by decide +kernel
theorem dX7_assign_1 : decode cX7_assign 1 = .ok (.getstatic 72, 3) := by decide +kernel
theorem dX7_assign_4 : decode cX7_assign 4 = .ok (.iload_n 1, 1) := by decide +kernel
theorem dX7_assign_5 : decode cX7_assign 5 = .ok (.iload_n 2, 1) := by decide +kernel
theorem dX7_assign_6 : decode cX7_assign 6 = .ok (.iload_n 3, 1) := by decide +kernel
theorem dX7_assign_7 : decode cX7_assign 7 = .ok (.invokevirtual 56, 3) := by decide +kernel
theorem dX7_assign_10 : decode cX7_assign 10 = .ok (.ireturn, 1) := by decide +kernel
theorem dX7_release_0 : decode cX7_release 0 = .ok (.aload_n 0, 1) := by decide +kernel
theorem dX7_release_1 : decode cX7_release 1 = .ok (.getstatic 75, 3) := by decide +kernel
theorem dX7_release_4 : decode cX7_release 4 = .ok (.iload_n 1, 1) := by decide +kernel
theorem dX7_release_5 : decode cX7_release 5 = .ok (.iload_n 2, 1) := by decide +kernel
theorem dX7_release_6 : decode cX7_release 6 = .ok (.iconst 0, 1) := by decide +kernel
theorem dX7_release_7 : decode cX7_release 7 = .ok (.invokevirtual 56, 3) := by decide +kernel
theorem dX7_release_10 : decode cX7_release 10 = .ok (.ireturn, 1) := by decide +kernel
theorem dX7_setWeather_0 : decode cX7_setWeather 0 = .ok (.aload_n 0, 1) := by decide +kernel
theorem dX7_setWeather_1 : decode cX7_setWeather 1 = .ok (.getstatic 78, 3) := by decide +kernel
theorem dX7_setWeather_4 : decode cX7_setWeather 4 = .ok (.iload_n 1, 1) := by decide +kernel
theorem dX7_setWeather_5 : decode cX7_setWeather 5 = .ok (.iconst 0, 1) := by decide +kernel
theorem dX7_setWeather_6 : decode cX7_setWeather 6 = .ok (.iconst 0, 1) := by decide +kernel
theorem dX7_setWeather_7 : decode cX7_setWeather 7 = .ok (.invokevirtual 56, 3) := by decide +kernel
theorem dX7_setWeather_10 : decode cX7_setWeather 10 = .ok (.ireturn, 1) := by decide +kernel
theorem dX7_advance_0 : decode cX7_advance 0 = .ok (.aload_n 0, 1) := by decide +kernel
theorem dX7_advance_1 : decode cX7_advance 1 = .ok (.getstatic 81, 3) := by decide +kernel
theorem dX7_advance_4 : decode cX7_advance 4 = .ok (.iload_n 1, 1) := by decide +kernel
theorem dX7_advance_5 : decode cX7_advance 5 = .ok (.iconst 0, 1) := by decide +kernel
theorem dX7_advance_6 : decode cX7_advance 6 = .ok (.iconst 0, 1) := by decide +kernel
theorem dX7_advance_7 : decode cX7_advance 7 = .ok (.invokevirtual 56, 3) := by decide +kernel
theorem dX7_advance_10 : decode cX7_advance 10 = .ok (.ireturn, 1) := by decide +kernel
theorem dX7_truckCount_0 : decode cX7_truckCount 0 = .ok (.aload_n 0, 1) := by decide +kernel
theorem dX7_truckCount_1 : decode cX7_truckCount 1 = .ok (.getfield 12, 3) := by decide +kernel
theorem dX7_truckCount_4 : decode cX7_truckCount 4 = .ok (.getfield 84, 3) := by decide +kernel
theorem dX7_truckCount_7 : decode cX7_truckCount 7 = .ok (.ireturn, 1) := by decide +kernel
theorem dX7_stock_0 : decode cX7_stock 0 = .ok (.aload_n 0, 1) := by decide +kernel
theorem dX7_stock_1 : decode cX7_stock 1 = .ok (.iload_n 1, 1) := by decide +kernel
theorem dX7_stock_2 : decode cX7_stock 2 = .ok (.invokevirtual 87, 3) := by decide +kernel
theorem dX7_stock_5 : decode cX7_stock 5 = .ok (.iload_n 2, 1) := by decide +kernel
theorem dX7_stock_6 : decode cX7_stock 6 = .ok (.invokestatic 91, 3) := by decide +kernel
theorem dX7_stock_9 : decode cX7_stock 9 = .ok (.aload_n 0, 1) := by decide +kernel
theorem dX7_stock_10 : decode cX7_stock 10 = .ok (.getfield 12, 3) := by decide +kernel
theorem dX7_stock_13 : decode cX7_stock 13 = .ok (.getfield 94, 3) := by decide +kernel
theorem dX7_stock_16 : decode cX7_stock 16 = .ok (.iload_n 1, 1) := by decide +kernel
theorem dX7_stock_17 : decode cX7_stock 17 = .ok (.aaload, 1) := by decide +kernel
theorem dX7_stock_18 : decode cX7_stock 18 = .ok (.iload_n 2, 1) := by decide +kernel
theorem dX7_stock_19 : decode cX7_stock 19 = .ok (.invokevirtual 98, 3) := by decide +kernel
theorem dX7_stock_22 : decode cX7_stock 22 = .ok (.ireturn, 1) := by decide +kernel
theorem dX7_coins_0 : decode cX7_coins 0 = .ok (.aload_n 0, 1) := by decide +kernel
theorem dX7_coins_1 : decode cX7_coins 1 = .ok (.iload_n 1, 1) := by decide +kernel
theorem dX7_coins_2 : decode cX7_coins 2 = .ok (.invokevirtual 87, 3) := by decide +kernel
theorem dX7_coins_5 : decode cX7_coins 5 = .ok (.aload_n 0, 1) := by decide +kernel
theorem dX7_coins_6 : decode cX7_coins 6 = .ok (.getfield 12, 3) := by decide +kernel
theorem dX7_coins_9 : decode cX7_coins 9 = .ok (.getfield 94, 3) := by decide +kernel
theorem dX7_coins_12 : decode cX7_coins 12 = .ok (.iload_n 1, 1) := by decide +kernel
theorem dX7_coins_13 : decode cX7_coins 13 = .ok (.aaload, 1) := by decide +kernel
theorem dX7_coins_14 : decode cX7_coins 14 = .ok (.getfield 104, 3) := by decide +kernel
theorem dX7_coins_17 : decode cX7_coins 17 = .ok (.ireturn, 1) := by decide +kernel
theorem dX7_price_0 : decode cX7_price 0 = .ok (.iload_n 1, 1) := by decide +kernel
theorem dX7_price_1 : decode cX7_price 1 = .ok (.invokestatic 91, 3) := by decide +kernel
theorem dX7_price_4 : decode cX7_price 4 = .ok (.aload_n 0, 1) := by decide +kernel
theorem dX7_price_5 : decode cX7_price 5 = .ok (.getfield 12, 3) := by decide +kernel
theorem dX7_price_8 : decode cX7_price 8 = .ok (.getfield 107, 3) := by decide +kernel
theorem dX7_price_11 : decode cX7_price 11 = .ok (.iload_n 1, 1) := by decide +kernel
theorem dX7_price_12 : decode cX7_price 12 = .ok (.iaload, 1) := by decide +kernel
theorem dX7_price_13 : decode cX7_price 13 = .ok (.ireturn, 1) := by decide +kernel
theorem dX7_hasPermit_0 : decode cX7_hasPermit 0 = .ok (.aload_n 0, 1) := by decide +kernel
theorem dX7_hasPermit_1 : decode cX7_hasPermit 1 = .ok (.iload_n 1, 1) := by decide +kernel
theorem dX7_hasPermit_2 : decode cX7_hasPermit 2 = .ok (.invokevirtual 87, 3) := by decide +kernel
theorem dX7_hasPermit_5 : decode cX7_hasPermit 5 = .ok (.iload_n 2, 1) := by decide +kernel
theorem dX7_hasPermit_6 : decode cX7_hasPermit 6 = .ok (.invokestatic 111, 3) := by decide +kernel
theorem dX7_hasPermit_9 : decode cX7_hasPermit 9 = .ok (.aload_n 0, 1) := by decide +kernel
theorem dX7_hasPermit_10 : decode cX7_hasPermit 10 = .ok (.getfield 12, 3) := by decide +kernel
theorem dX7_hasPermit_13 : decode cX7_hasPermit 13 = .ok (.getfield 94, 3) := by decide +kernel
theorem dX7_hasPermit_16 : decode cX7_hasPermit 16 = .ok (.iload_n 1, 1) := by decide +kernel
theorem dX7_hasPermit_17 : decode cX7_hasPermit 17 = .ok (.aaload, 1) := by decide +kernel
theorem dX7_hasPermit_18 : decode cX7_hasPermit 18 = .ok (.iload_n 2, 1) := by decide +kernel
theorem dX7_hasPermit_19 : decode cX7_hasPermit 19 = .ok (.invokevirtual 114, 3) := by decide +kernel
theorem dX7_hasPermit_22 : decode cX7_hasPermit 22 = .ok (.ireturn, 1) := by decide +kernel
theorem dX7_truckAt_0 : decode cX7_truckAt 0 = .ok (.iload_n 1, 1) := by decide +kernel
theorem dX7_truckAt_1 : decode cX7_truckAt 1 = .ok (.invokestatic 118, 3) := by decide +kernel
theorem dX7_truckAt_4 : decode cX7_truckAt 4 = .ok (.iload_n 2, 1) := by decide +kernel
theorem dX7_truckAt_5 : decode cX7_truckAt 5 = .ok (.invokestatic 111, 3) := by decide +kernel
theorem dX7_truckAt_8 : decode cX7_truckAt 8 = .ok (.aload_n 0, 1) := by decide +kernel
theorem dX7_truckAt_9 : decode cX7_truckAt 9 = .ok (.getfield 12, 3) := by decide +kernel
theorem dX7_truckAt_12 : decode cX7_truckAt 12 = .ok (.iload_n 1, 1) := by decide +kernel
theorem dX7_truckAt_13 : decode cX7_truckAt 13 = .ok (.iload_n 2, 1) := by decide +kernel
theorem dX7_truckAt_14 : decode cX7_truckAt 14 = .ok (.invokevirtual 121, 3) := by decide +kernel
theorem dX7_truckAt_17 : decode cX7_truckAt 17 = .ok (.invokestatic 125, 3) := by decide +kernel
theorem dX7_truckAt_20 : decode cX7_truckAt 20 = .ok (.ireturn, 1) := by decide +kernel
theorem dX7_pitchOf_0 : decode cX7_pitchOf 0 = .ok (.aload_n 0, 1) := by decide +kernel
theorem dX7_pitchOf_1 : decode cX7_pitchOf 1 = .ok (.iload_n 1, 1) := by decide +kernel
theorem dX7_pitchOf_2 : decode cX7_pitchOf 2 = .ok (.invokevirtual 87, 3) := by decide +kernel
theorem dX7_pitchOf_5 : decode cX7_pitchOf 5 = .ok (.iload_n 2, 1) := by decide +kernel
theorem dX7_pitchOf_6 : decode cX7_pitchOf 6 = .ok (.invokestatic 111, 3) := by decide +kernel
theorem dX7_pitchOf_9 : decode cX7_pitchOf 9 = .ok (.aload_n 0, 1) := by decide +kernel
theorem dX7_pitchOf_10 : decode cX7_pitchOf 10 = .ok (.getfield 12, 3) := by decide +kernel
theorem dX7_pitchOf_13 : decode cX7_pitchOf 13 = .ok (.iload_n 1, 1) := by decide +kernel
theorem dX7_pitchOf_14 : decode cX7_pitchOf 14 = .ok (.iload_n 2, 1) := by decide +kernel
theorem dX7_pitchOf_15 : decode cX7_pitchOf 15 = .ok (.invokevirtual 128, 3) := by decide +kernel
theorem dX7_pitchOf_18 : decode cX7_pitchOf 18 = .ok (.invokestatic 125, 3) := by decide +kernel
theorem dX7_pitchOf_21 : decode cX7_pitchOf 21 = .ok (.ireturn, 1) := by decide +kernel
theorem dX7_isOpen_0 : decode cX7_isOpen 0 = .ok (.aload_n 0, 1) := by decide +kernel
theorem dX7_isOpen_1 : decode cX7_isOpen 1 = .ok (.iload_n 1, 1) := by decide +kernel
theorem dX7_isOpen_2 : decode cX7_isOpen 2 = .ok (.invokevirtual 87, 3) := by decide +kernel
theorem dX7_isOpen_5 : decode cX7_isOpen 5 = .ok (.aload_n 0, 1) := by decide +kernel
theorem dX7_isOpen_6 : decode cX7_isOpen 6 = .ok (.getfield 12, 3) := by decide +kernel
theorem dX7_isOpen_9 : decode cX7_isOpen 9 = .ok (.iload_n 1, 1) := by decide +kernel
theorem dX7_isOpen_10 : decode cX7_isOpen 10 = .ok (.invokevirtual 131, 3) := by decide +kernel
theorem dX7_isOpen_13 : decode cX7_isOpen 13 = .ok (.iconst (-1), 1) := by decide +kernel
theorem dX7_isOpen_14 : decode cX7_isOpen 14 = .ok (.if_icmp .eq 7, 3) := by decide +kernel
theorem dX7_isOpen_17 : decode cX7_isOpen 17 = .ok (.iconst 1, 1) := by decide +kernel
theorem dX7_isOpen_18 : decode cX7_isOpen 18 = .ok (.goto 4, 3) := by decide +kernel
theorem dX7_isOpen_21 : decode cX7_isOpen 21 = .ok (.iconst 0, 1) := by decide +kernel
theorem dX7_isOpen_22 : decode cX7_isOpen 22 = .ok (.ireturn, 1) := by decide +kernel
theorem dX7_assignments_0 : decode cX7_assignments 0 = .ok (.aload_n 0, 1) := by decide +kernel
theorem dX7_assignments_1 : decode cX7_assignments 1 = .ok (.getfield 12, 3) := by decide +kernel
theorem dX7_assignments_4 : decode cX7_assignments 4 = .ok (.invokevirtual 134, 3) := by decide +kernel
theorem dX7_assignments_7 : decode cX7_assignments 7 = .ok (.ireturn, 1) := by decide +kernel
theorem dX7_assignmentsByTrucks_0 : decode cX7_assignmentsByTrucks 0 = .ok (.aload_n 0, 1) := by decide +kernel
theorem dX7_assignmentsByTrucks_1 : decode cX7_assignmentsByTrucks 1 = .ok (.getfield 12, 3) := by decide +kernel
theorem dX7_assignmentsByTrucks_4 : decode cX7_assignmentsByTrucks 4 = .ok (.invokevirtual 138, 3) := by decide +kernel
theorem dX7_assignmentsByTrucks_7 : decode cX7_assignmentsByTrucks 7 = .ok (.ireturn, 1) := by decide +kernel
theorem dX7_firstFreeDay_0 : decode cX7_firstFreeDay 0 = .ok (.aload_n 0, 1) := by decide +kernel
theorem dX7_firstFreeDay_1 : decode cX7_firstFreeDay 1 = .ok (.iload_n 1, 1) := by decide +kernel
theorem dX7_firstFreeDay_2 : decode cX7_firstFreeDay 2 = .ok (.invokevirtual 87, 3) := by decide +kernel
theorem dX7_firstFreeDay_5 : decode cX7_firstFreeDay 5 = .ok (.aload_n 0, 1) := by decide +kernel
theorem dX7_firstFreeDay_6 : decode cX7_firstFreeDay 6 = .ok (.getfield 12, 3) := by decide +kernel
theorem dX7_firstFreeDay_9 : decode cX7_firstFreeDay 9 = .ok (.iload_n 1, 1) := by decide +kernel
theorem dX7_firstFreeDay_10 : decode cX7_firstFreeDay 10 = .ok (.invokevirtual 141, 3) := by decide +kernel
theorem dX7_firstFreeDay_13 : decode cX7_firstFreeDay 13 = .ok (.invokestatic 125, 3) := by decide +kernel
theorem dX7_firstFreeDay_16 : decode cX7_firstFreeDay 16 = .ok (.ireturn, 1) := by decide +kernel
theorem dX7_firstFreePitch_0 : decode cX7_firstFreePitch 0 = .ok (.iload_n 1, 1) := by decide +kernel
theorem dX7_firstFreePitch_1 : decode cX7_firstFreePitch 1 = .ok (.invokestatic 111, 3) := by decide +kernel
theorem dX7_firstFreePitch_4 : decode cX7_firstFreePitch 4 = .ok (.aload_n 0, 1) := by decide +kernel
theorem dX7_firstFreePitch_5 : decode cX7_firstFreePitch 5 = .ok (.getfield 12, 3) := by decide +kernel
theorem dX7_firstFreePitch_8 : decode cX7_firstFreePitch 8 = .ok (.iconst (-1), 1) := by decide +kernel
theorem dX7_firstFreePitch_9 : decode cX7_firstFreePitch 9 = .ok (.iload_n 1, 1) := by decide +kernel
theorem dX7_firstFreePitch_10 : decode cX7_firstFreePitch 10 = .ok (.invokevirtual 128, 3) := by decide +kernel
theorem dX7_firstFreePitch_13 : decode cX7_firstFreePitch 13 = .ok (.invokestatic 125, 3) := by decide +kernel
theorem dX7_firstFreePitch_16 : decode cX7_firstFreePitch 16 = .ok (.ireturn, 1) := by decide +kernel
theorem dX7_queueLength_0 : decode cX7_queueLength 0 = .ok (.aload_n 0, 1) := by decide +kernel
theorem dX7_queueLength_1 : decode cX7_queueLength 1 = .ok (.iload_n 1, 1) := by decide +kernel
theorem dX7_queueLength_2 : decode cX7_queueLength 2 = .ok (.invokevirtual 87, 3) := by decide +kernel
theorem dX7_queueLength_5 : decode cX7_queueLength 5 = .ok (.aload_n 0, 1) := by decide +kernel
theorem dX7_queueLength_6 : decode cX7_queueLength 6 = .ok (.getfield 12, 3) := by decide +kernel
theorem dX7_queueLength_9 : decode cX7_queueLength 9 = .ok (.getfield 94, 3) := by decide +kernel
theorem dX7_queueLength_12 : decode cX7_queueLength 12 = .ok (.iload_n 1, 1) := by decide +kernel
theorem dX7_queueLength_13 : decode cX7_queueLength 13 = .ok (.aaload, 1) := by decide +kernel
theorem dX7_queueLength_14 : decode cX7_queueLength 14 = .ok (.getfield 144, 3) := by decide +kernel
theorem dX7_queueLength_17 : decode cX7_queueLength 17 = .ok (.ireturn, 1) := by decide +kernel
theorem dX7_wantedDish_0 : decode cX7_wantedDish 0 = .ok (.aload_n 0, 1) := by decide +kernel
theorem dX7_wantedDish_1 : decode cX7_wantedDish 1 = .ok (.iload_n 1, 1) := by decide +kernel
theorem dX7_wantedDish_2 : decode cX7_wantedDish 2 = .ok (.invokevirtual 87, 3) := by decide +kernel
theorem dX7_wantedDish_5 : decode cX7_wantedDish 5 = .ok (.aload_n 0, 1) := by decide +kernel
theorem dX7_wantedDish_6 : decode cX7_wantedDish 6 = .ok (.getfield 12, 3) := by decide +kernel
theorem dX7_wantedDish_9 : decode cX7_wantedDish 9 = .ok (.getfield 94, 3) := by decide +kernel
theorem dX7_wantedDish_12 : decode cX7_wantedDish 12 = .ok (.iload_n 1, 1) := by decide +kernel
theorem dX7_wantedDish_13 : decode cX7_wantedDish 13 = .ok (.aaload, 1) := by decide +kernel
theorem dX7_wantedDish_14 : decode cX7_wantedDish 14 = .ok (.iload_n 2, 1) := by decide +kernel
theorem dX7_wantedDish_15 : decode cX7_wantedDish 15 = .ok (.invokevirtual 147, 3) := by decide +kernel
theorem dX7_wantedDish_18 : decode cX7_wantedDish 18 = .ok (.invokestatic 125, 3) := by decide +kernel
theorem dX7_wantedDish_21 : decode cX7_wantedDish 21 = .ok (.ireturn, 1) := by decide +kernel
theorem dX7_minutesLeft_0 : decode cX7_minutesLeft 0 = .ok (.aload_n 0, 1) := by decide +kernel
theorem dX7_minutesLeft_1 : decode cX7_minutesLeft 1 = .ok (.iload_n 1, 1) := by decide +kernel
theorem dX7_minutesLeft_2 : decode cX7_minutesLeft 2 = .ok (.invokevirtual 87, 3) := by decide +kernel
theorem dX7_minutesLeft_5 : decode cX7_minutesLeft 5 = .ok (.aload_n 0, 1) := by decide +kernel
theorem dX7_minutesLeft_6 : decode cX7_minutesLeft 6 = .ok (.getfield 12, 3) := by decide +kernel
theorem dX7_minutesLeft_9 : decode cX7_minutesLeft 9 = .ok (.getfield 94, 3) := by decide +kernel
theorem dX7_minutesLeft_12 : decode cX7_minutesLeft 12 = .ok (.iload_n 1, 1) := by decide +kernel
theorem dX7_minutesLeft_13 : decode cX7_minutesLeft 13 = .ok (.aaload, 1) := by decide +kernel
theorem dX7_minutesLeft_14 : decode cX7_minutesLeft 14 = .ok (.getfield 150, 3) := by decide +kernel
theorem dX7_minutesLeft_17 : decode cX7_minutesLeft 17 = .ok (.ireturn, 1) := by decide +kernel
theorem dX7_queueTime_0 : decode cX7_queueTime 0 = .ok (.aload_n 0, 1) := by decide +kernel
theorem dX7_queueTime_1 : decode cX7_queueTime 1 = .ok (.iload_n 1, 1) := by decide +kernel
theorem dX7_queueTime_2 : decode cX7_queueTime 2 = .ok (.invokevirtual 87, 3) := by decide +kernel
theorem dX7_queueTime_5 : decode cX7_queueTime 5 = .ok (.aload_n 0, 1) := by decide +kernel
theorem dX7_queueTime_6 : decode cX7_queueTime 6 = .ok (.getfield 12, 3) := by decide +kernel
theorem dX7_queueTime_9 : decode cX7_queueTime 9 = .ok (.getfield 94, 3) := by decide +kernel
theorem dX7_queueTime_12 : decode cX7_queueTime 12 = .ok (.iload_n 1, 1) := by decide +kernel
theorem dX7_queueTime_13 : decode cX7_queueTime 13 = .ok (.aaload, 1) := by decide +kernel
theorem dX7_queueTime_14 : decode cX7_queueTime 14 = .ok (.invokevirtual 153, 3) := by decide +kernel
theorem dX7_queueTime_17 : decode cX7_queueTime 17 = .ok (.ireturn, 1) := by decide +kernel
theorem dX7_servedWithin_0 : decode cX7_servedWithin 0 = .ok (.iload_n 1, 1) := by decide +kernel
theorem dX7_servedWithin_1 : decode cX7_servedWithin 1 = .ok (.ifCond .lt 9, 3) := by decide +kernel
theorem dX7_servedWithin_4 : decode cX7_servedWithin 4 = .ok (.iload_n 1, 1) := by decide +kernel
theorem dX7_servedWithin_5 : decode cX7_servedWithin 5 = .ok (.bipush 60, 2) := by decide +kernel
theorem dX7_servedWithin_7 : decode cX7_servedWithin 7 = .ok (.if_icmp .le 13, 3) := by decide +kernel
theorem dX7_servedWithin_10 : decode cX7_servedWithin 10 = .ok (.new 156, 3) := by decide +kernel
theorem dX7_servedWithin_13 : decode cX7_servedWithin 13 = .ok (.dup, 1) := by decide +kernel
theorem dX7_servedWithin_14 : decode cX7_servedWithin 14 = .ok (.ldc 158, 2) := by decide +kernel
theorem dX7_servedWithin_16 : decode cX7_servedWithin 16 = .ok (.invokespecial 160, 3) := by decide +kernel
theorem dX7_servedWithin_19 : decode cX7_servedWithin 19 = .ok (.athrow, 1) := by decide +kernel
theorem dX7_servedWithin_20 : decode cX7_servedWithin 20 = .ok (.aload_n 0, 1) := by decide +kernel
theorem dX7_servedWithin_21 : decode cX7_servedWithin 21 = .ok (.getfield 16, 3) := by decide +kernel
theorem dX7_servedWithin_24 : decode cX7_servedWithin 24 = .ok (.aload_n 0, 1) := by decide +kernel
theorem dX7_servedWithin_25 : decode cX7_servedWithin 25 = .ok (.getfield 12, 3) := by decide +kernel
theorem dX7_servedWithin_28 : decode cX7_servedWithin 28 = .ok (.invokevirtual 163, 3) := by decide +kernel
theorem dX7_servedWithin_31 : decode cX7_servedWithin 31 = .ok (.aload_n 0, 1) := by decide +kernel
theorem dX7_servedWithin_32 : decode cX7_servedWithin 32 = .ok (.getfield 16, 3) := by decide +kernel
theorem dX7_servedWithin_35 : decode cX7_servedWithin 35 = .ok (.iload_n 1, 1) := by decide +kernel
theorem dX7_servedWithin_36 : decode cX7_servedWithin 36 = .ok (.invokevirtual 167, 3) := by decide +kernel
theorem dX7_servedWithin_39 : decode cX7_servedWithin 39 = .ok (.ireturn, 1) := by decide +kernel
theorem dX7_truckByCoins_0 : decode cX7_truckByCoins 0 = .ok (.aload_n 0, 1) := by decide +kernel
theorem dX7_truckByCoins_1 : decode cX7_truckByCoins 1 = .ok (.getfield 12, 3) := by decide +kernel
theorem dX7_truckByCoins_4 : decode cX7_truckByCoins 4 = .ok (.iload_n 1, 1) := by decide +kernel
theorem dX7_truckByCoins_5 : decode cX7_truckByCoins 5 = .ok (.invokevirtual 170, 3) := by decide +kernel
theorem dX7_truckByCoins_8 : decode cX7_truckByCoins 8 = .ok (.invokestatic 125, 3) := by decide +kernel
theorem dX7_truckByCoins_11 : decode cX7_truckByCoins 11 = .ok (.ireturn, 1) := by decide +kernel
theorem dX7_day_0 : decode cX7_day 0 = .ok (.aload_n 0, 1) := by decide +kernel
theorem dX7_day_1 : decode cX7_day 1 = .ok (.getfield 12, 3) := by decide +kernel
theorem dX7_day_4 : decode cX7_day 4 = .ok (.getfield 173, 3) := by decide +kernel
theorem dX7_day_7 : decode cX7_day 7 = .ok (.ireturn, 1) := by decide +kernel
theorem dX7_minute_0 : decode cX7_minute 0 = .ok (.aload_n 0, 1) := by decide +kernel
theorem dX7_minute_1 : decode cX7_minute 1 = .ok (.getfield 12, 3) := by decide +kernel
theorem dX7_minute_4 : decode cX7_minute 4 = .ok (.getfield 176, 3) := by decide +kernel
theorem dX7_minute_7 : decode cX7_minute 7 = .ok (.ireturn, 1) := by decide +kernel
theorem dX7_weather_0 : decode cX7_weather 0 = .ok (.aload_n 0, 1) := by decide +kernel
theorem dX7_weather_1 : decode cX7_weather 1 = .ok (.getfield 12, 3) := by decide +kernel
theorem dX7_weather_4 : decode cX7_weather 4 = .ok (.getfield 179, 3) := by decide +kernel
theorem dX7_weather_7 : decode cX7_weather 7 = .ok (.ireturn, 1) := by decide +kernel
theorem dX7_arrivedTotal_0 : decode cX7_arrivedTotal 0 = .ok (.aload_n 0, 1) := by decide +kernel
theorem dX7_arrivedTotal_1 : decode cX7_arrivedTotal 1 = .ok (.getfield 12, 3) := by decide +kernel
theorem dX7_arrivedTotal_4 : decode cX7_arrivedTotal 4 = .ok (.getfield 182, 3) := by decide +kernel
theorem dX7_arrivedTotal_7 : decode cX7_arrivedTotal 7 = .ok (.ireturn, 1) := by decide +kernel
theorem dX7_servedTotal_0 : decode cX7_servedTotal 0 = .ok (.aload_n 0, 1) := by decide +kernel
theorem dX7_servedTotal_1 : decode cX7_servedTotal 1 = .ok (.getfield 12, 3) := by decide +kernel
theorem dX7_servedTotal_4 : decode cX7_servedTotal 4 = .ok (.getfield 185, 3) := by decide +kernel
theorem dX7_servedTotal_7 : decode cX7_servedTotal 7 = .ok (.ireturn, 1) := by decide +kernel
theorem dX7_disappointedTotal_0 : decode cX7_disappointedTotal 0 = .ok (.aload_n 0, 1) := by decide +kernel
theorem dX7_disappointedTotal_1 : decode cX7_disappointedTotal 1 = .ok (.getfield 12, 3) := by decide +kernel
theorem dX7_disappointedTotal_4 : decode cX7_disappointedTotal 4 = .ok (.getfield 188, 3) := by decide +kernel
theorem dX7_disappointedTotal_7 : decode cX7_disappointedTotal 7 = .ok (.ireturn, 1) := by decide +kernel
theorem dX7_lostTotal_0 : decode cX7_lostTotal 0 = .ok (.aload_n 0, 1) := by decide +kernel
theorem dX7_lostTotal_1 : decode cX7_lostTotal 1 = .ok (.getfield 12, 3) := by decide +kernel
theorem dX7_lostTotal_4 : decode cX7_lostTotal 4 = .ok (.getfield 191, 3) := by decide +kernel
theorem dX7_lostTotal_7 : decode cX7_lostTotal 7 = .ok (.ireturn, 1) := by decide +kernel
theorem dX7_soldPortions_0 : decode cX7_soldPortions 0 = .ok (.iload_n 1, 1) := by decide +kernel
theorem dX7_soldPortions_1 : decode cX7_soldPortions 1 = .ok (.invokestatic 91, 3) := by decide +kernel
theorem dX7_soldPortions_4 : decode cX7_soldPortions 4 = .ok (.aload_n 0, 1) := by decide +kernel
theorem dX7_soldPortions_5 : decode cX7_soldPortions 5 = .ok (.getfield 12, 3) := by decide +kernel
theorem dX7_soldPortions_8 : decode cX7_soldPortions 8 = .ok (.getfield 194, 3) := by decide +kernel
theorem dX7_soldPortions_11 : decode cX7_soldPortions 11 = .ok (.iload_n 1, 1) := by decide +kernel
theorem dX7_soldPortions_12 : decode cX7_soldPortions 12 = .ok (.iaload, 1) := by decide +kernel
theorem dX7_soldPortions_13 : decode cX7_soldPortions 13 = .ok (.ireturn, 1) := by decide +kernel
theorem dX7_meanCoins_0 : decode cX7_meanCoins 0 = .ok (.aload_n 0, 1) := by decide +kernel
theorem dX7_meanCoins_1 : decode cX7_meanCoins 1 = .ok (.getfield 12, 3) := by decide +kernel
theorem dX7_meanCoins_4 : decode cX7_meanCoins 4 = .ok (.getfield 84, 3) := by decide +kernel
theorem dX7_meanCoins_7 : decode cX7_meanCoins 7 = .ok (.ifCond .ne 13, 3) := by decide +kernel
theorem dX7_meanCoins_10 : decode cX7_meanCoins 10 = .ok (.new 197, 3) := by decide +kernel
theorem dX7_meanCoins_13 : decode cX7_meanCoins 13 = .ok (.dup, 1) := by decide +kernel
theorem dX7_meanCoins_14 : decode cX7_meanCoins 14 = .ok (.ldc 199, 2) := by decide +kernel
theorem dX7_meanCoins_16 : decode cX7_meanCoins 16 = .ok (.invokespecial 201, 3) := by decide +kernel
theorem dX7_meanCoins_19 : decode cX7_meanCoins 19 = .ok (.athrow, 1) := by decide +kernel
theorem dX7_meanCoins_20 : decode cX7_meanCoins 20 = .ok (.aload_n 0, 1) := by decide +kernel
theorem dX7_meanCoins_21 : decode cX7_meanCoins 21 = .ok (.getfield 12, 3) := by decide +kernel
theorem dX7_meanCoins_24 : decode cX7_meanCoins 24 = .ok (.invokevirtual 202, 3) := by decide +kernel
theorem dX7_meanCoins_27 : decode cX7_meanCoins 27 = .ok (.i2d, 1) := by decide +kernel
theorem dX7_meanCoins_28 : decode cX7_meanCoins 28 = .ok (.aload_n 0, 1) := by decide +kernel
theorem dX7_meanCoins_29 : decode cX7_meanCoins 29 = .ok (.getfield 12, 3) := by decide +kernel
theorem dX7_meanCoins_32 : decode cX7_meanCoins 32 = .ok (.getfield 84, 3) := by decide +kernel
theorem dX7_meanCoins_35 : decode cX7_meanCoins 35 = .ok (.i2d, 1) := by decide +kernel
theorem dX7_meanCoins_36 : decode cX7_meanCoins 36 = .ok (.ddiv, 1) := by decide +kernel
theorem dX7_meanCoins_37 : decode cX7_meanCoins 37 = .ok (.dreturn, 1) := by decide +kernel
theorem dX7_servedShare_0 : decode cX7_servedShare 0 = .ok (.aload_n 0, 1) := by decide +kernel
theorem dX7_servedShare_1 : decode cX7_servedShare 1 = .ok (.getfield 12, 3) := by decide +kernel
theorem dX7_servedShare_4 : decode cX7_servedShare 4 = .ok (.getfield 182, 3) := by decide +kernel
theorem dX7_servedShare_7 : decode cX7_servedShare 7 = .ok (.ifCond .ne 13, 3) := by decide +kernel
theorem dX7_servedShare_10 : decode cX7_servedShare 10 = .ok (.new 197, 3) := by decide +kernel
theorem dX7_servedShare_13 : decode cX7_servedShare 13 = .ok (.dup, 1) := by decide +kernel
theorem dX7_servedShare_14 : decode cX7_servedShare 14 = .ok (.ldc 205, 2) := by decide +kernel
theorem dX7_servedShare_16 : decode cX7_servedShare 16 = .ok (.invokespecial 201, 3) := by decide +kernel
theorem dX7_servedShare_19 : decode cX7_servedShare 19 = .ok (.athrow, 1) := by decide +kernel
theorem dX7_servedShare_20 : decode cX7_servedShare 20 = .ok (.aload_n 0, 1) := by decide +kernel
theorem dX7_servedShare_21 : decode cX7_servedShare 21 = .ok (.getfield 12, 3) := by decide +kernel
theorem dX7_servedShare_24 : decode cX7_servedShare 24 = .ok (.getfield 185, 3) := by decide +kernel
theorem dX7_servedShare_27 : decode cX7_servedShare 27 = .ok (.i2f, 1) := by decide +kernel
theorem dX7_servedShare_28 : decode cX7_servedShare 28 = .ok (.aload_n 0, 1) := by decide +kernel
theorem dX7_servedShare_29 : decode cX7_servedShare 29 = .ok (.getfield 12, 3) := by decide +kernel
theorem dX7_servedShare_32 : decode cX7_servedShare 32 = .ok (.getfield 182, 3) := by decide +kernel
theorem dX7_servedShare_35 : decode cX7_servedShare 35 = .ok (.i2f, 1) := by decide +kernel
theorem dX7_servedShare_36 : decode cX7_servedShare 36 = .ok (.fdiv, 1) := by decide +kernel
theorem dX7_servedShare_37 : decode cX7_servedShare 37 = .ok (.freturn, 1) := by decide +kernel
theorem dX7_isConsistent_0 : decode cX7_isConsistent 0 = .ok (.aload_n 0, 1) := by decide +kernel
theorem dX7_isConsistent_1 : decode cX7_isConsistent 1 = .ok (.getfield 12, 3) := by decide +kernel
theorem dX7_isConsistent_4 : decode cX7_isConsistent 4 = .ok (.invokevirtual 134, 3) := by decide +kernel
theorem dX7_isConsistent_7 : decode cX7_isConsistent 7 = .ok (.aload_n 0, 1) := by decide +kernel
theorem dX7_isConsistent_8 : decode cX7_isConsistent 8 = .ok (.getfield 12, 3) := by decide +kernel
theorem dX7_isConsistent_11 : decode cX7_isConsistent 11 = .ok (.invokevirtual 138, 3) := by decide +kernel
theorem dX7_isConsistent_14 : decode cX7_isConsistent 14 = .ok (.if_icmp .ne 75, 3) := by decide +kernel
theorem dX7_isConsistent_17 : decode cX7_isConsistent 17 = .ok (.aload_n 0, 1) := by decide +kernel
theorem dX7_isConsistent_18 : decode cX7_isConsistent 18 = .ok (.getfield 12, 3) := by decide +kernel
theorem dX7_isConsistent_21 : decode cX7_isConsistent 21 = .ok (.getfield 182, 3) := by decide +kernel
theorem dX7_isConsistent_24 : decode cX7_isConsistent 24 = .ok (.aload_n 0, 1) := by decide +kernel
theorem dX7_isConsistent_25 : decode cX7_isConsistent 25 = .ok (.getfield 12, 3) := by decide +kernel
theorem dX7_isConsistent_28 : decode cX7_isConsistent 28 = .ok (.getfield 185, 3) := by decide +kernel
theorem dX7_isConsistent_31 : decode cX7_isConsistent 31 = .ok (.aload_n 0, 1) := by decide +kernel
theorem dX7_isConsistent_32 : decode cX7_isConsistent 32 = .ok (.getfield 12, 3) := by decide +kernel
theorem dX7_isConsistent_35 : decode cX7_isConsistent 35 = .ok (.getfield 188, 3) := by decide +kernel
theorem dX7_isConsistent_38 : decode cX7_isConsistent 38 = .ok (.iadd, 1) := by decide +kernel
theorem dX7_isConsistent_39 : decode cX7_isConsistent 39 = .ok (.aload_n 0, 1) := by decide +kernel
theorem dX7_isConsistent_40 : decode cX7_isConsistent 40 = .ok (.getfield 12, 3) := by decide +kernel
theorem dX7_isConsistent_43 : decode cX7_isConsistent 43 = .ok (.getfield 191, 3) := by decide +kernel
theorem dX7_isConsistent_46 : decode cX7_isConsistent 46 = .ok (.iadd, 1) := by decide +kernel
theorem dX7_isConsistent_47 : decode cX7_isConsistent 47 = .ok (.aload_n 0, 1) := by decide +kernel
theorem dX7_isConsistent_48 : decode cX7_isConsistent 48 = .ok (.getfield 12, 3) := by decide +kernel
theorem dX7_isConsistent_51 : decode cX7_isConsistent 51 = .ok (.invokevirtual 207, 3) := by decide +kernel
theorem dX7_isConsistent_54 : decode cX7_isConsistent 54 = .ok (.iadd, 1) := by decide +kernel
theorem dX7_isConsistent_55 : decode cX7_isConsistent 55 = .ok (.if_icmp .ne 34, 3) := by decide +kernel
theorem dX7_isConsistent_58 : decode cX7_isConsistent 58 = .ok (.aload_n 0, 1) := by decide +kernel
theorem dX7_isConsistent_59 : decode cX7_isConsistent 59 = .ok (.getfield 12, 3) := by decide +kernel
theorem dX7_isConsistent_62 : decode cX7_isConsistent 62 = .ok (.invokevirtual 210, 3) := by decide +kernel
theorem dX7_isConsistent_65 : decode cX7_isConsistent 65 = .ok (.ifCond .eq 24, 3) := by decide +kernel
theorem dX7_isConsistent_68 : decode cX7_isConsistent 68 = .ok (.aload_n 0, 1) := by decide +kernel
theorem dX7_isConsistent_69 : decode cX7_isConsistent 69 = .ok (.getfield 12, 3) := by decide +kernel
theorem dX7_isConsistent_72 : decode cX7_isConsistent 72 = .ok (.getfield 185, 3) := by decide +kernel
theorem dX7_isConsistent_75 : decode cX7_isConsistent 75 = .ok (.aload_n 0, 1) := by decide +kernel
theorem dX7_isConsistent_76 : decode cX7_isConsistent 76 = .ok (.getfield 12, 3) := by decide +kernel
theorem dX7_isConsistent_79 : decode cX7_isConsistent 79 = .ok (.invokevirtual 214, 3) := by decide +kernel
theorem dX7_isConsistent_82 : decode cX7_isConsistent 82 = .ok (.if_icmp .ne 7, 3) := by decide +kernel
theorem dX7_isConsistent_85 : decode cX7_isConsistent 85 = .ok (.iconst 1, 1) := by decide +kernel
theorem dX7_isConsistent_86 : decode cX7_isConsistent 86 = .ok (.goto 4, 3) := by decide +kernel
theorem dX7_isConsistent_89 : decode cX7_isConsistent 89 = .ok (.iconst 0, 1) := by decide +kernel
theorem dX7_isConsistent_90 : decode cX7_isConsistent 90 = .ok (.ireturn, 1) := by decide +kernel
theorem dX7_renderDay_0 : decode cX7_renderDay 0 = .ok (.iload_n 1, 1) := by decide +kernel
theorem dX7_renderDay_1 : decode cX7_renderDay 1 = .ok (.invokestatic 111, 3) := by decide +kernel
theorem dX7_renderDay_4 : decode cX7_renderDay 4 = .ok (.aload_n 0, 1) := by decide +kernel
theorem dX7_renderDay_5 : decode cX7_renderDay 5 = .ok (.getfield 39, 3) := by decide +kernel
theorem dX7_renderDay_8 : decode cX7_renderDay 8 = .ok (.iconst 0, 1) := by decide +kernel
theorem dX7_renderDay_9 : decode cX7_renderDay 9 = .ok (.invokevirtual 217, 3) := by decide +kernel
theorem dX7_renderDay_12 : decode cX7_renderDay 12 = .ok (.iconst 0, 1) := by decide +kernel
theorem dX7_renderDay_13 : decode cX7_renderDay 13 = .ok (.istore_n 2, 1) := by decide +kernel
theorem dX7_renderDay_14 : decode cX7_renderDay 14 = .ok (.iload_n 2, 1) := by decide +kernel
theorem dX7_renderDay_15 : decode cX7_renderDay 15 = .ok (.iconst 5, 1) := by decide +kernel
theorem dX7_renderDay_16 : decode cX7_renderDay 16 = .ok (.if_icmp .ge 46, 3) := by decide +kernel
theorem dX7_renderDay_19 : decode cX7_renderDay 19 = .ok (.aload_n 0, 1) := by decide +kernel
theorem dX7_renderDay_20 : decode cX7_renderDay 20 = .ok (.getfield 12, 3) := by decide +kernel
theorem dX7_renderDay_23 : decode cX7_renderDay 23 = .ok (.iload_n 2, 1) := by decide +kernel
theorem dX7_renderDay_24 : decode cX7_renderDay 24 = .ok (.iload_n 1, 1) := by decide +kernel
theorem dX7_renderDay_25 : decode cX7_renderDay 25 = .ok (.invokevirtual 121, 3) := by decide +kernel
theorem dX7_renderDay_28 : decode cX7_renderDay 28 = .ok (.istore_n 3, 1) := by decide +kernel
theorem dX7_renderDay_29 : decode cX7_renderDay 29 = .ok (.iload_n 3, 1) := by decide +kernel
theorem dX7_renderDay_30 : decode cX7_renderDay 30 = .ok (.iconst (-1), 1) := by decide +kernel
theorem dX7_renderDay_31 : decode cX7_renderDay 31 = .ok (.if_icmp .ne 16, 3) := by decide +kernel
theorem dX7_renderDay_34 : decode cX7_renderDay 34 = .ok (.aload_n 0, 1) := by decide +kernel
theorem dX7_renderDay_35 : decode cX7_renderDay 35 = .ok (.getfield 39, 3) := by decide +kernel
theorem dX7_renderDay_38 : decode cX7_renderDay 38 = .ok (.bipush 45, 2) := by decide +kernel
theorem dX7_renderDay_40 : decode cX7_renderDay 40 = .ok (.invokevirtual 220, 3) := by decide +kernel
theorem dX7_renderDay_43 : decode cX7_renderDay 43 = .ok (.pop, 1) := by decide +kernel
theorem dX7_renderDay_44 : decode cX7_renderDay 44 = .ok (.goto 12, 3) := by decide +kernel
theorem dX7_renderDay_47 : decode cX7_renderDay 47 = .ok (.aload_n 0, 1) := by decide +kernel
theorem dX7_renderDay_48 : decode cX7_renderDay 48 = .ok (.getfield 39, 3) := by decide +kernel
theorem dX7_renderDay_51 : decode cX7_renderDay 51 = .ok (.iload_n 3, 1) := by decide +kernel
theorem dX7_renderDay_52 : decode cX7_renderDay 52 = .ok (.invokevirtual 224, 3) := by decide +kernel
theorem dX7_renderDay_55 : decode cX7_renderDay 55 = .ok (.pop, 1) := by decide +kernel
theorem dX7_renderDay_56 : decode cX7_renderDay 56 = .ok (.iinc 2 1, 3) := by decide +kernel
theorem dX7_renderDay_59 : decode cX7_renderDay 59 = .ok (.goto (-45), 3) := by decide +kernel
theorem dX7_renderDay_62 : decode cX7_renderDay 62 = .ok (.aload_n 0, 1) := by decide +kernel
theorem dX7_renderDay_63 : decode cX7_renderDay 63 = .ok (.getfield 39, 3) := by decide +kernel
theorem dX7_renderDay_66 : decode cX7_renderDay 66 = .ok (.invokevirtual 227, 3) := by decide +kernel
theorem dX7_renderDay_69 : decode cX7_renderDay 69 = .ok (.ireturn, 1) := by decide +kernel
theorem dX7_renderTruck_0 : decode cX7_renderTruck 0 = .ok (.aload_n 0, 1) := by decide +kernel
theorem dX7_renderTruck_1 : decode cX7_renderTruck 1 = .ok (.iload_n 1, 1) := by decide +kernel
theorem dX7_renderTruck_2 : decode cX7_renderTruck 2 = .ok (.invokevirtual 87, 3) := by decide +kernel
theorem dX7_renderTruck_5 : decode cX7_renderTruck 5 = .ok (.aload_n 0, 1) := by decide +kernel
theorem dX7_renderTruck_6 : decode cX7_renderTruck 6 = .ok (.getfield 12, 3) := by decide +kernel
theorem dX7_renderTruck_9 : decode cX7_renderTruck 9 = .ok (.getfield 94, 3) := by decide +kernel
theorem dX7_renderTruck_12 : decode cX7_renderTruck 12 = .ok (.iload_n 1, 1) := by decide +kernel
theorem dX7_renderTruck_13 : decode cX7_renderTruck 13 = .ok (.aaload, 1) := by decide +kernel
theorem dX7_renderTruck_14 : decode cX7_renderTruck 14 = .ok (.astore_n 2, 1) := by decide +kernel
theorem dX7_renderTruck_15 : decode cX7_renderTruck 15 = .ok (.aload_n 0, 1) := by decide +kernel
theorem dX7_renderTruck_16 : decode cX7_renderTruck 16 = .ok (.getfield 39, 3) := by decide +kernel
theorem dX7_renderTruck_19 : decode cX7_renderTruck 19 = .ok (.iconst 0, 1) := by decide +kernel
theorem dX7_renderTruck_20 : decode cX7_renderTruck 20 = .ok (.invokevirtual 217, 3) := by decide +kernel
theorem dX7_renderTruck_23 : decode cX7_renderTruck 23 = .ok (.aload_n 0, 1) := by decide +kernel
theorem dX7_renderTruck_24 : decode cX7_renderTruck 24 = .ok (.getfield 39, 3) := by decide +kernel
theorem dX7_renderTruck_27 : decode cX7_renderTruck 27 = .ok (.bipush 116, 2) := by decide +kernel
theorem dX7_renderTruck_29 : decode cX7_renderTruck 29 = .ok (.invokevirtual 220, 3) := by decide +kernel
theorem dX7_renderTruck_32 : decode cX7_renderTruck 32 = .ok (.iload_n 1, 1) := by decide +kernel
theorem dX7_renderTruck_33 : decode cX7_renderTruck 33 = .ok (.invokevirtual 224, 3) := by decide +kernel
theorem dX7_renderTruck_36 : decode cX7_renderTruck 36 = .ok (.bipush 58, 2) := by decide +kernel
theorem dX7_renderTruck_38 : decode cX7_renderTruck 38 = .ok (.invokevirtual 220, 3) := by decide +kernel
theorem dX7_renderTruck_41 : decode cX7_renderTruck 41 = .ok (.pop, 1) := by decide +kernel
theorem dX7_renderTruck_42 : decode cX7_renderTruck 42 = .ok (.iconst 0, 1) := by decide +kernel
theorem dX7_renderTruck_43 : decode cX7_renderTruck 43 = .ok (.istore_n 3, 1) := by decide +kernel
theorem dX7_renderTruck_44 : decode cX7_renderTruck 44 = .ok (.iload_n 3, 1) := by decide +kernel
theorem dX7_renderTruck_45 : decode cX7_renderTruck 45 = .ok (.iconst 4, 1) := by decide +kernel
theorem dX7_renderTruck_46 : decode cX7_renderTruck 46 = .ok (.if_icmp .ge 36, 3) := by decide +kernel
theorem dX7_renderTruck_49 : decode cX7_renderTruck 49 = .ok (.iload_n 3, 1) := by decide +kernel
theorem dX7_renderTruck_50 : decode cX7_renderTruck 50 = .ok (.ifCond .le 13, 3) := by decide +kernel
theorem dX7_renderTruck_53 : decode cX7_renderTruck 53 = .ok (.aload_n 0, 1) := by decide +kernel
theorem dX7_renderTruck_54 : decode cX7_renderTruck 54 = .ok (.getfield 39, 3) := by decide +kernel
theorem dX7_renderTruck_57 : decode cX7_renderTruck 57 = .ok (.bipush 44, 2) := by decide +kernel
theorem dX7_renderTruck_59 : decode cX7_renderTruck 59 = .ok (.invokevirtual 220, 3) := by decide +kernel
theorem dX7_renderTruck_62 : decode cX7_renderTruck 62 = .ok (.pop, 1) := by decide +kernel
theorem dX7_renderTruck_63 : decode cX7_renderTruck 63 = .ok (.aload_n 0, 1) := by decide +kernel
theorem dX7_renderTruck_64 : decode cX7_renderTruck 64 = .ok (.getfield 39, 3) := by decide +kernel
theorem dX7_renderTruck_67 : decode cX7_renderTruck 67 = .ok (.aload_n 2, 1) := by decide +kernel
theorem dX7_renderTruck_68 : decode cX7_renderTruck 68 = .ok (.iload_n 3, 1) := by decide +kernel
theorem dX7_renderTruck_69 : decode cX7_renderTruck 69 = .ok (.invokevirtual 98, 3) := by decide +kernel
theorem dX7_renderTruck_72 : decode cX7_renderTruck 72 = .ok (.invokevirtual 224, 3) := by decide +kernel
theorem dX7_renderTruck_75 : decode cX7_renderTruck 75 = .ok (.pop, 1) := by decide +kernel
theorem dX7_renderTruck_76 : decode cX7_renderTruck 76 = .ok (.iinc 3 1, 3) := by decide +kernel
theorem dX7_renderTruck_79 : decode cX7_renderTruck 79 = .ok (.goto (-35), 3) := by decide +kernel
theorem dX7_renderTruck_82 : decode cX7_renderTruck 82 = .ok (.aload_n 0, 1) := by decide +kernel
theorem dX7_renderTruck_83 : decode cX7_renderTruck 83 = .ok (.getfield 39, 3) := by decide +kernel
theorem dX7_renderTruck_86 : decode cX7_renderTruck 86 = .ok (.bipush 36, 2) := by decide +kernel
theorem dX7_renderTruck_88 : decode cX7_renderTruck 88 = .ok (.invokevirtual 220, 3) := by decide +kernel
theorem dX7_renderTruck_91 : decode cX7_renderTruck 91 = .ok (.aload_n 2, 1) := by decide +kernel
theorem dX7_renderTruck_92 : decode cX7_renderTruck 92 = .ok (.getfield 104, 3) := by decide +kernel
theorem dX7_renderTruck_95 : decode cX7_renderTruck 95 = .ok (.invokevirtual 224, 3) := by decide +kernel
theorem dX7_renderTruck_98 : decode cX7_renderTruck 98 = .ok (.pop, 1) := by decide +kernel
theorem dX7_renderTruck_99 : decode cX7_renderTruck 99 = .ok (.aload_n 0, 1) := by decide +kernel
theorem dX7_renderTruck_100 : decode cX7_renderTruck 100 = .ok (.getfield 12, 3) := by decide +kernel
theorem dX7_renderTruck_103 : decode cX7_renderTruck 103 = .ok (.iload_n 1, 1) := by decide +kernel
theorem dX7_renderTruck_104 : decode cX7_renderTruck 104 = .ok (.invokevirtual 131, 3) := by decide +kernel
theorem dX7_renderTruck_107 : decode cX7_renderTruck 107 = .ok (.istore_n 3, 1) := by decide +kernel
theorem dX7_renderTruck_108 : decode cX7_renderTruck 108 = .ok (.iload_n 3, 1) := by decide +kernel
theorem dX7_renderTruck_109 : decode cX7_renderTruck 109 = .ok (.iconst (-1), 1) := by decide +kernel
theorem dX7_renderTruck_110 : decode cX7_renderTruck 110 = .ok (.if_icmp .eq 45, 3) := by decide +kernel
theorem dX7_renderTruck_113 : decode cX7_renderTruck 113 = .ok (.aload_n 0, 1) := by decide +kernel
theorem dX7_renderTruck_114 : decode cX7_renderTruck 114 = .ok (.getfield 39, 3) := by decide +kernel
theorem dX7_renderTruck_117 : decode cX7_renderTruck 117 = .ok (.bipush 64, 2) := by decide +kernel
theorem dX7_renderTruck_119 : decode cX7_renderTruck 119 = .ok (.invokevirtual 220, 3) := by decide +kernel
theorem dX7_renderTruck_122 : decode cX7_renderTruck 122 = .ok (.iload_n 3, 1) := by decide +kernel
theorem dX7_renderTruck_123 : decode cX7_renderTruck 123 = .ok (.invokevirtual 224, 3) := by decide +kernel
theorem dX7_renderTruck_126 : decode cX7_renderTruck 126 = .ok (.pop, 1) := by decide +kernel
theorem dX7_renderTruck_127 : decode cX7_renderTruck 127 = .ok (.iconst 0, 1) := by decide +kernel
theorem dX7_renderTruck_128 : decode cX7_renderTruck 128 = .ok (.istore 4, 2) := by decide +kernel
theorem dX7_renderTruck_130 : decode cX7_renderTruck 130 = .ok (.iload 4, 2) := by decide +kernel
theorem dX7_renderTruck_132 : decode cX7_renderTruck 132 = .ok (.aload_n 2, 1) := by decide +kernel
theorem dX7_renderTruck_133 : decode cX7_renderTruck 133 = .ok (.getfield 144, 3) := by decide +kernel
theorem dX7_renderTruck_136 : decode cX7_renderTruck 136 = .ok (.if_icmp .ge 19, 3) := by decide +kernel
theorem dX7_renderTruck_139 : decode cX7_renderTruck 139 = .ok (.aload_n 0, 1) := by decide +kernel
theorem dX7_renderTruck_140 : decode cX7_renderTruck 140 = .ok (.getfield 39, 3) := by decide +kernel
theorem dX7_renderTruck_143 : decode cX7_renderTruck 143 = .ok (.bipush 113, 2) := by decide +kernel
theorem dX7_renderTruck_145 : decode cX7_renderTruck 145 = .ok (.invokevirtual 220, 3) := by decide +kernel
theorem dX7_renderTruck_148 : decode cX7_renderTruck 148 = .ok (.pop, 1) := by decide +kernel
theorem dX7_renderTruck_149 : decode cX7_renderTruck 149 = .ok (.iinc 4 1, 3) := by decide +kernel
theorem dX7_renderTruck_152 : decode cX7_renderTruck 152 = .ok (.goto (-22), 3) := by decide +kernel
theorem dX7_renderTruck_155 : decode cX7_renderTruck 155 = .ok (.aload_n 0, 1) := by decide +kernel
theorem dX7_renderTruck_156 : decode cX7_renderTruck 156 = .ok (.getfield 39, 3) := by decide +kernel
theorem dX7_renderTruck_159 : decode cX7_renderTruck 159 = .ok (.invokevirtual 227, 3) := by decide +kernel
theorem dX7_renderTruck_162 : decode cX7_renderTruck 162 = .ok (.ireturn, 1) := by decide +kernel
theorem dX7_outputAt_0 : decode cX7_outputAt 0 = .ok (.iload_n 1, 1) := by decide +kernel
theorem dX7_outputAt_1 : decode cX7_outputAt 1 = .ok (.ifCond .lt 14, 3) := by decide +kernel
theorem dX7_outputAt_4 : decode cX7_outputAt 4 = .ok (.iload_n 1, 1) := by decide +kernel
theorem dX7_outputAt_5 : decode cX7_outputAt 5 = .ok (.aload_n 0, 1) := by decide +kernel
theorem dX7_outputAt_6 : decode cX7_outputAt 6 = .ok (.getfield 39, 3) := by decide +kernel
theorem dX7_outputAt_9 : decode cX7_outputAt 9 = .ok (.invokevirtual 227, 3) := by decide +kernel
theorem dX7_outputAt_12 : decode cX7_outputAt 12 = .ok (.if_icmp .lt 13, 3) := by decide +kernel
theorem dX7_outputAt_15 : decode cX7_outputAt 15 = .ok (.new 230, 3) := by decide +kernel
theorem dX7_outputAt_18 : decode cX7_outputAt 18 = .ok (.dup, 1) := by decide +kernel
theorem dX7_outputAt_19 : decode cX7_outputAt 19 = .ok (.ldc 232, 2) := by decide +kernel
theorem dX7_outputAt_21 : decode cX7_outputAt 21 = .ok (.invokespecial 234, 3) := by decide +kernel
theorem dX7_outputAt_24 : decode cX7_outputAt 24 = .ok (.athrow, 1) := by decide +kernel
theorem dX7_outputAt_25 : decode cX7_outputAt 25 = .ok (.aload_n 0, 1) := by decide +kernel
theorem dX7_outputAt_26 : decode cX7_outputAt 26 = .ok (.getfield 39, 3) := by decide +kernel
theorem dX7_outputAt_29 : decode cX7_outputAt 29 = .ok (.iload_n 1, 1) := by decide +kernel
theorem dX7_outputAt_30 : decode cX7_outputAt 30 = .ok (.invokevirtual 235, 3) := by decide +kernel
theorem dX7_outputAt_33 : decode cX7_outputAt 33 = .ok (.ireturn, 1) := by decide +kernel
theorem dX7_type_0 : decode cX7_type 0 = .ok (.iload_n 1, 1) := by decide +kernel
theorem dX7_type_1 : decode cX7_type 1 = .ok (.bipush 32, 2) := by decide +kernel
theorem dX7_type_3 : decode cX7_type 3 = .ok (.if_icmp .lt 9, 3) := by decide +kernel
theorem dX7_type_6 : decode cX7_type 6 = .ok (.iload_n 1, 1) := by decide +kernel
theorem dX7_type_7 : decode cX7_type 7 = .ok (.bipush 126, 2) := by decide +kernel
theorem dX7_type_9 : decode cX7_type 9 = .ok (.if_icmp .le 13, 3) := by decide +kernel
theorem dX7_type_12 : decode cX7_type 12 = .ok (.new 156, 3) := by decide +kernel
theorem dX7_type_15 : decode cX7_type 15 = .ok (.dup, 1) := by decide +kernel
theorem dX7_type_16 : decode cX7_type 16 = .ok (.ldc 239, 2) := by decide +kernel
theorem dX7_type_18 : decode cX7_type 18 = .ok (.invokespecial 160, 3) := by decide +kernel
theorem dX7_type_21 : decode cX7_type 21 = .ok (.athrow, 1) := by decide +kernel
theorem dX7_type_22 : decode cX7_type 22 = .ok (.aload_n 0, 1) := by decide +kernel
theorem dX7_type_23 : decode cX7_type 23 = .ok (.getfield 32, 3) := by decide +kernel
theorem dX7_type_26 : decode cX7_type 26 = .ok (.getfield 241, 3) := by decide +kernel
theorem dX7_type_29 : decode cX7_type 29 = .ok (.invokevirtual 227, 3) := by decide +kernel
theorem dX7_type_32 : decode cX7_type 32 = .ok (.bipush 60, 2) := by decide +kernel
theorem dX7_type_34 : decode cX7_type 34 = .ok (.if_icmp .lt 13, 3) := by decide +kernel
theorem dX7_type_37 : decode cX7_type 37 = .ok (.new 244, 3) := by decide +kernel
theorem dX7_type_40 : decode cX7_type 40 = .ok (.dup, 1) := by decide +kernel
theorem dX7_type_41 : decode cX7_type 41 = .ok (.ldc 246, 2) := by decide +kernel
theorem dX7_type_43 : decode cX7_type 43 = .ok (.invokespecial 248, 3) := by decide +kernel
theorem dX7_type_46 : decode cX7_type 46 = .ok (.athrow, 1) := by decide +kernel
theorem dX7_type_47 : decode cX7_type 47 = .ok (.aload_n 0, 1) := by decide +kernel
theorem dX7_type_48 : decode cX7_type 48 = .ok (.getfield 32, 3) := by decide +kernel
theorem dX7_type_51 : decode cX7_type 51 = .ok (.getfield 241, 3) := by decide +kernel
theorem dX7_type_54 : decode cX7_type 54 = .ok (.iload_n 1, 1) := by decide +kernel
theorem dX7_type_55 : decode cX7_type 55 = .ok (.invokevirtual 220, 3) := by decide +kernel
theorem dX7_type_58 : decode cX7_type 58 = .ok (.pop, 1) := by decide +kernel
theorem dX7_type_59 : decode cX7_type 59 = .ok (.aload_n 0, 1) := by decide +kernel
theorem dX7_type_60 : decode cX7_type 60 = .ok (.getfield 32, 3) := by decide +kernel
theorem dX7_type_63 : decode cX7_type 63 = .ok (.getfield 241, 3) := by decide +kernel
theorem dX7_type_66 : decode cX7_type 66 = .ok (.invokevirtual 227, 3) := by decide +kernel
theorem dX7_type_69 : decode cX7_type 69 = .ok (.ireturn, 1) := by decide +kernel
theorem dX7_runScript_0 : decode cX7_runScript 0 = .ok (.aload_n 0, 1) := by decide +kernel
theorem dX7_runScript_1 : decode cX7_runScript 1 = .ok (.getfield 32, 3) := by decide +kernel
theorem dX7_runScript_4 : decode cX7_runScript 4 = .ok (.invokevirtual 249, 3) := by decide +kernel
theorem dX7_runScript_7 : decode cX7_runScript 7 = .ok (.istore_n 1, 1) := by decide +kernel
theorem dX7_runScript_8 : decode cX7_runScript 8 = .ok (.aload_n 0, 1) := by decide +kernel
theorem dX7_runScript_9 : decode cX7_runScript 9 = .ok (.getfield 32, 3) := by decide +kernel
theorem dX7_runScript_12 : decode cX7_runScript 12 = .ok (.getfield 241, 3) := by decide +kernel
theorem dX7_runScript_15 : decode cX7_runScript 15 = .ok (.iconst 0, 1) := by decide +kernel
theorem dX7_runScript_16 : decode cX7_runScript 16 = .ok (.invokevirtual 217, 3) := by decide +kernel
theorem dX7_runScript_19 : decode cX7_runScript 19 = .ok (.iload_n 1, 1) := by decide +kernel
theorem dX7_runScript_20 : decode cX7_runScript 20 = .ok (.ifCond .ne 24, 3) := by decide +kernel
theorem dX7_runScript_23 : decode cX7_runScript 23 = .ok (.aload_n 0, 1) := by decide +kernel
theorem dX7_runScript_24 : decode cX7_runScript 24 = .ok (.aload_n 0, 1) := by decide +kernel
theorem dX7_runScript_25 : decode cX7_runScript 25 = .ok (.getfield 32, 3) := by decide +kernel
theorem dX7_runScript_28 : decode cX7_runScript 28 = .ok (.getfield 252, 3) := by decide +kernel
theorem dX7_runScript_31 : decode cX7_runScript 31 = .ok (.putfield 43, 3) := by decide +kernel
theorem dX7_runScript_34 : decode cX7_runScript 34 = .ok (.new 156, 3) := by decide +kernel
theorem dX7_runScript_37 : decode cX7_runScript 37 = .ok (.dup, 1) := by decide +kernel
theorem dX7_runScript_38 : decode cX7_runScript 38 = .ok (.ldc 255, 2) := by decide +kernel
theorem dX7_runScript_40 : decode cX7_runScript 40 = .ok (.invokespecial 160, 3) := by decide +kernel
theorem dX7_runScript_43 : decode cX7_runScript 43 = .ok (.athrow, 1) := by decide +kernel
theorem dX7_runScript_44 : decode cX7_runScript 44 = .ok (.aload_n 0, 1) := by decide +kernel
theorem dX7_runScript_45 : decode cX7_runScript 45 = .ok (.getfield 16, 3) := by decide +kernel
theorem dX7_runScript_48 : decode cX7_runScript 48 = .ok (.aload_n 0, 1) := by decide +kernel
theorem dX7_runScript_49 : decode cX7_runScript 49 = .ok (.getfield 12, 3) := by decide +kernel
theorem dX7_runScript_52 : decode cX7_runScript 52 = .ok (.invokevirtual 163, 3) := by decide +kernel
theorem dX7_runScript_55 : decode cX7_runScript 55 = .ok (.iconst 0, 1) := by decide +kernel
theorem dX7_runScript_56 : decode cX7_runScript 56 = .ok (.istore_n 2, 1) := by decide +kernel
theorem dX7_runScript_57 : decode cX7_runScript 57 = .ok (.iload_n 2, 1) := by decide +kernel
theorem dX7_runScript_58 : decode cX7_runScript 58 = .ok (.aload_n 0, 1) := by decide +kernel
theorem dX7_runScript_59 : decode cX7_runScript 59 = .ok (.getfield 32, 3) := by decide +kernel
theorem dX7_runScript_62 : decode cX7_runScript 62 = .ok (.getfield 257, 3) := by decide +kernel
theorem dX7_runScript_65 : decode cX7_runScript 65 = .ok (.if_icmp .ge 73, 3) := by decide +kernel
theorem dX7_runScript_68 : decode cX7_runScript 68 = .ok (.iload_n 2, 1) := by decide +kernel
theorem dX7_runScript_69 : decode cX7_runScript 69 = .ok (.bipush 15, 2) := by decide +kernel
theorem dX7_runScript_71 : decode cX7_runScript 71 = .ok (.if_icmp .ge 67, 3) := by decide +kernel
theorem dX7_runScript_74 : decode cX7_runScript 74 = .ok (.aload_n 0, 1) := by decide +kernel
theorem dX7_runScript_75 : decode cX7_runScript 75 = .ok (.getfield 32, 3) := by decide +kernel
theorem dX7_runScript_78 : decode cX7_runScript 78 = .ok (.getfield 260, 3) := by decide +kernel
theorem dX7_runScript_81 : decode cX7_runScript 81 = .ok (.iload_n 2, 1) := by decide +kernel
theorem dX7_runScript_82 : decode cX7_runScript 82 = .ok (.aaload, 1) := by decide +kernel
theorem dX7_runScript_83 : decode cX7_runScript 83 = .ok (.astore_n 3, 1) := by decide +kernel
theorem dX7_runScript_84 : decode cX7_runScript 84 = .ok (.aload_n 0, 1) := by decide +kernel
theorem dX7_runScript_85 : decode cX7_runScript 85 = .ok (.getfield 16, 3) := by decide +kernel
theorem dX7_runScript_88 : decode cX7_runScript 88 = .ok (.aload_n 3, 1) := by decide +kernel
theorem dX7_runScript_89 : decode cX7_runScript 89 = .ok (.getfield 264, 3) := by decide +kernel
theorem dX7_runScript_92 : decode cX7_runScript 92 = .ok (.aload_n 3, 1) := by decide +kernel
theorem dX7_runScript_93 : decode cX7_runScript 93 = .ok (.getfield 269, 3) := by decide +kernel
theorem dX7_runScript_96 : decode cX7_runScript 96 = .ok (.iconst 0, 1) := by decide +kernel
theorem dX7_runScript_97 : decode cX7_runScript 97 = .ok (.iaload, 1) := by decide +kernel
theorem dX7_runScript_98 : decode cX7_runScript 98 = .ok (.aload_n 3, 1) := by decide +kernel
theorem dX7_runScript_99 : decode cX7_runScript 99 = .ok (.getfield 269, 3) := by decide +kernel
theorem dX7_runScript_102 : decode cX7_runScript 102 = .ok (.iconst 1, 1) := by decide +kernel
theorem dX7_runScript_103 : decode cX7_runScript 103 = .ok (.iaload, 1) := by decide +kernel
theorem dX7_runScript_104 : decode cX7_runScript 104 = .ok (.aload_n 3, 1) := by decide +kernel
theorem dX7_runScript_105 : decode cX7_runScript 105 = .ok (.getfield 269, 3) := by decide +kernel
theorem dX7_runScript_108 : decode cX7_runScript 108 = .ok (.iconst 2, 1) := by decide +kernel
theorem dX7_runScript_109 : decode cX7_runScript 109 = .ok (.iaload, 1) := by decide +kernel
theorem dX7_runScript_110 : decode cX7_runScript 110 = .ok (.invokevirtual 272, 3) := by decide +kernel
theorem dX7_runScript_113 : decode cX7_runScript 113 = .ok (.ifCond .ge 19, 3) := by decide +kernel
theorem dX7_runScript_116 : decode cX7_runScript 116 = .ok (.aload_n 0, 1) := by decide +kernel
theorem dX7_runScript_117 : decode cX7_runScript 117 = .ok (.iload_n 2, 1) := by decide +kernel
theorem dX7_runScript_118 : decode cX7_runScript 118 = .ok (.putfield 47, 3) := by decide +kernel
theorem dX7_runScript_121 : decode cX7_runScript 121 = .ok (.new 244, 3) := by decide +kernel
theorem dX7_runScript_124 : decode cX7_runScript 124 = .ok (.dup, 1) := by decide +kernel
theorem dX7_runScript_125 : decode cX7_runScript 125 = .ok (.ldc_w 275, 3) := by decide +kernel
theorem dX7_runScript_128 : decode cX7_runScript 128 = .ok (.invokespecial 248, 3) := by decide +kernel
theorem dX7_runScript_131 : decode cX7_runScript 131 = .ok (.athrow, 1) := by decide +kernel
theorem dX7_runScript_132 : decode cX7_runScript 132 = .ok (.iinc 2 1, 3) := by decide +kernel
theorem dX7_runScript_135 : decode cX7_runScript 135 = .ok (.goto (-78), 3) := by decide +kernel
theorem dX7_runScript_138 : decode cX7_runScript 138 = .ok (.aload_n 0, 1) := by decide +kernel
theorem dX7_runScript_139 : decode cX7_runScript 139 = .ok (.invokevirtual 277, 3) := by decide +kernel
theorem dX7_runScript_142 : decode cX7_runScript 142 = .ok (.aload_n 0, 1) := by decide +kernel
theorem dX7_runScript_143 : decode cX7_runScript 143 = .ok (.getfield 32, 3) := by decide +kernel
theorem dX7_runScript_146 : decode cX7_runScript 146 = .ok (.getfield 257, 3) := by decide +kernel
theorem dX7_runScript_149 : decode cX7_runScript 149 = .ok (.ireturn, 1) := by decide +kernel
theorem dX7_failedCommand_0 : decode cX7_failedCommand 0 = .ok (.aload_n 0, 1) := by decide +kernel
theorem dX7_failedCommand_1 : decode cX7_failedCommand 1 = .ok (.getfield 47, 3) := by decide +kernel
theorem dX7_failedCommand_4 : decode cX7_failedCommand 4 = .ok (.invokestatic 125, 3) := by decide +kernel
theorem dX7_failedCommand_7 : decode cX7_failedCommand 7 = .ok (.ireturn, 1) := by decide +kernel
theorem dX7_undo_0 : decode cX7_undo 0 = .ok (.aload_n 0, 1) := by decide +kernel
theorem dX7_undo_1 : decode cX7_undo 1 = .ok (.getfield 25, 3) := by decide +kernel
theorem dX7_undo_4 : decode cX7_undo 4 = .ok (.aload_n 0, 1) := by decide +kernel
theorem dX7_undo_5 : decode cX7_undo 5 = .ok (.getfield 12, 3) := by decide +kernel
theorem dX7_undo_8 : decode cX7_undo 8 = .ok (.invokevirtual 280, 3) := by decide +kernel
theorem dX7_undo_11 : decode cX7_undo 11 = .ok (.ifCond .ne 14, 3) := by decide +kernel
theorem dX7_undo_14 : decode cX7_undo 14 = .ok (.new 284, 3) := by decide +kernel
theorem dX7_undo_17 : decode cX7_undo 17 = .ok (.dup, 1) := by decide +kernel
theorem dX7_undo_18 : decode cX7_undo 18 = .ok (.ldc_w 286, 3) := by decide +kernel
theorem dX7_undo_21 : decode cX7_undo 21 = .ok (.invokespecial 288, 3) := by decide +kernel
theorem dX7_undo_24 : decode cX7_undo 24 = .ok (.athrow, 1) := by decide +kernel
theorem dX7_undo_25 : decode cX7_undo 25 = .ok (.aload_n 0, 1) := by decide +kernel
theorem dX7_undo_26 : decode cX7_undo 26 = .ok (.getfield 25, 3) := by decide +kernel
theorem dX7_undo_29 : decode cX7_undo 29 = .ok (.getfield 289, 3) := by decide +kernel
theorem dX7_undo_32 : decode cX7_undo 32 = .ok (.ireturn, 1) := by decide +kernel
theorem dX7_save_0 : decode cX7_save 0 = .ok (.aload_n 0, 1) := by decide +kernel
theorem dX7_save_1 : decode cX7_save 1 = .ok (.getfield 19, 3) := by decide +kernel
theorem dX7_save_4 : decode cX7_save 4 = .ok (.aload_n 0, 1) := by decide +kernel
theorem dX7_save_5 : decode cX7_save 5 = .ok (.getfield 12, 3) := by decide +kernel
theorem dX7_save_8 : decode cX7_save 8 = .ok (.invokevirtual 163, 3) := by decide +kernel
theorem dX7_save_11 : decode cX7_save 11 = .ok (.aload_n 0, 1) := by decide +kernel
theorem dX7_save_12 : decode cX7_save 12 = .ok (.iconst 1, 1) := by decide +kernel
theorem dX7_save_13 : decode cX7_save 13 = .ok (.putfield 292, 3) := by decide +kernel
theorem dX7_save_16 : decode cX7_save 16 = .ok (.aload_n 0, 1) := by decide +kernel
theorem dX7_save_17 : decode cX7_save 17 = .ok (.getfield 12, 3) := by decide +kernel
theorem dX7_save_20 : decode cX7_save 20 = .ok (.getfield 84, 3) := by decide +kernel
theorem dX7_save_23 : decode cX7_save 23 = .ok (.ireturn, 1) := by decide +kernel
theorem dX7_restore_0 : decode cX7_restore 0 = .ok (.aload_n 0, 1) := by decide +kernel
theorem dX7_restore_1 : decode cX7_restore 1 = .ok (.getfield 292, 3) := by decide +kernel
theorem dX7_restore_4 : decode cX7_restore 4 = .ok (.ifCond .ne 14, 3) := by decide +kernel
theorem dX7_restore_7 : decode cX7_restore 7 = .ok (.new 244, 3) := by decide +kernel
theorem dX7_restore_10 : decode cX7_restore 10 = .ok (.dup, 1) := by decide +kernel
theorem dX7_restore_11 : decode cX7_restore 11 = .ok (.ldc_w 296, 3) := by decide +kernel
theorem dX7_restore_14 : decode cX7_restore 14 = .ok (.invokespecial 248, 3) := by decide +kernel
theorem dX7_restore_17 : decode cX7_restore 17 = .ok (.athrow, 1) := by decide +kernel
theorem dX7_restore_18 : decode cX7_restore 18 = .ok (.aload_n 0, 1) := by decide +kernel
theorem dX7_restore_19 : decode cX7_restore 19 = .ok (.getfield 12, 3) := by decide +kernel
theorem dX7_restore_22 : decode cX7_restore 22 = .ok (.aload_n 0, 1) := by decide +kernel
theorem dX7_restore_23 : decode cX7_restore 23 = .ok (.getfield 19, 3) := by decide +kernel
theorem dX7_restore_26 : decode cX7_restore 26 = .ok (.invokevirtual 163, 3) := by decide +kernel
theorem dX7_restore_29 : decode cX7_restore 29 = .ok (.aload_n 0, 1) := by decide +kernel
theorem dX7_restore_30 : decode cX7_restore 30 = .ok (.getfield 25, 3) := by decide +kernel
theorem dX7_restore_33 : decode cX7_restore 33 = .ok (.iconst 0, 1) := by decide +kernel
theorem dX7_restore_34 : decode cX7_restore 34 = .ok (.putfield 289, 3) := by decide +kernel
theorem dX7_restore_37 : decode cX7_restore 37 = .ok (.aload_n 0, 1) := by decide +kernel
theorem dX7_restore_38 : decode cX7_restore 38 = .ok (.getfield 12, 3) := by decide +kernel
theorem dX7_restore_41 : decode cX7_restore 41 = .ok (.getfield 84, 3) := by decide +kernel
theorem dX7_restore_44 : decode cX7_restore 44 = .ok (.ireturn, 1) := by decide +kernel
theorem dX7_change_0 : decode cX7_change 0 = .ok (.aload_n 0, 1) := by decide +kernel
theorem dX7_change_1 : decode cX7_change 1 = .ok (.getfield 16, 3) := by decide +kernel
theorem dX7_change_4 : decode cX7_change 4 = .ok (.aload_n 0, 1) := by decide +kernel
theorem dX7_change_5 : decode cX7_change 5 = .ok (.getfield 12, 3) := by decide +kernel
theorem dX7_change_8 : decode cX7_change 8 = .ok (.invokevirtual 163, 3) := by decide +kernel
theorem dX7_change_11 : decode cX7_change 11 = .ok (.aload_n 0, 1) := by decide +kernel
theorem dX7_change_12 : decode cX7_change 12 = .ok (.getfield 16, 3) := by decide +kernel
theorem dX7_change_15 : decode cX7_change 15 = .ok (.aload_n 1, 1) := by decide +kernel
theorem dX7_change_16 : decode cX7_change 16 = .ok (.iload_n 2, 1) := by decide +kernel
theorem dX7_change_17 : decode cX7_change 17 = .ok (.iload_n 3, 1) := by decide +kernel
theorem dX7_change_18 : decode cX7_change 18 = .ok (.iload 4, 2) := by decide +kernel
theorem dX7_change_20 : decode cX7_change 20 = .ok (.invokevirtual 272, 3) := by decide +kernel
theorem dX7_change_23 : decode cX7_change 23 = .ok (.istore 5, 2) := by decide +kernel
theorem dX7_change_25 : decode cX7_change 25 = .ok (.iload 5, 2) := by decide +kernel
theorem dX7_change_27 : decode cX7_change 27 = .ok (.ifCond .ge 8, 3) := by decide +kernel
theorem dX7_change_30 : decode cX7_change 30 = .ok (.iload 5, 2) := by decide +kernel
theorem dX7_change_32 : decode cX7_change 32 = .ok (.invokestatic 298, 3) := by decide +kernel
theorem dX7_change_35 : decode cX7_change 35 = .ok (.aload_n 0, 1) := by decide +kernel
theorem dX7_change_36 : decode cX7_change 36 = .ok (.invokevirtual 277, 3) := by decide +kernel
theorem dX7_change_39 : decode cX7_change 39 = .ok (.iload 5, 2) := by decide +kernel
theorem dX7_change_41 : decode cX7_change 41 = .ok (.ireturn, 1) := by decide +kernel
theorem dX7_takeDraft_0 : decode cX7_takeDraft 0 = .ok (.aload_n 0, 1) := by decide +kernel
theorem dX7_takeDraft_1 : decode cX7_takeDraft 1 = .ok (.getfield 25, 3) := by decide +kernel
theorem dX7_takeDraft_4 : decode cX7_takeDraft 4 = .ok (.aload_n 0, 1) := by decide +kernel
theorem dX7_takeDraft_5 : decode cX7_takeDraft 5 = .ok (.getfield 12, 3) := by decide +kernel
theorem dX7_takeDraft_8 : decode cX7_takeDraft 8 = .ok (.invokevirtual 301, 3) := by decide +kernel
theorem dX7_takeDraft_11 : decode cX7_takeDraft 11 = .ok (.aload_n 0, 1) := by decide +kernel
theorem dX7_takeDraft_12 : decode cX7_takeDraft 12 = .ok (.getfield 12, 3) := by decide +kernel
theorem dX7_takeDraft_15 : decode cX7_takeDraft 15 = .ok (.aload_n 0, 1) := by decide +kernel
theorem dX7_takeDraft_16 : decode cX7_takeDraft 16 = .ok (.getfield 16, 3) := by decide +kernel
theorem dX7_takeDraft_19 : decode cX7_takeDraft 19 = .ok (.invokevirtual 163, 3) := by decide +kernel
theorem dX7_takeDraft_22 : decode cX7_takeDraft 22 = .ok (.return_, 1) := by decide +kernel
theorem dX7_refuse_0 : decode cX7_refuse 0 = .ok (.iload_n 0, 1) := by decide +kernel
theorem dX7_refuse_1 : decode cX7_refuse 1 = .ok (.tableswitch 79 (-5) (-1) #[68, 79, 57, 46, 35], 35) := by decide +kernel
theorem dX7_refuse_36 : decode cX7_refuse 36 = .ok (.new 230, 3) := by decide +kernel
theorem dX7_refuse_39 : decode cX7_refuse 39 = .ok (.dup, 1) := by decide +kernel
theorem dX7_refuse_40 : decode cX7_refuse 40 = .ok (.ldc_w 304, 3) := by decide +kernel
theorem dX7_refuse_43 : decode cX7_refuse 43 = .ok (.invokespecial 234, 3) := by decide +kernel
theorem dX7_refuse_46 : decode cX7_refuse 46 = .ok (.athrow, 1) := by decide +kernel
theorem dX7_refuse_47 : decode cX7_refuse 47 = .ok (.new 156, 3) := by decide +kernel
theorem dX7_refuse_50 : decode cX7_refuse 50 = .ok (.dup, 1) := by decide +kernel
theorem dX7_refuse_51 : decode cX7_refuse 51 = .ok (.ldc_w 306, 3) := by decide +kernel
theorem dX7_refuse_54 : decode cX7_refuse 54 = .ok (.invokespecial 160, 3) := by decide +kernel
theorem dX7_refuse_57 : decode cX7_refuse 57 = .ok (.athrow, 1) := by decide +kernel
theorem dX7_refuse_58 : decode cX7_refuse 58 = .ok (.new 308, 3) := by decide +kernel
theorem dX7_refuse_61 : decode cX7_refuse 61 = .ok (.dup, 1) := by decide +kernel
theorem dX7_refuse_62 : decode cX7_refuse 62 = .ok (.ldc_w 310, 3) := by decide +kernel
theorem dX7_refuse_65 : decode cX7_refuse 65 = .ok (.invokespecial 312, 3) := by decide +kernel
theorem dX7_refuse_68 : decode cX7_refuse 68 = .ok (.athrow, 1) := by decide +kernel
theorem dX7_refuse_69 : decode cX7_refuse 69 = .ok (.new 284, 3) := by decide +kernel
theorem dX7_refuse_72 : decode cX7_refuse 72 = .ok (.dup, 1) := by decide +kernel
theorem dX7_refuse_73 : decode cX7_refuse 73 = .ok (.ldc_w 313, 3) := by decide +kernel
theorem dX7_refuse_76 : decode cX7_refuse 76 = .ok (.invokespecial 288, 3) := by decide +kernel
theorem dX7_refuse_79 : decode cX7_refuse 79 = .ok (.athrow, 1) := by decide +kernel
theorem dX7_refuse_80 : decode cX7_refuse 80 = .ok (.new 244, 3) := by decide +kernel
theorem dX7_refuse_83 : decode cX7_refuse 83 = .ok (.dup, 1) := by decide +kernel
theorem dX7_refuse_84 : decode cX7_refuse 84 = .ok (.ldc_w 315, 3) := by decide +kernel
theorem dX7_refuse_87 : decode cX7_refuse 87 = .ok (.invokespecial 248, 3) := by decide +kernel
theorem dX7_refuse_90 : decode cX7_refuse 90 = .ok (.athrow, 1) := by decide +kernel
theorem dX7_needTruck_0 : decode cX7_needTruck 0 = .ok (.aload_n 0, 1) := by decide +kernel
theorem dX7_needTruck_1 : decode cX7_needTruck 1 = .ok (.getfield 12, 3) := by decide +kernel
theorem dX7_needTruck_4 : decode cX7_needTruck 4 = .ok (.iload_n 1, 1) := by decide +kernel
theorem dX7_needTruck_5 : decode cX7_needTruck 5 = .ok (.invokevirtual 317, 3) := by decide +kernel
theorem dX7_needTruck_8 : decode cX7_needTruck 8 = .ok (.ifCond .ne 14, 3) := by decide +kernel
theorem dX7_needTruck_11 : decode cX7_needTruck 11 = .ok (.new 230, 3) := by decide +kernel
theorem dX7_needTruck_14 : decode cX7_needTruck 14 = .ok (.dup, 1) := by decide +kernel
theorem dX7_needTruck_15 : decode cX7_needTruck 15 = .ok (.ldc_w 320, 3) := by decide +kernel
theorem dX7_needTruck_18 : decode cX7_needTruck 18 = .ok (.invokespecial 234, 3) := by decide +kernel
theorem dX7_needTruck_21 : decode cX7_needTruck 21 = .ok (.athrow, 1) := by decide +kernel
theorem dX7_needTruck_22 : decode cX7_needTruck 22 = .ok (.return_, 1) := by decide +kernel
theorem dX7_needDish_0 : decode cX7_needDish 0 = .ok (.iload_n 0, 1) := by decide +kernel
theorem dX7_needDish_1 : decode cX7_needDish 1 = .ok (.invokestatic 322, 3) := by decide +kernel
theorem dX7_needDish_4 : decode cX7_needDish 4 = .ok (.ifCond .ne 14, 3) := by decide +kernel
theorem dX7_needDish_7 : decode cX7_needDish 7 = .ok (.new 230, 3) := by decide +kernel
theorem dX7_needDish_10 : decode cX7_needDish 10 = .ok (.dup, 1) := by decide +kernel
theorem dX7_needDish_11 : decode cX7_needDish 11 = .ok (.ldc_w 325, 3) := by decide +kernel
theorem dX7_needDish_14 : decode cX7_needDish 14 = .ok (.invokespecial 234, 3) := by decide +kernel
theorem dX7_needDish_17 : decode cX7_needDish 17 = .ok (.athrow, 1) := by decide +kernel
theorem dX7_needDish_18 : decode cX7_needDish 18 = .ok (.return_, 1) := by decide +kernel
theorem dX7_needPitch_0 : decode cX7_needPitch 0 = .ok (.iload_n 0, 1) := by decide +kernel
theorem dX7_needPitch_1 : decode cX7_needPitch 1 = .ok (.invokestatic 327, 3) := by decide +kernel
theorem dX7_needPitch_4 : decode cX7_needPitch 4 = .ok (.ifCond .ne 14, 3) := by decide +kernel
theorem dX7_needPitch_7 : decode cX7_needPitch 7 = .ok (.new 230, 3) := by decide +kernel
theorem dX7_needPitch_10 : decode cX7_needPitch 10 = .ok (.dup, 1) := by decide +kernel
theorem dX7_needPitch_11 : decode cX7_needPitch 11 = .ok (.ldc_w 330, 3) := by decide +kernel
theorem dX7_needPitch_14 : decode cX7_needPitch 14 = .ok (.invokespecial 234, 3) := by decide +kernel
theorem dX7_needPitch_17 : decode cX7_needPitch 17 = .ok (.athrow, 1) := by decide +kernel
theorem dX7_needPitch_18 : decode cX7_needPitch 18 = .ok (.return_, 1) := by decide +kernel
theorem dX7_needWeekday_0 : decode cX7_needWeekday 0 = .ok (.iload_n 0, 1) := by decide +kernel
theorem dX7_needWeekday_1 : decode cX7_needWeekday 1 = .ok (.invokestatic 332, 3) := by decide +kernel
theorem dX7_needWeekday_4 : decode cX7_needWeekday 4 = .ok (.ifCond .ne 14, 3) := by decide +kernel
theorem dX7_needWeekday_7 : decode cX7_needWeekday 7 = .ok (.new 156, 3) := by decide +kernel
theorem dX7_needWeekday_10 : decode cX7_needWeekday 10 = .ok (.dup, 1) := by decide +kernel
theorem dX7_needWeekday_11 : decode cX7_needWeekday 11 = .ok (.ldc_w 335, 3) := by decide +kernel
theorem dX7_needWeekday_14 : decode cX7_needWeekday 14 = .ok (.invokespecial 160, 3) := by decide +kernel
theorem dX7_needWeekday_17 : decode cX7_needWeekday 17 = .ok (.athrow, 1) := by decide +kernel
theorem dX7_needWeekday_18 : decode cX7_needWeekday 18 = .ok (.return_, 1) := by decide +kernel
theorem dX7_needFound_0 : decode cX7_needFound 0 = .ok (.iload_n 0, 1) := by decide +kernel
theorem dX7_needFound_1 : decode cX7_needFound 1 = .ok (.iconst (-1), 1) := by decide +kernel
theorem dX7_needFound_2 : decode cX7_needFound 2 = .ok (.if_icmp .ne 14, 3) := by decide +kernel
theorem dX7_needFound_5 : decode cX7_needFound 5 = .ok (.new 284, 3) := by decide +kernel
theorem dX7_needFound_8 : decode cX7_needFound 8 = .ok (.dup, 1) := by decide +kernel
theorem dX7_needFound_9 : decode cX7_needFound 9 = .ok (.ldc_w 337, 3) := by decide +kernel
theorem dX7_needFound_12 : decode cX7_needFound 12 = .ok (.invokespecial 288, 3) := by decide +kernel
theorem dX7_needFound_15 : decode cX7_needFound 15 = .ok (.athrow, 1) := by decide +kernel
theorem dX7_needFound_16 : decode cX7_needFound 16 = .ok (.iload_n 0, 1) := by decide +kernel
theorem dX7_needFound_17 : decode cX7_needFound 17 = .ok (.ireturn, 1) := by decide +kernel
