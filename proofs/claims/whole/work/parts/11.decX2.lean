theorem dX2_init_0 : decode cX2_init 0 = .ok (.aload_n 0, 1) := by decide +kernel
theorem dX2_init_1 : decode cX2_init 1 = .ok (.invokespecial 3, 3) := by decide +kernel
theorem dX2_init_4 : decode cX2_init 4 = .ok (.aload_n 0, 1) := by decide +kernel
theorem dX2_init_5 : decode cX2_init 5 = .ok (.bipush 8, 2) := by decide +kernel
theorem dX2_init_7 : decode cX2_init 7 = .ok (.newarray .int, 2) := by decide +kernel
theorem dX2_init_9 : decode cX2_init 9 = .ok (.putfield 9, 3) := by decide +kernel
theorem dX2_init_12 : decode cX2_init 12 = .ok (.aload_n 0, 1) := by decide +kernel
theorem dX2_init_13 : decode cX2_init 13 = .ok (.bipush 24, 2) := by decide +kernel
theorem dX2_init_15 : decode cX2_init 15 = .ok (.newarray .int, 2) := by decide +kernel
theorem dX2_init_17 : decode cX2_init 17 = .ok (.putfield 15, 3) := by decide +kernel
theorem dX2_init_20 : decode cX2_init 20 = .ok (.aload_n 0, 1) := by decide +kernel
theorem dX2_init_21 : decode cX2_init 21 = .ok (.bipush 24, 2) := by decide +kernel
theorem dX2_init_23 : decode cX2_init 23 = .ok (.newarray .int, 2) := by decide +kernel
theorem dX2_init_25 : decode cX2_init 25 = .ok (.putfield 18, 3) := by decide +kernel
theorem dX2_init_28 : decode cX2_init 28 = .ok (.aload_n 0, 1) := by decide +kernel
theorem dX2_init_29 : decode cX2_init 29 = .ok (.aload_n 1, 1) := by decide +kernel
theorem dX2_init_30 : decode cX2_init 30 = .ok (.putfield 21, 3) := by decide +kernel
theorem dX2_init_33 : decode cX2_init 33 = .ok (.return_, 1) := by decide +kernel
theorem dX2_holds_0 : decode cX2_holds 0 = .ok (.aload_n 0, 1) := by decide +kernel
theorem dX2_holds_1 : decode cX2_holds 1 = .ok (.getfield 25, 3) := by decide +kernel
theorem dX2_holds_4 : decode cX2_holds 4 = .ok (.iload_n 1, 1) := by decide +kernel
theorem dX2_holds_5 : decode cX2_holds 5 = .ok (.ishr, 1) := by decide +kernel
theorem dX2_holds_6 : decode cX2_holds 6 = .ok (.iconst 1, 1) := by decide +kernel
theorem dX2_holds_7 : decode cX2_holds 7 = .ok (.iand, 1) := by decide +kernel
theorem dX2_holds_8 : decode cX2_holds 8 = .ok (.iconst 1, 1) := by decide +kernel
theorem dX2_holds_9 : decode cX2_holds 9 = .ok (.if_icmp .ne 7, 3) := by decide +kernel
theorem dX2_holds_12 : decode cX2_holds 12 = .ok (.iconst 1, 1) := by decide +kernel
theorem dX2_holds_13 : decode cX2_holds 13 = .ok (.goto 4, 3) := by decide +kernel
theorem dX2_holds_16 : decode cX2_holds 16 = .ok (.iconst 0, 1) := by decide +kernel
theorem dX2_holds_17 : decode cX2_holds 17 = .ok (.ireturn, 1) := by decide +kernel
theorem dX2_takeAway_0 : decode cX2_takeAway 0 = .ok (.aload_n 0, 1) := by decide +kernel
theorem dX2_takeAway_1 : decode cX2_takeAway 1 = .ok (.dup, 1) := by decide +kernel
theorem dX2_takeAway_2 : decode cX2_takeAway 2 = .ok (.getfield 25, 3) := by decide +kernel
theorem dX2_takeAway_5 : decode cX2_takeAway 5 = .ok (.iconst 1, 1) := by decide +kernel
theorem dX2_takeAway_6 : decode cX2_takeAway 6 = .ok (.iload_n 1, 1) := by decide +kernel
theorem dX2_takeAway_7 : decode cX2_takeAway 7 = .ok (.ishl, 1) := by decide +kernel
theorem dX2_takeAway_8 : decode cX2_takeAway 8 = .ok (.iconst (-1), 1) := by decide +kernel
theorem dX2_takeAway_9 : decode cX2_takeAway 9 = .ok (.ixor, 1) := by decide +kernel
theorem dX2_takeAway_10 : decode cX2_takeAway 10 = .ok (.iand, 1) := by decide +kernel
theorem dX2_takeAway_11 : decode cX2_takeAway 11 = .ok (.putfield 25, 3) := by decide +kernel
theorem dX2_takeAway_14 : decode cX2_takeAway 14 = .ok (.return_, 1) := by decide +kernel
theorem dX2_takeAllAway_0 : decode cX2_takeAllAway 0 = .ok (.aload_n 0, 1) := by decide +kernel
theorem dX2_takeAllAway_1 : decode cX2_takeAllAway 1 = .ok (.iconst 0, 1) := by decide +kernel
theorem dX2_takeAllAway_2 : decode cX2_takeAllAway 2 = .ok (.putfield 25, 3) := by decide +kernel
theorem dX2_takeAllAway_5 : decode cX2_takeAllAway 5 = .ok (.return_, 1) := by decide +kernel
theorem dX2_put_0 : decode cX2_put 0 = .ok (.aload_n 0, 1) := by decide +kernel
theorem dX2_put_1 : decode cX2_put 1 = .ok (.getfield 9, 3) := by decide +kernel
theorem dX2_put_4 : decode cX2_put 4 = .ok (.iload_n 1, 1) := by decide +kernel
theorem dX2_put_5 : decode cX2_put 5 = .ok (.iload_n 2, 1) := by decide +kernel
theorem dX2_put_6 : decode cX2_put 6 = .ok (.iastore, 1) := by decide +kernel
theorem dX2_put_7 : decode cX2_put 7 = .ok (.aload_n 0, 1) := by decide +kernel
theorem dX2_put_8 : decode cX2_put 8 = .ok (.getfield 15, 3) := by decide +kernel
theorem dX2_put_11 : decode cX2_put 11 = .ok (.iload_n 1, 1) := by decide +kernel
theorem dX2_put_12 : decode cX2_put 12 = .ok (.iconst 3, 1) := by decide +kernel
theorem dX2_put_13 : decode cX2_put 13 = .ok (.imul, 1) := by decide +kernel
theorem dX2_put_14 : decode cX2_put 14 = .ok (.iload_n 3, 1) := by decide +kernel
theorem dX2_put_15 : decode cX2_put 15 = .ok (.iastore, 1) := by decide +kernel
theorem dX2_put_16 : decode cX2_put 16 = .ok (.aload_n 0, 1) := by decide +kernel
theorem dX2_put_17 : decode cX2_put 17 = .ok (.getfield 15, 3) := by decide +kernel
theorem dX2_put_20 : decode cX2_put 20 = .ok (.iload_n 1, 1) := by decide +kernel
theorem dX2_put_21 : decode cX2_put 21 = .ok (.iconst 3, 1) := by decide +kernel
theorem dX2_put_22 : decode cX2_put 22 = .ok (.imul, 1) := by decide +kernel
theorem dX2_put_23 : decode cX2_put 23 = .ok (.iconst 1, 1) := by decide +kernel
theorem dX2_put_24 : decode cX2_put 24 = .ok (.iadd, 1) := by decide +kernel
theorem dX2_put_25 : decode cX2_put 25 = .ok (.iload 4, 2) := by decide +kernel
theorem dX2_put_27 : decode cX2_put 27 = .ok (.iastore, 1) := by decide +kernel
theorem dX2_put_28 : decode cX2_put 28 = .ok (.aload_n 0, 1) := by decide +kernel
theorem dX2_put_29 : decode cX2_put 29 = .ok (.getfield 15, 3) := by decide +kernel
theorem dX2_put_32 : decode cX2_put 32 = .ok (.iload_n 1, 1) := by decide +kernel
theorem dX2_put_33 : decode cX2_put 33 = .ok (.iconst 3, 1) := by decide +kernel
theorem dX2_put_34 : decode cX2_put 34 = .ok (.imul, 1) := by decide +kernel
theorem dX2_put_35 : decode cX2_put 35 = .ok (.iconst 2, 1) := by decide +kernel
theorem dX2_put_36 : decode cX2_put 36 = .ok (.iadd, 1) := by decide +kernel
theorem dX2_put_37 : decode cX2_put 37 = .ok (.iload 5, 2) := by decide +kernel
theorem dX2_put_39 : decode cX2_put 39 = .ok (.iastore, 1) := by decide +kernel
theorem dX2_put_40 : decode cX2_put 40 = .ok (.iconst 0, 1) := by decide +kernel
theorem dX2_put_41 : decode cX2_put 41 = .ok (.istore 6, 2) := by decide +kernel
theorem dX2_put_43 : decode cX2_put 43 = .ok (.iload 6, 2) := by decide +kernel
theorem dX2_put_45 : decode cX2_put 45 = .ok (.iconst 3, 1) := by decide +kernel
theorem dX2_put_46 : decode cX2_put 46 = .ok (.if_icmp .ge 43, 3) := by decide +kernel
theorem dX2_put_49 : decode cX2_put 49 = .ok (.iload_n 1, 1) := by decide +kernel
theorem dX2_put_50 : decode cX2_put 50 = .ok (.iconst 3, 1) := by decide +kernel
theorem dX2_put_51 : decode cX2_put 51 = .ok (.imul, 1) := by decide +kernel
theorem dX2_put_52 : decode cX2_put 52 = .ok (.iload 6, 2) := by decide +kernel
theorem dX2_put_54 : decode cX2_put 54 = .ok (.iadd, 1) := by decide +kernel
theorem dX2_put_55 : decode cX2_put 55 = .ok (.istore 7, 2) := by decide +kernel
theorem dX2_put_57 : decode cX2_put 57 = .ok (.aload_n 0, 1) := by decide +kernel
theorem dX2_put_58 : decode cX2_put 58 = .ok (.getfield 18, 3) := by decide +kernel
theorem dX2_put_61 : decode cX2_put 61 = .ok (.iload 7, 2) := by decide +kernel
theorem dX2_put_63 : decode cX2_put 63 = .ok (.aload_n 0, 1) := by decide +kernel
theorem dX2_put_64 : decode cX2_put 64 = .ok (.getfield 15, 3) := by decide +kernel
theorem dX2_put_67 : decode cX2_put 67 = .ok (.iload 7, 2) := by decide +kernel
theorem dX2_put_69 : decode cX2_put 69 = .ok (.iaload, 1) := by decide +kernel
theorem dX2_put_70 : decode cX2_put 70 = .ok (.aload_n 0, 1) := by decide +kernel
theorem dX2_put_71 : decode cX2_put 71 = .ok (.getfield 21, 3) := by decide +kernel
theorem dX2_put_74 : decode cX2_put 74 = .ok (.iload_n 1, 1) := by decide +kernel
theorem dX2_put_75 : decode cX2_put 75 = .ok (.iload_n 2, 1) := by decide +kernel
theorem dX2_put_76 : decode cX2_put 76 = .ok (.iload 6, 2) := by decide +kernel
theorem dX2_put_78 : decode cX2_put 78 = .ok (.invokevirtual 29, 3) := by decide +kernel
theorem dX2_put_81 : decode cX2_put 81 = .ok (.iadd, 1) := by decide +kernel
theorem dX2_put_82 : decode cX2_put 82 = .ok (.iastore, 1) := by decide +kernel
theorem dX2_put_83 : decode cX2_put 83 = .ok (.iinc 6 1, 3) := by decide +kernel
theorem dX2_put_86 : decode cX2_put 86 = .ok (.goto (-43), 3) := by decide +kernel
theorem dX2_put_89 : decode cX2_put 89 = .ok (.aload_n 0, 1) := by decide +kernel
theorem dX2_put_90 : decode cX2_put 90 = .ok (.dup, 1) := by decide +kernel
theorem dX2_put_91 : decode cX2_put 91 = .ok (.getfield 25, 3) := by decide +kernel
theorem dX2_put_94 : decode cX2_put 94 = .ok (.iconst 1, 1) := by decide +kernel
theorem dX2_put_95 : decode cX2_put 95 = .ok (.iload_n 1, 1) := by decide +kernel
theorem dX2_put_96 : decode cX2_put 96 = .ok (.ishl, 1) := by decide +kernel
theorem dX2_put_97 : decode cX2_put 97 = .ok (.ior, 1) := by decide +kernel
theorem dX2_put_98 : decode cX2_put 98 = .ok (.putfield 25, 3) := by decide +kernel
theorem dX2_put_101 : decode cX2_put 101 = .ok (.return_, 1) := by decide +kernel
theorem dX2_extentOf_0 : decode cX2_extentOf 0 = .ok (.aload_n 0, 1) := by decide +kernel
theorem dX2_extentOf_1 : decode cX2_extentOf 1 = .ok (.getfield 18, 3) := by decide +kernel
theorem dX2_extentOf_4 : decode cX2_extentOf 4 = .ok (.iload_n 1, 1) := by decide +kernel
theorem dX2_extentOf_5 : decode cX2_extentOf 5 = .ok (.iconst 3, 1) := by decide +kernel
theorem dX2_extentOf_6 : decode cX2_extentOf 6 = .ok (.imul, 1) := by decide +kernel
theorem dX2_extentOf_7 : decode cX2_extentOf 7 = .ok (.iload_n 2, 1) := by decide +kernel
theorem dX2_extentOf_8 : decode cX2_extentOf 8 = .ok (.iadd, 1) := by decide +kernel
theorem dX2_extentOf_9 : decode cX2_extentOf 9 = .ok (.iaload, 1) := by decide +kernel
theorem dX2_extentOf_10 : decode cX2_extentOf 10 = .ok (.aload_n 0, 1) := by decide +kernel
theorem dX2_extentOf_11 : decode cX2_extentOf 11 = .ok (.getfield 15, 3) := by decide +kernel
theorem dX2_extentOf_14 : decode cX2_extentOf 14 = .ok (.iload_n 1, 1) := by decide +kernel
theorem dX2_extentOf_15 : decode cX2_extentOf 15 = .ok (.iconst 3, 1) := by decide +kernel
theorem dX2_extentOf_16 : decode cX2_extentOf 16 = .ok (.imul, 1) := by decide +kernel
theorem dX2_extentOf_17 : decode cX2_extentOf 17 = .ok (.iload_n 2, 1) := by decide +kernel
theorem dX2_extentOf_18 : decode cX2_extentOf 18 = .ok (.iadd, 1) := by decide +kernel
theorem dX2_extentOf_19 : decode cX2_extentOf 19 = .ok (.iaload, 1) := by decide +kernel
theorem dX2_extentOf_20 : decode cX2_extentOf 20 = .ok (.isub, 1) := by decide +kernel
theorem dX2_extentOf_21 : decode cX2_extentOf 21 = .ok (.ireturn, 1) := by decide +kernel
theorem dX2_overlapCount_0 : decode cX2_overlapCount 0 = .ok (.iconst 0, 1) := by decide +kernel
theorem dX2_overlapCount_1 : decode cX2_overlapCount 1 = .ok (.istore_n 1, 1) := by decide +kernel
theorem dX2_overlapCount_2 : decode cX2_overlapCount 2 = .ok (.iconst 0, 1) := by decide +kernel
theorem dX2_overlapCount_3 : decode cX2_overlapCount 3 = .ok (.istore_n 2, 1) := by decide +kernel
theorem dX2_overlapCount_4 : decode cX2_overlapCount 4 = .ok (.iload_n 2, 1) := by decide +kernel
theorem dX2_overlapCount_5 : decode cX2_overlapCount 5 = .ok (.bipush 8, 2) := by decide +kernel
theorem dX2_overlapCount_7 : decode cX2_overlapCount 7 = .ok (.if_icmp .ge 55, 3) := by decide +kernel
theorem dX2_overlapCount_10 : decode cX2_overlapCount 10 = .ok (.iload_n 2, 1) := by decide +kernel
theorem dX2_overlapCount_11 : decode cX2_overlapCount 11 = .ok (.iconst 1, 1) := by decide +kernel
theorem dX2_overlapCount_12 : decode cX2_overlapCount 12 = .ok (.iadd, 1) := by decide +kernel
theorem dX2_overlapCount_13 : decode cX2_overlapCount 13 = .ok (.istore_n 3, 1) := by decide +kernel
theorem dX2_overlapCount_14 : decode cX2_overlapCount 14 = .ok (.iload_n 3, 1) := by decide +kernel
theorem dX2_overlapCount_15 : decode cX2_overlapCount 15 = .ok (.bipush 8, 2) := by decide +kernel
theorem dX2_overlapCount_17 : decode cX2_overlapCount 17 = .ok (.if_icmp .ge 39, 3) := by decide +kernel
theorem dX2_overlapCount_20 : decode cX2_overlapCount 20 = .ok (.aload_n 0, 1) := by decide +kernel
theorem dX2_overlapCount_21 : decode cX2_overlapCount 21 = .ok (.iload_n 2, 1) := by decide +kernel
theorem dX2_overlapCount_22 : decode cX2_overlapCount 22 = .ok (.invokevirtual 35, 3) := by decide +kernel
theorem dX2_overlapCount_25 : decode cX2_overlapCount 25 = .ok (.ifCond .eq 25, 3) := by decide +kernel
theorem dX2_overlapCount_28 : decode cX2_overlapCount 28 = .ok (.aload_n 0, 1) := by decide +kernel
theorem dX2_overlapCount_29 : decode cX2_overlapCount 29 = .ok (.iload_n 3, 1) := by decide +kernel
theorem dX2_overlapCount_30 : decode cX2_overlapCount 30 = .ok (.invokevirtual 35, 3) := by decide +kernel
theorem dX2_overlapCount_33 : decode cX2_overlapCount 33 = .ok (.ifCond .eq 17, 3) := by decide +kernel
theorem dX2_overlapCount_36 : decode cX2_overlapCount 36 = .ok (.aload_n 0, 1) := by decide +kernel
theorem dX2_overlapCount_37 : decode cX2_overlapCount 37 = .ok (.iload_n 2, 1) := by decide +kernel
theorem dX2_overlapCount_38 : decode cX2_overlapCount 38 = .ok (.iload_n 3, 1) := by decide +kernel
theorem dX2_overlapCount_39 : decode cX2_overlapCount 39 = .ok (.invokevirtual 39, 3) := by decide +kernel
theorem dX2_overlapCount_42 : decode cX2_overlapCount 42 = .ok (.bipush (-9), 2) := by decide +kernel
theorem dX2_overlapCount_44 : decode cX2_overlapCount 44 = .ok (.if_icmp .ne 6, 3) := by decide +kernel
theorem dX2_overlapCount_47 : decode cX2_overlapCount 47 = .ok (.iinc 1 1, 3) := by decide +kernel
theorem dX2_overlapCount_50 : decode cX2_overlapCount 50 = .ok (.iinc 3 1, 3) := by decide +kernel
theorem dX2_overlapCount_53 : decode cX2_overlapCount 53 = .ok (.goto (-39), 3) := by decide +kernel
theorem dX2_overlapCount_56 : decode cX2_overlapCount 56 = .ok (.iinc 2 1, 3) := by decide +kernel
theorem dX2_overlapCount_59 : decode cX2_overlapCount 59 = .ok (.goto (-55), 3) := by decide +kernel
theorem dX2_overlapCount_62 : decode cX2_overlapCount 62 = .ok (.iload_n 1, 1) := by decide +kernel
theorem dX2_overlapCount_63 : decode cX2_overlapCount 63 = .ok (.ireturn, 1) := by decide +kernel
theorem dX2_firstGap_0 : decode cX2_firstGap 0 = .ok (.iconst 0, 1) := by decide +kernel
theorem dX2_firstGap_1 : decode cX2_firstGap 1 = .ok (.istore_n 3, 1) := by decide +kernel
theorem dX2_firstGap_2 : decode cX2_firstGap 2 = .ok (.iload_n 3, 1) := by decide +kernel
theorem dX2_firstGap_3 : decode cX2_firstGap 3 = .ok (.iconst 3, 1) := by decide +kernel
theorem dX2_firstGap_4 : decode cX2_firstGap 4 = .ok (.if_icmp .ge 65, 3) := by decide +kernel
theorem dX2_firstGap_7 : decode cX2_firstGap 7 = .ok (.aload_n 0, 1) := by decide +kernel
theorem dX2_firstGap_8 : decode cX2_firstGap 8 = .ok (.getfield 18, 3) := by decide +kernel
theorem dX2_firstGap_11 : decode cX2_firstGap 11 = .ok (.iload_n 1, 1) := by decide +kernel
theorem dX2_firstGap_12 : decode cX2_firstGap 12 = .ok (.iconst 3, 1) := by decide +kernel
theorem dX2_firstGap_13 : decode cX2_firstGap 13 = .ok (.imul, 1) := by decide +kernel
theorem dX2_firstGap_14 : decode cX2_firstGap 14 = .ok (.iload_n 3, 1) := by decide +kernel
theorem dX2_firstGap_15 : decode cX2_firstGap 15 = .ok (.iadd, 1) := by decide +kernel
theorem dX2_firstGap_16 : decode cX2_firstGap 16 = .ok (.iaload, 1) := by decide +kernel
theorem dX2_firstGap_17 : decode cX2_firstGap 17 = .ok (.aload_n 0, 1) := by decide +kernel
theorem dX2_firstGap_18 : decode cX2_firstGap 18 = .ok (.getfield 15, 3) := by decide +kernel
theorem dX2_firstGap_21 : decode cX2_firstGap 21 = .ok (.iload_n 2, 1) := by decide +kernel
theorem dX2_firstGap_22 : decode cX2_firstGap 22 = .ok (.iconst 3, 1) := by decide +kernel
theorem dX2_firstGap_23 : decode cX2_firstGap 23 = .ok (.imul, 1) := by decide +kernel
theorem dX2_firstGap_24 : decode cX2_firstGap 24 = .ok (.iload_n 3, 1) := by decide +kernel
theorem dX2_firstGap_25 : decode cX2_firstGap 25 = .ok (.iadd, 1) := by decide +kernel
theorem dX2_firstGap_26 : decode cX2_firstGap 26 = .ok (.iaload, 1) := by decide +kernel
theorem dX2_firstGap_27 : decode cX2_firstGap 27 = .ok (.if_icmp .gt 7, 3) := by decide +kernel
theorem dX2_firstGap_30 : decode cX2_firstGap 30 = .ok (.iconst 2, 1) := by decide +kernel
theorem dX2_firstGap_31 : decode cX2_firstGap 31 = .ok (.iload_n 3, 1) := by decide +kernel
theorem dX2_firstGap_32 : decode cX2_firstGap 32 = .ok (.imul, 1) := by decide +kernel
theorem dX2_firstGap_33 : decode cX2_firstGap 33 = .ok (.ireturn, 1) := by decide +kernel
theorem dX2_firstGap_34 : decode cX2_firstGap 34 = .ok (.aload_n 0, 1) := by decide +kernel
theorem dX2_firstGap_35 : decode cX2_firstGap 35 = .ok (.getfield 18, 3) := by decide +kernel
theorem dX2_firstGap_38 : decode cX2_firstGap 38 = .ok (.iload_n 2, 1) := by decide +kernel
theorem dX2_firstGap_39 : decode cX2_firstGap 39 = .ok (.iconst 3, 1) := by decide +kernel
theorem dX2_firstGap_40 : decode cX2_firstGap 40 = .ok (.imul, 1) := by decide +kernel
theorem dX2_firstGap_41 : decode cX2_firstGap 41 = .ok (.iload_n 3, 1) := by decide +kernel
theorem dX2_firstGap_42 : decode cX2_firstGap 42 = .ok (.iadd, 1) := by decide +kernel
theorem dX2_firstGap_43 : decode cX2_firstGap 43 = .ok (.iaload, 1) := by decide +kernel
theorem dX2_firstGap_44 : decode cX2_firstGap 44 = .ok (.aload_n 0, 1) := by decide +kernel
theorem dX2_firstGap_45 : decode cX2_firstGap 45 = .ok (.getfield 15, 3) := by decide +kernel
theorem dX2_firstGap_48 : decode cX2_firstGap 48 = .ok (.iload_n 1, 1) := by decide +kernel
theorem dX2_firstGap_49 : decode cX2_firstGap 49 = .ok (.iconst 3, 1) := by decide +kernel
theorem dX2_firstGap_50 : decode cX2_firstGap 50 = .ok (.imul, 1) := by decide +kernel
theorem dX2_firstGap_51 : decode cX2_firstGap 51 = .ok (.iload_n 3, 1) := by decide +kernel
theorem dX2_firstGap_52 : decode cX2_firstGap 52 = .ok (.iadd, 1) := by decide +kernel
theorem dX2_firstGap_53 : decode cX2_firstGap 53 = .ok (.iaload, 1) := by decide +kernel
theorem dX2_firstGap_54 : decode cX2_firstGap 54 = .ok (.if_icmp .gt 9, 3) := by decide +kernel
theorem dX2_firstGap_57 : decode cX2_firstGap 57 = .ok (.iconst 2, 1) := by decide +kernel
theorem dX2_firstGap_58 : decode cX2_firstGap 58 = .ok (.iload_n 3, 1) := by decide +kernel
theorem dX2_firstGap_59 : decode cX2_firstGap 59 = .ok (.imul, 1) := by decide +kernel
theorem dX2_firstGap_60 : decode cX2_firstGap 60 = .ok (.iconst 1, 1) := by decide +kernel
theorem dX2_firstGap_61 : decode cX2_firstGap 61 = .ok (.iadd, 1) := by decide +kernel
theorem dX2_firstGap_62 : decode cX2_firstGap 62 = .ok (.ireturn, 1) := by decide +kernel
theorem dX2_firstGap_63 : decode cX2_firstGap 63 = .ok (.iinc 3 1, 3) := by decide +kernel
theorem dX2_firstGap_66 : decode cX2_firstGap 66 = .ok (.goto (-64), 3) := by decide +kernel
theorem dX2_firstGap_69 : decode cX2_firstGap 69 = .ok (.bipush (-9), 2) := by decide +kernel
theorem dX2_firstGap_71 : decode cX2_firstGap 71 = .ok (.ireturn, 1) := by decide +kernel
theorem dX2_heldArea_0 : decode cX2_heldArea 0 = .ok (.aload_n 0, 1) := by decide +kernel
theorem dX2_heldArea_1 : decode cX2_heldArea 1 = .ok (.getfield 15, 3) := by decide +kernel
theorem dX2_heldArea_4 : decode cX2_heldArea 4 = .ok (.iload_n 1, 1) := by decide +kernel
theorem dX2_heldArea_5 : decode cX2_heldArea 5 = .ok (.iconst 3, 1) := by decide +kernel
theorem dX2_heldArea_6 : decode cX2_heldArea 6 = .ok (.imul, 1) := by decide +kernel
theorem dX2_heldArea_7 : decode cX2_heldArea 7 = .ok (.iconst 2, 1) := by decide +kernel
theorem dX2_heldArea_8 : decode cX2_heldArea 8 = .ok (.iadd, 1) := by decide +kernel
theorem dX2_heldArea_9 : decode cX2_heldArea 9 = .ok (.iaload, 1) := by decide +kernel
theorem dX2_heldArea_10 : decode cX2_heldArea 10 = .ok (.istore_n 2, 1) := by decide +kernel
theorem dX2_heldArea_11 : decode cX2_heldArea 11 = .ok (.iload_n 2, 1) := by decide +kernel
theorem dX2_heldArea_12 : decode cX2_heldArea 12 = .ok (.ifCond .ne 17, 3) := by decide +kernel
theorem dX2_heldArea_15 : decode cX2_heldArea 15 = .ok (.aload_n 0, 1) := by decide +kernel
theorem dX2_heldArea_16 : decode cX2_heldArea 16 = .ok (.iload_n 1, 1) := by decide +kernel
theorem dX2_heldArea_17 : decode cX2_heldArea 17 = .ok (.iconst 0, 1) := by decide +kernel
theorem dX2_heldArea_18 : decode cX2_heldArea 18 = .ok (.invokevirtual 43, 3) := by decide +kernel
theorem dX2_heldArea_21 : decode cX2_heldArea 21 = .ok (.aload_n 0, 1) := by decide +kernel
theorem dX2_heldArea_22 : decode cX2_heldArea 22 = .ok (.iload_n 1, 1) := by decide +kernel
theorem dX2_heldArea_23 : decode cX2_heldArea 23 = .ok (.iconst 1, 1) := by decide +kernel
theorem dX2_heldArea_24 : decode cX2_heldArea 24 = .ok (.invokevirtual 43, 3) := by decide +kernel
theorem dX2_heldArea_27 : decode cX2_heldArea 27 = .ok (.imul, 1) := by decide +kernel
theorem dX2_heldArea_28 : decode cX2_heldArea 28 = .ok (.ireturn, 1) := by decide +kernel
theorem dX2_heldArea_29 : decode cX2_heldArea 29 = .ok (.iconst 0, 1) := by decide +kernel
theorem dX2_heldArea_30 : decode cX2_heldArea 30 = .ok (.istore_n 3, 1) := by decide +kernel
theorem dX2_heldArea_31 : decode cX2_heldArea 31 = .ok (.iconst 0, 1) := by decide +kernel
theorem dX2_heldArea_32 : decode cX2_heldArea 32 = .ok (.istore 4, 2) := by decide +kernel
theorem dX2_heldArea_34 : decode cX2_heldArea 34 = .ok (.iload 4, 2) := by decide +kernel
theorem dX2_heldArea_36 : decode cX2_heldArea 36 = .ok (.bipush 8, 2) := by decide +kernel
theorem dX2_heldArea_38 : decode cX2_heldArea 38 = .ok (.if_icmp .ge 53, 3) := by decide +kernel
theorem dX2_heldArea_41 : decode cX2_heldArea 41 = .ok (.aload_n 0, 1) := by decide +kernel
theorem dX2_heldArea_42 : decode cX2_heldArea 42 = .ok (.iload 4, 2) := by decide +kernel
theorem dX2_heldArea_44 : decode cX2_heldArea 44 = .ok (.invokevirtual 35, 3) := by decide +kernel
theorem dX2_heldArea_47 : decode cX2_heldArea 47 = .ok (.ifCond .eq 38, 3) := by decide +kernel
theorem dX2_heldArea_50 : decode cX2_heldArea 50 = .ok (.aload_n 0, 1) := by decide +kernel
theorem dX2_heldArea_51 : decode cX2_heldArea 51 = .ok (.getfield 18, 3) := by decide +kernel
theorem dX2_heldArea_54 : decode cX2_heldArea 54 = .ok (.iload 4, 2) := by decide +kernel
theorem dX2_heldArea_56 : decode cX2_heldArea 56 = .ok (.iconst 3, 1) := by decide +kernel
theorem dX2_heldArea_57 : decode cX2_heldArea 57 = .ok (.imul, 1) := by decide +kernel
theorem dX2_heldArea_58 : decode cX2_heldArea 58 = .ok (.iconst 2, 1) := by decide +kernel
theorem dX2_heldArea_59 : decode cX2_heldArea 59 = .ok (.iadd, 1) := by decide +kernel
theorem dX2_heldArea_60 : decode cX2_heldArea 60 = .ok (.iaload, 1) := by decide +kernel
theorem dX2_heldArea_61 : decode cX2_heldArea 61 = .ok (.iload_n 2, 1) := by decide +kernel
theorem dX2_heldArea_62 : decode cX2_heldArea 62 = .ok (.if_icmp .ne 23, 3) := by decide +kernel
theorem dX2_heldArea_65 : decode cX2_heldArea 65 = .ok (.iload_n 3, 1) := by decide +kernel
theorem dX2_heldArea_66 : decode cX2_heldArea 66 = .ok (.aload_n 0, 1) := by decide +kernel
theorem dX2_heldArea_67 : decode cX2_heldArea 67 = .ok (.iload_n 1, 1) := by decide +kernel
theorem dX2_heldArea_68 : decode cX2_heldArea 68 = .ok (.iload 4, 2) := by decide +kernel
theorem dX2_heldArea_70 : decode cX2_heldArea 70 = .ok (.iconst 0, 1) := by decide +kernel
theorem dX2_heldArea_71 : decode cX2_heldArea 71 = .ok (.invokevirtual 46, 3) := by decide +kernel
theorem dX2_heldArea_74 : decode cX2_heldArea 74 = .ok (.aload_n 0, 1) := by decide +kernel
theorem dX2_heldArea_75 : decode cX2_heldArea 75 = .ok (.iload_n 1, 1) := by decide +kernel
theorem dX2_heldArea_76 : decode cX2_heldArea 76 = .ok (.iload 4, 2) := by decide +kernel
theorem dX2_heldArea_78 : decode cX2_heldArea 78 = .ok (.iconst 1, 1) := by decide +kernel
theorem dX2_heldArea_79 : decode cX2_heldArea 79 = .ok (.invokevirtual 46, 3) := by decide +kernel
theorem dX2_heldArea_82 : decode cX2_heldArea 82 = .ok (.imul, 1) := by decide +kernel
theorem dX2_heldArea_83 : decode cX2_heldArea 83 = .ok (.iadd, 1) := by decide +kernel
theorem dX2_heldArea_84 : decode cX2_heldArea 84 = .ok (.istore_n 3, 1) := by decide +kernel
theorem dX2_heldArea_85 : decode cX2_heldArea 85 = .ok (.iinc 4 1, 3) := by decide +kernel
theorem dX2_heldArea_88 : decode cX2_heldArea 88 = .ok (.goto (-54), 3) := by decide +kernel
theorem dX2_heldArea_91 : decode cX2_heldArea 91 = .ok (.iload_n 3, 1) := by decide +kernel
theorem dX2_heldArea_92 : decode cX2_heldArea 92 = .ok (.ireturn, 1) := by decide +kernel
theorem dX2_commonLength_0 : decode cX2_commonLength 0 = .ok (.aload_n 0, 1) := by decide +kernel
theorem dX2_commonLength_1 : decode cX2_commonLength 1 = .ok (.getfield 15, 3) := by decide +kernel
theorem dX2_commonLength_4 : decode cX2_commonLength 4 = .ok (.iload_n 1, 1) := by decide +kernel
theorem dX2_commonLength_5 : decode cX2_commonLength 5 = .ok (.iconst 3, 1) := by decide +kernel
theorem dX2_commonLength_6 : decode cX2_commonLength 6 = .ok (.imul, 1) := by decide +kernel
theorem dX2_commonLength_7 : decode cX2_commonLength 7 = .ok (.iload_n 3, 1) := by decide +kernel
theorem dX2_commonLength_8 : decode cX2_commonLength 8 = .ok (.iadd, 1) := by decide +kernel
theorem dX2_commonLength_9 : decode cX2_commonLength 9 = .ok (.iaload, 1) := by decide +kernel
theorem dX2_commonLength_10 : decode cX2_commonLength 10 = .ok (.aload_n 0, 1) := by decide +kernel
theorem dX2_commonLength_11 : decode cX2_commonLength 11 = .ok (.getfield 15, 3) := by decide +kernel
theorem dX2_commonLength_14 : decode cX2_commonLength 14 = .ok (.iload_n 2, 1) := by decide +kernel
theorem dX2_commonLength_15 : decode cX2_commonLength 15 = .ok (.iconst 3, 1) := by decide +kernel
theorem dX2_commonLength_16 : decode cX2_commonLength 16 = .ok (.imul, 1) := by decide +kernel
theorem dX2_commonLength_17 : decode cX2_commonLength 17 = .ok (.iload_n 3, 1) := by decide +kernel
theorem dX2_commonLength_18 : decode cX2_commonLength 18 = .ok (.iadd, 1) := by decide +kernel
theorem dX2_commonLength_19 : decode cX2_commonLength 19 = .ok (.iaload, 1) := by decide +kernel
theorem dX2_commonLength_20 : decode cX2_commonLength 20 = .ok (.invokestatic 49, 3) := by decide +kernel
theorem dX2_commonLength_23 : decode cX2_commonLength 23 = .ok (.istore 4, 2) := by decide +kernel
theorem dX2_commonLength_25 : decode cX2_commonLength 25 = .ok (.aload_n 0, 1) := by decide +kernel
theorem dX2_commonLength_26 : decode cX2_commonLength 26 = .ok (.getfield 18, 3) := by decide +kernel
theorem dX2_commonLength_29 : decode cX2_commonLength 29 = .ok (.iload_n 1, 1) := by decide +kernel
theorem dX2_commonLength_30 : decode cX2_commonLength 30 = .ok (.iconst 3, 1) := by decide +kernel
theorem dX2_commonLength_31 : decode cX2_commonLength 31 = .ok (.imul, 1) := by decide +kernel
theorem dX2_commonLength_32 : decode cX2_commonLength 32 = .ok (.iload_n 3, 1) := by decide +kernel
theorem dX2_commonLength_33 : decode cX2_commonLength 33 = .ok (.iadd, 1) := by decide +kernel
theorem dX2_commonLength_34 : decode cX2_commonLength 34 = .ok (.iaload, 1) := by decide +kernel
theorem dX2_commonLength_35 : decode cX2_commonLength 35 = .ok (.aload_n 0, 1) := by decide +kernel
theorem dX2_commonLength_36 : decode cX2_commonLength 36 = .ok (.getfield 18, 3) := by decide +kernel
theorem dX2_commonLength_39 : decode cX2_commonLength 39 = .ok (.iload_n 2, 1) := by decide +kernel
theorem dX2_commonLength_40 : decode cX2_commonLength 40 = .ok (.iconst 3, 1) := by decide +kernel
theorem dX2_commonLength_41 : decode cX2_commonLength 41 = .ok (.imul, 1) := by decide +kernel
theorem dX2_commonLength_42 : decode cX2_commonLength 42 = .ok (.iload_n 3, 1) := by decide +kernel
theorem dX2_commonLength_43 : decode cX2_commonLength 43 = .ok (.iadd, 1) := by decide +kernel
theorem dX2_commonLength_44 : decode cX2_commonLength 44 = .ok (.iaload, 1) := by decide +kernel
theorem dX2_commonLength_45 : decode cX2_commonLength 45 = .ok (.invokestatic 54, 3) := by decide +kernel
theorem dX2_commonLength_48 : decode cX2_commonLength 48 = .ok (.istore 5, 2) := by decide +kernel
theorem dX2_commonLength_50 : decode cX2_commonLength 50 = .ok (.iconst 0, 1) := by decide +kernel
theorem dX2_commonLength_51 : decode cX2_commonLength 51 = .ok (.iload 5, 2) := by decide +kernel
theorem dX2_commonLength_53 : decode cX2_commonLength 53 = .ok (.iload 4, 2) := by decide +kernel
theorem dX2_commonLength_55 : decode cX2_commonLength 55 = .ok (.isub, 1) := by decide +kernel
theorem dX2_commonLength_56 : decode cX2_commonLength 56 = .ok (.invokestatic 49, 3) := by decide +kernel
theorem dX2_commonLength_59 : decode cX2_commonLength 59 = .ok (.ireturn, 1) := by decide +kernel
theorem dX2_weightSum_0 : decode cX2_weightSum 0 = .ok (.iconst 0, 1) := by decide +kernel
theorem dX2_weightSum_1 : decode cX2_weightSum 1 = .ok (.istore_n 1, 1) := by decide +kernel
theorem dX2_weightSum_2 : decode cX2_weightSum 2 = .ok (.iconst 0, 1) := by decide +kernel
theorem dX2_weightSum_3 : decode cX2_weightSum 3 = .ok (.istore_n 2, 1) := by decide +kernel
theorem dX2_weightSum_4 : decode cX2_weightSum 4 = .ok (.iload_n 2, 1) := by decide +kernel
theorem dX2_weightSum_5 : decode cX2_weightSum 5 = .ok (.bipush 8, 2) := by decide +kernel
theorem dX2_weightSum_7 : decode cX2_weightSum 7 = .ok (.if_icmp .ge 29, 3) := by decide +kernel
theorem dX2_weightSum_10 : decode cX2_weightSum 10 = .ok (.aload_n 0, 1) := by decide +kernel
theorem dX2_weightSum_11 : decode cX2_weightSum 11 = .ok (.iload_n 2, 1) := by decide +kernel
theorem dX2_weightSum_12 : decode cX2_weightSum 12 = .ok (.invokevirtual 35, 3) := by decide +kernel
theorem dX2_weightSum_15 : decode cX2_weightSum 15 = .ok (.ifCond .eq 15, 3) := by decide +kernel
theorem dX2_weightSum_18 : decode cX2_weightSum 18 = .ok (.iload_n 1, 1) := by decide +kernel
theorem dX2_weightSum_19 : decode cX2_weightSum 19 = .ok (.aload_n 0, 1) := by decide +kernel
theorem dX2_weightSum_20 : decode cX2_weightSum 20 = .ok (.getfield 21, 3) := by decide +kernel
theorem dX2_weightSum_23 : decode cX2_weightSum 23 = .ok (.getfield 57, 3) := by decide +kernel
theorem dX2_weightSum_26 : decode cX2_weightSum 26 = .ok (.iload_n 2, 1) := by decide +kernel
theorem dX2_weightSum_27 : decode cX2_weightSum 27 = .ok (.iaload, 1) := by decide +kernel
theorem dX2_weightSum_28 : decode cX2_weightSum 28 = .ok (.iadd, 1) := by decide +kernel
theorem dX2_weightSum_29 : decode cX2_weightSum 29 = .ok (.istore_n 1, 1) := by decide +kernel
theorem dX2_weightSum_30 : decode cX2_weightSum 30 = .ok (.iinc 2 1, 3) := by decide +kernel
theorem dX2_weightSum_33 : decode cX2_weightSum 33 = .ok (.goto (-29), 3) := by decide +kernel
theorem dX2_weightSum_36 : decode cX2_weightSum 36 = .ok (.iload_n 1, 1) := by decide +kernel
theorem dX2_weightSum_37 : decode cX2_weightSum 37 = .ok (.ireturn, 1) := by decide +kernel
theorem dX2_doubledMoment_0 : decode cX2_doubledMoment 0 = .ok (.iconst 0, 1) := by decide +kernel
theorem dX2_doubledMoment_1 : decode cX2_doubledMoment 1 = .ok (.istore_n 2, 1) := by decide +kernel
theorem dX2_doubledMoment_2 : decode cX2_doubledMoment 2 = .ok (.iconst 0, 1) := by decide +kernel
theorem dX2_doubledMoment_3 : decode cX2_doubledMoment 3 = .ok (.istore_n 3, 1) := by decide +kernel
theorem dX2_doubledMoment_4 : decode cX2_doubledMoment 4 = .ok (.iload_n 3, 1) := by decide +kernel
theorem dX2_doubledMoment_5 : decode cX2_doubledMoment 5 = .ok (.bipush 8, 2) := by decide +kernel
theorem dX2_doubledMoment_7 : decode cX2_doubledMoment 7 = .ok (.if_icmp .ge 52, 3) := by decide +kernel
theorem dX2_doubledMoment_10 : decode cX2_doubledMoment 10 = .ok (.aload_n 0, 1) := by decide +kernel
theorem dX2_doubledMoment_11 : decode cX2_doubledMoment 11 = .ok (.iload_n 3, 1) := by decide +kernel
theorem dX2_doubledMoment_12 : decode cX2_doubledMoment 12 = .ok (.invokevirtual 35, 3) := by decide +kernel
theorem dX2_doubledMoment_15 : decode cX2_doubledMoment 15 = .ok (.ifCond .eq 38, 3) := by decide +kernel
theorem dX2_doubledMoment_18 : decode cX2_doubledMoment 18 = .ok (.iload_n 3, 1) := by decide +kernel
theorem dX2_doubledMoment_19 : decode cX2_doubledMoment 19 = .ok (.iconst 3, 1) := by decide +kernel
theorem dX2_doubledMoment_20 : decode cX2_doubledMoment 20 = .ok (.imul, 1) := by decide +kernel
theorem dX2_doubledMoment_21 : decode cX2_doubledMoment 21 = .ok (.iload_n 1, 1) := by decide +kernel
theorem dX2_doubledMoment_22 : decode cX2_doubledMoment 22 = .ok (.iadd, 1) := by decide +kernel
theorem dX2_doubledMoment_23 : decode cX2_doubledMoment 23 = .ok (.istore 4, 2) := by decide +kernel
theorem dX2_doubledMoment_25 : decode cX2_doubledMoment 25 = .ok (.iload_n 2, 1) := by decide +kernel
theorem dX2_doubledMoment_26 : decode cX2_doubledMoment 26 = .ok (.aload_n 0, 1) := by decide +kernel
theorem dX2_doubledMoment_27 : decode cX2_doubledMoment 27 = .ok (.getfield 21, 3) := by decide +kernel
theorem dX2_doubledMoment_30 : decode cX2_doubledMoment 30 = .ok (.getfield 57, 3) := by decide +kernel
theorem dX2_doubledMoment_33 : decode cX2_doubledMoment 33 = .ok (.iload_n 3, 1) := by decide +kernel
theorem dX2_doubledMoment_34 : decode cX2_doubledMoment 34 = .ok (.iaload, 1) := by decide +kernel
theorem dX2_doubledMoment_35 : decode cX2_doubledMoment 35 = .ok (.aload_n 0, 1) := by decide +kernel
theorem dX2_doubledMoment_36 : decode cX2_doubledMoment 36 = .ok (.getfield 15, 3) := by decide +kernel
theorem dX2_doubledMoment_39 : decode cX2_doubledMoment 39 = .ok (.iload 4, 2) := by decide +kernel
theorem dX2_doubledMoment_41 : decode cX2_doubledMoment 41 = .ok (.iaload, 1) := by decide +kernel
theorem dX2_doubledMoment_42 : decode cX2_doubledMoment 42 = .ok (.aload_n 0, 1) := by decide +kernel
theorem dX2_doubledMoment_43 : decode cX2_doubledMoment 43 = .ok (.getfield 18, 3) := by decide +kernel
theorem dX2_doubledMoment_46 : decode cX2_doubledMoment 46 = .ok (.iload 4, 2) := by decide +kernel
theorem dX2_doubledMoment_48 : decode cX2_doubledMoment 48 = .ok (.iaload, 1) := by decide +kernel
theorem dX2_doubledMoment_49 : decode cX2_doubledMoment 49 = .ok (.iadd, 1) := by decide +kernel
theorem dX2_doubledMoment_50 : decode cX2_doubledMoment 50 = .ok (.imul, 1) := by decide +kernel
theorem dX2_doubledMoment_51 : decode cX2_doubledMoment 51 = .ok (.iadd, 1) := by decide +kernel
theorem dX2_doubledMoment_52 : decode cX2_doubledMoment 52 = .ok (.istore_n 2, 1) := by decide +kernel
theorem dX2_doubledMoment_53 : decode cX2_doubledMoment 53 = .ok (.iinc 3 1, 3) := by decide +kernel
theorem dX2_doubledMoment_56 : decode cX2_doubledMoment 56 = .ok (.goto (-52), 3) := by decide +kernel
theorem dX2_doubledMoment_59 : decode cX2_doubledMoment 59 = .ok (.iload_n 2, 1) := by decide +kernel
theorem dX2_doubledMoment_60 : decode cX2_doubledMoment 60 = .ok (.ireturn, 1) := by decide +kernel
