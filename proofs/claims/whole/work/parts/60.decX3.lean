theorem dX3_init_0 : decode cX3_init 0 = .ok (.aload_n 0, 1) := by decide +kernel
theorem dX3_init_1 : decode cX3_init 1 = .ok (.invokespecial 3, 3) := by decide +kernel
theorem dX3_init_4 : decode cX3_init 4 = .ok (.aload_n 0, 1) := by decide +kernel
theorem dX3_init_5 : decode cX3_init 5 = .ok (.bipush 8, 2) := by decide +kernel
theorem dX3_init_7 : decode cX3_init 7 = .ok (.newarray .int, 2) := by decide +kernel
theorem dX3_init_9 : decode cX3_init 9 = .ok (.putfield 9, 3) := by decide +kernel
theorem dX3_init_12 : decode cX3_init 12 = .ok (.aload_n 0, 1) := by decide +kernel
theorem dX3_init_13 : decode cX3_init 13 = .ok (.bipush 24, 2) := by decide +kernel
theorem dX3_init_15 : decode cX3_init 15 = .ok (.newarray .int, 2) := by decide +kernel
theorem dX3_init_17 : decode cX3_init 17 = .ok (.putfield 15, 3) := by decide +kernel
theorem dX3_init_20 : decode cX3_init 20 = .ok (.aload_n 0, 1) := by decide +kernel
theorem dX3_init_21 : decode cX3_init 21 = .ok (.bipush 8, 2) := by decide +kernel
theorem dX3_init_23 : decode cX3_init 23 = .ok (.newarray .int, 2) := by decide +kernel
theorem dX3_init_25 : decode cX3_init 25 = .ok (.putfield 18, 3) := by decide +kernel
theorem dX3_init_28 : decode cX3_init 28 = .ok (.aload_n 0, 1) := by decide +kernel
theorem dX3_init_29 : decode cX3_init 29 = .ok (.bipush 24, 2) := by decide +kernel
theorem dX3_init_31 : decode cX3_init 31 = .ok (.newarray .int, 2) := by decide +kernel
theorem dX3_init_33 : decode cX3_init 33 = .ok (.putfield 21, 3) := by decide +kernel
theorem dX3_init_36 : decode cX3_init 36 = .ok (.aload_n 0, 1) := by decide +kernel
theorem dX3_init_37 : decode cX3_init 37 = .ok (.bipush 24, 2) := by decide +kernel
theorem dX3_init_39 : decode cX3_init 39 = .ok (.newarray .int, 2) := by decide +kernel
theorem dX3_init_41 : decode cX3_init 41 = .ok (.putfield 24, 3) := by decide +kernel
theorem dX3_init_44 : decode cX3_init 44 = .ok (.aload_n 0, 1) := by decide +kernel
theorem dX3_init_45 : decode cX3_init 45 = .ok (.bipush 24, 2) := by decide +kernel
theorem dX3_init_47 : decode cX3_init 47 = .ok (.newarray .int, 2) := by decide +kernel
theorem dX3_init_49 : decode cX3_init 49 = .ok (.putfield 27, 3) := by decide +kernel
theorem dX3_init_52 : decode cX3_init 52 = .ok (.aload_n 0, 1) := by decide +kernel
theorem dX3_init_53 : decode cX3_init 53 = .ok (.bipush 24, 2) := by decide +kernel
theorem dX3_init_55 : decode cX3_init 55 = .ok (.newarray .int, 2) := by decide +kernel
theorem dX3_init_57 : decode cX3_init 57 = .ok (.putfield 30, 3) := by decide +kernel
theorem dX3_init_60 : decode cX3_init 60 = .ok (.aload_n 0, 1) := by decide +kernel
theorem dX3_init_61 : decode cX3_init 61 = .ok (.bipush 8, 2) := by decide +kernel
theorem dX3_init_63 : decode cX3_init 63 = .ok (.newarray .int, 2) := by decide +kernel
theorem dX3_init_65 : decode cX3_init 65 = .ok (.putfield 33, 3) := by decide +kernel
theorem dX3_init_68 : decode cX3_init 68 = .ok (.aload_n 0, 1) := by decide +kernel
theorem dX3_init_69 : decode cX3_init 69 = .ok (.bipush 8, 2) := by decide +kernel
theorem dX3_init_71 : decode cX3_init 71 = .ok (.newarray .int, 2) := by decide +kernel
theorem dX3_init_73 : decode cX3_init 73 = .ok (.putfield 36, 3) := by decide +kernel
theorem dX3_init_76 : decode cX3_init 76 = .ok (.aload_n 0, 1) := by decide +kernel
theorem dX3_init_77 : decode cX3_init 77 = .ok (.bipush 8, 2) := by decide +kernel
theorem dX3_init_79 : decode cX3_init 79 = .ok (.newarray .int, 2) := by decide +kernel
theorem dX3_init_81 : decode cX3_init 81 = .ok (.putfield 39, 3) := by decide +kernel
theorem dX3_init_84 : decode cX3_init 84 = .ok (.aload_n 0, 1) := by decide +kernel
theorem dX3_init_85 : decode cX3_init 85 = .ok (.bipush 8, 2) := by decide +kernel
theorem dX3_init_87 : decode cX3_init 87 = .ok (.newarray .int, 2) := by decide +kernel
theorem dX3_init_89 : decode cX3_init 89 = .ok (.putfield 42, 3) := by decide +kernel
theorem dX3_init_92 : decode cX3_init 92 = .ok (.aload_n 0, 1) := by decide +kernel
theorem dX3_init_93 : decode cX3_init 93 = .ok (.aload_n 1, 1) := by decide +kernel
theorem dX3_init_94 : decode cX3_init 94 = .ok (.putfield 45, 3) := by decide +kernel
theorem dX3_init_97 : decode cX3_init 97 = .ok (.return_, 1) := by decide +kernel
theorem dX3_restart_0 : decode cX3_restart 0 = .ok (.aload_n 0, 1) := by decide +kernel
theorem dX3_restart_1 : decode cX3_restart 1 = .ok (.invokevirtual 49, 3) := by decide +kernel
theorem dX3_restart_4 : decode cX3_restart 4 = .ok (.iconst 0, 1) := by decide +kernel
theorem dX3_restart_5 : decode cX3_restart 5 = .ok (.istore_n 1, 1) := by decide +kernel
theorem dX3_restart_6 : decode cX3_restart 6 = .ok (.iload_n 1, 1) := by decide +kernel
theorem dX3_restart_7 : decode cX3_restart 7 = .ok (.aload_n 0, 1) := by decide +kernel
theorem dX3_restart_8 : decode cX3_restart 8 = .ok (.getfield 45, 3) := by decide +kernel
theorem dX3_restart_11 : decode cX3_restart 11 = .ok (.getfield 52, 3) := by decide +kernel
theorem dX3_restart_14 : decode cX3_restart 14 = .ok (.if_icmp .ge 38, 3) := by decide +kernel
theorem dX3_restart_17 : decode cX3_restart 17 = .ok (.iconst 0, 1) := by decide +kernel
theorem dX3_restart_18 : decode cX3_restart 18 = .ok (.istore_n 2, 1) := by decide +kernel
theorem dX3_restart_19 : decode cX3_restart 19 = .ok (.iload_n 2, 1) := by decide +kernel
theorem dX3_restart_20 : decode cX3_restart 20 = .ok (.iconst 3, 1) := by decide +kernel
theorem dX3_restart_21 : decode cX3_restart 21 = .ok (.if_icmp .ge 25, 3) := by decide +kernel
theorem dX3_restart_24 : decode cX3_restart 24 = .ok (.aload_n 0, 1) := by decide +kernel
theorem dX3_restart_25 : decode cX3_restart 25 = .ok (.getfield 15, 3) := by decide +kernel
theorem dX3_restart_28 : decode cX3_restart 28 = .ok (.iload_n 1, 1) := by decide +kernel
theorem dX3_restart_29 : decode cX3_restart 29 = .ok (.iconst 3, 1) := by decide +kernel
theorem dX3_restart_30 : decode cX3_restart 30 = .ok (.imul, 1) := by decide +kernel
theorem dX3_restart_31 : decode cX3_restart 31 = .ok (.iload_n 2, 1) := by decide +kernel
theorem dX3_restart_32 : decode cX3_restart 32 = .ok (.iadd, 1) := by decide +kernel
theorem dX3_restart_33 : decode cX3_restart 33 = .ok (.aload_n 0, 1) := by decide +kernel
theorem dX3_restart_34 : decode cX3_restart 34 = .ok (.iload_n 1, 1) := by decide +kernel
theorem dX3_restart_35 : decode cX3_restart 35 = .ok (.iload_n 2, 1) := by decide +kernel
theorem dX3_restart_36 : decode cX3_restart 36 = .ok (.invokevirtual 58, 3) := by decide +kernel
theorem dX3_restart_39 : decode cX3_restart 39 = .ok (.iastore, 1) := by decide +kernel
theorem dX3_restart_40 : decode cX3_restart 40 = .ok (.iinc 2 1, 3) := by decide +kernel
theorem dX3_restart_43 : decode cX3_restart 43 = .ok (.goto (-24), 3) := by decide +kernel
theorem dX3_restart_46 : decode cX3_restart 46 = .ok (.iinc 1 1, 3) := by decide +kernel
theorem dX3_restart_49 : decode cX3_restart 49 = .ok (.goto (-43), 3) := by decide +kernel
theorem dX3_restart_52 : decode cX3_restart 52 = .ok (.aload_n 0, 1) := by decide +kernel
theorem dX3_restart_53 : decode cX3_restart 53 = .ok (.iconst 0, 1) := by decide +kernel
theorem dX3_restart_54 : decode cX3_restart 54 = .ok (.putfield 62, 3) := by decide +kernel
theorem dX3_restart_57 : decode cX3_restart 57 = .ok (.aload_n 0, 1) := by decide +kernel
theorem dX3_restart_58 : decode cX3_restart 58 = .ok (.aload_n 0, 1) := by decide +kernel
theorem dX3_restart_59 : decode cX3_restart 59 = .ok (.getfield 45, 3) := by decide +kernel
theorem dX3_restart_62 : decode cX3_restart 62 = .ok (.getfield 52, 3) := by decide +kernel
theorem dX3_restart_65 : decode cX3_restart 65 = .ok (.ifCond .ne 7, 3) := by decide +kernel
theorem dX3_restart_68 : decode cX3_restart 68 = .ok (.iconst 1, 1) := by decide +kernel
theorem dX3_restart_69 : decode cX3_restart 69 = .ok (.goto 4, 3) := by decide +kernel
theorem dX3_restart_72 : decode cX3_restart 72 = .ok (.iconst 0, 1) := by decide +kernel
theorem dX3_restart_73 : decode cX3_restart 73 = .ok (.putfield 65, 3) := by decide +kernel
theorem dX3_restart_76 : decode cX3_restart 76 = .ok (.aload_n 0, 1) := by decide +kernel
theorem dX3_restart_77 : decode cX3_restart 77 = .ok (.iconst 0, 1) := by decide +kernel
theorem dX3_restart_78 : decode cX3_restart 78 = .ok (.invokevirtual 68, 3) := by decide +kernel
theorem dX3_restart_81 : decode cX3_restart 81 = .ok (.return_, 1) := by decide +kernel
theorem dX3_orderBoxes_0 : decode cX3_orderBoxes 0 = .ok (.iconst 0, 1) := by decide +kernel
theorem dX3_orderBoxes_1 : decode cX3_orderBoxes 1 = .ok (.istore_n 1, 1) := by decide +kernel
theorem dX3_orderBoxes_2 : decode cX3_orderBoxes 2 = .ok (.iload_n 1, 1) := by decide +kernel
theorem dX3_orderBoxes_3 : decode cX3_orderBoxes 3 = .ok (.aload_n 0, 1) := by decide +kernel
theorem dX3_orderBoxes_4 : decode cX3_orderBoxes 4 = .ok (.getfield 45, 3) := by decide +kernel
theorem dX3_orderBoxes_7 : decode cX3_orderBoxes 7 = .ok (.getfield 52, 3) := by decide +kernel
theorem dX3_orderBoxes_10 : decode cX3_orderBoxes 10 = .ok (.if_icmp .ge 68, 3) := by decide +kernel
theorem dX3_orderBoxes_13 : decode cX3_orderBoxes 13 = .ok (.iload_n 1, 1) := by decide +kernel
theorem dX3_orderBoxes_14 : decode cX3_orderBoxes 14 = .ok (.istore_n 2, 1) := by decide +kernel
theorem dX3_orderBoxes_15 : decode cX3_orderBoxes 15 = .ok (.iload_n 2, 1) := by decide +kernel
theorem dX3_orderBoxes_16 : decode cX3_orderBoxes 16 = .ok (.ifCond .le 49, 3) := by decide +kernel
theorem dX3_orderBoxes_19 : decode cX3_orderBoxes 19 = .ok (.aload_n 0, 1) := by decide +kernel
theorem dX3_orderBoxes_20 : decode cX3_orderBoxes 20 = .ok (.getfield 45, 3) := by decide +kernel
theorem dX3_orderBoxes_23 : decode cX3_orderBoxes 23 = .ok (.aload_n 0, 1) := by decide +kernel
theorem dX3_orderBoxes_24 : decode cX3_orderBoxes 24 = .ok (.getfield 9, 3) := by decide +kernel
theorem dX3_orderBoxes_27 : decode cX3_orderBoxes 27 = .ok (.iload_n 2, 1) := by decide +kernel
theorem dX3_orderBoxes_28 : decode cX3_orderBoxes 28 = .ok (.iconst 1, 1) := by decide +kernel
theorem dX3_orderBoxes_29 : decode cX3_orderBoxes 29 = .ok (.isub, 1) := by decide +kernel
theorem dX3_orderBoxes_30 : decode cX3_orderBoxes 30 = .ok (.iaload, 1) := by decide +kernel
theorem dX3_orderBoxes_31 : decode cX3_orderBoxes 31 = .ok (.invokevirtual 72, 3) := by decide +kernel
theorem dX3_orderBoxes_34 : decode cX3_orderBoxes 34 = .ok (.aload_n 0, 1) := by decide +kernel
theorem dX3_orderBoxes_35 : decode cX3_orderBoxes 35 = .ok (.getfield 45, 3) := by decide +kernel
theorem dX3_orderBoxes_38 : decode cX3_orderBoxes 38 = .ok (.iload_n 1, 1) := by decide +kernel
theorem dX3_orderBoxes_39 : decode cX3_orderBoxes 39 = .ok (.invokevirtual 72, 3) := by decide +kernel
theorem dX3_orderBoxes_42 : decode cX3_orderBoxes 42 = .ok (.if_icmp .ge 23, 3) := by decide +kernel
theorem dX3_orderBoxes_45 : decode cX3_orderBoxes 45 = .ok (.aload_n 0, 1) := by decide +kernel
theorem dX3_orderBoxes_46 : decode cX3_orderBoxes 46 = .ok (.getfield 9, 3) := by decide +kernel
theorem dX3_orderBoxes_49 : decode cX3_orderBoxes 49 = .ok (.iload_n 2, 1) := by decide +kernel
theorem dX3_orderBoxes_50 : decode cX3_orderBoxes 50 = .ok (.aload_n 0, 1) := by decide +kernel
theorem dX3_orderBoxes_51 : decode cX3_orderBoxes 51 = .ok (.getfield 9, 3) := by decide +kernel
theorem dX3_orderBoxes_54 : decode cX3_orderBoxes 54 = .ok (.iload_n 2, 1) := by decide +kernel
theorem dX3_orderBoxes_55 : decode cX3_orderBoxes 55 = .ok (.iconst 1, 1) := by decide +kernel
theorem dX3_orderBoxes_56 : decode cX3_orderBoxes 56 = .ok (.isub, 1) := by decide +kernel
theorem dX3_orderBoxes_57 : decode cX3_orderBoxes 57 = .ok (.iaload, 1) := by decide +kernel
theorem dX3_orderBoxes_58 : decode cX3_orderBoxes 58 = .ok (.iastore, 1) := by decide +kernel
theorem dX3_orderBoxes_59 : decode cX3_orderBoxes 59 = .ok (.iinc 2 (-1), 3) := by decide +kernel
theorem dX3_orderBoxes_62 : decode cX3_orderBoxes 62 = .ok (.goto (-47), 3) := by decide +kernel
theorem dX3_orderBoxes_65 : decode cX3_orderBoxes 65 = .ok (.aload_n 0, 1) := by decide +kernel
theorem dX3_orderBoxes_66 : decode cX3_orderBoxes 66 = .ok (.getfield 9, 3) := by decide +kernel
theorem dX3_orderBoxes_69 : decode cX3_orderBoxes 69 = .ok (.iload_n 2, 1) := by decide +kernel
theorem dX3_orderBoxes_70 : decode cX3_orderBoxes 70 = .ok (.iload_n 1, 1) := by decide +kernel
theorem dX3_orderBoxes_71 : decode cX3_orderBoxes 71 = .ok (.iastore, 1) := by decide +kernel
theorem dX3_orderBoxes_72 : decode cX3_orderBoxes 72 = .ok (.iinc 1 1, 3) := by decide +kernel
theorem dX3_orderBoxes_75 : decode cX3_orderBoxes 75 = .ok (.goto (-73), 3) := by decide +kernel
theorem dX3_orderBoxes_78 : decode cX3_orderBoxes 78 = .ok (.return_, 1) := by decide +kernel
theorem dX3_sumsOfOthers_0 : decode cX3_sumsOfOthers 0 = .ok (.iconst 2, 1) := by decide +kernel
theorem dX3_sumsOfOthers_1 : decode cX3_sumsOfOthers 1 = .ok (.aload_n 0, 1) := by decide +kernel
theorem dX3_sumsOfOthers_2 : decode cX3_sumsOfOthers 2 = .ok (.getfield 45, 3) := by decide +kernel
theorem dX3_sumsOfOthers_5 : decode cX3_sumsOfOthers 5 = .ok (.getfield 76, 3) := by decide +kernel
theorem dX3_sumsOfOthers_8 : decode cX3_sumsOfOthers 8 = .ok (.iload_n 2, 1) := by decide +kernel
theorem dX3_sumsOfOthers_9 : decode cX3_sumsOfOthers 9 = .ok (.iaload, 1) := by decide +kernel
theorem dX3_sumsOfOthers_10 : decode cX3_sumsOfOthers 10 = .ok (.ishl, 1) := by decide +kernel
theorem dX3_sumsOfOthers_11 : decode cX3_sumsOfOthers 11 = .ok (.iconst 1, 1) := by decide +kernel
theorem dX3_sumsOfOthers_12 : decode cX3_sumsOfOthers 12 = .ok (.isub, 1) := by decide +kernel
theorem dX3_sumsOfOthers_13 : decode cX3_sumsOfOthers 13 = .ok (.istore_n 3, 1) := by decide +kernel
theorem dX3_sumsOfOthers_14 : decode cX3_sumsOfOthers 14 = .ok (.iconst 1, 1) := by decide +kernel
theorem dX3_sumsOfOthers_15 : decode cX3_sumsOfOthers 15 = .ok (.istore 4, 2) := by decide +kernel
theorem dX3_sumsOfOthers_17 : decode cX3_sumsOfOthers 17 = .ok (.iconst 0, 1) := by decide +kernel
theorem dX3_sumsOfOthers_18 : decode cX3_sumsOfOthers 18 = .ok (.istore 5, 2) := by decide +kernel
theorem dX3_sumsOfOthers_20 : decode cX3_sumsOfOthers 20 = .ok (.iload 5, 2) := by decide +kernel
theorem dX3_sumsOfOthers_22 : decode cX3_sumsOfOthers 22 = .ok (.aload_n 0, 1) := by decide +kernel
theorem dX3_sumsOfOthers_23 : decode cX3_sumsOfOthers 23 = .ok (.getfield 45, 3) := by decide +kernel
theorem dX3_sumsOfOthers_26 : decode cX3_sumsOfOthers 26 = .ok (.getfield 52, 3) := by decide +kernel
theorem dX3_sumsOfOthers_29 : decode cX3_sumsOfOthers 29 = .ok (.if_icmp .ge 28, 3) := by decide +kernel
theorem dX3_sumsOfOthers_32 : decode cX3_sumsOfOthers 32 = .ok (.iload 5, 2) := by decide +kernel
theorem dX3_sumsOfOthers_34 : decode cX3_sumsOfOthers 34 = .ok (.iload_n 1, 1) := by decide +kernel
theorem dX3_sumsOfOthers_35 : decode cX3_sumsOfOthers 35 = .ok (.if_icmp .eq 16, 3) := by decide +kernel
theorem dX3_sumsOfOthers_38 : decode cX3_sumsOfOthers 38 = .ok (.aload_n 0, 1) := by decide +kernel
theorem dX3_sumsOfOthers_39 : decode cX3_sumsOfOthers 39 = .ok (.iload 4, 2) := by decide +kernel
theorem dX3_sumsOfOthers_41 : decode cX3_sumsOfOthers 41 = .ok (.iload 5, 2) := by decide +kernel
theorem dX3_sumsOfOthers_43 : decode cX3_sumsOfOthers 43 = .ok (.iload_n 2, 1) := by decide +kernel
theorem dX3_sumsOfOthers_44 : decode cX3_sumsOfOthers 44 = .ok (.invokevirtual 79, 3) := by decide +kernel
theorem dX3_sumsOfOthers_47 : decode cX3_sumsOfOthers 47 = .ok (.iload_n 3, 1) := by decide +kernel
theorem dX3_sumsOfOthers_48 : decode cX3_sumsOfOthers 48 = .ok (.iand, 1) := by decide +kernel
theorem dX3_sumsOfOthers_49 : decode cX3_sumsOfOthers 49 = .ok (.istore 4, 2) := by decide +kernel
theorem dX3_sumsOfOthers_51 : decode cX3_sumsOfOthers 51 = .ok (.iinc 5 1, 3) := by decide +kernel
theorem dX3_sumsOfOthers_54 : decode cX3_sumsOfOthers 54 = .ok (.goto (-34), 3) := by decide +kernel
theorem dX3_sumsOfOthers_57 : decode cX3_sumsOfOthers 57 = .ok (.iload 4, 2) := by decide +kernel
theorem dX3_sumsOfOthers_59 : decode cX3_sumsOfOthers 59 = .ok (.ireturn, 1) := by decide +kernel
theorem dX3_withExtents_0 : decode cX3_withExtents 0 = .ok (.iload_n 1, 1) := by decide +kernel
theorem dX3_withExtents_1 : decode cX3_withExtents 1 = .ok (.istore 4, 2) := by decide +kernel
theorem dX3_withExtents_3 : decode cX3_withExtents 3 = .ok (.iconst 0, 1) := by decide +kernel
theorem dX3_withExtents_4 : decode cX3_withExtents 4 = .ok (.istore 5, 2) := by decide +kernel
theorem dX3_withExtents_6 : decode cX3_withExtents 6 = .ok (.iload 5, 2) := by decide +kernel
theorem dX3_withExtents_8 : decode cX3_withExtents 8 = .ok (.bipush 6, 2) := by decide +kernel
theorem dX3_withExtents_10 : decode cX3_withExtents 10 = .ok (.if_icmp .ge 40, 3) := by decide +kernel
theorem dX3_withExtents_13 : decode cX3_withExtents 13 = .ok (.aload_n 0, 1) := by decide +kernel
theorem dX3_withExtents_14 : decode cX3_withExtents 14 = .ok (.getfield 45, 3) := by decide +kernel
theorem dX3_withExtents_17 : decode cX3_withExtents 17 = .ok (.iload_n 2, 1) := by decide +kernel
theorem dX3_withExtents_18 : decode cX3_withExtents 18 = .ok (.iload 5, 2) := by decide +kernel
theorem dX3_withExtents_20 : decode cX3_withExtents 20 = .ok (.invokevirtual 83, 3) := by decide +kernel
theorem dX3_withExtents_23 : decode cX3_withExtents 23 = .ok (.ifCond .eq 21, 3) := by decide +kernel
theorem dX3_withExtents_26 : decode cX3_withExtents 26 = .ok (.iload 4, 2) := by decide +kernel
theorem dX3_withExtents_28 : decode cX3_withExtents 28 = .ok (.iload_n 1, 1) := by decide +kernel
theorem dX3_withExtents_29 : decode cX3_withExtents 29 = .ok (.aload_n 0, 1) := by decide +kernel
theorem dX3_withExtents_30 : decode cX3_withExtents 30 = .ok (.getfield 45, 3) := by decide +kernel
theorem dX3_withExtents_33 : decode cX3_withExtents 33 = .ok (.iload_n 2, 1) := by decide +kernel
theorem dX3_withExtents_34 : decode cX3_withExtents 34 = .ok (.iload 5, 2) := by decide +kernel
theorem dX3_withExtents_36 : decode cX3_withExtents 36 = .ok (.iload_n 3, 1) := by decide +kernel
theorem dX3_withExtents_37 : decode cX3_withExtents 37 = .ok (.invokevirtual 87, 3) := by decide +kernel
theorem dX3_withExtents_40 : decode cX3_withExtents 40 = .ok (.ishl, 1) := by decide +kernel
theorem dX3_withExtents_41 : decode cX3_withExtents 41 = .ok (.ior, 1) := by decide +kernel
theorem dX3_withExtents_42 : decode cX3_withExtents 42 = .ok (.istore 4, 2) := by decide +kernel
theorem dX3_withExtents_44 : decode cX3_withExtents 44 = .ok (.iinc 5 1, 3) := by decide +kernel
theorem dX3_withExtents_47 : decode cX3_withExtents 47 = .ok (.goto (-41), 3) := by decide +kernel
theorem dX3_withExtents_50 : decode cX3_withExtents 50 = .ok (.iload 4, 2) := by decide +kernel
theorem dX3_withExtents_52 : decode cX3_withExtents 52 = .ok (.ireturn, 1) := by decide +kernel
theorem dX3_coordinateCount_0 : decode cX3_coordinateCount 0 = .ok (.aload_n 0, 1) := by decide +kernel
theorem dX3_coordinateCount_1 : decode cX3_coordinateCount 1 = .ok (.getfield 15, 3) := by decide +kernel
theorem dX3_coordinateCount_4 : decode cX3_coordinateCount 4 = .ok (.iload_n 1, 1) := by decide +kernel
theorem dX3_coordinateCount_5 : decode cX3_coordinateCount 5 = .ok (.iconst 3, 1) := by decide +kernel
theorem dX3_coordinateCount_6 : decode cX3_coordinateCount 6 = .ok (.imul, 1) := by decide +kernel
theorem dX3_coordinateCount_7 : decode cX3_coordinateCount 7 = .ok (.iload_n 2, 1) := by decide +kernel
theorem dX3_coordinateCount_8 : decode cX3_coordinateCount 8 = .ok (.iadd, 1) := by decide +kernel
theorem dX3_coordinateCount_9 : decode cX3_coordinateCount 9 = .ok (.iaload, 1) := by decide +kernel
theorem dX3_coordinateCount_10 : decode cX3_coordinateCount 10 = .ok (.invokestatic 90, 3) := by decide +kernel
theorem dX3_coordinateCount_13 : decode cX3_coordinateCount 13 = .ok (.ireturn, 1) := by decide +kernel
theorem dX3_wayCount_0 : decode cX3_wayCount 0 = .ok (.iconst 0, 1) := by decide +kernel
theorem dX3_wayCount_1 : decode cX3_wayCount 1 = .ok (.istore_n 2, 1) := by decide +kernel
theorem dX3_wayCount_2 : decode cX3_wayCount 2 = .ok (.iconst 0, 1) := by decide +kernel
theorem dX3_wayCount_3 : decode cX3_wayCount 3 = .ok (.istore_n 3, 1) := by decide +kernel
theorem dX3_wayCount_4 : decode cX3_wayCount 4 = .ok (.iload_n 3, 1) := by decide +kernel
theorem dX3_wayCount_5 : decode cX3_wayCount 5 = .ok (.bipush 6, 2) := by decide +kernel
theorem dX3_wayCount_7 : decode cX3_wayCount 7 = .ok (.if_icmp .ge 56, 3) := by decide +kernel
theorem dX3_wayCount_10 : decode cX3_wayCount 10 = .ok (.aload_n 0, 1) := by decide +kernel
theorem dX3_wayCount_11 : decode cX3_wayCount 11 = .ok (.getfield 45, 3) := by decide +kernel
theorem dX3_wayCount_14 : decode cX3_wayCount 14 = .ok (.iload_n 1, 1) := by decide +kernel
theorem dX3_wayCount_15 : decode cX3_wayCount 15 = .ok (.iload_n 3, 1) := by decide +kernel
theorem dX3_wayCount_16 : decode cX3_wayCount 16 = .ok (.invokevirtual 95, 3) := by decide +kernel
theorem dX3_wayCount_19 : decode cX3_wayCount 19 = .ok (.ifCond .eq 38, 3) := by decide +kernel
theorem dX3_wayCount_22 : decode cX3_wayCount 22 = .ok (.iload_n 2, 1) := by decide +kernel
theorem dX3_wayCount_23 : decode cX3_wayCount 23 = .ok (.aload_n 0, 1) := by decide +kernel
theorem dX3_wayCount_24 : decode cX3_wayCount 24 = .ok (.iload_n 1, 1) := by decide +kernel
theorem dX3_wayCount_25 : decode cX3_wayCount 25 = .ok (.iload_n 3, 1) := by decide +kernel
theorem dX3_wayCount_26 : decode cX3_wayCount 26 = .ok (.iconst 0, 1) := by decide +kernel
theorem dX3_wayCount_27 : decode cX3_wayCount 27 = .ok (.invokevirtual 98, 3) := by decide +kernel
theorem dX3_wayCount_30 : decode cX3_wayCount 30 = .ok (.invokestatic 90, 3) := by decide +kernel
theorem dX3_wayCount_33 : decode cX3_wayCount 33 = .ok (.aload_n 0, 1) := by decide +kernel
theorem dX3_wayCount_34 : decode cX3_wayCount 34 = .ok (.iload_n 1, 1) := by decide +kernel
theorem dX3_wayCount_35 : decode cX3_wayCount 35 = .ok (.iload_n 3, 1) := by decide +kernel
theorem dX3_wayCount_36 : decode cX3_wayCount 36 = .ok (.iconst 1, 1) := by decide +kernel
theorem dX3_wayCount_37 : decode cX3_wayCount 37 = .ok (.invokevirtual 98, 3) := by decide +kernel
theorem dX3_wayCount_40 : decode cX3_wayCount 40 = .ok (.invokestatic 90, 3) := by decide +kernel
theorem dX3_wayCount_43 : decode cX3_wayCount 43 = .ok (.imul, 1) := by decide +kernel
theorem dX3_wayCount_44 : decode cX3_wayCount 44 = .ok (.aload_n 0, 1) := by decide +kernel
theorem dX3_wayCount_45 : decode cX3_wayCount 45 = .ok (.iload_n 1, 1) := by decide +kernel
theorem dX3_wayCount_46 : decode cX3_wayCount 46 = .ok (.iload_n 3, 1) := by decide +kernel
theorem dX3_wayCount_47 : decode cX3_wayCount 47 = .ok (.iconst 2, 1) := by decide +kernel
theorem dX3_wayCount_48 : decode cX3_wayCount 48 = .ok (.invokevirtual 98, 3) := by decide +kernel
theorem dX3_wayCount_51 : decode cX3_wayCount 51 = .ok (.invokestatic 90, 3) := by decide +kernel
theorem dX3_wayCount_54 : decode cX3_wayCount 54 = .ok (.imul, 1) := by decide +kernel
theorem dX3_wayCount_55 : decode cX3_wayCount 55 = .ok (.iadd, 1) := by decide +kernel
theorem dX3_wayCount_56 : decode cX3_wayCount 56 = .ok (.istore_n 2, 1) := by decide +kernel
theorem dX3_wayCount_57 : decode cX3_wayCount 57 = .ok (.iinc 3 1, 3) := by decide +kernel
theorem dX3_wayCount_60 : decode cX3_wayCount 60 = .ok (.goto (-56), 3) := by decide +kernel
theorem dX3_wayCount_63 : decode cX3_wayCount 63 = .ok (.iload_n 2, 1) := by decide +kernel
theorem dX3_wayCount_64 : decode cX3_wayCount 64 = .ok (.ireturn, 1) := by decide +kernel
theorem dX3_wayCoordinates_0 : decode cX3_wayCoordinates 0 = .ok (.aload_n 0, 1) := by decide +kernel
theorem dX3_wayCoordinates_1 : decode cX3_wayCoordinates 1 = .ok (.getfield 45, 3) := by decide +kernel
theorem dX3_wayCoordinates_4 : decode cX3_wayCoordinates 4 = .ok (.getfield 76, 3) := by decide +kernel
theorem dX3_wayCoordinates_7 : decode cX3_wayCoordinates 7 = .ok (.iload_n 3, 1) := by decide +kernel
theorem dX3_wayCoordinates_8 : decode cX3_wayCoordinates 8 = .ok (.iaload, 1) := by decide +kernel
theorem dX3_wayCoordinates_9 : decode cX3_wayCoordinates 9 = .ok (.aload_n 0, 1) := by decide +kernel
theorem dX3_wayCoordinates_10 : decode cX3_wayCoordinates 10 = .ok (.getfield 45, 3) := by decide +kernel
theorem dX3_wayCoordinates_13 : decode cX3_wayCoordinates 13 = .ok (.iload_n 1, 1) := by decide +kernel
theorem dX3_wayCoordinates_14 : decode cX3_wayCoordinates 14 = .ok (.iload_n 2, 1) := by decide +kernel
theorem dX3_wayCoordinates_15 : decode cX3_wayCoordinates 15 = .ok (.iload_n 3, 1) := by decide +kernel
theorem dX3_wayCoordinates_16 : decode cX3_wayCoordinates 16 = .ok (.invokevirtual 87, 3) := by decide +kernel
theorem dX3_wayCoordinates_19 : decode cX3_wayCoordinates 19 = .ok (.isub, 1) := by decide +kernel
theorem dX3_wayCoordinates_20 : decode cX3_wayCoordinates 20 = .ok (.istore 4, 2) := by decide +kernel
theorem dX3_wayCoordinates_22 : decode cX3_wayCoordinates 22 = .ok (.aload_n 0, 1) := by decide +kernel
theorem dX3_wayCoordinates_23 : decode cX3_wayCoordinates 23 = .ok (.getfield 15, 3) := by decide +kernel
theorem dX3_wayCoordinates_26 : decode cX3_wayCoordinates 26 = .ok (.iload_n 1, 1) := by decide +kernel
theorem dX3_wayCoordinates_27 : decode cX3_wayCoordinates 27 = .ok (.iconst 3, 1) := by decide +kernel
theorem dX3_wayCoordinates_28 : decode cX3_wayCoordinates 28 = .ok (.imul, 1) := by decide +kernel
theorem dX3_wayCoordinates_29 : decode cX3_wayCoordinates 29 = .ok (.iload_n 3, 1) := by decide +kernel
theorem dX3_wayCoordinates_30 : decode cX3_wayCoordinates 30 = .ok (.iadd, 1) := by decide +kernel
theorem dX3_wayCoordinates_31 : decode cX3_wayCoordinates 31 = .ok (.iaload, 1) := by decide +kernel
theorem dX3_wayCoordinates_32 : decode cX3_wayCoordinates 32 = .ok (.iconst 2, 1) := by decide +kernel
theorem dX3_wayCoordinates_33 : decode cX3_wayCoordinates 33 = .ok (.iload 4, 2) := by decide +kernel
theorem dX3_wayCoordinates_35 : decode cX3_wayCoordinates 35 = .ok (.ishl, 1) := by decide +kernel
theorem dX3_wayCoordinates_36 : decode cX3_wayCoordinates 36 = .ok (.iconst 1, 1) := by decide +kernel
theorem dX3_wayCoordinates_37 : decode cX3_wayCoordinates 37 = .ok (.isub, 1) := by decide +kernel
theorem dX3_wayCoordinates_38 : decode cX3_wayCoordinates 38 = .ok (.iand, 1) := by decide +kernel
theorem dX3_wayCoordinates_39 : decode cX3_wayCoordinates 39 = .ok (.ireturn, 1) := by decide +kernel
theorem dX3_goOn_0 : decode cX3_goOn 0 = .ok (.aload_n 0, 1) := by decide +kernel
theorem dX3_goOn_1 : decode cX3_goOn 1 = .ok (.iload_n 1, 1) := by decide +kernel
theorem dX3_goOn_2 : decode cX3_goOn 2 = .ok (.putfield 101, 3) := by decide +kernel
theorem dX3_goOn_5 : decode cX3_goOn 5 = .ok (.iconst 0, 1) := by decide +kernel
theorem dX3_goOn_6 : decode cX3_goOn 6 = .ok (.istore_n 2, 1) := by decide +kernel
theorem dX3_goOn_7 : decode cX3_goOn 7 = .ok (.iload_n 2, 1) := by decide +kernel
theorem dX3_goOn_8 : decode cX3_goOn 8 = .ok (.ldc 104, 2) := by decide +kernel
theorem dX3_goOn_10 : decode cX3_goOn 10 = .ok (.if_icmp .ge 56, 3) := by decide +kernel
theorem dX3_goOn_13 : decode cX3_goOn 13 = .ok (.aload_n 0, 1) := by decide +kernel
theorem dX3_goOn_14 : decode cX3_goOn 14 = .ok (.getfield 65, 3) := by decide +kernel
theorem dX3_goOn_17 : decode cX3_goOn 17 = .ok (.ifCond .ne 49, 3) := by decide +kernel
theorem dX3_goOn_20 : decode cX3_goOn 20 = .ok (.aload_n 0, 1) := by decide +kernel
theorem dX3_goOn_21 : decode cX3_goOn 21 = .ok (.getfield 39, 3) := by decide +kernel
theorem dX3_goOn_24 : decode cX3_goOn 24 = .ok (.aload_n 0, 1) := by decide +kernel
theorem dX3_goOn_25 : decode cX3_goOn 25 = .ok (.getfield 105, 3) := by decide +kernel
theorem dX3_goOn_28 : decode cX3_goOn 28 = .ok (.iaload, 1) := by decide +kernel
theorem dX3_goOn_29 : decode cX3_goOn 29 = .ok (.ifCond .eq 20, 3) := by decide +kernel
theorem dX3_goOn_32 : decode cX3_goOn 32 = .ok (.aload_n 0, 1) := by decide +kernel
theorem dX3_goOn_33 : decode cX3_goOn 33 = .ok (.getfield 101, 3) := by decide +kernel
theorem dX3_goOn_36 : decode cX3_goOn 36 = .ok (.ifCond .ne 6, 3) := by decide +kernel
theorem dX3_goOn_39 : decode cX3_goOn 39 = .ok (.goto 27, 3) := by decide +kernel
theorem dX3_goOn_42 : decode cX3_goOn 42 = .ok (.aload_n 0, 1) := by decide +kernel
theorem dX3_goOn_43 : decode cX3_goOn 43 = .ok (.invokevirtual 108, 3) := by decide +kernel
theorem dX3_goOn_46 : decode cX3_goOn 46 = .ok (.goto 14, 3) := by decide +kernel
theorem dX3_goOn_49 : decode cX3_goOn 49 = .ok (.aload_n 0, 1) := by decide +kernel
theorem dX3_goOn_50 : decode cX3_goOn 50 = .ok (.invokevirtual 111, 3) := by decide +kernel
theorem dX3_goOn_53 : decode cX3_goOn 53 = .ok (.ifCond .ne 7, 3) := by decide +kernel
theorem dX3_goOn_56 : decode cX3_goOn 56 = .ok (.aload_n 0, 1) := by decide +kernel
theorem dX3_goOn_57 : decode cX3_goOn 57 = .ok (.invokevirtual 115, 3) := by decide +kernel
theorem dX3_goOn_60 : decode cX3_goOn 60 = .ok (.iinc 2 1, 3) := by decide +kernel
theorem dX3_goOn_63 : decode cX3_goOn 63 = .ok (.goto (-56), 3) := by decide +kernel
theorem dX3_goOn_66 : decode cX3_goOn 66 = .ok (.aload_n 0, 1) := by decide +kernel
theorem dX3_goOn_67 : decode cX3_goOn 67 = .ok (.getfield 65, 3) := by decide +kernel
theorem dX3_goOn_70 : decode cX3_goOn 70 = .ok (.ireturn, 1) := by decide +kernel
theorem dX3_enter_0 : decode cX3_enter 0 = .ok (.aload_n 0, 1) := by decide +kernel
theorem dX3_enter_1 : decode cX3_enter 1 = .ok (.iload_n 1, 1) := by decide +kernel
theorem dX3_enter_2 : decode cX3_enter 2 = .ok (.putfield 105, 3) := by decide +kernel
theorem dX3_enter_5 : decode cX3_enter 5 = .ok (.aload_n 0, 1) := by decide +kernel
theorem dX3_enter_6 : decode cX3_enter 6 = .ok (.getfield 18, 3) := by decide +kernel
theorem dX3_enter_9 : decode cX3_enter 9 = .ok (.aload_n 0, 1) := by decide +kernel
theorem dX3_enter_10 : decode cX3_enter 10 = .ok (.getfield 105, 3) := by decide +kernel
theorem dX3_enter_13 : decode cX3_enter 13 = .ok (.iconst (-1), 1) := by decide +kernel
theorem dX3_enter_14 : decode cX3_enter 14 = .ok (.iastore, 1) := by decide +kernel
theorem dX3_enter_15 : decode cX3_enter 15 = .ok (.aload_n 0, 1) := by decide +kernel
theorem dX3_enter_16 : decode cX3_enter 16 = .ok (.getfield 33, 3) := by decide +kernel
theorem dX3_enter_19 : decode cX3_enter 19 = .ok (.aload_n 0, 1) := by decide +kernel
theorem dX3_enter_20 : decode cX3_enter 20 = .ok (.getfield 105, 3) := by decide +kernel
theorem dX3_enter_23 : decode cX3_enter 23 = .ok (.iconst 0, 1) := by decide +kernel
theorem dX3_enter_24 : decode cX3_enter 24 = .ok (.iastore, 1) := by decide +kernel
theorem dX3_enter_25 : decode cX3_enter 25 = .ok (.aload_n 0, 1) := by decide +kernel
theorem dX3_enter_26 : decode cX3_enter 26 = .ok (.getfield 36, 3) := by decide +kernel
theorem dX3_enter_29 : decode cX3_enter 29 = .ok (.aload_n 0, 1) := by decide +kernel
theorem dX3_enter_30 : decode cX3_enter 30 = .ok (.getfield 105, 3) := by decide +kernel
theorem dX3_enter_33 : decode cX3_enter 33 = .ok (.iconst 0, 1) := by decide +kernel
theorem dX3_enter_34 : decode cX3_enter 34 = .ok (.iastore, 1) := by decide +kernel
theorem dX3_enter_35 : decode cX3_enter 35 = .ok (.aload_n 0, 1) := by decide +kernel
theorem dX3_enter_36 : decode cX3_enter 36 = .ok (.getfield 39, 3) := by decide +kernel
theorem dX3_enter_39 : decode cX3_enter 39 = .ok (.aload_n 0, 1) := by decide +kernel
theorem dX3_enter_40 : decode cX3_enter 40 = .ok (.getfield 105, 3) := by decide +kernel
theorem dX3_enter_43 : decode cX3_enter 43 = .ok (.iconst 0, 1) := by decide +kernel
theorem dX3_enter_44 : decode cX3_enter 44 = .ok (.iastore, 1) := by decide +kernel
theorem dX3_enter_45 : decode cX3_enter 45 = .ok (.aload_n 0, 1) := by decide +kernel
theorem dX3_enter_46 : decode cX3_enter 46 = .ok (.getfield 42, 3) := by decide +kernel
theorem dX3_enter_49 : decode cX3_enter 49 = .ok (.aload_n 0, 1) := by decide +kernel
theorem dX3_enter_50 : decode cX3_enter 50 = .ok (.getfield 105, 3) := by decide +kernel
theorem dX3_enter_53 : decode cX3_enter 53 = .ok (.iconst 0, 1) := by decide +kernel
theorem dX3_enter_54 : decode cX3_enter 54 = .ok (.iastore, 1) := by decide +kernel
theorem dX3_enter_55 : decode cX3_enter 55 = .ok (.return_, 1) := by decide +kernel
theorem dX3_goBack_0 : decode cX3_goBack 0 = .ok (.aload_n 0, 1) := by decide +kernel
theorem dX3_goBack_1 : decode cX3_goBack 1 = .ok (.getfield 105, 3) := by decide +kernel
theorem dX3_goBack_4 : decode cX3_goBack 4 = .ok (.ifCond .ne 11, 3) := by decide +kernel
theorem dX3_goBack_7 : decode cX3_goBack 7 = .ok (.aload_n 0, 1) := by decide +kernel
theorem dX3_goBack_8 : decode cX3_goBack 8 = .ok (.iconst 2, 1) := by decide +kernel
theorem dX3_goBack_9 : decode cX3_goBack 9 = .ok (.putfield 65, 3) := by decide +kernel
theorem dX3_goBack_12 : decode cX3_goBack 12 = .ok (.goto 13, 3) := by decide +kernel
theorem dX3_goBack_15 : decode cX3_goBack 15 = .ok (.aload_n 0, 1) := by decide +kernel
theorem dX3_goBack_16 : decode cX3_goBack 16 = .ok (.dup, 1) := by decide +kernel
theorem dX3_goBack_17 : decode cX3_goBack 17 = .ok (.getfield 105, 3) := by decide +kernel
theorem dX3_goBack_20 : decode cX3_goBack 20 = .ok (.iconst 1, 1) := by decide +kernel
theorem dX3_goBack_21 : decode cX3_goBack 21 = .ok (.isub, 1) := by decide +kernel
theorem dX3_goBack_22 : decode cX3_goBack 22 = .ok (.putfield 105, 3) := by decide +kernel
theorem dX3_goBack_25 : decode cX3_goBack 25 = .ok (.return_, 1) := by decide +kernel
theorem dX3_nextRow_0 : decode cX3_nextRow 0 = .ok (.aload_n 0, 1) := by decide +kernel
theorem dX3_nextRow_1 : decode cX3_nextRow 1 = .ok (.getfield 36, 3) := by decide +kernel
theorem dX3_nextRow_4 : decode cX3_nextRow 4 = .ok (.aload_n 0, 1) := by decide +kernel
theorem dX3_nextRow_5 : decode cX3_nextRow 5 = .ok (.getfield 105, 3) := by decide +kernel
theorem dX3_nextRow_8 : decode cX3_nextRow 8 = .ok (.iaload, 1) := by decide +kernel
theorem dX3_nextRow_9 : decode cX3_nextRow 9 = .ok (.ifCond .ne 19, 3) := by decide +kernel
theorem dX3_nextRow_12 : decode cX3_nextRow 12 = .ok (.aload_n 0, 1) := by decide +kernel
theorem dX3_nextRow_13 : decode cX3_nextRow 13 = .ok (.getfield 33, 3) := by decide +kernel
theorem dX3_nextRow_16 : decode cX3_nextRow 16 = .ok (.aload_n 0, 1) := by decide +kernel
theorem dX3_nextRow_17 : decode cX3_nextRow 17 = .ok (.getfield 105, 3) := by decide +kernel
theorem dX3_nextRow_20 : decode cX3_nextRow 20 = .ok (.iaload, 1) := by decide +kernel
theorem dX3_nextRow_21 : decode cX3_nextRow 21 = .ok (.ifCond .ne 7, 3) := by decide +kernel
theorem dX3_nextRow_24 : decode cX3_nextRow 24 = .ok (.aload_n 0, 1) := by decide +kernel
theorem dX3_nextRow_25 : decode cX3_nextRow 25 = .ok (.invokevirtual 118, 3) := by decide +kernel
theorem dX3_nextRow_28 : decode cX3_nextRow 28 = .ok (.aload_n 0, 1) := by decide +kernel
theorem dX3_nextRow_29 : decode cX3_nextRow 29 = .ok (.getfield 36, 3) := by decide +kernel
theorem dX3_nextRow_32 : decode cX3_nextRow 32 = .ok (.aload_n 0, 1) := by decide +kernel
theorem dX3_nextRow_33 : decode cX3_nextRow 33 = .ok (.getfield 105, 3) := by decide +kernel
theorem dX3_nextRow_36 : decode cX3_nextRow 36 = .ok (.iaload, 1) := by decide +kernel
theorem dX3_nextRow_37 : decode cX3_nextRow 37 = .ok (.ifCond .ne 19, 3) := by decide +kernel
theorem dX3_nextRow_40 : decode cX3_nextRow 40 = .ok (.aload_n 0, 1) := by decide +kernel
theorem dX3_nextRow_41 : decode cX3_nextRow 41 = .ok (.getfield 33, 3) := by decide +kernel
theorem dX3_nextRow_44 : decode cX3_nextRow 44 = .ok (.aload_n 0, 1) := by decide +kernel
theorem dX3_nextRow_45 : decode cX3_nextRow 45 = .ok (.getfield 105, 3) := by decide +kernel
theorem dX3_nextRow_48 : decode cX3_nextRow 48 = .ok (.iaload, 1) := by decide +kernel
theorem dX3_nextRow_49 : decode cX3_nextRow 49 = .ok (.ifCond .eq 7, 3) := by decide +kernel
theorem dX3_nextRow_52 : decode cX3_nextRow 52 = .ok (.aload_n 0, 1) := by decide +kernel
theorem dX3_nextRow_53 : decode cX3_nextRow 53 = .ok (.invokevirtual 121, 3) := by decide +kernel
theorem dX3_nextRow_56 : decode cX3_nextRow 56 = .ok (.aload_n 0, 1) := by decide +kernel
theorem dX3_nextRow_57 : decode cX3_nextRow 57 = .ok (.getfield 36, 3) := by decide +kernel
theorem dX3_nextRow_60 : decode cX3_nextRow 60 = .ok (.aload_n 0, 1) := by decide +kernel
theorem dX3_nextRow_61 : decode cX3_nextRow 61 = .ok (.getfield 105, 3) := by decide +kernel
theorem dX3_nextRow_64 : decode cX3_nextRow 64 = .ok (.iaload, 1) := by decide +kernel
theorem dX3_nextRow_65 : decode cX3_nextRow 65 = .ok (.ifCond .ne 5, 3) := by decide +kernel
theorem dX3_nextRow_68 : decode cX3_nextRow 68 = .ok (.iconst 0, 1) := by decide +kernel
theorem dX3_nextRow_69 : decode cX3_nextRow 69 = .ok (.ireturn, 1) := by decide +kernel
theorem dX3_nextRow_70 : decode cX3_nextRow 70 = .ok (.aload_n 0, 1) := by decide +kernel
theorem dX3_nextRow_71 : decode cX3_nextRow 71 = .ok (.iconst 1, 1) := by decide +kernel
theorem dX3_nextRow_72 : decode cX3_nextRow 72 = .ok (.aload_n 0, 1) := by decide +kernel
theorem dX3_nextRow_73 : decode cX3_nextRow 73 = .ok (.getfield 36, 3) := by decide +kernel
theorem dX3_nextRow_76 : decode cX3_nextRow 76 = .ok (.aload_n 0, 1) := by decide +kernel
theorem dX3_nextRow_77 : decode cX3_nextRow 77 = .ok (.getfield 105, 3) := by decide +kernel
theorem dX3_nextRow_80 : decode cX3_nextRow 80 = .ok (.iaload, 1) := by decide +kernel
theorem dX3_nextRow_81 : decode cX3_nextRow 81 = .ok (.invokestatic 124, 3) := by decide +kernel
theorem dX3_nextRow_84 : decode cX3_nextRow 84 = .ok (.invokevirtual 127, 3) := by decide +kernel
theorem dX3_nextRow_87 : decode cX3_nextRow 87 = .ok (.aload_n 0, 1) := by decide +kernel
theorem dX3_nextRow_88 : decode cX3_nextRow 88 = .ok (.getfield 36, 3) := by decide +kernel
theorem dX3_nextRow_91 : decode cX3_nextRow 91 = .ok (.aload_n 0, 1) := by decide +kernel
theorem dX3_nextRow_92 : decode cX3_nextRow 92 = .ok (.getfield 105, 3) := by decide +kernel
theorem dX3_nextRow_95 : decode cX3_nextRow 95 = .ok (.dup2, 1) := by decide +kernel
theorem dX3_nextRow_96 : decode cX3_nextRow 96 = .ok (.iaload, 1) := by decide +kernel
theorem dX3_nextRow_97 : decode cX3_nextRow 97 = .ok (.aload_n 0, 1) := by decide +kernel
theorem dX3_nextRow_98 : decode cX3_nextRow 98 = .ok (.getfield 36, 3) := by decide +kernel
theorem dX3_nextRow_101 : decode cX3_nextRow 101 = .ok (.aload_n 0, 1) := by decide +kernel
theorem dX3_nextRow_102 : decode cX3_nextRow 102 = .ok (.getfield 105, 3) := by decide +kernel
theorem dX3_nextRow_105 : decode cX3_nextRow 105 = .ok (.iaload, 1) := by decide +kernel
theorem dX3_nextRow_106 : decode cX3_nextRow 106 = .ok (.iconst 1, 1) := by decide +kernel
theorem dX3_nextRow_107 : decode cX3_nextRow 107 = .ok (.isub, 1) := by decide +kernel
theorem dX3_nextRow_108 : decode cX3_nextRow 108 = .ok (.iand, 1) := by decide +kernel
theorem dX3_nextRow_109 : decode cX3_nextRow 109 = .ok (.iastore, 1) := by decide +kernel
theorem dX3_nextRow_110 : decode cX3_nextRow 110 = .ok (.aload_n 0, 1) := by decide +kernel
theorem dX3_nextRow_111 : decode cX3_nextRow 111 = .ok (.getfield 39, 3) := by decide +kernel
theorem dX3_nextRow_114 : decode cX3_nextRow 114 = .ok (.aload_n 0, 1) := by decide +kernel
theorem dX3_nextRow_115 : decode cX3_nextRow 115 = .ok (.getfield 105, 3) := by decide +kernel
theorem dX3_nextRow_118 : decode cX3_nextRow 118 = .ok (.aload_n 0, 1) := by decide +kernel
theorem dX3_nextRow_119 : decode cX3_nextRow 119 = .ok (.getfield 24, 3) := by decide +kernel
theorem dX3_nextRow_122 : decode cX3_nextRow 122 = .ok (.aload_n 0, 1) := by decide +kernel
theorem dX3_nextRow_123 : decode cX3_nextRow 123 = .ok (.getfield 105, 3) := by decide +kernel
theorem dX3_nextRow_126 : decode cX3_nextRow 126 = .ok (.iconst 3, 1) := by decide +kernel
theorem dX3_nextRow_127 : decode cX3_nextRow 127 = .ok (.imul, 1) := by decide +kernel
theorem dX3_nextRow_128 : decode cX3_nextRow 128 = .ok (.iaload, 1) := by decide +kernel
theorem dX3_nextRow_129 : decode cX3_nextRow 129 = .ok (.iastore, 1) := by decide +kernel
theorem dX3_nextRow_130 : decode cX3_nextRow 130 = .ok (.aload_n 0, 1) := by decide +kernel
theorem dX3_nextRow_131 : decode cX3_nextRow 131 = .ok (.getfield 42, 3) := by decide +kernel
theorem dX3_nextRow_134 : decode cX3_nextRow 134 = .ok (.aload_n 0, 1) := by decide +kernel
theorem dX3_nextRow_135 : decode cX3_nextRow 135 = .ok (.getfield 105, 3) := by decide +kernel
theorem dX3_nextRow_138 : decode cX3_nextRow 138 = .ok (.aload_n 0, 1) := by decide +kernel
theorem dX3_nextRow_139 : decode cX3_nextRow 139 = .ok (.getfield 39, 3) := by decide +kernel
theorem dX3_nextRow_142 : decode cX3_nextRow 142 = .ok (.aload_n 0, 1) := by decide +kernel
theorem dX3_nextRow_143 : decode cX3_nextRow 143 = .ok (.getfield 105, 3) := by decide +kernel
theorem dX3_nextRow_146 : decode cX3_nextRow 146 = .ok (.iaload, 1) := by decide +kernel
theorem dX3_nextRow_147 : decode cX3_nextRow 147 = .ok (.aload_n 0, 1) := by decide +kernel
theorem dX3_nextRow_148 : decode cX3_nextRow 148 = .ok (.invokevirtual 131, 3) := by decide +kernel
theorem dX3_nextRow_151 : decode cX3_nextRow 151 = .ok (.iconst (-1), 1) := by decide +kernel
theorem dX3_nextRow_152 : decode cX3_nextRow 152 = .ok (.ixor, 1) := by decide +kernel
theorem dX3_nextRow_153 : decode cX3_nextRow 153 = .ok (.iand, 1) := by decide +kernel
theorem dX3_nextRow_154 : decode cX3_nextRow 154 = .ok (.iastore, 1) := by decide +kernel
theorem dX3_nextRow_155 : decode cX3_nextRow 155 = .ok (.iconst 1, 1) := by decide +kernel
theorem dX3_nextRow_156 : decode cX3_nextRow 156 = .ok (.ireturn, 1) := by decide +kernel
theorem dX3_nextLayer_0 : decode cX3_nextLayer 0 = .ok (.aload_n 0, 1) := by decide +kernel
theorem dX3_nextLayer_1 : decode cX3_nextLayer 1 = .ok (.iconst 2, 1) := by decide +kernel
theorem dX3_nextLayer_2 : decode cX3_nextLayer 2 = .ok (.aload_n 0, 1) := by decide +kernel
theorem dX3_nextLayer_3 : decode cX3_nextLayer 3 = .ok (.getfield 33, 3) := by decide +kernel
theorem dX3_nextLayer_6 : decode cX3_nextLayer 6 = .ok (.aload_n 0, 1) := by decide +kernel
theorem dX3_nextLayer_7 : decode cX3_nextLayer 7 = .ok (.getfield 105, 3) := by decide +kernel
theorem dX3_nextLayer_10 : decode cX3_nextLayer 10 = .ok (.iaload, 1) := by decide +kernel
theorem dX3_nextLayer_11 : decode cX3_nextLayer 11 = .ok (.invokestatic 124, 3) := by decide +kernel
theorem dX3_nextLayer_14 : decode cX3_nextLayer 14 = .ok (.invokevirtual 127, 3) := by decide +kernel
theorem dX3_nextLayer_17 : decode cX3_nextLayer 17 = .ok (.aload_n 0, 1) := by decide +kernel
theorem dX3_nextLayer_18 : decode cX3_nextLayer 18 = .ok (.getfield 33, 3) := by decide +kernel
theorem dX3_nextLayer_21 : decode cX3_nextLayer 21 = .ok (.aload_n 0, 1) := by decide +kernel
theorem dX3_nextLayer_22 : decode cX3_nextLayer 22 = .ok (.getfield 105, 3) := by decide +kernel
theorem dX3_nextLayer_25 : decode cX3_nextLayer 25 = .ok (.dup2, 1) := by decide +kernel
theorem dX3_nextLayer_26 : decode cX3_nextLayer 26 = .ok (.iaload, 1) := by decide +kernel
theorem dX3_nextLayer_27 : decode cX3_nextLayer 27 = .ok (.aload_n 0, 1) := by decide +kernel
theorem dX3_nextLayer_28 : decode cX3_nextLayer 28 = .ok (.getfield 33, 3) := by decide +kernel
theorem dX3_nextLayer_31 : decode cX3_nextLayer 31 = .ok (.aload_n 0, 1) := by decide +kernel
theorem dX3_nextLayer_32 : decode cX3_nextLayer 32 = .ok (.getfield 105, 3) := by decide +kernel
theorem dX3_nextLayer_35 : decode cX3_nextLayer 35 = .ok (.iaload, 1) := by decide +kernel
theorem dX3_nextLayer_36 : decode cX3_nextLayer 36 = .ok (.iconst 1, 1) := by decide +kernel
theorem dX3_nextLayer_37 : decode cX3_nextLayer 37 = .ok (.isub, 1) := by decide +kernel
theorem dX3_nextLayer_38 : decode cX3_nextLayer 38 = .ok (.iand, 1) := by decide +kernel
theorem dX3_nextLayer_39 : decode cX3_nextLayer 39 = .ok (.iastore, 1) := by decide +kernel
theorem dX3_nextLayer_40 : decode cX3_nextLayer 40 = .ok (.aload_n 0, 1) := by decide +kernel
theorem dX3_nextLayer_41 : decode cX3_nextLayer 41 = .ok (.getfield 36, 3) := by decide +kernel
theorem dX3_nextLayer_44 : decode cX3_nextLayer 44 = .ok (.aload_n 0, 1) := by decide +kernel
theorem dX3_nextLayer_45 : decode cX3_nextLayer 45 = .ok (.getfield 105, 3) := by decide +kernel
theorem dX3_nextLayer_48 : decode cX3_nextLayer 48 = .ok (.aload_n 0, 1) := by decide +kernel
theorem dX3_nextLayer_49 : decode cX3_nextLayer 49 = .ok (.getfield 24, 3) := by decide +kernel
theorem dX3_nextLayer_52 : decode cX3_nextLayer 52 = .ok (.aload_n 0, 1) := by decide +kernel
theorem dX3_nextLayer_53 : decode cX3_nextLayer 53 = .ok (.getfield 105, 3) := by decide +kernel
theorem dX3_nextLayer_56 : decode cX3_nextLayer 56 = .ok (.iconst 3, 1) := by decide +kernel
theorem dX3_nextLayer_57 : decode cX3_nextLayer 57 = .ok (.imul, 1) := by decide +kernel
theorem dX3_nextLayer_58 : decode cX3_nextLayer 58 = .ok (.iconst 1, 1) := by decide +kernel
theorem dX3_nextLayer_59 : decode cX3_nextLayer 59 = .ok (.iadd, 1) := by decide +kernel
theorem dX3_nextLayer_60 : decode cX3_nextLayer 60 = .ok (.iaload, 1) := by decide +kernel
theorem dX3_nextLayer_61 : decode cX3_nextLayer 61 = .ok (.iastore, 1) := by decide +kernel
theorem dX3_nextLayer_62 : decode cX3_nextLayer 62 = .ok (.return_, 1) := by decide +kernel
theorem dX3_nextTurn_0 : decode cX3_nextTurn 0 = .ok (.aload_n 0, 1) := by decide +kernel
theorem dX3_nextTurn_1 : decode cX3_nextTurn 1 = .ok (.getfield 9, 3) := by decide +kernel
theorem dX3_nextTurn_4 : decode cX3_nextTurn 4 = .ok (.aload_n 0, 1) := by decide +kernel
theorem dX3_nextTurn_5 : decode cX3_nextTurn 5 = .ok (.getfield 105, 3) := by decide +kernel
theorem dX3_nextTurn_8 : decode cX3_nextTurn 8 = .ok (.iaload, 1) := by decide +kernel
theorem dX3_nextTurn_9 : decode cX3_nextTurn 9 = .ok (.istore_n 1, 1) := by decide +kernel
theorem dX3_nextTurn_10 : decode cX3_nextTurn 10 = .ok (.aload_n 0, 1) := by decide +kernel
theorem dX3_nextTurn_11 : decode cX3_nextTurn 11 = .ok (.getfield 18, 3) := by decide +kernel
theorem dX3_nextTurn_14 : decode cX3_nextTurn 14 = .ok (.aload_n 0, 1) := by decide +kernel
theorem dX3_nextTurn_15 : decode cX3_nextTurn 15 = .ok (.getfield 105, 3) := by decide +kernel
theorem dX3_nextTurn_18 : decode cX3_nextTurn 18 = .ok (.iaload, 1) := by decide +kernel
theorem dX3_nextTurn_19 : decode cX3_nextTurn 19 = .ok (.iconst 1, 1) := by decide +kernel
theorem dX3_nextTurn_20 : decode cX3_nextTurn 20 = .ok (.iadd, 1) := by decide +kernel
theorem dX3_nextTurn_21 : decode cX3_nextTurn 21 = .ok (.istore_n 2, 1) := by decide +kernel
theorem dX3_nextTurn_22 : decode cX3_nextTurn 22 = .ok (.iload_n 2, 1) := by decide +kernel
theorem dX3_nextTurn_23 : decode cX3_nextTurn 23 = .ok (.bipush 6, 2) := by decide +kernel
theorem dX3_nextTurn_25 : decode cX3_nextTurn 25 = .ok (.if_icmp .ge 28, 3) := by decide +kernel
theorem dX3_nextTurn_28 : decode cX3_nextTurn 28 = .ok (.aload_n 0, 1) := by decide +kernel
theorem dX3_nextTurn_29 : decode cX3_nextTurn 29 = .ok (.getfield 45, 3) := by decide +kernel
theorem dX3_nextTurn_32 : decode cX3_nextTurn 32 = .ok (.iload_n 1, 1) := by decide +kernel
theorem dX3_nextTurn_33 : decode cX3_nextTurn 33 = .ok (.iload_n 2, 1) := by decide +kernel
theorem dX3_nextTurn_34 : decode cX3_nextTurn 34 = .ok (.invokevirtual 95, 3) := by decide +kernel
theorem dX3_nextTurn_37 : decode cX3_nextTurn 37 = .ok (.ifCond .eq 10, 3) := by decide +kernel
theorem dX3_nextTurn_40 : decode cX3_nextTurn 40 = .ok (.aload_n 0, 1) := by decide +kernel
theorem dX3_nextTurn_41 : decode cX3_nextTurn 41 = .ok (.iload_n 1, 1) := by decide +kernel
theorem dX3_nextTurn_42 : decode cX3_nextTurn 42 = .ok (.iload_n 2, 1) := by decide +kernel
theorem dX3_nextTurn_43 : decode cX3_nextTurn 43 = .ok (.invokevirtual 135, 3) := by decide +kernel
theorem dX3_nextTurn_46 : decode cX3_nextTurn 46 = .ok (.return_, 1) := by decide +kernel
theorem dX3_nextTurn_47 : decode cX3_nextTurn 47 = .ok (.iinc 2 1, 3) := by decide +kernel
theorem dX3_nextTurn_50 : decode cX3_nextTurn 50 = .ok (.goto (-28), 3) := by decide +kernel
theorem dX3_nextTurn_53 : decode cX3_nextTurn 53 = .ok (.return_, 1) := by decide +kernel
theorem dX3_turnTo_0 : decode cX3_turnTo 0 = .ok (.aload_n 0, 1) := by decide +kernel
theorem dX3_turnTo_1 : decode cX3_turnTo 1 = .ok (.getfield 18, 3) := by decide +kernel
theorem dX3_turnTo_4 : decode cX3_turnTo 4 = .ok (.aload_n 0, 1) := by decide +kernel
theorem dX3_turnTo_5 : decode cX3_turnTo 5 = .ok (.getfield 105, 3) := by decide +kernel
theorem dX3_turnTo_8 : decode cX3_turnTo 8 = .ok (.iload_n 2, 1) := by decide +kernel
theorem dX3_turnTo_9 : decode cX3_turnTo 9 = .ok (.iastore, 1) := by decide +kernel
theorem dX3_turnTo_10 : decode cX3_turnTo 10 = .ok (.iconst 0, 1) := by decide +kernel
theorem dX3_turnTo_11 : decode cX3_turnTo 11 = .ok (.istore_n 3, 1) := by decide +kernel
theorem dX3_turnTo_12 : decode cX3_turnTo 12 = .ok (.iload_n 3, 1) := by decide +kernel
theorem dX3_turnTo_13 : decode cX3_turnTo 13 = .ok (.iconst 3, 1) := by decide +kernel
theorem dX3_turnTo_14 : decode cX3_turnTo 14 = .ok (.if_icmp .ge 52, 3) := by decide +kernel
theorem dX3_turnTo_17 : decode cX3_turnTo 17 = .ok (.aload_n 0, 1) := by decide +kernel
theorem dX3_turnTo_18 : decode cX3_turnTo 18 = .ok (.getfield 21, 3) := by decide +kernel
theorem dX3_turnTo_21 : decode cX3_turnTo 21 = .ok (.aload_n 0, 1) := by decide +kernel
theorem dX3_turnTo_22 : decode cX3_turnTo 22 = .ok (.getfield 105, 3) := by decide +kernel
theorem dX3_turnTo_25 : decode cX3_turnTo 25 = .ok (.iconst 3, 1) := by decide +kernel
theorem dX3_turnTo_26 : decode cX3_turnTo 26 = .ok (.imul, 1) := by decide +kernel
theorem dX3_turnTo_27 : decode cX3_turnTo 27 = .ok (.iload_n 3, 1) := by decide +kernel
theorem dX3_turnTo_28 : decode cX3_turnTo 28 = .ok (.iadd, 1) := by decide +kernel
theorem dX3_turnTo_29 : decode cX3_turnTo 29 = .ok (.aload_n 0, 1) := by decide +kernel
theorem dX3_turnTo_30 : decode cX3_turnTo 30 = .ok (.getfield 45, 3) := by decide +kernel
theorem dX3_turnTo_33 : decode cX3_turnTo 33 = .ok (.iload_n 1, 1) := by decide +kernel
theorem dX3_turnTo_34 : decode cX3_turnTo 34 = .ok (.iload_n 2, 1) := by decide +kernel
theorem dX3_turnTo_35 : decode cX3_turnTo 35 = .ok (.iload_n 3, 1) := by decide +kernel
theorem dX3_turnTo_36 : decode cX3_turnTo 36 = .ok (.invokevirtual 87, 3) := by decide +kernel
theorem dX3_turnTo_39 : decode cX3_turnTo 39 = .ok (.iastore, 1) := by decide +kernel
theorem dX3_turnTo_40 : decode cX3_turnTo 40 = .ok (.aload_n 0, 1) := by decide +kernel
theorem dX3_turnTo_41 : decode cX3_turnTo 41 = .ok (.getfield 24, 3) := by decide +kernel
theorem dX3_turnTo_44 : decode cX3_turnTo 44 = .ok (.aload_n 0, 1) := by decide +kernel
theorem dX3_turnTo_45 : decode cX3_turnTo 45 = .ok (.getfield 105, 3) := by decide +kernel
theorem dX3_turnTo_48 : decode cX3_turnTo 48 = .ok (.iconst 3, 1) := by decide +kernel
theorem dX3_turnTo_49 : decode cX3_turnTo 49 = .ok (.imul, 1) := by decide +kernel
theorem dX3_turnTo_50 : decode cX3_turnTo 50 = .ok (.iload_n 3, 1) := by decide +kernel
theorem dX3_turnTo_51 : decode cX3_turnTo 51 = .ok (.iadd, 1) := by decide +kernel
theorem dX3_turnTo_52 : decode cX3_turnTo 52 = .ok (.aload_n 0, 1) := by decide +kernel
theorem dX3_turnTo_53 : decode cX3_turnTo 53 = .ok (.iload_n 1, 1) := by decide +kernel
theorem dX3_turnTo_54 : decode cX3_turnTo 54 = .ok (.iload_n 2, 1) := by decide +kernel
theorem dX3_turnTo_55 : decode cX3_turnTo 55 = .ok (.iload_n 3, 1) := by decide +kernel
theorem dX3_turnTo_56 : decode cX3_turnTo 56 = .ok (.invokevirtual 98, 3) := by decide +kernel
theorem dX3_turnTo_59 : decode cX3_turnTo 59 = .ok (.iastore, 1) := by decide +kernel
theorem dX3_turnTo_60 : decode cX3_turnTo 60 = .ok (.iinc 3 1, 3) := by decide +kernel
theorem dX3_turnTo_63 : decode cX3_turnTo 63 = .ok (.goto (-51), 3) := by decide +kernel
theorem dX3_turnTo_66 : decode cX3_turnTo 66 = .ok (.aload_n 0, 1) := by decide +kernel
theorem dX3_turnTo_67 : decode cX3_turnTo 67 = .ok (.getfield 33, 3) := by decide +kernel
theorem dX3_turnTo_70 : decode cX3_turnTo 70 = .ok (.aload_n 0, 1) := by decide +kernel
theorem dX3_turnTo_71 : decode cX3_turnTo 71 = .ok (.getfield 105, 3) := by decide +kernel
theorem dX3_turnTo_74 : decode cX3_turnTo 74 = .ok (.aload_n 0, 1) := by decide +kernel
theorem dX3_turnTo_75 : decode cX3_turnTo 75 = .ok (.getfield 24, 3) := by decide +kernel
theorem dX3_turnTo_78 : decode cX3_turnTo 78 = .ok (.aload_n 0, 1) := by decide +kernel
theorem dX3_turnTo_79 : decode cX3_turnTo 79 = .ok (.getfield 105, 3) := by decide +kernel
theorem dX3_turnTo_82 : decode cX3_turnTo 82 = .ok (.iconst 3, 1) := by decide +kernel
theorem dX3_turnTo_83 : decode cX3_turnTo 83 = .ok (.imul, 1) := by decide +kernel
theorem dX3_turnTo_84 : decode cX3_turnTo 84 = .ok (.iconst 2, 1) := by decide +kernel
theorem dX3_turnTo_85 : decode cX3_turnTo 85 = .ok (.iadd, 1) := by decide +kernel
theorem dX3_turnTo_86 : decode cX3_turnTo 86 = .ok (.iaload, 1) := by decide +kernel
theorem dX3_turnTo_87 : decode cX3_turnTo 87 = .ok (.iastore, 1) := by decide +kernel
theorem dX3_turnTo_88 : decode cX3_turnTo 88 = .ok (.return_, 1) := by decide +kernel
theorem dX3_setAxis_0 : decode cX3_setAxis 0 = .ok (.aload_n 0, 1) := by decide +kernel
theorem dX3_setAxis_1 : decode cX3_setAxis 1 = .ok (.getfield 105, 3) := by decide +kernel
theorem dX3_setAxis_4 : decode cX3_setAxis 4 = .ok (.iconst 3, 1) := by decide +kernel
theorem dX3_setAxis_5 : decode cX3_setAxis 5 = .ok (.imul, 1) := by decide +kernel
theorem dX3_setAxis_6 : decode cX3_setAxis 6 = .ok (.iload_n 1, 1) := by decide +kernel
theorem dX3_setAxis_7 : decode cX3_setAxis 7 = .ok (.iadd, 1) := by decide +kernel
theorem dX3_setAxis_8 : decode cX3_setAxis 8 = .ok (.istore_n 3, 1) := by decide +kernel
theorem dX3_setAxis_9 : decode cX3_setAxis 9 = .ok (.aload_n 0, 1) := by decide +kernel
theorem dX3_setAxis_10 : decode cX3_setAxis 10 = .ok (.getfield 27, 3) := by decide +kernel
theorem dX3_setAxis_13 : decode cX3_setAxis 13 = .ok (.iload_n 3, 1) := by decide +kernel
theorem dX3_setAxis_14 : decode cX3_setAxis 14 = .ok (.iload_n 2, 1) := by decide +kernel
theorem dX3_setAxis_15 : decode cX3_setAxis 15 = .ok (.iastore, 1) := by decide +kernel
theorem dX3_setAxis_16 : decode cX3_setAxis 16 = .ok (.aload_n 0, 1) := by decide +kernel
theorem dX3_setAxis_17 : decode cX3_setAxis 17 = .ok (.getfield 30, 3) := by decide +kernel
theorem dX3_setAxis_20 : decode cX3_setAxis 20 = .ok (.iload_n 3, 1) := by decide +kernel
theorem dX3_setAxis_21 : decode cX3_setAxis 21 = .ok (.iload_n 2, 1) := by decide +kernel
theorem dX3_setAxis_22 : decode cX3_setAxis 22 = .ok (.aload_n 0, 1) := by decide +kernel
theorem dX3_setAxis_23 : decode cX3_setAxis 23 = .ok (.getfield 21, 3) := by decide +kernel
theorem dX3_setAxis_26 : decode cX3_setAxis 26 = .ok (.iload_n 3, 1) := by decide +kernel
theorem dX3_setAxis_27 : decode cX3_setAxis 27 = .ok (.iaload, 1) := by decide +kernel
theorem dX3_setAxis_28 : decode cX3_setAxis 28 = .ok (.iadd, 1) := by decide +kernel
theorem dX3_setAxis_29 : decode cX3_setAxis 29 = .ok (.iastore, 1) := by decide +kernel
theorem dX3_setAxis_30 : decode cX3_setAxis 30 = .ok (.return_, 1) := by decide +kernel
theorem dX3_blockedInRow_0 : decode cX3_blockedInRow 0 = .ok (.aload_n 0, 1) := by decide +kernel
theorem dX3_blockedInRow_1 : decode cX3_blockedInRow 1 = .ok (.getfield 105, 3) := by decide +kernel
theorem dX3_blockedInRow_4 : decode cX3_blockedInRow 4 = .ok (.iconst 3, 1) := by decide +kernel
theorem dX3_blockedInRow_5 : decode cX3_blockedInRow 5 = .ok (.imul, 1) := by decide +kernel
theorem dX3_blockedInRow_6 : decode cX3_blockedInRow 6 = .ok (.istore_n 1, 1) := by decide +kernel
theorem dX3_blockedInRow_7 : decode cX3_blockedInRow 7 = .ok (.iconst 0, 1) := by decide +kernel
theorem dX3_blockedInRow_8 : decode cX3_blockedInRow 8 = .ok (.istore_n 2, 1) := by decide +kernel
theorem dX3_blockedInRow_9 : decode cX3_blockedInRow 9 = .ok (.iconst 0, 1) := by decide +kernel
theorem dX3_blockedInRow_10 : decode cX3_blockedInRow 10 = .ok (.istore_n 3, 1) := by decide +kernel
theorem dX3_blockedInRow_11 : decode cX3_blockedInRow 11 = .ok (.iload_n 3, 1) := by decide +kernel
theorem dX3_blockedInRow_12 : decode cX3_blockedInRow 12 = .ok (.iload_n 1, 1) := by decide +kernel
theorem dX3_blockedInRow_13 : decode cX3_blockedInRow 13 = .ok (.if_icmp .ge 122, 3) := by decide +kernel
theorem dX3_blockedInRow_16 : decode cX3_blockedInRow 16 = .ok (.aload_n 0, 1) := by decide +kernel
theorem dX3_blockedInRow_17 : decode cX3_blockedInRow 17 = .ok (.getfield 27, 3) := by decide +kernel
theorem dX3_blockedInRow_20 : decode cX3_blockedInRow 20 = .ok (.iload_n 3, 1) := by decide +kernel
theorem dX3_blockedInRow_21 : decode cX3_blockedInRow 21 = .ok (.iconst 1, 1) := by decide +kernel
theorem dX3_blockedInRow_22 : decode cX3_blockedInRow 22 = .ok (.iadd, 1) := by decide +kernel
theorem dX3_blockedInRow_23 : decode cX3_blockedInRow 23 = .ok (.iaload, 1) := by decide +kernel
theorem dX3_blockedInRow_24 : decode cX3_blockedInRow 24 = .ok (.aload_n 0, 1) := by decide +kernel
theorem dX3_blockedInRow_25 : decode cX3_blockedInRow 25 = .ok (.getfield 30, 3) := by decide +kernel
theorem dX3_blockedInRow_28 : decode cX3_blockedInRow 28 = .ok (.iload_n 1, 1) := by decide +kernel
theorem dX3_blockedInRow_29 : decode cX3_blockedInRow 29 = .ok (.iconst 1, 1) := by decide +kernel
theorem dX3_blockedInRow_30 : decode cX3_blockedInRow 30 = .ok (.iadd, 1) := by decide +kernel
theorem dX3_blockedInRow_31 : decode cX3_blockedInRow 31 = .ok (.iaload, 1) := by decide +kernel
theorem dX3_blockedInRow_32 : decode cX3_blockedInRow 32 = .ok (.if_icmp .ge 97, 3) := by decide +kernel
theorem dX3_blockedInRow_35 : decode cX3_blockedInRow 35 = .ok (.aload_n 0, 1) := by decide +kernel
theorem dX3_blockedInRow_36 : decode cX3_blockedInRow 36 = .ok (.getfield 27, 3) := by decide +kernel
theorem dX3_blockedInRow_39 : decode cX3_blockedInRow 39 = .ok (.iload_n 1, 1) := by decide +kernel
theorem dX3_blockedInRow_40 : decode cX3_blockedInRow 40 = .ok (.iconst 1, 1) := by decide +kernel
theorem dX3_blockedInRow_41 : decode cX3_blockedInRow 41 = .ok (.iadd, 1) := by decide +kernel
theorem dX3_blockedInRow_42 : decode cX3_blockedInRow 42 = .ok (.iaload, 1) := by decide +kernel
theorem dX3_blockedInRow_43 : decode cX3_blockedInRow 43 = .ok (.aload_n 0, 1) := by decide +kernel
theorem dX3_blockedInRow_44 : decode cX3_blockedInRow 44 = .ok (.getfield 30, 3) := by decide +kernel
theorem dX3_blockedInRow_47 : decode cX3_blockedInRow 47 = .ok (.iload_n 3, 1) := by decide +kernel
theorem dX3_blockedInRow_48 : decode cX3_blockedInRow 48 = .ok (.iconst 1, 1) := by decide +kernel
theorem dX3_blockedInRow_49 : decode cX3_blockedInRow 49 = .ok (.iadd, 1) := by decide +kernel
theorem dX3_blockedInRow_50 : decode cX3_blockedInRow 50 = .ok (.iaload, 1) := by decide +kernel
theorem dX3_blockedInRow_51 : decode cX3_blockedInRow 51 = .ok (.if_icmp .ge 78, 3) := by decide +kernel
theorem dX3_blockedInRow_54 : decode cX3_blockedInRow 54 = .ok (.aload_n 0, 1) := by decide +kernel
theorem dX3_blockedInRow_55 : decode cX3_blockedInRow 55 = .ok (.getfield 27, 3) := by decide +kernel
theorem dX3_blockedInRow_58 : decode cX3_blockedInRow 58 = .ok (.iload_n 3, 1) := by decide +kernel
theorem dX3_blockedInRow_59 : decode cX3_blockedInRow 59 = .ok (.iconst 2, 1) := by decide +kernel
theorem dX3_blockedInRow_60 : decode cX3_blockedInRow 60 = .ok (.iadd, 1) := by decide +kernel
theorem dX3_blockedInRow_61 : decode cX3_blockedInRow 61 = .ok (.iaload, 1) := by decide +kernel
theorem dX3_blockedInRow_62 : decode cX3_blockedInRow 62 = .ok (.aload_n 0, 1) := by decide +kernel
theorem dX3_blockedInRow_63 : decode cX3_blockedInRow 63 = .ok (.getfield 30, 3) := by decide +kernel
theorem dX3_blockedInRow_66 : decode cX3_blockedInRow 66 = .ok (.iload_n 1, 1) := by decide +kernel
theorem dX3_blockedInRow_67 : decode cX3_blockedInRow 67 = .ok (.iconst 2, 1) := by decide +kernel
theorem dX3_blockedInRow_68 : decode cX3_blockedInRow 68 = .ok (.iadd, 1) := by decide +kernel
theorem dX3_blockedInRow_69 : decode cX3_blockedInRow 69 = .ok (.iaload, 1) := by decide +kernel
theorem dX3_blockedInRow_70 : decode cX3_blockedInRow 70 = .ok (.if_icmp .ge 59, 3) := by decide +kernel
theorem dX3_blockedInRow_73 : decode cX3_blockedInRow 73 = .ok (.aload_n 0, 1) := by decide +kernel
theorem dX3_blockedInRow_74 : decode cX3_blockedInRow 74 = .ok (.getfield 27, 3) := by decide +kernel
theorem dX3_blockedInRow_77 : decode cX3_blockedInRow 77 = .ok (.iload_n 1, 1) := by decide +kernel
theorem dX3_blockedInRow_78 : decode cX3_blockedInRow 78 = .ok (.iconst 2, 1) := by decide +kernel
theorem dX3_blockedInRow_79 : decode cX3_blockedInRow 79 = .ok (.iadd, 1) := by decide +kernel
theorem dX3_blockedInRow_80 : decode cX3_blockedInRow 80 = .ok (.iaload, 1) := by decide +kernel
theorem dX3_blockedInRow_81 : decode cX3_blockedInRow 81 = .ok (.aload_n 0, 1) := by decide +kernel
theorem dX3_blockedInRow_82 : decode cX3_blockedInRow 82 = .ok (.getfield 30, 3) := by decide +kernel
theorem dX3_blockedInRow_85 : decode cX3_blockedInRow 85 = .ok (.iload_n 3, 1) := by decide +kernel
theorem dX3_blockedInRow_86 : decode cX3_blockedInRow 86 = .ok (.iconst 2, 1) := by decide +kernel
theorem dX3_blockedInRow_87 : decode cX3_blockedInRow 87 = .ok (.iadd, 1) := by decide +kernel
theorem dX3_blockedInRow_88 : decode cX3_blockedInRow 88 = .ok (.iaload, 1) := by decide +kernel
theorem dX3_blockedInRow_89 : decode cX3_blockedInRow 89 = .ok (.if_icmp .ge 40, 3) := by decide +kernel
theorem dX3_blockedInRow_92 : decode cX3_blockedInRow 92 = .ok (.iconst 0, 1) := by decide +kernel
theorem dX3_blockedInRow_93 : decode cX3_blockedInRow 93 = .ok (.aload_n 0, 1) := by decide +kernel
theorem dX3_blockedInRow_94 : decode cX3_blockedInRow 94 = .ok (.getfield 27, 3) := by decide +kernel
theorem dX3_blockedInRow_97 : decode cX3_blockedInRow 97 = .ok (.iload_n 3, 1) := by decide +kernel
theorem dX3_blockedInRow_98 : decode cX3_blockedInRow 98 = .ok (.iaload, 1) := by decide +kernel
theorem dX3_blockedInRow_99 : decode cX3_blockedInRow 99 = .ok (.aload_n 0, 1) := by decide +kernel
theorem dX3_blockedInRow_100 : decode cX3_blockedInRow 100 = .ok (.getfield 21, 3) := by decide +kernel
theorem dX3_blockedInRow_103 : decode cX3_blockedInRow 103 = .ok (.iload_n 1, 1) := by decide +kernel
theorem dX3_blockedInRow_104 : decode cX3_blockedInRow 104 = .ok (.iaload, 1) := by decide +kernel
theorem dX3_blockedInRow_105 : decode cX3_blockedInRow 105 = .ok (.isub, 1) := by decide +kernel
theorem dX3_blockedInRow_106 : decode cX3_blockedInRow 106 = .ok (.iconst 1, 1) := by decide +kernel
theorem dX3_blockedInRow_107 : decode cX3_blockedInRow 107 = .ok (.iadd, 1) := by decide +kernel
theorem dX3_blockedInRow_108 : decode cX3_blockedInRow 108 = .ok (.invokestatic 138, 3) := by decide +kernel
theorem dX3_blockedInRow_111 : decode cX3_blockedInRow 111 = .ok (.istore 4, 2) := by decide +kernel
theorem dX3_blockedInRow_113 : decode cX3_blockedInRow 113 = .ok (.iload_n 2, 1) := by decide +kernel
theorem dX3_blockedInRow_114 : decode cX3_blockedInRow 114 = .ok (.iconst 1, 1) := by decide +kernel
theorem dX3_blockedInRow_115 : decode cX3_blockedInRow 115 = .ok (.aload_n 0, 1) := by decide +kernel
theorem dX3_blockedInRow_116 : decode cX3_blockedInRow 116 = .ok (.getfield 30, 3) := by decide +kernel
theorem dX3_blockedInRow_119 : decode cX3_blockedInRow 119 = .ok (.iload_n 3, 1) := by decide +kernel
theorem dX3_blockedInRow_120 : decode cX3_blockedInRow 120 = .ok (.iaload, 1) := by decide +kernel
theorem dX3_blockedInRow_121 : decode cX3_blockedInRow 121 = .ok (.ishl, 1) := by decide +kernel
theorem dX3_blockedInRow_122 : decode cX3_blockedInRow 122 = .ok (.iconst 1, 1) := by decide +kernel
theorem dX3_blockedInRow_123 : decode cX3_blockedInRow 123 = .ok (.iload 4, 2) := by decide +kernel
theorem dX3_blockedInRow_125 : decode cX3_blockedInRow 125 = .ok (.ishl, 1) := by decide +kernel
theorem dX3_blockedInRow_126 : decode cX3_blockedInRow 126 = .ok (.isub, 1) := by decide +kernel
theorem dX3_blockedInRow_127 : decode cX3_blockedInRow 127 = .ok (.ior, 1) := by decide +kernel
theorem dX3_blockedInRow_128 : decode cX3_blockedInRow 128 = .ok (.istore_n 2, 1) := by decide +kernel
theorem dX3_blockedInRow_129 : decode cX3_blockedInRow 129 = .ok (.iinc 3 3, 3) := by decide +kernel
theorem dX3_blockedInRow_132 : decode cX3_blockedInRow 132 = .ok (.goto (-121), 3) := by decide +kernel
theorem dX3_blockedInRow_135 : decode cX3_blockedInRow 135 = .ok (.iload_n 2, 1) := by decide +kernel
theorem dX3_blockedInRow_136 : decode cX3_blockedInRow 136 = .ok (.ireturn, 1) := by decide +kernel
theorem dX3_lookAlongRow_0 : decode cX3_lookAlongRow 0 = .ok (.aload_n 0, 1) := by decide +kernel
theorem dX3_lookAlongRow_1 : decode cX3_lookAlongRow 1 = .ok (.getfield 42, 3) := by decide +kernel
theorem dX3_lookAlongRow_4 : decode cX3_lookAlongRow 4 = .ok (.aload_n 0, 1) := by decide +kernel
theorem dX3_lookAlongRow_5 : decode cX3_lookAlongRow 5 = .ok (.getfield 105, 3) := by decide +kernel
theorem dX3_lookAlongRow_8 : decode cX3_lookAlongRow 8 = .ok (.iaload, 1) := by decide +kernel
theorem dX3_lookAlongRow_9 : decode cX3_lookAlongRow 9 = .ok (.aload_n 0, 1) := by decide +kernel
theorem dX3_lookAlongRow_10 : decode cX3_lookAlongRow 10 = .ok (.getfield 42, 3) := by decide +kernel
theorem dX3_lookAlongRow_13 : decode cX3_lookAlongRow 13 = .ok (.aload_n 0, 1) := by decide +kernel
theorem dX3_lookAlongRow_14 : decode cX3_lookAlongRow 14 = .ok (.getfield 105, 3) := by decide +kernel
theorem dX3_lookAlongRow_17 : decode cX3_lookAlongRow 17 = .ok (.iaload, 1) := by decide +kernel
theorem dX3_lookAlongRow_18 : decode cX3_lookAlongRow 18 = .ok (.ineg, 1) := by decide +kernel
theorem dX3_lookAlongRow_19 : decode cX3_lookAlongRow 19 = .ok (.iand, 1) := by decide +kernel
theorem dX3_lookAlongRow_20 : decode cX3_lookAlongRow 20 = .ok (.istore_n 1, 1) := by decide +kernel
theorem dX3_lookAlongRow_21 : decode cX3_lookAlongRow 21 = .ok (.iload_n 1, 1) := by decide +kernel
theorem dX3_lookAlongRow_22 : decode cX3_lookAlongRow 22 = .ok (.ifCond .ne 15, 3) := by decide +kernel
theorem dX3_lookAlongRow_25 : decode cX3_lookAlongRow 25 = .ok (.aload_n 0, 1) := by decide +kernel
theorem dX3_lookAlongRow_26 : decode cX3_lookAlongRow 26 = .ok (.getfield 39, 3) := by decide +kernel
theorem dX3_lookAlongRow_29 : decode cX3_lookAlongRow 29 = .ok (.aload_n 0, 1) := by decide +kernel
theorem dX3_lookAlongRow_30 : decode cX3_lookAlongRow 30 = .ok (.getfield 105, 3) := by decide +kernel
theorem dX3_lookAlongRow_33 : decode cX3_lookAlongRow 33 = .ok (.iaload, 1) := by decide +kernel
theorem dX3_lookAlongRow_34 : decode cX3_lookAlongRow 34 = .ok (.goto 18, 3) := by decide +kernel
theorem dX3_lookAlongRow_37 : decode cX3_lookAlongRow 37 = .ok (.aload_n 0, 1) := by decide +kernel
theorem dX3_lookAlongRow_38 : decode cX3_lookAlongRow 38 = .ok (.getfield 39, 3) := by decide +kernel
theorem dX3_lookAlongRow_41 : decode cX3_lookAlongRow 41 = .ok (.aload_n 0, 1) := by decide +kernel
theorem dX3_lookAlongRow_42 : decode cX3_lookAlongRow 42 = .ok (.getfield 105, 3) := by decide +kernel
theorem dX3_lookAlongRow_45 : decode cX3_lookAlongRow 45 = .ok (.iaload, 1) := by decide +kernel
theorem dX3_lookAlongRow_46 : decode cX3_lookAlongRow 46 = .ok (.iconst 2, 1) := by decide +kernel
theorem dX3_lookAlongRow_47 : decode cX3_lookAlongRow 47 = .ok (.iload_n 1, 1) := by decide +kernel
theorem dX3_lookAlongRow_48 : decode cX3_lookAlongRow 48 = .ok (.imul, 1) := by decide +kernel
theorem dX3_lookAlongRow_49 : decode cX3_lookAlongRow 49 = .ok (.iconst 1, 1) := by decide +kernel
theorem dX3_lookAlongRow_50 : decode cX3_lookAlongRow 50 = .ok (.isub, 1) := by decide +kernel
theorem dX3_lookAlongRow_51 : decode cX3_lookAlongRow 51 = .ok (.iand, 1) := by decide +kernel
theorem dX3_lookAlongRow_52 : decode cX3_lookAlongRow 52 = .ok (.istore_n 2, 1) := by decide +kernel
theorem dX3_lookAlongRow_53 : decode cX3_lookAlongRow 53 = .ok (.iload_n 2, 1) := by decide +kernel
theorem dX3_lookAlongRow_54 : decode cX3_lookAlongRow 54 = .ok (.invokestatic 90, 3) := by decide +kernel
theorem dX3_lookAlongRow_57 : decode cX3_lookAlongRow 57 = .ok (.istore_n 3, 1) := by decide +kernel
theorem dX3_lookAlongRow_58 : decode cX3_lookAlongRow 58 = .ok (.iload_n 3, 1) := by decide +kernel
theorem dX3_lookAlongRow_59 : decode cX3_lookAlongRow 59 = .ok (.aload_n 0, 1) := by decide +kernel
theorem dX3_lookAlongRow_60 : decode cX3_lookAlongRow 60 = .ok (.getfield 101, 3) := by decide +kernel
theorem dX3_lookAlongRow_63 : decode cX3_lookAlongRow 63 = .ok (.if_icmp .le 8, 3) := by decide +kernel
theorem dX3_lookAlongRow_66 : decode cX3_lookAlongRow 66 = .ok (.aload_n 0, 1) := by decide +kernel
theorem dX3_lookAlongRow_67 : decode cX3_lookAlongRow 67 = .ok (.invokevirtual 143, 3) := by decide +kernel
theorem dX3_lookAlongRow_70 : decode cX3_lookAlongRow 70 = .ok (.return_, 1) := by decide +kernel
theorem dX3_lookAlongRow_71 : decode cX3_lookAlongRow 71 = .ok (.aload_n 0, 1) := by decide +kernel
theorem dX3_lookAlongRow_72 : decode cX3_lookAlongRow 72 = .ok (.dup, 1) := by decide +kernel
theorem dX3_lookAlongRow_73 : decode cX3_lookAlongRow 73 = .ok (.getfield 62, 3) := by decide +kernel
theorem dX3_lookAlongRow_76 : decode cX3_lookAlongRow 76 = .ok (.iload_n 3, 1) := by decide +kernel
theorem dX3_lookAlongRow_77 : decode cX3_lookAlongRow 77 = .ok (.iadd, 1) := by decide +kernel
theorem dX3_lookAlongRow_78 : decode cX3_lookAlongRow 78 = .ok (.putfield 62, 3) := by decide +kernel
theorem dX3_lookAlongRow_81 : decode cX3_lookAlongRow 81 = .ok (.aload_n 0, 1) := by decide +kernel
theorem dX3_lookAlongRow_82 : decode cX3_lookAlongRow 82 = .ok (.dup, 1) := by decide +kernel
theorem dX3_lookAlongRow_83 : decode cX3_lookAlongRow 83 = .ok (.getfield 101, 3) := by decide +kernel
theorem dX3_lookAlongRow_86 : decode cX3_lookAlongRow 86 = .ok (.iload_n 3, 1) := by decide +kernel
theorem dX3_lookAlongRow_87 : decode cX3_lookAlongRow 87 = .ok (.isub, 1) := by decide +kernel
theorem dX3_lookAlongRow_88 : decode cX3_lookAlongRow 88 = .ok (.putfield 101, 3) := by decide +kernel
theorem dX3_lookAlongRow_91 : decode cX3_lookAlongRow 91 = .ok (.aload_n 0, 1) := by decide +kernel
theorem dX3_lookAlongRow_92 : decode cX3_lookAlongRow 92 = .ok (.getfield 39, 3) := by decide +kernel
theorem dX3_lookAlongRow_95 : decode cX3_lookAlongRow 95 = .ok (.aload_n 0, 1) := by decide +kernel
theorem dX3_lookAlongRow_96 : decode cX3_lookAlongRow 96 = .ok (.getfield 105, 3) := by decide +kernel
theorem dX3_lookAlongRow_99 : decode cX3_lookAlongRow 99 = .ok (.dup2, 1) := by decide +kernel
theorem dX3_lookAlongRow_100 : decode cX3_lookAlongRow 100 = .ok (.iaload, 1) := by decide +kernel
theorem dX3_lookAlongRow_101 : decode cX3_lookAlongRow 101 = .ok (.iload_n 2, 1) := by decide +kernel
theorem dX3_lookAlongRow_102 : decode cX3_lookAlongRow 102 = .ok (.iconst (-1), 1) := by decide +kernel
theorem dX3_lookAlongRow_103 : decode cX3_lookAlongRow 103 = .ok (.ixor, 1) := by decide +kernel
theorem dX3_lookAlongRow_104 : decode cX3_lookAlongRow 104 = .ok (.iand, 1) := by decide +kernel
theorem dX3_lookAlongRow_105 : decode cX3_lookAlongRow 105 = .ok (.iastore, 1) := by decide +kernel
theorem dX3_lookAlongRow_106 : decode cX3_lookAlongRow 106 = .ok (.aload_n 0, 1) := by decide +kernel
theorem dX3_lookAlongRow_107 : decode cX3_lookAlongRow 107 = .ok (.getfield 42, 3) := by decide +kernel
theorem dX3_lookAlongRow_110 : decode cX3_lookAlongRow 110 = .ok (.aload_n 0, 1) := by decide +kernel
theorem dX3_lookAlongRow_111 : decode cX3_lookAlongRow 111 = .ok (.getfield 105, 3) := by decide +kernel
theorem dX3_lookAlongRow_114 : decode cX3_lookAlongRow 114 = .ok (.dup2, 1) := by decide +kernel
theorem dX3_lookAlongRow_115 : decode cX3_lookAlongRow 115 = .ok (.iaload, 1) := by decide +kernel
theorem dX3_lookAlongRow_116 : decode cX3_lookAlongRow 116 = .ok (.iload_n 1, 1) := by decide +kernel
theorem dX3_lookAlongRow_117 : decode cX3_lookAlongRow 117 = .ok (.iconst (-1), 1) := by decide +kernel
theorem dX3_lookAlongRow_118 : decode cX3_lookAlongRow 118 = .ok (.ixor, 1) := by decide +kernel
theorem dX3_lookAlongRow_119 : decode cX3_lookAlongRow 119 = .ok (.iand, 1) := by decide +kernel
theorem dX3_lookAlongRow_120 : decode cX3_lookAlongRow 120 = .ok (.iastore, 1) := by decide +kernel
theorem dX3_lookAlongRow_121 : decode cX3_lookAlongRow 121 = .ok (.iload_n 1, 1) := by decide +kernel
theorem dX3_lookAlongRow_122 : decode cX3_lookAlongRow 122 = .ok (.ifCond .eq 11, 3) := by decide +kernel
theorem dX3_lookAlongRow_125 : decode cX3_lookAlongRow 125 = .ok (.aload_n 0, 1) := by decide +kernel
theorem dX3_lookAlongRow_126 : decode cX3_lookAlongRow 126 = .ok (.iload_n 1, 1) := by decide +kernel
theorem dX3_lookAlongRow_127 : decode cX3_lookAlongRow 127 = .ok (.invokestatic 124, 3) := by decide +kernel
theorem dX3_lookAlongRow_130 : decode cX3_lookAlongRow 130 = .ok (.invokevirtual 146, 3) := by decide +kernel
theorem dX3_lookAlongRow_133 : decode cX3_lookAlongRow 133 = .ok (.return_, 1) := by decide +kernel
theorem dX3_lookAtBlocked_0 : decode cX3_lookAtBlocked 0 = .ok (.iconst 0, 1) := by decide +kernel
theorem dX3_lookAtBlocked_1 : decode cX3_lookAtBlocked 1 = .ok (.istore_n 1, 1) := by decide +kernel
theorem dX3_lookAtBlocked_2 : decode cX3_lookAtBlocked 2 = .ok (.iload_n 1, 1) := by decide +kernel
theorem dX3_lookAtBlocked_3 : decode cX3_lookAtBlocked 3 = .ok (.aload_n 0, 1) := by decide +kernel
theorem dX3_lookAtBlocked_4 : decode cX3_lookAtBlocked 4 = .ok (.getfield 101, 3) := by decide +kernel
theorem dX3_lookAtBlocked_7 : decode cX3_lookAtBlocked 7 = .ok (.if_icmp .ge 32, 3) := by decide +kernel
theorem dX3_lookAtBlocked_10 : decode cX3_lookAtBlocked 10 = .ok (.aload_n 0, 1) := by decide +kernel
theorem dX3_lookAtBlocked_11 : decode cX3_lookAtBlocked 11 = .ok (.getfield 39, 3) := by decide +kernel
theorem dX3_lookAtBlocked_14 : decode cX3_lookAtBlocked 14 = .ok (.aload_n 0, 1) := by decide +kernel
theorem dX3_lookAtBlocked_15 : decode cX3_lookAtBlocked 15 = .ok (.getfield 105, 3) := by decide +kernel
theorem dX3_lookAtBlocked_18 : decode cX3_lookAtBlocked 18 = .ok (.dup2, 1) := by decide +kernel
theorem dX3_lookAtBlocked_19 : decode cX3_lookAtBlocked 19 = .ok (.iaload, 1) := by decide +kernel
theorem dX3_lookAtBlocked_20 : decode cX3_lookAtBlocked 20 = .ok (.aload_n 0, 1) := by decide +kernel
theorem dX3_lookAtBlocked_21 : decode cX3_lookAtBlocked 21 = .ok (.getfield 39, 3) := by decide +kernel
theorem dX3_lookAtBlocked_24 : decode cX3_lookAtBlocked 24 = .ok (.aload_n 0, 1) := by decide +kernel
theorem dX3_lookAtBlocked_25 : decode cX3_lookAtBlocked 25 = .ok (.getfield 105, 3) := by decide +kernel
theorem dX3_lookAtBlocked_28 : decode cX3_lookAtBlocked 28 = .ok (.iaload, 1) := by decide +kernel
theorem dX3_lookAtBlocked_29 : decode cX3_lookAtBlocked 29 = .ok (.iconst 1, 1) := by decide +kernel
theorem dX3_lookAtBlocked_30 : decode cX3_lookAtBlocked 30 = .ok (.isub, 1) := by decide +kernel
theorem dX3_lookAtBlocked_31 : decode cX3_lookAtBlocked 31 = .ok (.iand, 1) := by decide +kernel
theorem dX3_lookAtBlocked_32 : decode cX3_lookAtBlocked 32 = .ok (.iastore, 1) := by decide +kernel
theorem dX3_lookAtBlocked_33 : decode cX3_lookAtBlocked 33 = .ok (.iinc 1 1, 3) := by decide +kernel
theorem dX3_lookAtBlocked_36 : decode cX3_lookAtBlocked 36 = .ok (.goto (-34), 3) := by decide +kernel
theorem dX3_lookAtBlocked_39 : decode cX3_lookAtBlocked 39 = .ok (.aload_n 0, 1) := by decide +kernel
theorem dX3_lookAtBlocked_40 : decode cX3_lookAtBlocked 40 = .ok (.dup, 1) := by decide +kernel
theorem dX3_lookAtBlocked_41 : decode cX3_lookAtBlocked 41 = .ok (.getfield 62, 3) := by decide +kernel
theorem dX3_lookAtBlocked_44 : decode cX3_lookAtBlocked 44 = .ok (.aload_n 0, 1) := by decide +kernel
theorem dX3_lookAtBlocked_45 : decode cX3_lookAtBlocked 45 = .ok (.getfield 101, 3) := by decide +kernel
theorem dX3_lookAtBlocked_48 : decode cX3_lookAtBlocked 48 = .ok (.iadd, 1) := by decide +kernel
theorem dX3_lookAtBlocked_49 : decode cX3_lookAtBlocked 49 = .ok (.putfield 62, 3) := by decide +kernel
theorem dX3_lookAtBlocked_52 : decode cX3_lookAtBlocked 52 = .ok (.aload_n 0, 1) := by decide +kernel
theorem dX3_lookAtBlocked_53 : decode cX3_lookAtBlocked 53 = .ok (.iconst 0, 1) := by decide +kernel
theorem dX3_lookAtBlocked_54 : decode cX3_lookAtBlocked 54 = .ok (.putfield 101, 3) := by decide +kernel
theorem dX3_lookAtBlocked_57 : decode cX3_lookAtBlocked 57 = .ok (.return_, 1) := by decide +kernel
theorem dX3_take_0 : decode cX3_take 0 = .ok (.aload_n 0, 1) := by decide +kernel
theorem dX3_take_1 : decode cX3_take 1 = .ok (.iconst 0, 1) := by decide +kernel
theorem dX3_take_2 : decode cX3_take 2 = .ok (.iload_n 1, 1) := by decide +kernel
theorem dX3_take_3 : decode cX3_take 3 = .ok (.invokevirtual 127, 3) := by decide +kernel
theorem dX3_take_6 : decode cX3_take 6 = .ok (.aload_n 0, 1) := by decide +kernel
theorem dX3_take_7 : decode cX3_take 7 = .ok (.getfield 105, 3) := by decide +kernel
theorem dX3_take_10 : decode cX3_take 10 = .ok (.iconst 1, 1) := by decide +kernel
theorem dX3_take_11 : decode cX3_take 11 = .ok (.iadd, 1) := by decide +kernel
theorem dX3_take_12 : decode cX3_take 12 = .ok (.aload_n 0, 1) := by decide +kernel
theorem dX3_take_13 : decode cX3_take 13 = .ok (.getfield 45, 3) := by decide +kernel
theorem dX3_take_16 : decode cX3_take 16 = .ok (.getfield 52, 3) := by decide +kernel
theorem dX3_take_19 : decode cX3_take 19 = .ok (.if_icmp .ge 16, 3) := by decide +kernel
theorem dX3_take_22 : decode cX3_take 22 = .ok (.aload_n 0, 1) := by decide +kernel
theorem dX3_take_23 : decode cX3_take 23 = .ok (.aload_n 0, 1) := by decide +kernel
theorem dX3_take_24 : decode cX3_take 24 = .ok (.getfield 105, 3) := by decide +kernel
theorem dX3_take_27 : decode cX3_take 27 = .ok (.iconst 1, 1) := by decide +kernel
theorem dX3_take_28 : decode cX3_take 28 = .ok (.iadd, 1) := by decide +kernel
theorem dX3_take_29 : decode cX3_take 29 = .ok (.invokevirtual 68, 3) := by decide +kernel
theorem dX3_take_32 : decode cX3_take 32 = .ok (.goto 8, 3) := by decide +kernel
theorem dX3_take_35 : decode cX3_take 35 = .ok (.aload_n 0, 1) := by decide +kernel
theorem dX3_take_36 : decode cX3_take 36 = .ok (.iconst 1, 1) := by decide +kernel
theorem dX3_take_37 : decode cX3_take 37 = .ok (.putfield 65, 3) := by decide +kernel
theorem dX3_take_40 : decode cX3_take 40 = .ok (.return_, 1) := by decide +kernel
