theorem dX6_run_175 : decode cX6_run 175 = .ok (.iastore, 1) := by decide +kernel
theorem dX6_run_176 : decode cX6_run 176 = .ok (.goto (-160), 3) := by decide +kernel
theorem dX6_run_179 : decode cX6_run 179 = .ok (.aload_n 0, 1) := by decide +kernel
theorem dX6_run_180 : decode cX6_run 180 = .ok (.getfield 85, 3) := by decide +kernel
theorem dX6_run_183 : decode cX6_run 183 = .ok (.ireturn, 1) := by decide +kernel
theorem dX6_bin_0 : decode cX6_bin 0 = .ok (.iload_n 1, 1) := by decide +kernel
theorem dX6_bin_1 : decode cX6_bin 1 = .ok (.invokestatic 148, 3) := by decide +kernel
theorem dX6_bin_4 : decode cX6_bin 4 = .ok (.ifCond .eq 17, 3) := by decide +kernel
theorem dX6_bin_7 : decode cX6_bin 7 = .ok (.iload_n 2, 1) := by decide +kernel
theorem dX6_bin_8 : decode cX6_bin 8 = .ok (.invokestatic 148, 3) := by decide +kernel
theorem dX6_bin_11 : decode cX6_bin 11 = .ok (.ifCond .eq 10, 3) := by decide +kernel
theorem dX6_bin_14 : decode cX6_bin 14 = .ok (.iload_n 3, 1) := by decide +kernel
theorem dX6_bin_15 : decode cX6_bin 15 = .ok (.invokestatic 148, 3) := by decide +kernel
theorem dX6_bin_18 : decode cX6_bin 18 = .ok (.ifCond .ne 5, 3) := by decide +kernel
theorem dX6_bin_21 : decode cX6_bin 21 = .ok (.iconst (-1), 1) := by decide +kernel
theorem dX6_bin_22 : decode cX6_bin 22 = .ok (.ireturn, 1) := by decide +kernel
theorem dX6_bin_23 : decode cX6_bin 23 = .ok (.aload_n 0, 1) := by decide +kernel
theorem dX6_bin_24 : decode cX6_bin 24 = .ok (.getfield 7, 3) := by decide +kernel
theorem dX6_bin_27 : decode cX6_bin 27 = .ok (.iconst 0, 1) := by decide +kernel
theorem dX6_bin_28 : decode cX6_bin 28 = .ok (.iload_n 1, 1) := by decide +kernel
theorem dX6_bin_29 : decode cX6_bin 29 = .ok (.iastore, 1) := by decide +kernel
theorem dX6_bin_30 : decode cX6_bin 30 = .ok (.aload_n 0, 1) := by decide +kernel
theorem dX6_bin_31 : decode cX6_bin 31 = .ok (.getfield 7, 3) := by decide +kernel
theorem dX6_bin_34 : decode cX6_bin 34 = .ok (.iconst 1, 1) := by decide +kernel
theorem dX6_bin_35 : decode cX6_bin 35 = .ok (.iload_n 2, 1) := by decide +kernel
theorem dX6_bin_36 : decode cX6_bin 36 = .ok (.iastore, 1) := by decide +kernel
theorem dX6_bin_37 : decode cX6_bin 37 = .ok (.aload_n 0, 1) := by decide +kernel
theorem dX6_bin_38 : decode cX6_bin 38 = .ok (.getfield 7, 3) := by decide +kernel
theorem dX6_bin_41 : decode cX6_bin 41 = .ok (.iconst 2, 1) := by decide +kernel
theorem dX6_bin_42 : decode cX6_bin 42 = .ok (.iload_n 3, 1) := by decide +kernel
theorem dX6_bin_43 : decode cX6_bin 43 = .ok (.iastore, 1) := by decide +kernel
theorem dX6_bin_44 : decode cX6_bin 44 = .ok (.aload_n 0, 1) := by decide +kernel
theorem dX6_bin_45 : decode cX6_bin 45 = .ok (.invokevirtual 74, 3) := by decide +kernel
theorem dX6_bin_48 : decode cX6_bin 48 = .ok (.iconst 0, 1) := by decide +kernel
theorem dX6_bin_49 : decode cX6_bin 49 = .ok (.ireturn, 1) := by decide +kernel
theorem dX6_isSide_0 : decode cX6_isSide 0 = .ok (.iload_n 0, 1) := by decide +kernel
theorem dX6_isSide_1 : decode cX6_isSide 1 = .ok (.iconst 1, 1) := by decide +kernel
theorem dX6_isSide_2 : decode cX6_isSide 2 = .ok (.if_icmp .lt 13, 3) := by decide +kernel
theorem dX6_isSide_5 : decode cX6_isSide 5 = .ok (.iload_n 0, 1) := by decide +kernel
theorem dX6_isSide_6 : decode cX6_isSide 6 = .ok (.bipush 20, 2) := by decide +kernel
theorem dX6_isSide_8 : decode cX6_isSide 8 = .ok (.if_icmp .gt 7, 3) := by decide +kernel
theorem dX6_isSide_11 : decode cX6_isSide 11 = .ok (.iconst 1, 1) := by decide +kernel
theorem dX6_isSide_12 : decode cX6_isSide 12 = .ok (.goto 4, 3) := by decide +kernel
theorem dX6_isSide_15 : decode cX6_isSide 15 = .ok (.iconst 0, 1) := by decide +kernel
theorem dX6_isSide_16 : decode cX6_isSide 16 = .ok (.ireturn, 1) := by decide +kernel
theorem dX6_box_0 : decode cX6_box 0 = .ok (.iload_n 1, 1) := by decide +kernel
theorem dX6_box_1 : decode cX6_box 1 = .ok (.invokestatic 148, 3) := by decide +kernel
theorem dX6_box_4 : decode cX6_box 4 = .ok (.ifCond .eq 17, 3) := by decide +kernel
theorem dX6_box_7 : decode cX6_box 7 = .ok (.iload_n 2, 1) := by decide +kernel
theorem dX6_box_8 : decode cX6_box 8 = .ok (.invokestatic 148, 3) := by decide +kernel
theorem dX6_box_11 : decode cX6_box 11 = .ok (.ifCond .eq 10, 3) := by decide +kernel
theorem dX6_box_14 : decode cX6_box 14 = .ok (.iload_n 3, 1) := by decide +kernel
theorem dX6_box_15 : decode cX6_box 15 = .ok (.invokestatic 148, 3) := by decide +kernel
theorem dX6_box_18 : decode cX6_box 18 = .ok (.ifCond .ne 5, 3) := by decide +kernel
theorem dX6_box_21 : decode cX6_box 21 = .ok (.iconst (-1), 1) := by decide +kernel
theorem dX6_box_22 : decode cX6_box 22 = .ok (.ireturn, 1) := by decide +kernel
theorem dX6_box_23 : decode cX6_box 23 = .ok (.aload_n 0, 1) := by decide +kernel
theorem dX6_box_24 : decode cX6_box 24 = .ok (.getfield 81, 3) := by decide +kernel
theorem dX6_box_27 : decode cX6_box 27 = .ok (.bipush 8, 2) := by decide +kernel
theorem dX6_box_29 : decode cX6_box 29 = .ok (.if_icmp .ne 6, 3) := by decide +kernel
theorem dX6_box_32 : decode cX6_box 32 = .ok (.bipush (-3), 2) := by decide +kernel
theorem dX6_box_34 : decode cX6_box 34 = .ok (.ireturn, 1) := by decide +kernel
theorem dX6_box_35 : decode cX6_box 35 = .ok (.aload_n 0, 1) := by decide +kernel
theorem dX6_box_36 : decode cX6_box 36 = .ok (.getfield 13, 3) := by decide +kernel
theorem dX6_box_39 : decode cX6_box 39 = .ok (.iconst 3, 1) := by decide +kernel
theorem dX6_box_40 : decode cX6_box 40 = .ok (.aload_n 0, 1) := by decide +kernel
theorem dX6_box_41 : decode cX6_box 41 = .ok (.getfield 81, 3) := by decide +kernel
theorem dX6_box_44 : decode cX6_box 44 = .ok (.imul, 1) := by decide +kernel
theorem dX6_box_45 : decode cX6_box 45 = .ok (.iload_n 1, 1) := by decide +kernel
theorem dX6_box_46 : decode cX6_box 46 = .ok (.iastore, 1) := by decide +kernel
theorem dX6_box_47 : decode cX6_box 47 = .ok (.aload_n 0, 1) := by decide +kernel
theorem dX6_box_48 : decode cX6_box 48 = .ok (.getfield 13, 3) := by decide +kernel
theorem dX6_box_51 : decode cX6_box 51 = .ok (.iconst 3, 1) := by decide +kernel
theorem dX6_box_52 : decode cX6_box 52 = .ok (.aload_n 0, 1) := by decide +kernel
theorem dX6_box_53 : decode cX6_box 53 = .ok (.getfield 81, 3) := by decide +kernel
theorem dX6_box_56 : decode cX6_box 56 = .ok (.imul, 1) := by decide +kernel
theorem dX6_box_57 : decode cX6_box 57 = .ok (.iconst 1, 1) := by decide +kernel
theorem dX6_box_58 : decode cX6_box 58 = .ok (.iadd, 1) := by decide +kernel
theorem dX6_box_59 : decode cX6_box 59 = .ok (.iload_n 2, 1) := by decide +kernel
theorem dX6_box_60 : decode cX6_box 60 = .ok (.iastore, 1) := by decide +kernel
theorem dX6_box_61 : decode cX6_box 61 = .ok (.aload_n 0, 1) := by decide +kernel
theorem dX6_box_62 : decode cX6_box 62 = .ok (.getfield 13, 3) := by decide +kernel
theorem dX6_box_65 : decode cX6_box 65 = .ok (.iconst 3, 1) := by decide +kernel
theorem dX6_box_66 : decode cX6_box 66 = .ok (.aload_n 0, 1) := by decide +kernel
theorem dX6_box_67 : decode cX6_box 67 = .ok (.getfield 81, 3) := by decide +kernel
theorem dX6_box_70 : decode cX6_box 70 = .ok (.imul, 1) := by decide +kernel
theorem dX6_box_71 : decode cX6_box 71 = .ok (.iconst 2, 1) := by decide +kernel
theorem dX6_box_72 : decode cX6_box 72 = .ok (.iadd, 1) := by decide +kernel
theorem dX6_box_73 : decode cX6_box 73 = .ok (.iload_n 3, 1) := by decide +kernel
theorem dX6_box_74 : decode cX6_box 74 = .ok (.iastore, 1) := by decide +kernel
theorem dX6_box_75 : decode cX6_box 75 = .ok (.aload_n 0, 1) := by decide +kernel
theorem dX6_box_76 : decode cX6_box 76 = .ok (.getfield 16, 3) := by decide +kernel
theorem dX6_box_79 : decode cX6_box 79 = .ok (.aload_n 0, 1) := by decide +kernel
theorem dX6_box_80 : decode cX6_box 80 = .ok (.getfield 81, 3) := by decide +kernel
theorem dX6_box_83 : decode cX6_box 83 = .ok (.iconst 1, 1) := by decide +kernel
theorem dX6_box_84 : decode cX6_box 84 = .ok (.iastore, 1) := by decide +kernel
theorem dX6_box_85 : decode cX6_box 85 = .ok (.aload_n 0, 1) := by decide +kernel
theorem dX6_box_86 : decode cX6_box 86 = .ok (.getfield 19, 3) := by decide +kernel
theorem dX6_box_89 : decode cX6_box 89 = .ok (.aload_n 0, 1) := by decide +kernel
theorem dX6_box_90 : decode cX6_box 90 = .ok (.dup, 1) := by decide +kernel
theorem dX6_box_91 : decode cX6_box 91 = .ok (.getfield 81, 3) := by decide +kernel
theorem dX6_box_94 : decode cX6_box 94 = .ok (.dup_x1, 1) := by decide +kernel
theorem dX6_box_95 : decode cX6_box 95 = .ok (.iconst 1, 1) := by decide +kernel
theorem dX6_box_96 : decode cX6_box 96 = .ok (.iadd, 1) := by decide +kernel
theorem dX6_box_97 : decode cX6_box 97 = .ok (.putfield 81, 3) := by decide +kernel
theorem dX6_box_100 : decode cX6_box 100 = .ok (.iconst 1, 1) := by decide +kernel
theorem dX6_box_101 : decode cX6_box 101 = .ok (.iastore, 1) := by decide +kernel
theorem dX6_box_102 : decode cX6_box 102 = .ok (.aload_n 0, 1) := by decide +kernel
theorem dX6_box_103 : decode cX6_box 103 = .ok (.invokevirtual 74, 3) := by decide +kernel
theorem dX6_box_106 : decode cX6_box 106 = .ok (.aload_n 0, 1) := by decide +kernel
theorem dX6_box_107 : decode cX6_box 107 = .ok (.getfield 81, 3) := by decide +kernel
theorem dX6_box_110 : decode cX6_box 110 = .ok (.iconst 1, 1) := by decide +kernel
theorem dX6_box_111 : decode cX6_box 111 = .ok (.isub, 1) := by decide +kernel
theorem dX6_box_112 : decode cX6_box 112 = .ok (.ireturn, 1) := by decide +kernel
theorem dX6_isBox_0 : decode cX6_isBox 0 = .ok (.iload_n 1, 1) := by decide +kernel
theorem dX6_isBox_1 : decode cX6_isBox 1 = .ok (.ifCond .lt 15, 3) := by decide +kernel
theorem dX6_isBox_4 : decode cX6_isBox 4 = .ok (.iload_n 1, 1) := by decide +kernel
theorem dX6_isBox_5 : decode cX6_isBox 5 = .ok (.aload_n 0, 1) := by decide +kernel
theorem dX6_isBox_6 : decode cX6_isBox 6 = .ok (.getfield 81, 3) := by decide +kernel
theorem dX6_isBox_9 : decode cX6_isBox 9 = .ok (.if_icmp .ge 7, 3) := by decide +kernel
theorem dX6_isBox_12 : decode cX6_isBox 12 = .ok (.iconst 1, 1) := by decide +kernel
theorem dX6_isBox_13 : decode cX6_isBox 13 = .ok (.goto 4, 3) := by decide +kernel
theorem dX6_isBox_16 : decode cX6_isBox 16 = .ok (.iconst 0, 1) := by decide +kernel
theorem dX6_isBox_17 : decode cX6_isBox 17 = .ok (.ireturn, 1) := by decide +kernel
theorem dX6_turns_0 : decode cX6_turns 0 = .ok (.aload_n 0, 1) := by decide +kernel
theorem dX6_turns_1 : decode cX6_turns 1 = .ok (.iload_n 1, 1) := by decide +kernel
theorem dX6_turns_2 : decode cX6_turns 2 = .ok (.invokevirtual 151, 3) := by decide +kernel
theorem dX6_turns_5 : decode cX6_turns 5 = .ok (.ifCond .eq 14, 3) := by decide +kernel
theorem dX6_turns_8 : decode cX6_turns 8 = .ok (.iload_n 2, 1) := by decide +kernel
theorem dX6_turns_9 : decode cX6_turns 9 = .ok (.iconst 1, 1) := by decide +kernel
theorem dX6_turns_10 : decode cX6_turns 10 = .ok (.if_icmp .lt 9, 3) := by decide +kernel
theorem dX6_turns_13 : decode cX6_turns 13 = .ok (.iload_n 2, 1) := by decide +kernel
theorem dX6_turns_14 : decode cX6_turns 14 = .ok (.bipush 63, 2) := by decide +kernel
theorem dX6_turns_16 : decode cX6_turns 16 = .ok (.if_icmp .le 5, 3) := by decide +kernel
theorem dX6_turns_19 : decode cX6_turns 19 = .ok (.iconst (-1), 1) := by decide +kernel
theorem dX6_turns_20 : decode cX6_turns 20 = .ok (.ireturn, 1) := by decide +kernel
theorem dX6_turns_21 : decode cX6_turns 21 = .ok (.aload_n 0, 1) := by decide +kernel
theorem dX6_turns_22 : decode cX6_turns 22 = .ok (.getfield 19, 3) := by decide +kernel
theorem dX6_turns_25 : decode cX6_turns 25 = .ok (.iload_n 1, 1) := by decide +kernel
theorem dX6_turns_26 : decode cX6_turns 26 = .ok (.iaload, 1) := by decide +kernel
theorem dX6_turns_27 : decode cX6_turns 27 = .ok (.istore_n 3, 1) := by decide +kernel
theorem dX6_turns_28 : decode cX6_turns 28 = .ok (.aload_n 0, 1) := by decide +kernel
theorem dX6_turns_29 : decode cX6_turns 29 = .ok (.getfield 19, 3) := by decide +kernel
theorem dX6_turns_32 : decode cX6_turns 32 = .ok (.iload_n 1, 1) := by decide +kernel
theorem dX6_turns_33 : decode cX6_turns 33 = .ok (.iload_n 2, 1) := by decide +kernel
theorem dX6_turns_34 : decode cX6_turns 34 = .ok (.iastore, 1) := by decide +kernel
theorem dX6_turns_35 : decode cX6_turns 35 = .ok (.aload_n 0, 1) := by decide +kernel
theorem dX6_turns_36 : decode cX6_turns 36 = .ok (.invokevirtual 74, 3) := by decide +kernel
theorem dX6_turns_39 : decode cX6_turns 39 = .ok (.iload_n 3, 1) := by decide +kernel
theorem dX6_turns_40 : decode cX6_turns 40 = .ok (.ireturn, 1) := by decide +kernel
theorem dX6_weight_0 : decode cX6_weight 0 = .ok (.aload_n 0, 1) := by decide +kernel
theorem dX6_weight_1 : decode cX6_weight 1 = .ok (.iload_n 1, 1) := by decide +kernel
theorem dX6_weight_2 : decode cX6_weight 2 = .ok (.invokevirtual 151, 3) := by decide +kernel
theorem dX6_weight_5 : decode cX6_weight 5 = .ok (.ifCond .eq 14, 3) := by decide +kernel
theorem dX6_weight_8 : decode cX6_weight 8 = .ok (.iload_n 2, 1) := by decide +kernel
theorem dX6_weight_9 : decode cX6_weight 9 = .ok (.ifCond .lt 10, 3) := by decide +kernel
theorem dX6_weight_12 : decode cX6_weight 12 = .ok (.iload_n 2, 1) := by decide +kernel
theorem dX6_weight_13 : decode cX6_weight 13 = .ok (.sipush 1000, 3) := by decide +kernel
theorem dX6_weight_16 : decode cX6_weight 16 = .ok (.if_icmp .le 5, 3) := by decide +kernel
theorem dX6_weight_19 : decode cX6_weight 19 = .ok (.iconst (-1), 1) := by decide +kernel
theorem dX6_weight_20 : decode cX6_weight 20 = .ok (.ireturn, 1) := by decide +kernel
theorem dX6_weight_21 : decode cX6_weight 21 = .ok (.aload_n 0, 1) := by decide +kernel
theorem dX6_weight_22 : decode cX6_weight 22 = .ok (.getfield 16, 3) := by decide +kernel
theorem dX6_weight_25 : decode cX6_weight 25 = .ok (.iload_n 1, 1) := by decide +kernel
theorem dX6_weight_26 : decode cX6_weight 26 = .ok (.iaload, 1) := by decide +kernel
theorem dX6_weight_27 : decode cX6_weight 27 = .ok (.istore_n 3, 1) := by decide +kernel
theorem dX6_weight_28 : decode cX6_weight 28 = .ok (.aload_n 0, 1) := by decide +kernel
theorem dX6_weight_29 : decode cX6_weight 29 = .ok (.getfield 16, 3) := by decide +kernel
theorem dX6_weight_32 : decode cX6_weight 32 = .ok (.iload_n 1, 1) := by decide +kernel
theorem dX6_weight_33 : decode cX6_weight 33 = .ok (.iload_n 2, 1) := by decide +kernel
theorem dX6_weight_34 : decode cX6_weight 34 = .ok (.iastore, 1) := by decide +kernel
theorem dX6_weight_35 : decode cX6_weight 35 = .ok (.iload_n 3, 1) := by decide +kernel
theorem dX6_weight_36 : decode cX6_weight 36 = .ok (.ireturn, 1) := by decide +kernel
theorem dX6_clear_0 : decode cX6_clear 0 = .ok (.aload_n 0, 1) := by decide +kernel
theorem dX6_clear_1 : decode cX6_clear 1 = .ok (.getfield 81, 3) := by decide +kernel
theorem dX6_clear_4 : decode cX6_clear 4 = .ok (.istore_n 1, 1) := by decide +kernel
theorem dX6_clear_5 : decode cX6_clear 5 = .ok (.aload_n 0, 1) := by decide +kernel
theorem dX6_clear_6 : decode cX6_clear 6 = .ok (.iconst 0, 1) := by decide +kernel
theorem dX6_clear_7 : decode cX6_clear 7 = .ok (.putfield 81, 3) := by decide +kernel
theorem dX6_clear_10 : decode cX6_clear 10 = .ok (.aload_n 0, 1) := by decide +kernel
theorem dX6_clear_11 : decode cX6_clear 11 = .ok (.invokevirtual 74, 3) := by decide +kernel
theorem dX6_clear_14 : decode cX6_clear 14 = .ok (.iload_n 1, 1) := by decide +kernel
theorem dX6_clear_15 : decode cX6_clear 15 = .ok (.ireturn, 1) := by decide +kernel
theorem dX6_told_0 : decode cX6_told 0 = .ok (.iload_n 1, 1) := by decide +kernel
theorem dX6_told_1 : decode cX6_told 1 = .ok (.ifCond .ne 9, 3) := by decide +kernel
theorem dX6_told_4 : decode cX6_told 4 = .ok (.aload_n 0, 1) := by decide +kernel
theorem dX6_told_5 : decode cX6_told 5 = .ok (.getfield 91, 3) := by decide +kernel
theorem dX6_told_8 : decode cX6_told 8 = .ok (.l2i, 1) := by decide +kernel
theorem dX6_told_9 : decode cX6_told 9 = .ok (.ireturn, 1) := by decide +kernel
theorem dX6_told_10 : decode cX6_told 10 = .ok (.iload_n 1, 1) := by decide +kernel
theorem dX6_told_11 : decode cX6_told 11 = .ok (.ifCond .lt 16, 3) := by decide +kernel
theorem dX6_told_14 : decode cX6_told 14 = .ok (.iload_n 1, 1) := by decide +kernel
theorem dX6_told_15 : decode cX6_told 15 = .ok (.iconst 5, 1) := by decide +kernel
theorem dX6_told_16 : decode cX6_told 16 = .ok (.if_icmp .gt 11, 3) := by decide +kernel
theorem dX6_told_19 : decode cX6_told 19 = .ok (.aload_n 0, 1) := by decide +kernel
theorem dX6_told_20 : decode cX6_told 20 = .ok (.iload_n 2, 1) := by decide +kernel
theorem dX6_told_21 : decode cX6_told 21 = .ok (.invokevirtual 151, 3) := by decide +kernel
theorem dX6_told_24 : decode cX6_told 24 = .ok (.ifCond .ne 5, 3) := by decide +kernel
theorem dX6_told_27 : decode cX6_told 27 = .ok (.iconst (-1), 1) := by decide +kernel
theorem dX6_told_28 : decode cX6_told 28 = .ok (.ireturn, 1) := by decide +kernel
theorem dX6_told_29 : decode cX6_told 29 = .ok (.iload_n 1, 1) := by decide +kernel
theorem dX6_told_30 : decode cX6_told 30 = .ok (.iconst 3, 1) := by decide +kernel
theorem dX6_told_31 : decode cX6_told 31 = .ok (.if_icmp .ge 23, 3) := by decide +kernel
theorem dX6_told_34 : decode cX6_told 34 = .ok (.iload_n 1, 1) := by decide +kernel
theorem dX6_told_35 : decode cX6_told 35 = .ok (.iconst 1, 1) := by decide +kernel
theorem dX6_told_36 : decode cX6_told 36 = .ok (.if_icmp .ne 12, 3) := by decide +kernel
theorem dX6_told_39 : decode cX6_told 39 = .ok (.aload_n 0, 1) := by decide +kernel
theorem dX6_told_40 : decode cX6_told 40 = .ok (.getfield 28, 3) := by decide +kernel
theorem dX6_told_43 : decode cX6_told 43 = .ok (.iload_n 2, 1) := by decide +kernel
theorem dX6_told_44 : decode cX6_told 44 = .ok (.iaload, 1) := by decide +kernel
theorem dX6_told_45 : decode cX6_told 45 = .ok (.goto 8, 3) := by decide +kernel
theorem dX6_told_48 : decode cX6_told 48 = .ok (.aload_n 0, 1) := by decide +kernel
theorem dX6_told_49 : decode cX6_told 49 = .ok (.iload_n 2, 1) := by decide +kernel
theorem dX6_told_50 : decode cX6_told 50 = .ok (.invokevirtual 138, 3) := by decide +kernel
theorem dX6_told_53 : decode cX6_told 53 = .ok (.ireturn, 1) := by decide +kernel
theorem dX6_told_54 : decode cX6_told 54 = .ok (.iconst 0, 1) := by decide +kernel
theorem dX6_told_55 : decode cX6_told 55 = .ok (.istore_n 3, 1) := by decide +kernel
theorem dX6_told_56 : decode cX6_told 56 = .ok (.iconst 0, 1) := by decide +kernel
theorem dX6_told_57 : decode cX6_told 57 = .ok (.istore 4, 2) := by decide +kernel
theorem dX6_told_59 : decode cX6_told 59 = .ok (.iload 4, 2) := by decide +kernel
theorem dX6_told_61 : decode cX6_told 61 = .ok (.aload_n 0, 1) := by decide +kernel
theorem dX6_told_62 : decode cX6_told 62 = .ok (.getfield 7, 3) := by decide +kernel
theorem dX6_told_65 : decode cX6_told 65 = .ok (.iload_n 1, 1) := by decide +kernel
theorem dX6_told_66 : decode cX6_told 66 = .ok (.iconst 3, 1) := by decide +kernel
theorem dX6_told_67 : decode cX6_told 67 = .ok (.isub, 1) := by decide +kernel
theorem dX6_told_68 : decode cX6_told 68 = .ok (.iaload, 1) := by decide +kernel
theorem dX6_told_69 : decode cX6_told 69 = .ok (.if_icmp .gt 30, 3) := by decide +kernel
theorem dX6_told_72 : decode cX6_told 72 = .ok (.iload_n 3, 1) := by decide +kernel
theorem dX6_told_73 : decode cX6_told 73 = .ok (.aload_n 0, 1) := by decide +kernel
theorem dX6_told_74 : decode cX6_told 74 = .ok (.iload_n 2, 1) := by decide +kernel
theorem dX6_told_75 : decode cX6_told 75 = .ok (.iload_n 1, 1) := by decide +kernel
theorem dX6_told_76 : decode cX6_told 76 = .ok (.iconst 3, 1) := by decide +kernel
theorem dX6_told_77 : decode cX6_told 77 = .ok (.isub, 1) := by decide +kernel
theorem dX6_told_78 : decode cX6_told 78 = .ok (.iload 4, 2) := by decide +kernel
theorem dX6_told_80 : decode cX6_told 80 = .ok (.invokevirtual 124, 3) := by decide +kernel
theorem dX6_told_83 : decode cX6_told 83 = .ok (.ifCond .eq 7, 3) := by decide +kernel
theorem dX6_told_86 : decode cX6_told 86 = .ok (.iconst 1, 1) := by decide +kernel
theorem dX6_told_87 : decode cX6_told 87 = .ok (.goto 4, 3) := by decide +kernel
theorem dX6_told_90 : decode cX6_told 90 = .ok (.iconst 0, 1) := by decide +kernel
theorem dX6_told_91 : decode cX6_told 91 = .ok (.iadd, 1) := by decide +kernel
theorem dX6_told_92 : decode cX6_told 92 = .ok (.istore_n 3, 1) := by decide +kernel
theorem dX6_told_93 : decode cX6_told 93 = .ok (.iinc 4 1, 3) := by decide +kernel
theorem dX6_told_96 : decode cX6_told 96 = .ok (.goto (-37), 3) := by decide +kernel
theorem dX6_told_99 : decode cX6_told 99 = .ok (.iload_n 3, 1) := by decide +kernel
theorem dX6_told_100 : decode cX6_told 100 = .ok (.ireturn, 1) := by decide +kernel
theorem dX6_plan_0 : decode cX6_plan 0 = .ok (.aload_n 0, 1) := by decide +kernel
theorem dX6_plan_1 : decode cX6_plan 1 = .ok (.getfield 85, 3) := by decide +kernel
theorem dX6_plan_4 : decode cX6_plan 4 = .ok (.iconst 1, 1) := by decide +kernel
theorem dX6_plan_5 : decode cX6_plan 5 = .ok (.if_icmp .eq 6, 3) := by decide +kernel
theorem dX6_plan_8 : decode cX6_plan 8 = .ok (.bipush (-2), 2) := by decide +kernel
theorem dX6_plan_10 : decode cX6_plan 10 = .ok (.ireturn, 1) := by decide +kernel
theorem dX6_plan_11 : decode cX6_plan 11 = .ok (.iconst 0, 1) := by decide +kernel
theorem dX6_plan_12 : decode cX6_plan 12 = .ok (.istore_n 1, 1) := by decide +kernel
theorem dX6_plan_13 : decode cX6_plan 13 = .ok (.iload_n 1, 1) := by decide +kernel
theorem dX6_plan_14 : decode cX6_plan 14 = .ok (.aload_n 0, 1) := by decide +kernel
theorem dX6_plan_15 : decode cX6_plan 15 = .ok (.getfield 81, 3) := by decide +kernel
theorem dX6_plan_18 : decode cX6_plan 18 = .ok (.if_icmp .ge 56, 3) := by decide +kernel
theorem dX6_plan_21 : decode cX6_plan 21 = .ok (.aload_n 0, 1) := by decide +kernel
theorem dX6_plan_22 : decode cX6_plan 22 = .ok (.getfield 22, 3) := by decide +kernel
theorem dX6_plan_25 : decode cX6_plan 25 = .ok (.iload_n 1, 1) := by decide +kernel
theorem dX6_plan_26 : decode cX6_plan 26 = .ok (.aload_n 0, 1) := by decide +kernel
theorem dX6_plan_27 : decode cX6_plan 27 = .ok (.getfield 34, 3) := by decide +kernel
theorem dX6_plan_30 : decode cX6_plan 30 = .ok (.iload_n 1, 1) := by decide +kernel
theorem dX6_plan_31 : decode cX6_plan 31 = .ok (.iaload, 1) := by decide +kernel
theorem dX6_plan_32 : decode cX6_plan 32 = .ok (.iconst 1, 1) := by decide +kernel
theorem dX6_plan_33 : decode cX6_plan 33 = .ok (.iadd, 1) := by decide +kernel
theorem dX6_plan_34 : decode cX6_plan 34 = .ok (.iastore, 1) := by decide +kernel
theorem dX6_plan_35 : decode cX6_plan 35 = .ok (.iconst 0, 1) := by decide +kernel
theorem dX6_plan_36 : decode cX6_plan 36 = .ok (.istore_n 2, 1) := by decide +kernel
theorem dX6_plan_37 : decode cX6_plan 37 = .ok (.iload_n 2, 1) := by decide +kernel
theorem dX6_plan_38 : decode cX6_plan 38 = .ok (.iconst 3, 1) := by decide +kernel
theorem dX6_plan_39 : decode cX6_plan 39 = .ok (.if_icmp .ge 29, 3) := by decide +kernel
theorem dX6_plan_42 : decode cX6_plan 42 = .ok (.aload_n 0, 1) := by decide +kernel
theorem dX6_plan_43 : decode cX6_plan 43 = .ok (.getfield 25, 3) := by decide +kernel
theorem dX6_plan_46 : decode cX6_plan 46 = .ok (.iconst 3, 1) := by decide +kernel
theorem dX6_plan_47 : decode cX6_plan 47 = .ok (.iload_n 1, 1) := by decide +kernel
theorem dX6_plan_48 : decode cX6_plan 48 = .ok (.imul, 1) := by decide +kernel
theorem dX6_plan_49 : decode cX6_plan 49 = .ok (.iload_n 2, 1) := by decide +kernel
theorem dX6_plan_50 : decode cX6_plan 50 = .ok (.iadd, 1) := by decide +kernel
theorem dX6_plan_51 : decode cX6_plan 51 = .ok (.aload_n 0, 1) := by decide +kernel
theorem dX6_plan_52 : decode cX6_plan 52 = .ok (.getfield 37, 3) := by decide +kernel
theorem dX6_plan_55 : decode cX6_plan 55 = .ok (.iconst 3, 1) := by decide +kernel
theorem dX6_plan_56 : decode cX6_plan 56 = .ok (.iload_n 1, 1) := by decide +kernel
theorem dX6_plan_57 : decode cX6_plan 57 = .ok (.imul, 1) := by decide +kernel
theorem dX6_plan_58 : decode cX6_plan 58 = .ok (.iload_n 2, 1) := by decide +kernel
theorem dX6_plan_59 : decode cX6_plan 59 = .ok (.iadd, 1) := by decide +kernel
theorem dX6_plan_60 : decode cX6_plan 60 = .ok (.iaload, 1) := by decide +kernel
theorem dX6_plan_61 : decode cX6_plan 61 = .ok (.iastore, 1) := by decide +kernel
theorem dX6_plan_62 : decode cX6_plan 62 = .ok (.iinc 2 1, 3) := by decide +kernel
theorem dX6_plan_65 : decode cX6_plan 65 = .ok (.goto (-28), 3) := by decide +kernel
theorem dX6_plan_68 : decode cX6_plan 68 = .ok (.iinc 1 1, 3) := by decide +kernel
theorem dX6_plan_71 : decode cX6_plan 71 = .ok (.goto (-58), 3) := by decide +kernel
theorem dX6_plan_74 : decode cX6_plan 74 = .ok (.aload_n 0, 1) := by decide +kernel
theorem dX6_plan_75 : decode cX6_plan 75 = .ok (.getfield 81, 3) := by decide +kernel
theorem dX6_plan_78 : decode cX6_plan 78 = .ok (.ireturn, 1) := by decide +kernel
theorem dX6_isPlace_0 : decode cX6_isPlace 0 = .ok (.aload_n 0, 1) := by decide +kernel
theorem dX6_isPlace_1 : decode cX6_isPlace 1 = .ok (.iload_n 1, 1) := by decide +kernel
theorem dX6_isPlace_2 : decode cX6_isPlace 2 = .ok (.invokevirtual 151, 3) := by decide +kernel
theorem dX6_isPlace_5 : decode cX6_isPlace 5 = .ok (.ifCond .eq 96, 3) := by decide +kernel
theorem dX6_isPlace_8 : decode cX6_isPlace 8 = .ok (.iload_n 2, 1) := by decide +kernel
theorem dX6_isPlace_9 : decode cX6_isPlace 9 = .ok (.ifCond .lt 92, 3) := by decide +kernel
theorem dX6_isPlace_12 : decode cX6_isPlace 12 = .ok (.iload_n 2, 1) := by decide +kernel
theorem dX6_isPlace_13 : decode cX6_isPlace 13 = .ok (.bipush 6, 2) := by decide +kernel
theorem dX6_isPlace_15 : decode cX6_isPlace 15 = .ok (.if_icmp .ge 86, 3) := by decide +kernel
theorem dX6_isPlace_18 : decode cX6_isPlace 18 = .ok (.aload_n 0, 1) := by decide +kernel
theorem dX6_isPlace_19 : decode cX6_isPlace 19 = .ok (.iload_n 1, 1) := by decide +kernel
theorem dX6_isPlace_20 : decode cX6_isPlace 20 = .ok (.iload_n 2, 1) := by decide +kernel
theorem dX6_isPlace_21 : decode cX6_isPlace 21 = .ok (.invokevirtual 118, 3) := by decide +kernel
theorem dX6_isPlace_24 : decode cX6_isPlace 24 = .ok (.ifCond .eq 77, 3) := by decide +kernel
theorem dX6_isPlace_27 : decode cX6_isPlace 27 = .ok (.iload_n 3, 1) := by decide +kernel
theorem dX6_isPlace_28 : decode cX6_isPlace 28 = .ok (.ifCond .lt 73, 3) := by decide +kernel
theorem dX6_isPlace_31 : decode cX6_isPlace 31 = .ok (.iload_n 3, 1) := by decide +kernel
theorem dX6_isPlace_32 : decode cX6_isPlace 32 = .ok (.aload_n 0, 1) := by decide +kernel
theorem dX6_isPlace_33 : decode cX6_isPlace 33 = .ok (.getfield 7, 3) := by decide +kernel
theorem dX6_isPlace_36 : decode cX6_isPlace 36 = .ok (.iconst 0, 1) := by decide +kernel
theorem dX6_isPlace_37 : decode cX6_isPlace 37 = .ok (.iaload, 1) := by decide +kernel
theorem dX6_isPlace_38 : decode cX6_isPlace 38 = .ok (.aload_n 0, 1) := by decide +kernel
theorem dX6_isPlace_39 : decode cX6_isPlace 39 = .ok (.iload_n 1, 1) := by decide +kernel
theorem dX6_isPlace_40 : decode cX6_isPlace 40 = .ok (.iload_n 2, 1) := by decide +kernel
theorem dX6_isPlace_41 : decode cX6_isPlace 41 = .ok (.iconst 0, 1) := by decide +kernel
theorem dX6_isPlace_42 : decode cX6_isPlace 42 = .ok (.invokevirtual 121, 3) := by decide +kernel
theorem dX6_isPlace_45 : decode cX6_isPlace 45 = .ok (.isub, 1) := by decide +kernel
theorem dX6_isPlace_46 : decode cX6_isPlace 46 = .ok (.if_icmp .gt 55, 3) := by decide +kernel
theorem dX6_isPlace_49 : decode cX6_isPlace 49 = .ok (.iload 4, 2) := by decide +kernel
theorem dX6_isPlace_51 : decode cX6_isPlace 51 = .ok (.ifCond .lt 50, 3) := by decide +kernel
theorem dX6_isPlace_54 : decode cX6_isPlace 54 = .ok (.iload 4, 2) := by decide +kernel
theorem dX6_isPlace_56 : decode cX6_isPlace 56 = .ok (.aload_n 0, 1) := by decide +kernel
theorem dX6_isPlace_57 : decode cX6_isPlace 57 = .ok (.getfield 7, 3) := by decide +kernel
theorem dX6_isPlace_60 : decode cX6_isPlace 60 = .ok (.iconst 1, 1) := by decide +kernel
theorem dX6_isPlace_61 : decode cX6_isPlace 61 = .ok (.iaload, 1) := by decide +kernel
theorem dX6_isPlace_62 : decode cX6_isPlace 62 = .ok (.aload_n 0, 1) := by decide +kernel
theorem dX6_isPlace_63 : decode cX6_isPlace 63 = .ok (.iload_n 1, 1) := by decide +kernel
theorem dX6_isPlace_64 : decode cX6_isPlace 64 = .ok (.iload_n 2, 1) := by decide +kernel
theorem dX6_isPlace_65 : decode cX6_isPlace 65 = .ok (.iconst 1, 1) := by decide +kernel
theorem dX6_isPlace_66 : decode cX6_isPlace 66 = .ok (.invokevirtual 121, 3) := by decide +kernel
theorem dX6_isPlace_69 : decode cX6_isPlace 69 = .ok (.isub, 1) := by decide +kernel
theorem dX6_isPlace_70 : decode cX6_isPlace 70 = .ok (.if_icmp .gt 31, 3) := by decide +kernel
theorem dX6_isPlace_73 : decode cX6_isPlace 73 = .ok (.iload 5, 2) := by decide +kernel
theorem dX6_isPlace_75 : decode cX6_isPlace 75 = .ok (.ifCond .lt 26, 3) := by decide +kernel
theorem dX6_isPlace_78 : decode cX6_isPlace 78 = .ok (.iload 5, 2) := by decide +kernel
theorem dX6_isPlace_80 : decode cX6_isPlace 80 = .ok (.aload_n 0, 1) := by decide +kernel
theorem dX6_isPlace_81 : decode cX6_isPlace 81 = .ok (.getfield 7, 3) := by decide +kernel
theorem dX6_isPlace_84 : decode cX6_isPlace 84 = .ok (.iconst 2, 1) := by decide +kernel
theorem dX6_isPlace_85 : decode cX6_isPlace 85 = .ok (.iaload, 1) := by decide +kernel
theorem dX6_isPlace_86 : decode cX6_isPlace 86 = .ok (.aload_n 0, 1) := by decide +kernel
theorem dX6_isPlace_87 : decode cX6_isPlace 87 = .ok (.iload_n 1, 1) := by decide +kernel
theorem dX6_isPlace_88 : decode cX6_isPlace 88 = .ok (.iload_n 2, 1) := by decide +kernel
theorem dX6_isPlace_89 : decode cX6_isPlace 89 = .ok (.iconst 2, 1) := by decide +kernel
theorem dX6_isPlace_90 : decode cX6_isPlace 90 = .ok (.invokevirtual 121, 3) := by decide +kernel
theorem dX6_isPlace_93 : decode cX6_isPlace 93 = .ok (.isub, 1) := by decide +kernel
theorem dX6_isPlace_94 : decode cX6_isPlace 94 = .ok (.if_icmp .gt 7, 3) := by decide +kernel
theorem dX6_isPlace_97 : decode cX6_isPlace 97 = .ok (.iconst 1, 1) := by decide +kernel
theorem dX6_isPlace_98 : decode cX6_isPlace 98 = .ok (.goto 4, 3) := by decide +kernel
theorem dX6_isPlace_101 : decode cX6_isPlace 101 = .ok (.iconst 0, 1) := by decide +kernel
theorem dX6_isPlace_102 : decode cX6_isPlace 102 = .ok (.ireturn, 1) := by decide +kernel
theorem dX6_lay_0 : decode cX6_lay 0 = .ok (.aload_n 0, 1) := by decide +kernel
theorem dX6_lay_1 : decode cX6_lay 1 = .ok (.iload_n 1, 1) := by decide +kernel
theorem dX6_lay_2 : decode cX6_lay 2 = .ok (.iload_n 2, 1) := by decide +kernel
theorem dX6_lay_3 : decode cX6_lay 3 = .ok (.iload_n 3, 1) := by decide +kernel
theorem dX6_lay_4 : decode cX6_lay 4 = .ok (.iload 4, 2) := by decide +kernel
theorem dX6_lay_6 : decode cX6_lay 6 = .ok (.iload 5, 2) := by decide +kernel
theorem dX6_lay_8 : decode cX6_lay 8 = .ok (.invokevirtual 154, 3) := by decide +kernel
theorem dX6_lay_11 : decode cX6_lay 11 = .ok (.ifCond .ne 5, 3) := by decide +kernel
theorem dX6_lay_14 : decode cX6_lay 14 = .ok (.iconst (-1), 1) := by decide +kernel
theorem dX6_lay_15 : decode cX6_lay 15 = .ok (.ireturn, 1) := by decide +kernel
theorem dX6_lay_16 : decode cX6_lay 16 = .ok (.aload_n 0, 1) := by decide +kernel
theorem dX6_lay_17 : decode cX6_lay 17 = .ok (.getfield 22, 3) := by decide +kernel
theorem dX6_lay_20 : decode cX6_lay 20 = .ok (.iload_n 1, 1) := by decide +kernel
theorem dX6_lay_21 : decode cX6_lay 21 = .ok (.iload_n 2, 1) := by decide +kernel
theorem dX6_lay_22 : decode cX6_lay 22 = .ok (.iconst 1, 1) := by decide +kernel
theorem dX6_lay_23 : decode cX6_lay 23 = .ok (.iadd, 1) := by decide +kernel
theorem dX6_lay_24 : decode cX6_lay 24 = .ok (.iastore, 1) := by decide +kernel
theorem dX6_lay_25 : decode cX6_lay 25 = .ok (.aload_n 0, 1) := by decide +kernel
theorem dX6_lay_26 : decode cX6_lay 26 = .ok (.getfield 25, 3) := by decide +kernel
theorem dX6_lay_29 : decode cX6_lay 29 = .ok (.iconst 3, 1) := by decide +kernel
theorem dX6_lay_30 : decode cX6_lay 30 = .ok (.iload_n 1, 1) := by decide +kernel
theorem dX6_lay_31 : decode cX6_lay 31 = .ok (.imul, 1) := by decide +kernel
theorem dX6_lay_32 : decode cX6_lay 32 = .ok (.iload_n 3, 1) := by decide +kernel
theorem dX6_lay_33 : decode cX6_lay 33 = .ok (.iastore, 1) := by decide +kernel
theorem dX6_lay_34 : decode cX6_lay 34 = .ok (.aload_n 0, 1) := by decide +kernel
theorem dX6_lay_35 : decode cX6_lay 35 = .ok (.getfield 25, 3) := by decide +kernel
theorem dX6_lay_38 : decode cX6_lay 38 = .ok (.iconst 3, 1) := by decide +kernel
theorem dX6_lay_39 : decode cX6_lay 39 = .ok (.iload_n 1, 1) := by decide +kernel
theorem dX6_lay_40 : decode cX6_lay 40 = .ok (.imul, 1) := by decide +kernel
theorem dX6_lay_41 : decode cX6_lay 41 = .ok (.iconst 1, 1) := by decide +kernel
theorem dX6_lay_42 : decode cX6_lay 42 = .ok (.iadd, 1) := by decide +kernel
theorem dX6_lay_43 : decode cX6_lay 43 = .ok (.iload 4, 2) := by decide +kernel
theorem dX6_lay_45 : decode cX6_lay 45 = .ok (.iastore, 1) := by decide +kernel
theorem dX6_lay_46 : decode cX6_lay 46 = .ok (.aload_n 0, 1) := by decide +kernel
theorem dX6_lay_47 : decode cX6_lay 47 = .ok (.getfield 25, 3) := by decide +kernel
theorem dX6_lay_50 : decode cX6_lay 50 = .ok (.iconst 3, 1) := by decide +kernel
theorem dX6_lay_51 : decode cX6_lay 51 = .ok (.iload_n 1, 1) := by decide +kernel
theorem dX6_lay_52 : decode cX6_lay 52 = .ok (.imul, 1) := by decide +kernel
theorem dX6_lay_53 : decode cX6_lay 53 = .ok (.iconst 2, 1) := by decide +kernel
theorem dX6_lay_54 : decode cX6_lay 54 = .ok (.iadd, 1) := by decide +kernel
theorem dX6_lay_55 : decode cX6_lay 55 = .ok (.iload 5, 2) := by decide +kernel
theorem dX6_lay_57 : decode cX6_lay 57 = .ok (.iastore, 1) := by decide +kernel
theorem dX6_lay_58 : decode cX6_lay 58 = .ok (.aload_n 0, 1) := by decide +kernel
theorem dX6_lay_59 : decode cX6_lay 59 = .ok (.invokevirtual 158, 3) := by decide +kernel
theorem dX6_lay_62 : decode cX6_lay 62 = .ok (.ireturn, 1) := by decide +kernel
theorem dX6_lift_0 : decode cX6_lift 0 = .ok (.aload_n 0, 1) := by decide +kernel
theorem dX6_lift_1 : decode cX6_lift 1 = .ok (.iload_n 1, 1) := by decide +kernel
theorem dX6_lift_2 : decode cX6_lift 2 = .ok (.invokevirtual 151, 3) := by decide +kernel
theorem dX6_lift_5 : decode cX6_lift 5 = .ok (.ifCond .ne 5, 3) := by decide +kernel
theorem dX6_lift_8 : decode cX6_lift 8 = .ok (.iconst (-1), 1) := by decide +kernel
theorem dX6_lift_9 : decode cX6_lift 9 = .ok (.ireturn, 1) := by decide +kernel
theorem dX6_lift_10 : decode cX6_lift 10 = .ok (.aload_n 0, 1) := by decide +kernel
theorem dX6_lift_11 : decode cX6_lift 11 = .ok (.getfield 22, 3) := by decide +kernel
theorem dX6_lift_14 : decode cX6_lift 14 = .ok (.iload_n 1, 1) := by decide +kernel
theorem dX6_lift_15 : decode cX6_lift 15 = .ok (.iaload, 1) := by decide +kernel
theorem dX6_lift_16 : decode cX6_lift 16 = .ok (.ifCond .ne 6, 3) := by decide +kernel
theorem dX6_lift_19 : decode cX6_lift 19 = .ok (.bipush (-2), 2) := by decide +kernel
theorem dX6_lift_21 : decode cX6_lift 21 = .ok (.ireturn, 1) := by decide +kernel
theorem dX6_lift_22 : decode cX6_lift 22 = .ok (.aload_n 0, 1) := by decide +kernel
theorem dX6_lift_23 : decode cX6_lift 23 = .ok (.getfield 22, 3) := by decide +kernel
theorem dX6_lift_26 : decode cX6_lift 26 = .ok (.iload_n 1, 1) := by decide +kernel
theorem dX6_lift_27 : decode cX6_lift 27 = .ok (.iconst 0, 1) := by decide +kernel
theorem dX6_lift_28 : decode cX6_lift 28 = .ok (.iastore, 1) := by decide +kernel
theorem dX6_lift_29 : decode cX6_lift 29 = .ok (.iconst 0, 1) := by decide +kernel
theorem dX6_lift_30 : decode cX6_lift 30 = .ok (.ireturn, 1) := by decide +kernel
theorem dX6_begin_0 : decode cX6_begin 0 = .ok (.aload_n 0, 1) := by decide +kernel
theorem dX6_begin_1 : decode cX6_begin 1 = .ok (.getfield 25, 3) := by decide +kernel
theorem dX6_begin_4 : decode cX6_begin 4 = .ok (.iconst 3, 1) := by decide +kernel
theorem dX6_begin_5 : decode cX6_begin 5 = .ok (.iload_n 1, 1) := by decide +kernel
theorem dX6_begin_6 : decode cX6_begin 6 = .ok (.imul, 1) := by decide +kernel
theorem dX6_begin_7 : decode cX6_begin 7 = .ok (.iload_n 2, 1) := by decide +kernel
theorem dX6_begin_8 : decode cX6_begin 8 = .ok (.iadd, 1) := by decide +kernel
theorem dX6_begin_9 : decode cX6_begin 9 = .ok (.iaload, 1) := by decide +kernel
theorem dX6_begin_10 : decode cX6_begin 10 = .ok (.ireturn, 1) := by decide +kernel
theorem dX6_end_0 : decode cX6_end 0 = .ok (.aload_n 0, 1) := by decide +kernel
theorem dX6_end_1 : decode cX6_end 1 = .ok (.getfield 25, 3) := by decide +kernel
theorem dX6_end_4 : decode cX6_end 4 = .ok (.iconst 3, 1) := by decide +kernel
theorem dX6_end_5 : decode cX6_end 5 = .ok (.iload_n 1, 1) := by decide +kernel
theorem dX6_end_6 : decode cX6_end 6 = .ok (.imul, 1) := by decide +kernel
theorem dX6_end_7 : decode cX6_end 7 = .ok (.iload_n 2, 1) := by decide +kernel
theorem dX6_end_8 : decode cX6_end 8 = .ok (.iadd, 1) := by decide +kernel
theorem dX6_end_9 : decode cX6_end 9 = .ok (.iaload, 1) := by decide +kernel
theorem dX6_end_10 : decode cX6_end 10 = .ok (.aload_n 0, 1) := by decide +kernel
theorem dX6_end_11 : decode cX6_end 11 = .ok (.iload_n 1, 1) := by decide +kernel
theorem dX6_end_12 : decode cX6_end 12 = .ok (.aload_n 0, 1) := by decide +kernel
theorem dX6_end_13 : decode cX6_end 13 = .ok (.getfield 22, 3) := by decide +kernel
theorem dX6_end_16 : decode cX6_end 16 = .ok (.iload_n 1, 1) := by decide +kernel
theorem dX6_end_17 : decode cX6_end 17 = .ok (.iaload, 1) := by decide +kernel
theorem dX6_end_18 : decode cX6_end 18 = .ok (.iconst 1, 1) := by decide +kernel
theorem dX6_end_19 : decode cX6_end 19 = .ok (.isub, 1) := by decide +kernel
theorem dX6_end_20 : decode cX6_end 20 = .ok (.iload_n 2, 1) := by decide +kernel
theorem dX6_end_21 : decode cX6_end 21 = .ok (.invokevirtual 121, 3) := by decide +kernel
theorem dX6_end_24 : decode cX6_end 24 = .ok (.iadd, 1) := by decide +kernel
theorem dX6_end_25 : decode cX6_end 25 = .ok (.ireturn, 1) := by decide +kernel
theorem dX6_place_0 : decode cX6_place 0 = .ok (.aload_n 0, 1) := by decide +kernel
theorem dX6_place_1 : decode cX6_place 1 = .ok (.iload_n 1, 1) := by decide +kernel
theorem dX6_place_2 : decode cX6_place 2 = .ok (.invokevirtual 151, 3) := by decide +kernel
theorem dX6_place_5 : decode cX6_place 5 = .ok (.ifCond .eq 13, 3) := by decide +kernel
theorem dX6_place_8 : decode cX6_place 8 = .ok (.iload_n 2, 1) := by decide +kernel
theorem dX6_place_9 : decode cX6_place 9 = .ok (.ifCond .lt 9, 3) := by decide +kernel
theorem dX6_place_12 : decode cX6_place 12 = .ok (.iload_n 2, 1) := by decide +kernel
theorem dX6_place_13 : decode cX6_place 13 = .ok (.bipush 6, 2) := by decide +kernel
theorem dX6_place_15 : decode cX6_place 15 = .ok (.if_icmp .le 5, 3) := by decide +kernel
theorem dX6_place_18 : decode cX6_place 18 = .ok (.iconst (-1), 1) := by decide +kernel
theorem dX6_place_19 : decode cX6_place 19 = .ok (.ireturn, 1) := by decide +kernel
theorem dX6_place_20 : decode cX6_place 20 = .ok (.aload_n 0, 1) := by decide +kernel
theorem dX6_place_21 : decode cX6_place 21 = .ok (.getfield 22, 3) := by decide +kernel
theorem dX6_place_24 : decode cX6_place 24 = .ok (.iload_n 1, 1) := by decide +kernel
theorem dX6_place_25 : decode cX6_place 25 = .ok (.iaload, 1) := by decide +kernel
theorem dX6_place_26 : decode cX6_place 26 = .ok (.ifCond .ne 6, 3) := by decide +kernel
theorem dX6_place_29 : decode cX6_place 29 = .ok (.bipush (-9), 2) := by decide +kernel
theorem dX6_place_31 : decode cX6_place 31 = .ok (.ireturn, 1) := by decide +kernel
theorem dX6_place_32 : decode cX6_place 32 = .ok (.iload_n 2, 1) := by decide +kernel
theorem dX6_place_33 : decode cX6_place 33 = .ok (.iconst 3, 1) := by decide +kernel
theorem dX6_place_34 : decode cX6_place 34 = .ok (.if_icmp .ge 12, 3) := by decide +kernel
theorem dX6_place_37 : decode cX6_place 37 = .ok (.aload_n 0, 1) := by decide +kernel
theorem dX6_place_38 : decode cX6_place 38 = .ok (.iload_n 1, 1) := by decide +kernel
theorem dX6_place_39 : decode cX6_place 39 = .ok (.iload_n 2, 1) := by decide +kernel
theorem dX6_place_40 : decode cX6_place 40 = .ok (.invokevirtual 162, 3) := by decide +kernel
theorem dX6_place_43 : decode cX6_place 43 = .ok (.goto 36, 3) := by decide +kernel
theorem dX6_place_46 : decode cX6_place 46 = .ok (.iload_n 2, 1) := by decide +kernel
theorem dX6_place_47 : decode cX6_place 47 = .ok (.iconst 3, 1) := by decide +kernel
theorem dX6_place_48 : decode cX6_place 48 = .ok (.if_icmp .ne 14, 3) := by decide +kernel
theorem dX6_place_51 : decode cX6_place 51 = .ok (.aload_n 0, 1) := by decide +kernel
theorem dX6_place_52 : decode cX6_place 52 = .ok (.getfield 22, 3) := by decide +kernel
theorem dX6_place_55 : decode cX6_place 55 = .ok (.iload_n 1, 1) := by decide +kernel
theorem dX6_place_56 : decode cX6_place 56 = .ok (.iaload, 1) := by decide +kernel
theorem dX6_place_57 : decode cX6_place 57 = .ok (.iconst 1, 1) := by decide +kernel
theorem dX6_place_58 : decode cX6_place 58 = .ok (.isub, 1) := by decide +kernel
theorem dX6_place_59 : decode cX6_place 59 = .ok (.goto 20, 3) := by decide +kernel
theorem dX6_place_62 : decode cX6_place 62 = .ok (.aload_n 0, 1) := by decide +kernel
theorem dX6_place_63 : decode cX6_place 63 = .ok (.iload_n 1, 1) := by decide +kernel
theorem dX6_place_64 : decode cX6_place 64 = .ok (.iload_n 2, 1) := by decide +kernel
theorem dX6_place_65 : decode cX6_place 65 = .ok (.iconst 4, 1) := by decide +kernel
theorem dX6_place_66 : decode cX6_place 66 = .ok (.isub, 1) := by decide +kernel
theorem dX6_place_67 : decode cX6_place 67 = .ok (.invokevirtual 165, 3) := by decide +kernel
theorem dX6_place_70 : decode cX6_place 70 = .ok (.aload_n 0, 1) := by decide +kernel
theorem dX6_place_71 : decode cX6_place 71 = .ok (.iload_n 1, 1) := by decide +kernel
theorem dX6_place_72 : decode cX6_place 72 = .ok (.iload_n 2, 1) := by decide +kernel
theorem dX6_place_73 : decode cX6_place 73 = .ok (.iconst 4, 1) := by decide +kernel
theorem dX6_place_74 : decode cX6_place 74 = .ok (.isub, 1) := by decide +kernel
theorem dX6_place_75 : decode cX6_place 75 = .ok (.invokevirtual 162, 3) := by decide +kernel
theorem dX6_place_78 : decode cX6_place 78 = .ok (.isub, 1) := by decide +kernel
theorem dX6_place_79 : decode cX6_place 79 = .ok (.ireturn, 1) := by decide +kernel
theorem dX6_apart_0 : decode cX6_apart 0 = .ok (.iconst 0, 1) := by decide +kernel
theorem dX6_apart_1 : decode cX6_apart 1 = .ok (.istore_n 3, 1) := by decide +kernel
theorem dX6_apart_2 : decode cX6_apart 2 = .ok (.iload_n 3, 1) := by decide +kernel
theorem dX6_apart_3 : decode cX6_apart 3 = .ok (.iconst 3, 1) := by decide +kernel
theorem dX6_apart_4 : decode cX6_apart 4 = .ok (.if_icmp .ge 49, 3) := by decide +kernel
theorem dX6_apart_7 : decode cX6_apart 7 = .ok (.aload_n 0, 1) := by decide +kernel
theorem dX6_apart_8 : decode cX6_apart 8 = .ok (.iload_n 1, 1) := by decide +kernel
theorem dX6_apart_9 : decode cX6_apart 9 = .ok (.iload_n 3, 1) := by decide +kernel
theorem dX6_apart_10 : decode cX6_apart 10 = .ok (.invokevirtual 165, 3) := by decide +kernel
theorem dX6_apart_13 : decode cX6_apart 13 = .ok (.aload_n 0, 1) := by decide +kernel
theorem dX6_apart_14 : decode cX6_apart 14 = .ok (.iload_n 2, 1) := by decide +kernel
theorem dX6_apart_15 : decode cX6_apart 15 = .ok (.iload_n 3, 1) := by decide +kernel
theorem dX6_apart_16 : decode cX6_apart 16 = .ok (.invokevirtual 162, 3) := by decide +kernel
theorem dX6_apart_19 : decode cX6_apart 19 = .ok (.if_icmp .gt 7, 3) := by decide +kernel
theorem dX6_apart_22 : decode cX6_apart 22 = .ok (.iconst 2, 1) := by decide +kernel
theorem dX6_apart_23 : decode cX6_apart 23 = .ok (.iload_n 3, 1) := by decide +kernel
theorem dX6_apart_24 : decode cX6_apart 24 = .ok (.imul, 1) := by decide +kernel
theorem dX6_apart_25 : decode cX6_apart 25 = .ok (.ireturn, 1) := by decide +kernel
theorem dX6_apart_26 : decode cX6_apart 26 = .ok (.aload_n 0, 1) := by decide +kernel
theorem dX6_apart_27 : decode cX6_apart 27 = .ok (.iload_n 2, 1) := by decide +kernel
theorem dX6_apart_28 : decode cX6_apart 28 = .ok (.iload_n 3, 1) := by decide +kernel
theorem dX6_apart_29 : decode cX6_apart 29 = .ok (.invokevirtual 165, 3) := by decide +kernel
theorem dX6_apart_32 : decode cX6_apart 32 = .ok (.aload_n 0, 1) := by decide +kernel
theorem dX6_apart_33 : decode cX6_apart 33 = .ok (.iload_n 1, 1) := by decide +kernel
theorem dX6_apart_34 : decode cX6_apart 34 = .ok (.iload_n 3, 1) := by decide +kernel
theorem dX6_apart_35 : decode cX6_apart 35 = .ok (.invokevirtual 162, 3) := by decide +kernel
theorem dX6_apart_38 : decode cX6_apart 38 = .ok (.if_icmp .gt 9, 3) := by decide +kernel
theorem dX6_apart_41 : decode cX6_apart 41 = .ok (.iconst 2, 1) := by decide +kernel
theorem dX6_apart_42 : decode cX6_apart 42 = .ok (.iload_n 3, 1) := by decide +kernel
theorem dX6_apart_43 : decode cX6_apart 43 = .ok (.imul, 1) := by decide +kernel
theorem dX6_apart_44 : decode cX6_apart 44 = .ok (.iconst 1, 1) := by decide +kernel
theorem dX6_apart_45 : decode cX6_apart 45 = .ok (.iadd, 1) := by decide +kernel
theorem dX6_apart_46 : decode cX6_apart 46 = .ok (.ireturn, 1) := by decide +kernel
theorem dX6_apart_47 : decode cX6_apart 47 = .ok (.iinc 3 1, 3) := by decide +kernel
theorem dX6_apart_50 : decode cX6_apart 50 = .ok (.goto (-48), 3) := by decide +kernel
theorem dX6_apart_53 : decode cX6_apart 53 = .ok (.bipush (-9), 2) := by decide +kernel
theorem dX6_apart_55 : decode cX6_apart 55 = .ok (.ireturn, 1) := by decide +kernel
theorem dX6_overlaps_0 : decode cX6_overlaps 0 = .ok (.iconst 0, 1) := by decide +kernel
theorem dX6_overlaps_1 : decode cX6_overlaps 1 = .ok (.istore_n 1, 1) := by decide +kernel
theorem dX6_overlaps_2 : decode cX6_overlaps 2 = .ok (.iconst 0, 1) := by decide +kernel
theorem dX6_overlaps_3 : decode cX6_overlaps 3 = .ok (.istore_n 2, 1) := by decide +kernel
theorem dX6_overlaps_4 : decode cX6_overlaps 4 = .ok (.iload_n 2, 1) := by decide +kernel
theorem dX6_overlaps_5 : decode cX6_overlaps 5 = .ok (.aload_n 0, 1) := by decide +kernel
theorem dX6_overlaps_6 : decode cX6_overlaps 6 = .ok (.getfield 81, 3) := by decide +kernel
theorem dX6_overlaps_9 : decode cX6_overlaps 9 = .ok (.if_icmp .ge 59, 3) := by decide +kernel
theorem dX6_overlaps_12 : decode cX6_overlaps 12 = .ok (.iconst 0, 1) := by decide +kernel
theorem dX6_overlaps_13 : decode cX6_overlaps 13 = .ok (.istore_n 3, 1) := by decide +kernel
theorem dX6_overlaps_14 : decode cX6_overlaps 14 = .ok (.iload_n 3, 1) := by decide +kernel
theorem dX6_overlaps_15 : decode cX6_overlaps 15 = .ok (.iload_n 2, 1) := by decide +kernel
theorem dX6_overlaps_16 : decode cX6_overlaps 16 = .ok (.if_icmp .ge 46, 3) := by decide +kernel
theorem dX6_overlaps_19 : decode cX6_overlaps 19 = .ok (.iload_n 1, 1) := by decide +kernel
theorem dX6_overlaps_20 : decode cX6_overlaps 20 = .ok (.aload_n 0, 1) := by decide +kernel
theorem dX6_overlaps_21 : decode cX6_overlaps 21 = .ok (.getfield 22, 3) := by decide +kernel
theorem dX6_overlaps_24 : decode cX6_overlaps 24 = .ok (.iload_n 2, 1) := by decide +kernel
theorem dX6_overlaps_25 : decode cX6_overlaps 25 = .ok (.iaload, 1) := by decide +kernel
theorem dX6_overlaps_26 : decode cX6_overlaps 26 = .ok (.ifCond .le 27, 3) := by decide +kernel
theorem dX6_overlaps_29 : decode cX6_overlaps 29 = .ok (.aload_n 0, 1) := by decide +kernel
theorem dX6_overlaps_30 : decode cX6_overlaps 30 = .ok (.getfield 22, 3) := by decide +kernel
theorem dX6_overlaps_33 : decode cX6_overlaps 33 = .ok (.iload_n 3, 1) := by decide +kernel
theorem dX6_overlaps_34 : decode cX6_overlaps 34 = .ok (.iaload, 1) := by decide +kernel
theorem dX6_overlaps_35 : decode cX6_overlaps 35 = .ok (.ifCond .le 18, 3) := by decide +kernel
theorem dX6_overlaps_38 : decode cX6_overlaps 38 = .ok (.aload_n 0, 1) := by decide +kernel
theorem dX6_overlaps_39 : decode cX6_overlaps 39 = .ok (.iload_n 2, 1) := by decide +kernel
theorem dX6_overlaps_40 : decode cX6_overlaps 40 = .ok (.iload_n 3, 1) := by decide +kernel
theorem dX6_overlaps_41 : decode cX6_overlaps 41 = .ok (.invokevirtual 168, 3) := by decide +kernel
theorem dX6_overlaps_44 : decode cX6_overlaps 44 = .ok (.bipush (-9), 2) := by decide +kernel
theorem dX6_overlaps_46 : decode cX6_overlaps 46 = .ok (.if_icmp .ne 7, 3) := by decide +kernel
theorem dX6_overlaps_49 : decode cX6_overlaps 49 = .ok (.iconst 1, 1) := by decide +kernel
theorem dX6_overlaps_50 : decode cX6_overlaps 50 = .ok (.goto 4, 3) := by decide +kernel
theorem dX6_overlaps_53 : decode cX6_overlaps 53 = .ok (.iconst 0, 1) := by decide +kernel
theorem dX6_overlaps_54 : decode cX6_overlaps 54 = .ok (.iadd, 1) := by decide +kernel
theorem dX6_overlaps_55 : decode cX6_overlaps 55 = .ok (.istore_n 1, 1) := by decide +kernel
theorem dX6_overlaps_56 : decode cX6_overlaps 56 = .ok (.iinc 3 1, 3) := by decide +kernel
theorem dX6_overlaps_59 : decode cX6_overlaps 59 = .ok (.goto (-45), 3) := by decide +kernel
theorem dX6_overlaps_62 : decode cX6_overlaps 62 = .ok (.iinc 2 1, 3) := by decide +kernel
theorem dX6_overlaps_65 : decode cX6_overlaps 65 = .ok (.goto (-61), 3) := by decide +kernel
theorem dX6_overlaps_68 : decode cX6_overlaps 68 = .ok (.iload_n 1, 1) := by decide +kernel
theorem dX6_overlaps_69 : decode cX6_overlaps 69 = .ok (.ireturn, 1) := by decide +kernel
theorem dX6_relative_0 : decode cX6_relative 0 = .ok (.aload_n 0, 1) := by decide +kernel
theorem dX6_relative_1 : decode cX6_relative 1 = .ok (.iload_n 1, 1) := by decide +kernel
theorem dX6_relative_2 : decode cX6_relative 2 = .ok (.invokevirtual 151, 3) := by decide +kernel
theorem dX6_relative_5 : decode cX6_relative 5 = .ok (.ifCond .eq 16, 3) := by decide +kernel
theorem dX6_relative_8 : decode cX6_relative 8 = .ok (.aload_n 0, 1) := by decide +kernel
theorem dX6_relative_9 : decode cX6_relative 9 = .ok (.iload_n 2, 1) := by decide +kernel
theorem dX6_relative_10 : decode cX6_relative 10 = .ok (.invokevirtual 151, 3) := by decide +kernel
theorem dX6_relative_13 : decode cX6_relative 13 = .ok (.ifCond .eq 8, 3) := by decide +kernel
theorem dX6_relative_16 : decode cX6_relative 16 = .ok (.iload_n 1, 1) := by decide +kernel
theorem dX6_relative_17 : decode cX6_relative 17 = .ok (.iload_n 2, 1) := by decide +kernel
theorem dX6_relative_18 : decode cX6_relative 18 = .ok (.if_icmp .ne 5, 3) := by decide +kernel
theorem dX6_relative_21 : decode cX6_relative 21 = .ok (.iconst (-1), 1) := by decide +kernel
theorem dX6_relative_22 : decode cX6_relative 22 = .ok (.ireturn, 1) := by decide +kernel
theorem dX6_relative_23 : decode cX6_relative 23 = .ok (.aload_n 0, 1) := by decide +kernel
theorem dX6_relative_24 : decode cX6_relative 24 = .ok (.getfield 22, 3) := by decide +kernel
theorem dX6_relative_27 : decode cX6_relative 27 = .ok (.iload_n 1, 1) := by decide +kernel
theorem dX6_relative_28 : decode cX6_relative 28 = .ok (.iaload, 1) := by decide +kernel
theorem dX6_relative_29 : decode cX6_relative 29 = .ok (.ifCond .eq 12, 3) := by decide +kernel
theorem dX6_relative_32 : decode cX6_relative 32 = .ok (.aload_n 0, 1) := by decide +kernel
theorem dX6_relative_33 : decode cX6_relative 33 = .ok (.getfield 22, 3) := by decide +kernel
theorem dX6_relative_36 : decode cX6_relative 36 = .ok (.iload_n 2, 1) := by decide +kernel
theorem dX6_relative_37 : decode cX6_relative 37 = .ok (.iaload, 1) := by decide +kernel
theorem dX6_relative_38 : decode cX6_relative 38 = .ok (.ifCond .ne 8, 3) := by decide +kernel
theorem dX6_relative_41 : decode cX6_relative 41 = .ok (.bipush (-2), 2) := by decide +kernel
theorem dX6_relative_43 : decode cX6_relative 43 = .ok (.goto 9, 3) := by decide +kernel
theorem dX6_relative_46 : decode cX6_relative 46 = .ok (.aload_n 0, 1) := by decide +kernel
theorem dX6_relative_47 : decode cX6_relative 47 = .ok (.iload_n 1, 1) := by decide +kernel
theorem dX6_relative_48 : decode cX6_relative 48 = .ok (.iload_n 2, 1) := by decide +kernel
theorem dX6_relative_49 : decode cX6_relative 49 = .ok (.invokevirtual 168, 3) := by decide +kernel
theorem dX6_relative_52 : decode cX6_relative 52 = .ok (.ireturn, 1) := by decide +kernel
theorem dX6_common_0 : decode cX6_common 0 = .ok (.aload_n 0, 1) := by decide +kernel
theorem dX6_common_1 : decode cX6_common 1 = .ok (.iload_n 1, 1) := by decide +kernel
theorem dX6_common_2 : decode cX6_common 2 = .ok (.iload_n 3, 1) := by decide +kernel
theorem dX6_common_3 : decode cX6_common 3 = .ok (.invokevirtual 162, 3) := by decide +kernel
theorem dX6_common_6 : decode cX6_common 6 = .ok (.aload_n 0, 1) := by decide +kernel
theorem dX6_common_7 : decode cX6_common 7 = .ok (.iload_n 2, 1) := by decide +kernel
theorem dX6_common_8 : decode cX6_common 8 = .ok (.iload_n 3, 1) := by decide +kernel
theorem dX6_common_9 : decode cX6_common 9 = .ok (.invokevirtual 162, 3) := by decide +kernel
theorem dX6_common_12 : decode cX6_common 12 = .ok (.if_icmp .le 12, 3) := by decide +kernel
theorem dX6_common_15 : decode cX6_common 15 = .ok (.aload_n 0, 1) := by decide +kernel
theorem dX6_common_16 : decode cX6_common 16 = .ok (.iload_n 1, 1) := by decide +kernel
theorem dX6_common_17 : decode cX6_common 17 = .ok (.iload_n 3, 1) := by decide +kernel
theorem dX6_common_18 : decode cX6_common 18 = .ok (.invokevirtual 162, 3) := by decide +kernel
theorem dX6_common_21 : decode cX6_common 21 = .ok (.goto 9, 3) := by decide +kernel
theorem dX6_common_24 : decode cX6_common 24 = .ok (.aload_n 0, 1) := by decide +kernel
theorem dX6_common_25 : decode cX6_common 25 = .ok (.iload_n 2, 1) := by decide +kernel
theorem dX6_common_26 : decode cX6_common 26 = .ok (.iload_n 3, 1) := by decide +kernel
theorem dX6_common_27 : decode cX6_common 27 = .ok (.invokevirtual 162, 3) := by decide +kernel
theorem dX6_common_30 : decode cX6_common 30 = .ok (.istore 4, 2) := by decide +kernel
theorem dX6_common_32 : decode cX6_common 32 = .ok (.aload_n 0, 1) := by decide +kernel
theorem dX6_common_33 : decode cX6_common 33 = .ok (.iload_n 1, 1) := by decide +kernel
theorem dX6_common_34 : decode cX6_common 34 = .ok (.iload_n 3, 1) := by decide +kernel
theorem dX6_common_35 : decode cX6_common 35 = .ok (.invokevirtual 165, 3) := by decide +kernel
theorem dX6_common_38 : decode cX6_common 38 = .ok (.aload_n 0, 1) := by decide +kernel
theorem dX6_common_39 : decode cX6_common 39 = .ok (.iload_n 2, 1) := by decide +kernel
theorem dX6_common_40 : decode cX6_common 40 = .ok (.iload_n 3, 1) := by decide +kernel
theorem dX6_common_41 : decode cX6_common 41 = .ok (.invokevirtual 165, 3) := by decide +kernel
theorem dX6_common_44 : decode cX6_common 44 = .ok (.if_icmp .ge 12, 3) := by decide +kernel
theorem dX6_common_47 : decode cX6_common 47 = .ok (.aload_n 0, 1) := by decide +kernel
theorem dX6_common_48 : decode cX6_common 48 = .ok (.iload_n 1, 1) := by decide +kernel
theorem dX6_common_49 : decode cX6_common 49 = .ok (.iload_n 3, 1) := by decide +kernel
theorem dX6_common_50 : decode cX6_common 50 = .ok (.invokevirtual 165, 3) := by decide +kernel
theorem dX6_common_53 : decode cX6_common 53 = .ok (.goto 9, 3) := by decide +kernel
theorem dX6_common_56 : decode cX6_common 56 = .ok (.aload_n 0, 1) := by decide +kernel
theorem dX6_common_57 : decode cX6_common 57 = .ok (.iload_n 2, 1) := by decide +kernel
theorem dX6_common_58 : decode cX6_common 58 = .ok (.iload_n 3, 1) := by decide +kernel
theorem dX6_common_59 : decode cX6_common 59 = .ok (.invokevirtual 165, 3) := by decide +kernel
theorem dX6_common_62 : decode cX6_common 62 = .ok (.istore 5, 2) := by decide +kernel
theorem dX6_common_64 : decode cX6_common 64 = .ok (.iload 5, 2) := by decide +kernel
theorem dX6_common_66 : decode cX6_common 66 = .ok (.iload 4, 2) := by decide +kernel
theorem dX6_common_68 : decode cX6_common 68 = .ok (.if_icmp .le 11, 3) := by decide +kernel
theorem dX6_common_71 : decode cX6_common 71 = .ok (.iload 5, 2) := by decide +kernel
theorem dX6_common_73 : decode cX6_common 73 = .ok (.iload 4, 2) := by decide +kernel
theorem dX6_common_75 : decode cX6_common 75 = .ok (.isub, 1) := by decide +kernel
theorem dX6_common_76 : decode cX6_common 76 = .ok (.goto 4, 3) := by decide +kernel
theorem dX6_common_79 : decode cX6_common 79 = .ok (.iconst 0, 1) := by decide +kernel
theorem dX6_common_80 : decode cX6_common 80 = .ok (.ireturn, 1) := by decide +kernel
theorem dX6_support_0 : decode cX6_support 0 = .ok (.aload_n 0, 1) := by decide +kernel
theorem dX6_support_1 : decode cX6_support 1 = .ok (.iload_n 1, 1) := by decide +kernel
theorem dX6_support_2 : decode cX6_support 2 = .ok (.invokevirtual 151, 3) := by decide +kernel
theorem dX6_support_5 : decode cX6_support 5 = .ok (.ifCond .ne 5, 3) := by decide +kernel
theorem dX6_support_8 : decode cX6_support 8 = .ok (.iconst (-1), 1) := by decide +kernel
theorem dX6_support_9 : decode cX6_support 9 = .ok (.ireturn, 1) := by decide +kernel
theorem dX6_support_10 : decode cX6_support 10 = .ok (.aload_n 0, 1) := by decide +kernel
theorem dX6_support_11 : decode cX6_support 11 = .ok (.getfield 22, 3) := by decide +kernel
theorem dX6_support_14 : decode cX6_support 14 = .ok (.iload_n 1, 1) := by decide +kernel
theorem dX6_support_15 : decode cX6_support 15 = .ok (.iaload, 1) := by decide +kernel
theorem dX6_support_16 : decode cX6_support 16 = .ok (.ifCond .ne 6, 3) := by decide +kernel
theorem dX6_support_19 : decode cX6_support 19 = .ok (.bipush (-2), 2) := by decide +kernel
theorem dX6_support_21 : decode cX6_support 21 = .ok (.ireturn, 1) := by decide +kernel
theorem dX6_support_22 : decode cX6_support 22 = .ok (.aload_n 0, 1) := by decide +kernel
theorem dX6_support_23 : decode cX6_support 23 = .ok (.iload_n 1, 1) := by decide +kernel
theorem dX6_support_24 : decode cX6_support 24 = .ok (.iconst 2, 1) := by decide +kernel
theorem dX6_support_25 : decode cX6_support 25 = .ok (.invokevirtual 162, 3) := by decide +kernel
theorem dX6_support_28 : decode cX6_support 28 = .ok (.ifCond .ne 19, 3) := by decide +kernel
theorem dX6_support_31 : decode cX6_support 31 = .ok (.aload_n 0, 1) := by decide +kernel
theorem dX6_support_32 : decode cX6_support 32 = .ok (.iload_n 1, 1) := by decide +kernel
theorem dX6_support_33 : decode cX6_support 33 = .ok (.iload_n 1, 1) := by decide +kernel
theorem dX6_support_34 : decode cX6_support 34 = .ok (.iconst 0, 1) := by decide +kernel
theorem dX6_support_35 : decode cX6_support 35 = .ok (.invokevirtual 171, 3) := by decide +kernel
theorem dX6_support_38 : decode cX6_support 38 = .ok (.aload_n 0, 1) := by decide +kernel
theorem dX6_support_39 : decode cX6_support 39 = .ok (.iload_n 1, 1) := by decide +kernel
theorem dX6_support_40 : decode cX6_support 40 = .ok (.iload_n 1, 1) := by decide +kernel
theorem dX6_support_41 : decode cX6_support 41 = .ok (.iconst 1, 1) := by decide +kernel
theorem dX6_support_42 : decode cX6_support 42 = .ok (.invokevirtual 171, 3) := by decide +kernel
theorem dX6_support_45 : decode cX6_support 45 = .ok (.imul, 1) := by decide +kernel
theorem dX6_support_46 : decode cX6_support 46 = .ok (.ireturn, 1) := by decide +kernel
theorem dX6_support_47 : decode cX6_support 47 = .ok (.iconst 0, 1) := by decide +kernel
theorem dX6_support_48 : decode cX6_support 48 = .ok (.istore_n 2, 1) := by decide +kernel
theorem dX6_support_49 : decode cX6_support 49 = .ok (.iconst 0, 1) := by decide +kernel
theorem dX6_support_50 : decode cX6_support 50 = .ok (.istore_n 3, 1) := by decide +kernel
theorem dX6_support_51 : decode cX6_support 51 = .ok (.iload_n 3, 1) := by decide +kernel
theorem dX6_support_52 : decode cX6_support 52 = .ok (.aload_n 0, 1) := by decide +kernel
theorem dX6_support_53 : decode cX6_support 53 = .ok (.getfield 81, 3) := by decide +kernel
theorem dX6_support_56 : decode cX6_support 56 = .ok (.if_icmp .ge 56, 3) := by decide +kernel
theorem dX6_support_59 : decode cX6_support 59 = .ok (.iload_n 3, 1) := by decide +kernel
theorem dX6_support_60 : decode cX6_support 60 = .ok (.iload_n 1, 1) := by decide +kernel
theorem dX6_support_61 : decode cX6_support 61 = .ok (.if_icmp .eq 45, 3) := by decide +kernel
theorem dX6_support_64 : decode cX6_support 64 = .ok (.aload_n 0, 1) := by decide +kernel
theorem dX6_support_65 : decode cX6_support 65 = .ok (.getfield 22, 3) := by decide +kernel
theorem dX6_support_68 : decode cX6_support 68 = .ok (.iload_n 3, 1) := by decide +kernel
theorem dX6_support_69 : decode cX6_support 69 = .ok (.iaload, 1) := by decide +kernel
theorem dX6_support_70 : decode cX6_support 70 = .ok (.ifCond .le 36, 3) := by decide +kernel
theorem dX6_support_73 : decode cX6_support 73 = .ok (.aload_n 0, 1) := by decide +kernel
theorem dX6_support_74 : decode cX6_support 74 = .ok (.iload_n 3, 1) := by decide +kernel
theorem dX6_support_75 : decode cX6_support 75 = .ok (.iconst 2, 1) := by decide +kernel
theorem dX6_support_76 : decode cX6_support 76 = .ok (.invokevirtual 165, 3) := by decide +kernel
theorem dX6_support_79 : decode cX6_support 79 = .ok (.aload_n 0, 1) := by decide +kernel
theorem dX6_support_80 : decode cX6_support 80 = .ok (.iload_n 1, 1) := by decide +kernel
theorem dX6_support_81 : decode cX6_support 81 = .ok (.iconst 2, 1) := by decide +kernel
theorem dX6_support_82 : decode cX6_support 82 = .ok (.invokevirtual 162, 3) := by decide +kernel
theorem dX6_support_85 : decode cX6_support 85 = .ok (.if_icmp .ne 21, 3) := by decide +kernel
theorem dX6_support_88 : decode cX6_support 88 = .ok (.iload_n 2, 1) := by decide +kernel
theorem dX6_support_89 : decode cX6_support 89 = .ok (.aload_n 0, 1) := by decide +kernel
theorem dX6_support_90 : decode cX6_support 90 = .ok (.iload_n 3, 1) := by decide +kernel
theorem dX6_support_91 : decode cX6_support 91 = .ok (.iload_n 1, 1) := by decide +kernel
theorem dX6_support_92 : decode cX6_support 92 = .ok (.iconst 0, 1) := by decide +kernel
theorem dX6_support_93 : decode cX6_support 93 = .ok (.invokevirtual 171, 3) := by decide +kernel
theorem dX6_support_96 : decode cX6_support 96 = .ok (.aload_n 0, 1) := by decide +kernel
theorem dX6_support_97 : decode cX6_support 97 = .ok (.iload_n 3, 1) := by decide +kernel
theorem dX6_support_98 : decode cX6_support 98 = .ok (.iload_n 1, 1) := by decide +kernel
theorem dX6_support_99 : decode cX6_support 99 = .ok (.iconst 1, 1) := by decide +kernel
theorem dX6_support_100 : decode cX6_support 100 = .ok (.invokevirtual 171, 3) := by decide +kernel
theorem dX6_support_103 : decode cX6_support 103 = .ok (.imul, 1) := by decide +kernel
theorem dX6_support_104 : decode cX6_support 104 = .ok (.iadd, 1) := by decide +kernel
theorem dX6_support_105 : decode cX6_support 105 = .ok (.istore_n 2, 1) := by decide +kernel
theorem dX6_support_106 : decode cX6_support 106 = .ok (.iinc 3 1, 3) := by decide +kernel
theorem dX6_support_109 : decode cX6_support 109 = .ok (.goto (-58), 3) := by decide +kernel
theorem dX6_support_112 : decode cX6_support 112 = .ok (.iload_n 2, 1) := by decide +kernel
theorem dX6_support_113 : decode cX6_support 113 = .ok (.ireturn, 1) := by decide +kernel
theorem dX6_centre_0 : decode cX6_centre 0 = .ok (.iload_n 1, 1) := by decide +kernel
theorem dX6_centre_1 : decode cX6_centre 1 = .ok (.ifCond .lt 17, 3) := by decide +kernel
theorem dX6_centre_4 : decode cX6_centre 4 = .ok (.iload_n 1, 1) := by decide +kernel
theorem dX6_centre_5 : decode cX6_centre 5 = .ok (.iconst 2, 1) := by decide +kernel
theorem dX6_centre_6 : decode cX6_centre 6 = .ok (.if_icmp .gt 12, 3) := by decide +kernel
theorem dX6_centre_9 : decode cX6_centre 9 = .ok (.iload_n 2, 1) := by decide +kernel
theorem dX6_centre_10 : decode cX6_centre 10 = .ok (.ifCond .lt 8, 3) := by decide +kernel
theorem dX6_centre_13 : decode cX6_centre 13 = .ok (.iload_n 2, 1) := by decide +kernel
theorem dX6_centre_14 : decode cX6_centre 14 = .ok (.iconst 1, 1) := by decide +kernel
theorem dX6_centre_15 : decode cX6_centre 15 = .ok (.if_icmp .le 5, 3) := by decide +kernel
theorem dX6_centre_18 : decode cX6_centre 18 = .ok (.iconst (-1), 1) := by decide +kernel
theorem dX6_centre_19 : decode cX6_centre 19 = .ok (.ireturn, 1) := by decide +kernel
theorem dX6_centre_20 : decode cX6_centre 20 = .ok (.iconst 0, 1) := by decide +kernel
theorem dX6_centre_21 : decode cX6_centre 21 = .ok (.istore_n 3, 1) := by decide +kernel
theorem dX6_centre_22 : decode cX6_centre 22 = .ok (.iconst 0, 1) := by decide +kernel
theorem dX6_centre_23 : decode cX6_centre 23 = .ok (.istore 4, 2) := by decide +kernel
theorem dX6_centre_25 : decode cX6_centre 25 = .ok (.iconst 0, 1) := by decide +kernel
theorem dX6_centre_26 : decode cX6_centre 26 = .ok (.istore 5, 2) := by decide +kernel
theorem dX6_centre_28 : decode cX6_centre 28 = .ok (.iload 5, 2) := by decide +kernel
theorem dX6_centre_30 : decode cX6_centre 30 = .ok (.aload_n 0, 1) := by decide +kernel
theorem dX6_centre_31 : decode cX6_centre 31 = .ok (.getfield 81, 3) := by decide +kernel
theorem dX6_centre_34 : decode cX6_centre 34 = .ok (.if_icmp .ge 59, 3) := by decide +kernel
theorem dX6_centre_37 : decode cX6_centre 37 = .ok (.aload_n 0, 1) := by decide +kernel
theorem dX6_centre_38 : decode cX6_centre 38 = .ok (.getfield 22, 3) := by decide +kernel
theorem dX6_centre_41 : decode cX6_centre 41 = .ok (.iload 5, 2) := by decide +kernel
theorem dX6_centre_43 : decode cX6_centre 43 = .ok (.iaload, 1) := by decide +kernel
theorem dX6_centre_44 : decode cX6_centre 44 = .ok (.ifCond .le 43, 3) := by decide +kernel
theorem dX6_centre_47 : decode cX6_centre 47 = .ok (.iload_n 3, 1) := by decide +kernel
theorem dX6_centre_48 : decode cX6_centre 48 = .ok (.aload_n 0, 1) := by decide +kernel
theorem dX6_centre_49 : decode cX6_centre 49 = .ok (.getfield 16, 3) := by decide +kernel
theorem dX6_centre_52 : decode cX6_centre 52 = .ok (.iload 5, 2) := by decide +kernel
theorem dX6_centre_54 : decode cX6_centre 54 = .ok (.iaload, 1) := by decide +kernel
theorem dX6_centre_55 : decode cX6_centre 55 = .ok (.aload_n 0, 1) := by decide +kernel
theorem dX6_centre_56 : decode cX6_centre 56 = .ok (.iload 5, 2) := by decide +kernel
theorem dX6_centre_58 : decode cX6_centre 58 = .ok (.iload_n 1, 1) := by decide +kernel
theorem dX6_centre_59 : decode cX6_centre 59 = .ok (.invokevirtual 162, 3) := by decide +kernel
theorem dX6_centre_62 : decode cX6_centre 62 = .ok (.aload_n 0, 1) := by decide +kernel
theorem dX6_centre_63 : decode cX6_centre 63 = .ok (.iload 5, 2) := by decide +kernel
theorem dX6_centre_65 : decode cX6_centre 65 = .ok (.iload_n 1, 1) := by decide +kernel
theorem dX6_centre_66 : decode cX6_centre 66 = .ok (.invokevirtual 165, 3) := by decide +kernel
theorem dX6_centre_69 : decode cX6_centre 69 = .ok (.iadd, 1) := by decide +kernel
theorem dX6_centre_70 : decode cX6_centre 70 = .ok (.imul, 1) := by decide +kernel
theorem dX6_centre_71 : decode cX6_centre 71 = .ok (.iadd, 1) := by decide +kernel
theorem dX6_centre_72 : decode cX6_centre 72 = .ok (.istore_n 3, 1) := by decide +kernel
theorem dX6_centre_73 : decode cX6_centre 73 = .ok (.iload 4, 2) := by decide +kernel
theorem dX6_centre_75 : decode cX6_centre 75 = .ok (.iconst 2, 1) := by decide +kernel
theorem dX6_centre_76 : decode cX6_centre 76 = .ok (.aload_n 0, 1) := by decide +kernel
theorem dX6_centre_77 : decode cX6_centre 77 = .ok (.getfield 16, 3) := by decide +kernel
theorem dX6_centre_80 : decode cX6_centre 80 = .ok (.iload 5, 2) := by decide +kernel
theorem dX6_centre_82 : decode cX6_centre 82 = .ok (.iaload, 1) := by decide +kernel
theorem dX6_centre_83 : decode cX6_centre 83 = .ok (.imul, 1) := by decide +kernel
theorem dX6_centre_84 : decode cX6_centre 84 = .ok (.iadd, 1) := by decide +kernel
theorem dX6_centre_85 : decode cX6_centre 85 = .ok (.istore 4, 2) := by decide +kernel
theorem dX6_centre_87 : decode cX6_centre 87 = .ok (.iinc 5 1, 3) := by decide +kernel
theorem dX6_centre_90 : decode cX6_centre 90 = .ok (.goto (-62), 3) := by decide +kernel
theorem dX6_centre_93 : decode cX6_centre 93 = .ok (.iload 4, 2) := by decide +kernel
theorem dX6_centre_95 : decode cX6_centre 95 = .ok (.ifCond .ne 5, 3) := by decide +kernel
theorem dX6_centre_98 : decode cX6_centre 98 = .ok (.iconst 0, 1) := by decide +kernel
theorem dX6_centre_99 : decode cX6_centre 99 = .ok (.ireturn, 1) := by decide +kernel
theorem dX6_centre_100 : decode cX6_centre 100 = .ok (.iload_n 3, 1) := by decide +kernel
theorem dX6_centre_101 : decode cX6_centre 101 = .ok (.istore 5, 2) := by decide +kernel
theorem dX6_centre_103 : decode cX6_centre 103 = .ok (.iload 4, 2) := by decide +kernel
theorem dX6_centre_105 : decode cX6_centre 105 = .ok (.istore 6, 2) := by decide +kernel
theorem dX6_centre_107 : decode cX6_centre 107 = .ok (.iload 6, 2) := by decide +kernel
theorem dX6_centre_109 : decode cX6_centre 109 = .ok (.ifCond .le 21, 3) := by decide +kernel
theorem dX6_centre_112 : decode cX6_centre 112 = .ok (.iload 5, 2) := by decide +kernel
theorem dX6_centre_114 : decode cX6_centre 114 = .ok (.iload 6, 2) := by decide +kernel
theorem dX6_centre_116 : decode cX6_centre 116 = .ok (.irem, 1) := by decide +kernel
theorem dX6_centre_117 : decode cX6_centre 117 = .ok (.istore 7, 2) := by decide +kernel
theorem dX6_centre_119 : decode cX6_centre 119 = .ok (.iload 6, 2) := by decide +kernel
theorem dX6_centre_121 : decode cX6_centre 121 = .ok (.istore 5, 2) := by decide +kernel
theorem dX6_centre_123 : decode cX6_centre 123 = .ok (.iload 7, 2) := by decide +kernel
theorem dX6_centre_125 : decode cX6_centre 125 = .ok (.istore 6, 2) := by decide +kernel
theorem dX6_centre_127 : decode cX6_centre 127 = .ok (.goto (-20), 3) := by decide +kernel
theorem dX6_centre_130 : decode cX6_centre 130 = .ok (.iload_n 2, 1) := by decide +kernel
theorem dX6_centre_131 : decode cX6_centre 131 = .ok (.ifCond .ne 10, 3) := by decide +kernel
theorem dX6_centre_134 : decode cX6_centre 134 = .ok (.iload_n 3, 1) := by decide +kernel
theorem dX6_centre_135 : decode cX6_centre 135 = .ok (.iload 5, 2) := by decide +kernel
theorem dX6_centre_137 : decode cX6_centre 137 = .ok (.idiv, 1) := by decide +kernel
theorem dX6_centre_138 : decode cX6_centre 138 = .ok (.goto 8, 3) := by decide +kernel
theorem dX6_centre_141 : decode cX6_centre 141 = .ok (.iload 4, 2) := by decide +kernel
theorem dX6_centre_143 : decode cX6_centre 143 = .ok (.iload 5, 2) := by decide +kernel
theorem dX6_centre_145 : decode cX6_centre 145 = .ok (.idiv, 1) := by decide +kernel
theorem dX6_centre_146 : decode cX6_centre 146 = .ok (.ireturn, 1) := by decide +kernel
theorem dX6_planted_0 : decode cX6_planted 0 = .ok (.iconst 0, 1) := by decide +kernel
theorem dX6_planted_1 : decode cX6_planted 1 = .ok (.istore_n 1, 1) := by decide +kernel
theorem dX6_planted_2 : decode cX6_planted 2 = .ok (.iconst 0, 1) := by decide +kernel
theorem dX6_planted_3 : decode cX6_planted 3 = .ok (.istore_n 2, 1) := by decide +kernel
theorem dX6_planted_4 : decode cX6_planted 4 = .ok (.iload_n 2, 1) := by decide +kernel
theorem dX6_planted_5 : decode cX6_planted 5 = .ok (.aload_n 0, 1) := by decide +kernel
theorem dX6_planted_6 : decode cX6_planted 6 = .ok (.getfield 81, 3) := by decide +kernel
theorem dX6_planted_9 : decode cX6_planted 9 = .ok (.if_icmp .ge 28, 3) := by decide +kernel
theorem dX6_planted_12 : decode cX6_planted 12 = .ok (.iload_n 1, 1) := by decide +kernel
theorem dX6_planted_13 : decode cX6_planted 13 = .ok (.aload_n 0, 1) := by decide +kernel
theorem dX6_planted_14 : decode cX6_planted 14 = .ok (.getfield 22, 3) := by decide +kernel
theorem dX6_planted_17 : decode cX6_planted 17 = .ok (.iload_n 2, 1) := by decide +kernel
theorem dX6_planted_18 : decode cX6_planted 18 = .ok (.iaload, 1) := by decide +kernel
theorem dX6_planted_19 : decode cX6_planted 19 = .ok (.ifCond .le 9, 3) := by decide +kernel
theorem dX6_planted_22 : decode cX6_planted 22 = .ok (.iconst 1, 1) := by decide +kernel
theorem dX6_planted_23 : decode cX6_planted 23 = .ok (.iload_n 2, 1) := by decide +kernel
theorem dX6_planted_24 : decode cX6_planted 24 = .ok (.ishl, 1) := by decide +kernel
theorem dX6_planted_25 : decode cX6_planted 25 = .ok (.goto 4, 3) := by decide +kernel
theorem dX6_planted_28 : decode cX6_planted 28 = .ok (.iconst 0, 1) := by decide +kernel
theorem dX6_planted_29 : decode cX6_planted 29 = .ok (.ior, 1) := by decide +kernel
theorem dX6_planted_30 : decode cX6_planted 30 = .ok (.istore_n 1, 1) := by decide +kernel
theorem dX6_planted_31 : decode cX6_planted 31 = .ok (.iinc 2 1, 3) := by decide +kernel
theorem dX6_planted_34 : decode cX6_planted 34 = .ok (.goto (-30), 3) := by decide +kernel
theorem dX6_planted_37 : decode cX6_planted 37 = .ok (.aload_n 0, 1) := by decide +kernel
theorem dX6_planted_38 : decode cX6_planted 38 = .ok (.iconst 0, 1) := by decide +kernel
theorem dX6_planted_39 : decode cX6_planted 39 = .ok (.putfield 174, 3) := by decide +kernel
theorem dX6_planted_42 : decode cX6_planted 42 = .ok (.iconst 0, 1) := by decide +kernel
theorem dX6_planted_43 : decode cX6_planted 43 = .ok (.istore_n 2, 1) := by decide +kernel
theorem dX6_planted_44 : decode cX6_planted 44 = .ok (.iload_n 1, 1) := by decide +kernel
theorem dX6_planted_45 : decode cX6_planted 45 = .ok (.ifCond .eq 28, 3) := by decide +kernel
theorem dX6_planted_48 : decode cX6_planted 48 = .ok (.aload_n 0, 1) := by decide +kernel
theorem dX6_planted_49 : decode cX6_planted 49 = .ok (.getfield 62, 3) := by decide +kernel
theorem dX6_planted_52 : decode cX6_planted 52 = .ok (.iload_n 2, 1) := by decide +kernel
theorem dX6_planted_53 : decode cX6_planted 53 = .ok (.iload_n 1, 1) := by decide +kernel
theorem dX6_planted_54 : decode cX6_planted 54 = .ok (.iastore, 1) := by decide +kernel
theorem dX6_planted_55 : decode cX6_planted 55 = .ok (.aload_n 0, 1) := by decide +kernel
theorem dX6_planted_56 : decode cX6_planted 56 = .ok (.getfield 65, 3) := by decide +kernel
theorem dX6_planted_59 : decode cX6_planted 59 = .ok (.iload_n 2, 1) := by decide +kernel
theorem dX6_planted_60 : decode cX6_planted 60 = .ok (.bipush (-9), 2) := by decide +kernel
theorem dX6_planted_62 : decode cX6_planted 62 = .ok (.iastore, 1) := by decide +kernel
theorem dX6_planted_63 : decode cX6_planted 63 = .ok (.aload_n 0, 1) := by decide +kernel
theorem dX6_planted_64 : decode cX6_planted 64 = .ok (.getfield 68, 3) := by decide +kernel
theorem dX6_planted_67 : decode cX6_planted 67 = .ok (.iload_n 2, 1) := by decide +kernel
theorem dX6_planted_68 : decode cX6_planted 68 = .ok (.iinc 2 1, 3) := by decide +kernel
theorem dX6_planted_71 : decode cX6_planted 71 = .ok (.iconst 0, 1) := by decide +kernel
theorem dX6_planted_72 : decode cX6_planted 72 = .ok (.iastore, 1) := by decide +kernel
theorem dX6_planted_73 : decode cX6_planted 73 = .ok (.iload_n 2, 1) := by decide +kernel
theorem dX6_planted_74 : decode cX6_planted 74 = .ok (.ifCond .le 244, 3) := by decide +kernel
theorem dX6_planted_77 : decode cX6_planted 77 = .ok (.iinc 2 (-1), 3) := by decide +kernel
theorem dX6_planted_80 : decode cX6_planted 80 = .ok (.aload_n 0, 1) := by decide +kernel
theorem dX6_planted_81 : decode cX6_planted 81 = .ok (.dup, 1) := by decide +kernel
theorem dX6_planted_82 : decode cX6_planted 82 = .ok (.getfield 174, 3) := by decide +kernel
theorem dX6_planted_85 : decode cX6_planted 85 = .ok (.dup_x1, 1) := by decide +kernel
theorem dX6_planted_86 : decode cX6_planted 86 = .ok (.iconst 1, 1) := by decide +kernel
theorem dX6_planted_87 : decode cX6_planted 87 = .ok (.iadd, 1) := by decide +kernel
theorem dX6_planted_88 : decode cX6_planted 88 = .ok (.putfield 174, 3) := by decide +kernel
theorem dX6_planted_91 : decode cX6_planted 91 = .ok (.istore_n 3, 1) := by decide +kernel
theorem dX6_planted_92 : decode cX6_planted 92 = .ok (.aload_n 0, 1) := by decide +kernel
theorem dX6_planted_93 : decode cX6_planted 93 = .ok (.getfield 62, 3) := by decide +kernel
theorem dX6_planted_96 : decode cX6_planted 96 = .ok (.iload_n 2, 1) := by decide +kernel
theorem dX6_planted_97 : decode cX6_planted 97 = .ok (.iaload, 1) := by decide +kernel
theorem dX6_planted_98 : decode cX6_planted 98 = .ok (.istore 4, 2) := by decide +kernel
theorem dX6_planted_100 : decode cX6_planted 100 = .ok (.aload_n 0, 1) := by decide +kernel
theorem dX6_planted_101 : decode cX6_planted 101 = .ok (.getfield 65, 3) := by decide +kernel
theorem dX6_planted_104 : decode cX6_planted 104 = .ok (.iload_n 2, 1) := by decide +kernel
theorem dX6_planted_105 : decode cX6_planted 105 = .ok (.iaload, 1) := by decide +kernel
theorem dX6_planted_106 : decode cX6_planted 106 = .ok (.istore 5, 2) := by decide +kernel
theorem dX6_planted_108 : decode cX6_planted 108 = .ok (.iload 5, 2) := by decide +kernel
theorem dX6_planted_110 : decode cX6_planted 110 = .ok (.bipush (-9), 2) := by decide +kernel
theorem dX6_planted_112 : decode cX6_planted 112 = .ok (.if_icmp .eq 21, 3) := by decide +kernel
theorem dX6_planted_115 : decode cX6_planted 115 = .ok (.aload_n 0, 1) := by decide +kernel
theorem dX6_planted_116 : decode cX6_planted 116 = .ok (.getfield 68, 3) := by decide +kernel
theorem dX6_planted_119 : decode cX6_planted 119 = .ok (.iload_n 2, 1) := by decide +kernel
theorem dX6_planted_120 : decode cX6_planted 120 = .ok (.iaload, 1) := by decide +kernel
theorem dX6_planted_121 : decode cX6_planted 121 = .ok (.iconst 1, 1) := by decide +kernel
theorem dX6_planted_122 : decode cX6_planted 122 = .ok (.if_icmp .ne 11, 3) := by decide +kernel
theorem dX6_planted_125 : decode cX6_planted 125 = .ok (.aload_n 0, 1) := by decide +kernel
theorem dX6_planted_126 : decode cX6_planted 126 = .ok (.getfield 56, 3) := by decide +kernel
theorem dX6_planted_129 : decode cX6_planted 129 = .ok (.iload 5, 2) := by decide +kernel
theorem dX6_planted_131 : decode cX6_planted 131 = .ok (.iload_n 3, 1) := by decide +kernel
theorem dX6_planted_132 : decode cX6_planted 132 = .ok (.iastore, 1) := by decide +kernel
theorem dX6_planted_133 : decode cX6_planted 133 = .ok (.iload 5, 2) := by decide +kernel
theorem dX6_planted_135 : decode cX6_planted 135 = .ok (.bipush (-9), 2) := by decide +kernel
theorem dX6_planted_137 : decode cX6_planted 137 = .ok (.if_icmp .eq 21, 3) := by decide +kernel
theorem dX6_planted_140 : decode cX6_planted 140 = .ok (.aload_n 0, 1) := by decide +kernel
theorem dX6_planted_141 : decode cX6_planted 141 = .ok (.getfield 68, 3) := by decide +kernel
theorem dX6_planted_144 : decode cX6_planted 144 = .ok (.iload_n 2, 1) := by decide +kernel
theorem dX6_planted_145 : decode cX6_planted 145 = .ok (.iaload, 1) := by decide +kernel
theorem dX6_planted_146 : decode cX6_planted 146 = .ok (.iconst 2, 1) := by decide +kernel
