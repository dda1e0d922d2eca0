theorem dX5_init_0 : decode cX5_init 0 = .ok (.aload_n 0, 1) := by decide +kernel
theorem dX5_init_1 : decode cX5_init 1 = .ok (.invokespecial 3, 3) := by decide +kernel
theorem dX5_init_4 : decode cX5_init 4 = .ok (.aload_n 0, 1) := by decide +kernel
theorem dX5_init_5 : decode cX5_init 5 = .ok (.new 9, 3) := by decide +kernel
theorem dX5_init_8 : decode cX5_init 8 = .ok (.dup, 1) := by decide +kernel
theorem dX5_init_9 : decode cX5_init 9 = .ok (.invokespecial 11, 3) := by decide +kernel
theorem dX5_init_12 : decode cX5_init 12 = .ok (.putfield 12, 3) := by decide +kernel
theorem dX5_init_15 : decode cX5_init 15 = .ok (.aload_n 0, 1) := by decide +kernel
theorem dX5_init_16 : decode cX5_init 16 = .ok (.new 16, 3) := by decide +kernel
theorem dX5_init_19 : decode cX5_init 19 = .ok (.dup, 1) := by decide +kernel
theorem dX5_init_20 : decode cX5_init 20 = .ok (.aload_n 0, 1) := by decide +kernel
theorem dX5_init_21 : decode cX5_init 21 = .ok (.getfield 12, 3) := by decide +kernel
theorem dX5_init_24 : decode cX5_init 24 = .ok (.invokespecial 18, 3) := by decide +kernel
theorem dX5_init_27 : decode cX5_init 27 = .ok (.putfield 21, 3) := by decide +kernel
theorem dX5_init_30 : decode cX5_init 30 = .ok (.aload_n 0, 1) := by decide +kernel
theorem dX5_init_31 : decode cX5_init 31 = .ok (.new 25, 3) := by decide +kernel
theorem dX5_init_34 : decode cX5_init 34 = .ok (.dup, 1) := by decide +kernel
theorem dX5_init_35 : decode cX5_init 35 = .ok (.aload_n 0, 1) := by decide +kernel
theorem dX5_init_36 : decode cX5_init 36 = .ok (.getfield 12, 3) := by decide +kernel
theorem dX5_init_39 : decode cX5_init 39 = .ok (.invokespecial 27, 3) := by decide +kernel
theorem dX5_init_42 : decode cX5_init 42 = .ok (.putfield 28, 3) := by decide +kernel
theorem dX5_init_45 : decode cX5_init 45 = .ok (.aload_n 0, 1) := by decide +kernel
theorem dX5_init_46 : decode cX5_init 46 = .ok (.new 32, 3) := by decide +kernel
theorem dX5_init_49 : decode cX5_init 49 = .ok (.dup, 1) := by decide +kernel
theorem dX5_init_50 : decode cX5_init 50 = .ok (.aload_n 0, 1) := by decide +kernel
theorem dX5_init_51 : decode cX5_init 51 = .ok (.getfield 28, 3) := by decide +kernel
theorem dX5_init_54 : decode cX5_init 54 = .ok (.invokespecial 34, 3) := by decide +kernel
theorem dX5_init_57 : decode cX5_init 57 = .ok (.putfield 37, 3) := by decide +kernel
theorem dX5_init_60 : decode cX5_init 60 = .ok (.aload_n 0, 1) := by decide +kernel
theorem dX5_init_61 : decode cX5_init 61 = .ok (.new 41, 3) := by decide +kernel
theorem dX5_init_64 : decode cX5_init 64 = .ok (.dup, 1) := by decide +kernel
theorem dX5_init_65 : decode cX5_init 65 = .ok (.aload_n 0, 1) := by decide +kernel
theorem dX5_init_66 : decode cX5_init 66 = .ok (.getfield 12, 3) := by decide +kernel
theorem dX5_init_69 : decode cX5_init 69 = .ok (.invokespecial 43, 3) := by decide +kernel
theorem dX5_init_72 : decode cX5_init 72 = .ok (.putfield 44, 3) := by decide +kernel
theorem dX5_init_75 : decode cX5_init 75 = .ok (.aload_n 0, 1) := by decide +kernel
theorem dX5_init_76 : decode cX5_init 76 = .ok (.invokevirtual 48, 3) := by decide +kernel
theorem dX5_init_79 : decode cX5_init 79 = .ok (.return_, 1) := by decide +kernel
theorem dX5_bin_0 : decode cX5_bin 0 = .ok (.iload_n 1, 1) := by decide +kernel
theorem dX5_bin_1 : decode cX5_bin 1 = .ok (.invokestatic 51, 3) := by decide +kernel
theorem dX5_bin_4 : decode cX5_bin 4 = .ok (.ifCond .eq 17, 3) := by decide +kernel
theorem dX5_bin_7 : decode cX5_bin 7 = .ok (.iload_n 2, 1) := by decide +kernel
theorem dX5_bin_8 : decode cX5_bin 8 = .ok (.invokestatic 51, 3) := by decide +kernel
theorem dX5_bin_11 : decode cX5_bin 11 = .ok (.ifCond .eq 10, 3) := by decide +kernel
theorem dX5_bin_14 : decode cX5_bin 14 = .ok (.iload_n 3, 1) := by decide +kernel
theorem dX5_bin_15 : decode cX5_bin 15 = .ok (.invokestatic 51, 3) := by decide +kernel
theorem dX5_bin_18 : decode cX5_bin 18 = .ok (.ifCond .ne 5, 3) := by decide +kernel
theorem dX5_bin_21 : decode cX5_bin 21 = .ok (.iconst (-1), 1) := by decide +kernel
theorem dX5_bin_22 : decode cX5_bin 22 = .ok (.ireturn, 1) := by decide +kernel
theorem dX5_bin_23 : decode cX5_bin 23 = .ok (.aload_n 0, 1) := by decide +kernel
theorem dX5_bin_24 : decode cX5_bin 24 = .ok (.getfield 12, 3) := by decide +kernel
theorem dX5_bin_27 : decode cX5_bin 27 = .ok (.getfield 55, 3) := by decide +kernel
theorem dX5_bin_30 : decode cX5_bin 30 = .ok (.iconst 0, 1) := by decide +kernel
theorem dX5_bin_31 : decode cX5_bin 31 = .ok (.iload_n 1, 1) := by decide +kernel
theorem dX5_bin_32 : decode cX5_bin 32 = .ok (.iastore, 1) := by decide +kernel
theorem dX5_bin_33 : decode cX5_bin 33 = .ok (.aload_n 0, 1) := by decide +kernel
theorem dX5_bin_34 : decode cX5_bin 34 = .ok (.getfield 12, 3) := by decide +kernel
theorem dX5_bin_37 : decode cX5_bin 37 = .ok (.getfield 55, 3) := by decide +kernel
theorem dX5_bin_40 : decode cX5_bin 40 = .ok (.iconst 1, 1) := by decide +kernel
theorem dX5_bin_41 : decode cX5_bin 41 = .ok (.iload_n 2, 1) := by decide +kernel
theorem dX5_bin_42 : decode cX5_bin 42 = .ok (.iastore, 1) := by decide +kernel
theorem dX5_bin_43 : decode cX5_bin 43 = .ok (.aload_n 0, 1) := by decide +kernel
theorem dX5_bin_44 : decode cX5_bin 44 = .ok (.getfield 12, 3) := by decide +kernel
theorem dX5_bin_47 : decode cX5_bin 47 = .ok (.getfield 55, 3) := by decide +kernel
theorem dX5_bin_50 : decode cX5_bin 50 = .ok (.iconst 2, 1) := by decide +kernel
theorem dX5_bin_51 : decode cX5_bin 51 = .ok (.iload_n 3, 1) := by decide +kernel
theorem dX5_bin_52 : decode cX5_bin 52 = .ok (.iastore, 1) := by decide +kernel
theorem dX5_bin_53 : decode cX5_bin 53 = .ok (.aload_n 0, 1) := by decide +kernel
theorem dX5_bin_54 : decode cX5_bin 54 = .ok (.invokevirtual 48, 3) := by decide +kernel
theorem dX5_bin_57 : decode cX5_bin 57 = .ok (.iconst 0, 1) := by decide +kernel
theorem dX5_bin_58 : decode cX5_bin 58 = .ok (.ireturn, 1) := by decide +kernel
theorem dX5_box_0 : decode cX5_box 0 = .ok (.iload_n 1, 1) := by decide +kernel
theorem dX5_box_1 : decode cX5_box 1 = .ok (.invokestatic 51, 3) := by decide +kernel
theorem dX5_box_4 : decode cX5_box 4 = .ok (.ifCond .eq 17, 3) := by decide +kernel
theorem dX5_box_7 : decode cX5_box 7 = .ok (.iload_n 2, 1) := by decide +kernel
theorem dX5_box_8 : decode cX5_box 8 = .ok (.invokestatic 51, 3) := by decide +kernel
theorem dX5_box_11 : decode cX5_box 11 = .ok (.ifCond .eq 10, 3) := by decide +kernel
theorem dX5_box_14 : decode cX5_box 14 = .ok (.iload_n 3, 1) := by decide +kernel
theorem dX5_box_15 : decode cX5_box 15 = .ok (.invokestatic 51, 3) := by decide +kernel
theorem dX5_box_18 : decode cX5_box 18 = .ok (.ifCond .ne 5, 3) := by decide +kernel
theorem dX5_box_21 : decode cX5_box 21 = .ok (.iconst (-1), 1) := by decide +kernel
theorem dX5_box_22 : decode cX5_box 22 = .ok (.ireturn, 1) := by decide +kernel
theorem dX5_box_23 : decode cX5_box 23 = .ok (.aload_n 0, 1) := by decide +kernel
theorem dX5_box_24 : decode cX5_box 24 = .ok (.getfield 12, 3) := by decide +kernel
theorem dX5_box_27 : decode cX5_box 27 = .ok (.getfield 59, 3) := by decide +kernel
theorem dX5_box_30 : decode cX5_box 30 = .ok (.bipush 8, 2) := by decide +kernel
theorem dX5_box_32 : decode cX5_box 32 = .ok (.if_icmp .lt 6, 3) := by decide +kernel
theorem dX5_box_35 : decode cX5_box 35 = .ok (.bipush (-3), 2) := by decide +kernel
theorem dX5_box_37 : decode cX5_box 37 = .ok (.ireturn, 1) := by decide +kernel
theorem dX5_box_38 : decode cX5_box 38 = .ok (.aload_n 0, 1) := by decide +kernel
theorem dX5_box_39 : decode cX5_box 39 = .ok (.getfield 12, 3) := by decide +kernel
theorem dX5_box_42 : decode cX5_box 42 = .ok (.getfield 59, 3) := by decide +kernel
theorem dX5_box_45 : decode cX5_box 45 = .ok (.istore 4, 2) := by decide +kernel
theorem dX5_box_47 : decode cX5_box 47 = .ok (.aload_n 0, 1) := by decide +kernel
theorem dX5_box_48 : decode cX5_box 48 = .ok (.getfield 12, 3) := by decide +kernel
theorem dX5_box_51 : decode cX5_box 51 = .ok (.iload_n 1, 1) := by decide +kernel
theorem dX5_box_52 : decode cX5_box 52 = .ok (.iload_n 2, 1) := by decide +kernel
theorem dX5_box_53 : decode cX5_box 53 = .ok (.iload_n 3, 1) := by decide +kernel
theorem dX5_box_54 : decode cX5_box 54 = .ok (.invokevirtual 63, 3) := by decide +kernel
theorem dX5_box_57 : decode cX5_box 57 = .ok (.aload_n 0, 1) := by decide +kernel
theorem dX5_box_58 : decode cX5_box 58 = .ok (.invokevirtual 48, 3) := by decide +kernel
theorem dX5_box_61 : decode cX5_box 61 = .ok (.iload 4, 2) := by decide +kernel
theorem dX5_box_63 : decode cX5_box 63 = .ok (.ireturn, 1) := by decide +kernel
theorem dX5_turns_0 : decode cX5_turns 0 = .ok (.aload_n 0, 1) := by decide +kernel
theorem dX5_turns_1 : decode cX5_turns 1 = .ok (.getfield 12, 3) := by decide +kernel
theorem dX5_turns_4 : decode cX5_turns 4 = .ok (.iload_n 1, 1) := by decide +kernel
theorem dX5_turns_5 : decode cX5_turns 5 = .ok (.invokevirtual 67, 3) := by decide +kernel
theorem dX5_turns_8 : decode cX5_turns 8 = .ok (.ifCond .eq 14, 3) := by decide +kernel
theorem dX5_turns_11 : decode cX5_turns 11 = .ok (.iload_n 2, 1) := by decide +kernel
theorem dX5_turns_12 : decode cX5_turns 12 = .ok (.iconst 1, 1) := by decide +kernel
theorem dX5_turns_13 : decode cX5_turns 13 = .ok (.if_icmp .lt 9, 3) := by decide +kernel
theorem dX5_turns_16 : decode cX5_turns 16 = .ok (.iload_n 2, 1) := by decide +kernel
theorem dX5_turns_17 : decode cX5_turns 17 = .ok (.bipush 63, 2) := by decide +kernel
theorem dX5_turns_19 : decode cX5_turns 19 = .ok (.if_icmp .le 5, 3) := by decide +kernel
theorem dX5_turns_22 : decode cX5_turns 22 = .ok (.iconst (-1), 1) := by decide +kernel
theorem dX5_turns_23 : decode cX5_turns 23 = .ok (.ireturn, 1) := by decide +kernel
theorem dX5_turns_24 : decode cX5_turns 24 = .ok (.aload_n 0, 1) := by decide +kernel
theorem dX5_turns_25 : decode cX5_turns 25 = .ok (.getfield 12, 3) := by decide +kernel
theorem dX5_turns_28 : decode cX5_turns 28 = .ok (.getfield 70, 3) := by decide +kernel
theorem dX5_turns_31 : decode cX5_turns 31 = .ok (.iload_n 1, 1) := by decide +kernel
theorem dX5_turns_32 : decode cX5_turns 32 = .ok (.iaload, 1) := by decide +kernel
theorem dX5_turns_33 : decode cX5_turns 33 = .ok (.istore_n 3, 1) := by decide +kernel
theorem dX5_turns_34 : decode cX5_turns 34 = .ok (.aload_n 0, 1) := by decide +kernel
theorem dX5_turns_35 : decode cX5_turns 35 = .ok (.getfield 12, 3) := by decide +kernel
theorem dX5_turns_38 : decode cX5_turns 38 = .ok (.getfield 70, 3) := by decide +kernel
theorem dX5_turns_41 : decode cX5_turns 41 = .ok (.iload_n 1, 1) := by decide +kernel
theorem dX5_turns_42 : decode cX5_turns 42 = .ok (.iload_n 2, 1) := by decide +kernel
theorem dX5_turns_43 : decode cX5_turns 43 = .ok (.iastore, 1) := by decide +kernel
theorem dX5_turns_44 : decode cX5_turns 44 = .ok (.aload_n 0, 1) := by decide +kernel
theorem dX5_turns_45 : decode cX5_turns 45 = .ok (.invokevirtual 48, 3) := by decide +kernel
theorem dX5_turns_48 : decode cX5_turns 48 = .ok (.iload_n 3, 1) := by decide +kernel
theorem dX5_turns_49 : decode cX5_turns 49 = .ok (.ireturn, 1) := by decide +kernel
theorem dX5_weight_0 : decode cX5_weight 0 = .ok (.aload_n 0, 1) := by decide +kernel
theorem dX5_weight_1 : decode cX5_weight 1 = .ok (.getfield 12, 3) := by decide +kernel
theorem dX5_weight_4 : decode cX5_weight 4 = .ok (.iload_n 1, 1) := by decide +kernel
theorem dX5_weight_5 : decode cX5_weight 5 = .ok (.invokevirtual 67, 3) := by decide +kernel
theorem dX5_weight_8 : decode cX5_weight 8 = .ok (.ifCond .eq 14, 3) := by decide +kernel
theorem dX5_weight_11 : decode cX5_weight 11 = .ok (.iload_n 2, 1) := by decide +kernel
theorem dX5_weight_12 : decode cX5_weight 12 = .ok (.ifCond .lt 10, 3) := by decide +kernel
theorem dX5_weight_15 : decode cX5_weight 15 = .ok (.iload_n 2, 1) := by decide +kernel
theorem dX5_weight_16 : decode cX5_weight 16 = .ok (.sipush 1000, 3) := by decide +kernel
theorem dX5_weight_19 : decode cX5_weight 19 = .ok (.if_icmp .le 5, 3) := by decide +kernel
theorem dX5_weight_22 : decode cX5_weight 22 = .ok (.iconst (-1), 1) := by decide +kernel
theorem dX5_weight_23 : decode cX5_weight 23 = .ok (.ireturn, 1) := by decide +kernel
theorem dX5_weight_24 : decode cX5_weight 24 = .ok (.aload_n 0, 1) := by decide +kernel
theorem dX5_weight_25 : decode cX5_weight 25 = .ok (.getfield 12, 3) := by decide +kernel
theorem dX5_weight_28 : decode cX5_weight 28 = .ok (.getfield 73, 3) := by decide +kernel
theorem dX5_weight_31 : decode cX5_weight 31 = .ok (.iload_n 1, 1) := by decide +kernel
theorem dX5_weight_32 : decode cX5_weight 32 = .ok (.iaload, 1) := by decide +kernel
theorem dX5_weight_33 : decode cX5_weight 33 = .ok (.istore_n 3, 1) := by decide +kernel
theorem dX5_weight_34 : decode cX5_weight 34 = .ok (.aload_n 0, 1) := by decide +kernel
theorem dX5_weight_35 : decode cX5_weight 35 = .ok (.getfield 12, 3) := by decide +kernel
theorem dX5_weight_38 : decode cX5_weight 38 = .ok (.getfield 73, 3) := by decide +kernel
theorem dX5_weight_41 : decode cX5_weight 41 = .ok (.iload_n 1, 1) := by decide +kernel
theorem dX5_weight_42 : decode cX5_weight 42 = .ok (.iload_n 2, 1) := by decide +kernel
theorem dX5_weight_43 : decode cX5_weight 43 = .ok (.iastore, 1) := by decide +kernel
theorem dX5_weight_44 : decode cX5_weight 44 = .ok (.iload_n 3, 1) := by decide +kernel
theorem dX5_weight_45 : decode cX5_weight 45 = .ok (.ireturn, 1) := by decide +kernel
theorem dX5_clear_0 : decode cX5_clear 0 = .ok (.aload_n 0, 1) := by decide +kernel
theorem dX5_clear_1 : decode cX5_clear 1 = .ok (.getfield 12, 3) := by decide +kernel
theorem dX5_clear_4 : decode cX5_clear 4 = .ok (.getfield 59, 3) := by decide +kernel
theorem dX5_clear_7 : decode cX5_clear 7 = .ok (.istore_n 1, 1) := by decide +kernel
theorem dX5_clear_8 : decode cX5_clear 8 = .ok (.aload_n 0, 1) := by decide +kernel
theorem dX5_clear_9 : decode cX5_clear 9 = .ok (.getfield 12, 3) := by decide +kernel
theorem dX5_clear_12 : decode cX5_clear 12 = .ok (.iconst 0, 1) := by decide +kernel
theorem dX5_clear_13 : decode cX5_clear 13 = .ok (.putfield 59, 3) := by decide +kernel
theorem dX5_clear_16 : decode cX5_clear 16 = .ok (.aload_n 0, 1) := by decide +kernel
theorem dX5_clear_17 : decode cX5_clear 17 = .ok (.invokevirtual 48, 3) := by decide +kernel
theorem dX5_clear_20 : decode cX5_clear 20 = .ok (.iload_n 1, 1) := by decide +kernel
theorem dX5_clear_21 : decode cX5_clear 21 = .ok (.ireturn, 1) := by decide +kernel
theorem dX5_run_0 : decode cX5_run 0 = .ok (.iload_n 1, 1) := by decide +kernel
theorem dX5_run_1 : decode cX5_run 1 = .ok (.iconst 1, 1) := by decide +kernel
theorem dX5_run_2 : decode cX5_run 2 = .ok (.if_icmp .lt 10, 3) := by decide +kernel
theorem dX5_run_5 : decode cX5_run 5 = .ok (.iload_n 1, 1) := by decide +kernel
theorem dX5_run_6 : decode cX5_run 6 = .ok (.sipush 20000, 3) := by decide +kernel
theorem dX5_run_9 : decode cX5_run 9 = .ok (.if_icmp .le 5, 3) := by decide +kernel
theorem dX5_run_12 : decode cX5_run 12 = .ok (.iconst (-1), 1) := by decide +kernel
theorem dX5_run_13 : decode cX5_run 13 = .ok (.ireturn, 1) := by decide +kernel
theorem dX5_run_14 : decode cX5_run 14 = .ok (.aload_n 0, 1) := by decide +kernel
theorem dX5_run_15 : decode cX5_run 15 = .ok (.getfield 21, 3) := by decide +kernel
theorem dX5_run_18 : decode cX5_run 18 = .ok (.iload_n 1, 1) := by decide +kernel
theorem dX5_run_19 : decode cX5_run 19 = .ok (.invokevirtual 76, 3) := by decide +kernel
theorem dX5_run_22 : decode cX5_run 22 = .ok (.ireturn, 1) := by decide +kernel
theorem dX5_told_0 : decode cX5_told 0 = .ok (.iload_n 1, 1) := by decide +kernel
theorem dX5_told_1 : decode cX5_told 1 = .ok (.ifCond .ne 11, 3) := by decide +kernel
theorem dX5_told_4 : decode cX5_told 4 = .ok (.aload_n 0, 1) := by decide +kernel
theorem dX5_told_5 : decode cX5_told 5 = .ok (.getfield 21, 3) := by decide +kernel
theorem dX5_told_8 : decode cX5_told 8 = .ok (.getfield 80, 3) := by decide +kernel
theorem dX5_told_11 : decode cX5_told 11 = .ok (.ireturn, 1) := by decide +kernel
theorem dX5_told_12 : decode cX5_told 12 = .ok (.iload_n 1, 1) := by decide +kernel
theorem dX5_told_13 : decode cX5_told 13 = .ok (.ifCond .lt 19, 3) := by decide +kernel
theorem dX5_told_16 : decode cX5_told 16 = .ok (.iload_n 1, 1) := by decide +kernel
theorem dX5_told_17 : decode cX5_told 17 = .ok (.iconst 5, 1) := by decide +kernel
theorem dX5_told_18 : decode cX5_told 18 = .ok (.if_icmp .gt 14, 3) := by decide +kernel
theorem dX5_told_21 : decode cX5_told 21 = .ok (.aload_n 0, 1) := by decide +kernel
theorem dX5_told_22 : decode cX5_told 22 = .ok (.getfield 12, 3) := by decide +kernel
theorem dX5_told_25 : decode cX5_told 25 = .ok (.iload_n 2, 1) := by decide +kernel
theorem dX5_told_26 : decode cX5_told 26 = .ok (.invokevirtual 67, 3) := by decide +kernel
theorem dX5_told_29 : decode cX5_told 29 = .ok (.ifCond .ne 5, 3) := by decide +kernel
theorem dX5_told_32 : decode cX5_told 32 = .ok (.iconst (-1), 1) := by decide +kernel
theorem dX5_told_33 : decode cX5_told 33 = .ok (.ireturn, 1) := by decide +kernel
theorem dX5_told_34 : decode cX5_told 34 = .ok (.iload_n 1, 1) := by decide +kernel
theorem dX5_told_35 : decode cX5_told 35 = .ok (.iconst 1, 1) := by decide +kernel
theorem dX5_told_36 : decode cX5_told 36 = .ok (.if_icmp .ne 13, 3) := by decide +kernel
theorem dX5_told_39 : decode cX5_told 39 = .ok (.aload_n 0, 1) := by decide +kernel
theorem dX5_told_40 : decode cX5_told 40 = .ok (.getfield 21, 3) := by decide +kernel
theorem dX5_told_43 : decode cX5_told 43 = .ok (.getfield 83, 3) := by decide +kernel
theorem dX5_told_46 : decode cX5_told 46 = .ok (.iload_n 2, 1) := by decide +kernel
theorem dX5_told_47 : decode cX5_told 47 = .ok (.iaload, 1) := by decide +kernel
theorem dX5_told_48 : decode cX5_told 48 = .ok (.ireturn, 1) := by decide +kernel
theorem dX5_told_49 : decode cX5_told 49 = .ok (.iload_n 1, 1) := by decide +kernel
theorem dX5_told_50 : decode cX5_told 50 = .ok (.iconst 2, 1) := by decide +kernel
theorem dX5_told_51 : decode cX5_told 51 = .ok (.if_icmp .ne 14, 3) := by decide +kernel
theorem dX5_told_54 : decode cX5_told 54 = .ok (.aload_n 0, 1) := by decide +kernel
theorem dX5_told_55 : decode cX5_told 55 = .ok (.getfield 21, 3) := by decide +kernel
theorem dX5_told_58 : decode cX5_told 58 = .ok (.iload_n 2, 1) := by decide +kernel
theorem dX5_told_59 : decode cX5_told 59 = .ok (.invokevirtual 86, 3) := by decide +kernel
theorem dX5_told_62 : decode cX5_told 62 = .ok (.goto 14, 3) := by decide +kernel
theorem dX5_told_65 : decode cX5_told 65 = .ok (.aload_n 0, 1) := by decide +kernel
theorem dX5_told_66 : decode cX5_told 66 = .ok (.getfield 21, 3) := by decide +kernel
theorem dX5_told_69 : decode cX5_told 69 = .ok (.iload_n 2, 1) := by decide +kernel
theorem dX5_told_70 : decode cX5_told 70 = .ok (.iload_n 1, 1) := by decide +kernel
theorem dX5_told_71 : decode cX5_told 71 = .ok (.iconst 3, 1) := by decide +kernel
theorem dX5_told_72 : decode cX5_told 72 = .ok (.isub, 1) := by decide +kernel
theorem dX5_told_73 : decode cX5_told 73 = .ok (.invokevirtual 89, 3) := by decide +kernel
theorem dX5_told_76 : decode cX5_told 76 = .ok (.ireturn, 1) := by decide +kernel
theorem dX5_plan_0 : decode cX5_plan 0 = .ok (.aload_n 0, 1) := by decide +kernel
theorem dX5_plan_1 : decode cX5_plan 1 = .ok (.getfield 21, 3) := by decide +kernel
theorem dX5_plan_4 : decode cX5_plan 4 = .ok (.getfield 93, 3) := by decide +kernel
theorem dX5_plan_7 : decode cX5_plan 7 = .ok (.iconst 1, 1) := by decide +kernel
theorem dX5_plan_8 : decode cX5_plan 8 = .ok (.if_icmp .eq 6, 3) := by decide +kernel
theorem dX5_plan_11 : decode cX5_plan 11 = .ok (.bipush (-2), 2) := by decide +kernel
theorem dX5_plan_13 : decode cX5_plan 13 = .ok (.ireturn, 1) := by decide +kernel
theorem dX5_plan_14 : decode cX5_plan 14 = .ok (.iconst 0, 1) := by decide +kernel
theorem dX5_plan_15 : decode cX5_plan 15 = .ok (.istore_n 1, 1) := by decide +kernel
theorem dX5_plan_16 : decode cX5_plan 16 = .ok (.iload_n 1, 1) := by decide +kernel
theorem dX5_plan_17 : decode cX5_plan 17 = .ok (.aload_n 0, 1) := by decide +kernel
theorem dX5_plan_18 : decode cX5_plan 18 = .ok (.getfield 12, 3) := by decide +kernel
theorem dX5_plan_21 : decode cX5_plan 21 = .ok (.getfield 59, 3) := by decide +kernel
theorem dX5_plan_24 : decode cX5_plan 24 = .ok (.if_icmp .ge 69, 3) := by decide +kernel
theorem dX5_plan_27 : decode cX5_plan 27 = .ok (.iload_n 1, 1) := by decide +kernel
theorem dX5_plan_28 : decode cX5_plan 28 = .ok (.iconst 3, 1) := by decide +kernel
theorem dX5_plan_29 : decode cX5_plan 29 = .ok (.imul, 1) := by decide +kernel
theorem dX5_plan_30 : decode cX5_plan 30 = .ok (.istore_n 2, 1) := by decide +kernel
theorem dX5_plan_31 : decode cX5_plan 31 = .ok (.aload_n 0, 1) := by decide +kernel
theorem dX5_plan_32 : decode cX5_plan 32 = .ok (.getfield 28, 3) := by decide +kernel
theorem dX5_plan_35 : decode cX5_plan 35 = .ok (.aload_n 0, 1) := by decide +kernel
theorem dX5_plan_36 : decode cX5_plan 36 = .ok (.getfield 21, 3) := by decide +kernel
theorem dX5_plan_39 : decode cX5_plan 39 = .ok (.getfield 83, 3) := by decide +kernel
theorem dX5_plan_42 : decode cX5_plan 42 = .ok (.iload_n 1, 1) := by decide +kernel
theorem dX5_plan_43 : decode cX5_plan 43 = .ok (.iaload, 1) := by decide +kernel
theorem dX5_plan_44 : decode cX5_plan 44 = .ok (.aload_n 0, 1) := by decide +kernel
theorem dX5_plan_45 : decode cX5_plan 45 = .ok (.getfield 21, 3) := by decide +kernel
theorem dX5_plan_48 : decode cX5_plan 48 = .ok (.getfield 96, 3) := by decide +kernel
theorem dX5_plan_51 : decode cX5_plan 51 = .ok (.iload_n 1, 1) := by decide +kernel
theorem dX5_plan_52 : decode cX5_plan 52 = .ok (.iaload, 1) := by decide +kernel
theorem dX5_plan_53 : decode cX5_plan 53 = .ok (.aload_n 0, 1) := by decide +kernel
theorem dX5_plan_54 : decode cX5_plan 54 = .ok (.getfield 21, 3) := by decide +kernel
theorem dX5_plan_57 : decode cX5_plan 57 = .ok (.getfield 99, 3) := by decide +kernel
theorem dX5_plan_60 : decode cX5_plan 60 = .ok (.iload_n 2, 1) := by decide +kernel
theorem dX5_plan_61 : decode cX5_plan 61 = .ok (.iaload, 1) := by decide +kernel
theorem dX5_plan_62 : decode cX5_plan 62 = .ok (.aload_n 0, 1) := by decide +kernel
theorem dX5_plan_63 : decode cX5_plan 63 = .ok (.getfield 21, 3) := by decide +kernel
theorem dX5_plan_66 : decode cX5_plan 66 = .ok (.getfield 99, 3) := by decide +kernel
theorem dX5_plan_69 : decode cX5_plan 69 = .ok (.iload_n 2, 1) := by decide +kernel
theorem dX5_plan_70 : decode cX5_plan 70 = .ok (.iconst 1, 1) := by decide +kernel
theorem dX5_plan_71 : decode cX5_plan 71 = .ok (.iadd, 1) := by decide +kernel
theorem dX5_plan_72 : decode cX5_plan 72 = .ok (.iaload, 1) := by decide +kernel
theorem dX5_plan_73 : decode cX5_plan 73 = .ok (.aload_n 0, 1) := by decide +kernel
theorem dX5_plan_74 : decode cX5_plan 74 = .ok (.getfield 21, 3) := by decide +kernel
theorem dX5_plan_77 : decode cX5_plan 77 = .ok (.getfield 99, 3) := by decide +kernel
theorem dX5_plan_80 : decode cX5_plan 80 = .ok (.iload_n 2, 1) := by decide +kernel
theorem dX5_plan_81 : decode cX5_plan 81 = .ok (.iconst 2, 1) := by decide +kernel
theorem dX5_plan_82 : decode cX5_plan 82 = .ok (.iadd, 1) := by decide +kernel
theorem dX5_plan_83 : decode cX5_plan 83 = .ok (.iaload, 1) := by decide +kernel
theorem dX5_plan_84 : decode cX5_plan 84 = .ok (.invokevirtual 102, 3) := by decide +kernel
theorem dX5_plan_87 : decode cX5_plan 87 = .ok (.iinc 1 1, 3) := by decide +kernel
theorem dX5_plan_90 : decode cX5_plan 90 = .ok (.goto (-74), 3) := by decide +kernel
theorem dX5_plan_93 : decode cX5_plan 93 = .ok (.aload_n 0, 1) := by decide +kernel
theorem dX5_plan_94 : decode cX5_plan 94 = .ok (.getfield 12, 3) := by decide +kernel
theorem dX5_plan_97 : decode cX5_plan 97 = .ok (.getfield 59, 3) := by decide +kernel
theorem dX5_plan_100 : decode cX5_plan 100 = .ok (.ireturn, 1) := by decide +kernel
theorem dX5_lay_0 : decode cX5_lay 0 = .ok (.aload_n 0, 1) := by decide +kernel
theorem dX5_lay_1 : decode cX5_lay 1 = .ok (.getfield 12, 3) := by decide +kernel
theorem dX5_lay_4 : decode cX5_lay 4 = .ok (.iload_n 1, 1) := by decide +kernel
theorem dX5_lay_5 : decode cX5_lay 5 = .ok (.iload_n 2, 1) := by decide +kernel
theorem dX5_lay_6 : decode cX5_lay 6 = .ok (.iload_n 3, 1) := by decide +kernel
theorem dX5_lay_7 : decode cX5_lay 7 = .ok (.iload 4, 2) := by decide +kernel
theorem dX5_lay_9 : decode cX5_lay 9 = .ok (.iload 5, 2) := by decide +kernel
theorem dX5_lay_11 : decode cX5_lay 11 = .ok (.invokevirtual 106, 3) := by decide +kernel
theorem dX5_lay_14 : decode cX5_lay 14 = .ok (.ifCond .ne 5, 3) := by decide +kernel
theorem dX5_lay_17 : decode cX5_lay 17 = .ok (.iconst (-1), 1) := by decide +kernel
theorem dX5_lay_18 : decode cX5_lay 18 = .ok (.ireturn, 1) := by decide +kernel
theorem dX5_lay_19 : decode cX5_lay 19 = .ok (.aload_n 0, 1) := by decide +kernel
theorem dX5_lay_20 : decode cX5_lay 20 = .ok (.getfield 28, 3) := by decide +kernel
theorem dX5_lay_23 : decode cX5_lay 23 = .ok (.iload_n 1, 1) := by decide +kernel
theorem dX5_lay_24 : decode cX5_lay 24 = .ok (.iload_n 2, 1) := by decide +kernel
theorem dX5_lay_25 : decode cX5_lay 25 = .ok (.iload_n 3, 1) := by decide +kernel
theorem dX5_lay_26 : decode cX5_lay 26 = .ok (.iload 4, 2) := by decide +kernel
theorem dX5_lay_28 : decode cX5_lay 28 = .ok (.iload 5, 2) := by decide +kernel
theorem dX5_lay_30 : decode cX5_lay 30 = .ok (.invokevirtual 102, 3) := by decide +kernel
theorem dX5_lay_33 : decode cX5_lay 33 = .ok (.aload_n 0, 1) := by decide +kernel
theorem dX5_lay_34 : decode cX5_lay 34 = .ok (.getfield 28, 3) := by decide +kernel
theorem dX5_lay_37 : decode cX5_lay 37 = .ok (.invokevirtual 110, 3) := by decide +kernel
theorem dX5_lay_40 : decode cX5_lay 40 = .ok (.ireturn, 1) := by decide +kernel
theorem dX5_lift_0 : decode cX5_lift 0 = .ok (.aload_n 0, 1) := by decide +kernel
theorem dX5_lift_1 : decode cX5_lift 1 = .ok (.getfield 12, 3) := by decide +kernel
theorem dX5_lift_4 : decode cX5_lift 4 = .ok (.iload_n 1, 1) := by decide +kernel
theorem dX5_lift_5 : decode cX5_lift 5 = .ok (.invokevirtual 67, 3) := by decide +kernel
theorem dX5_lift_8 : decode cX5_lift 8 = .ok (.ifCond .ne 5, 3) := by decide +kernel
theorem dX5_lift_11 : decode cX5_lift 11 = .ok (.iconst (-1), 1) := by decide +kernel
theorem dX5_lift_12 : decode cX5_lift 12 = .ok (.ireturn, 1) := by decide +kernel
theorem dX5_lift_13 : decode cX5_lift 13 = .ok (.aload_n 0, 1) := by decide +kernel
theorem dX5_lift_14 : decode cX5_lift 14 = .ok (.getfield 28, 3) := by decide +kernel
theorem dX5_lift_17 : decode cX5_lift 17 = .ok (.iload_n 1, 1) := by decide +kernel
theorem dX5_lift_18 : decode cX5_lift 18 = .ok (.invokevirtual 114, 3) := by decide +kernel
theorem dX5_lift_21 : decode cX5_lift 21 = .ok (.ifCond .ne 6, 3) := by decide +kernel
theorem dX5_lift_24 : decode cX5_lift 24 = .ok (.bipush (-2), 2) := by decide +kernel
theorem dX5_lift_26 : decode cX5_lift 26 = .ok (.ireturn, 1) := by decide +kernel
theorem dX5_lift_27 : decode cX5_lift 27 = .ok (.aload_n 0, 1) := by decide +kernel
theorem dX5_lift_28 : decode cX5_lift 28 = .ok (.getfield 28, 3) := by decide +kernel
theorem dX5_lift_31 : decode cX5_lift 31 = .ok (.iload_n 1, 1) := by decide +kernel
theorem dX5_lift_32 : decode cX5_lift 32 = .ok (.invokevirtual 117, 3) := by decide +kernel
theorem dX5_lift_35 : decode cX5_lift 35 = .ok (.iconst 0, 1) := by decide +kernel
theorem dX5_lift_36 : decode cX5_lift 36 = .ok (.ireturn, 1) := by decide +kernel
theorem dX5_place_0 : decode cX5_place 0 = .ok (.aload_n 0, 1) := by decide +kernel
theorem dX5_place_1 : decode cX5_place 1 = .ok (.getfield 12, 3) := by decide +kernel
theorem dX5_place_4 : decode cX5_place 4 = .ok (.iload_n 1, 1) := by decide +kernel
theorem dX5_place_5 : decode cX5_place 5 = .ok (.invokevirtual 67, 3) := by decide +kernel
theorem dX5_place_8 : decode cX5_place 8 = .ok (.ifCond .eq 13, 3) := by decide +kernel
theorem dX5_place_11 : decode cX5_place 11 = .ok (.iload_n 2, 1) := by decide +kernel
theorem dX5_place_12 : decode cX5_place 12 = .ok (.ifCond .lt 9, 3) := by decide +kernel
theorem dX5_place_15 : decode cX5_place 15 = .ok (.iload_n 2, 1) := by decide +kernel
theorem dX5_place_16 : decode cX5_place 16 = .ok (.bipush 6, 2) := by decide +kernel
theorem dX5_place_18 : decode cX5_place 18 = .ok (.if_icmp .le 5, 3) := by decide +kernel
theorem dX5_place_21 : decode cX5_place 21 = .ok (.iconst (-1), 1) := by decide +kernel
theorem dX5_place_22 : decode cX5_place 22 = .ok (.ireturn, 1) := by decide +kernel
theorem dX5_place_23 : decode cX5_place 23 = .ok (.aload_n 0, 1) := by decide +kernel
theorem dX5_place_24 : decode cX5_place 24 = .ok (.getfield 28, 3) := by decide +kernel
theorem dX5_place_27 : decode cX5_place 27 = .ok (.iload_n 1, 1) := by decide +kernel
theorem dX5_place_28 : decode cX5_place 28 = .ok (.invokevirtual 114, 3) := by decide +kernel
theorem dX5_place_31 : decode cX5_place 31 = .ok (.ifCond .ne 6, 3) := by decide +kernel
theorem dX5_place_34 : decode cX5_place 34 = .ok (.bipush (-9), 2) := by decide +kernel
theorem dX5_place_36 : decode cX5_place 36 = .ok (.ireturn, 1) := by decide +kernel
theorem dX5_place_37 : decode cX5_place 37 = .ok (.iload_n 2, 1) := by decide +kernel
theorem dX5_place_38 : decode cX5_place 38 = .ok (.iconst 3, 1) := by decide +kernel
theorem dX5_place_39 : decode cX5_place 39 = .ok (.if_icmp .ge 17, 3) := by decide +kernel
theorem dX5_place_42 : decode cX5_place 42 = .ok (.aload_n 0, 1) := by decide +kernel
theorem dX5_place_43 : decode cX5_place 43 = .ok (.getfield 28, 3) := by decide +kernel
theorem dX5_place_46 : decode cX5_place 46 = .ok (.getfield 121, 3) := by decide +kernel
theorem dX5_place_49 : decode cX5_place 49 = .ok (.iload_n 1, 1) := by decide +kernel
theorem dX5_place_50 : decode cX5_place 50 = .ok (.iconst 3, 1) := by decide +kernel
theorem dX5_place_51 : decode cX5_place 51 = .ok (.imul, 1) := by decide +kernel
theorem dX5_place_52 : decode cX5_place 52 = .ok (.iload_n 2, 1) := by decide +kernel
theorem dX5_place_53 : decode cX5_place 53 = .ok (.iadd, 1) := by decide +kernel
theorem dX5_place_54 : decode cX5_place 54 = .ok (.iaload, 1) := by decide +kernel
theorem dX5_place_55 : decode cX5_place 55 = .ok (.ireturn, 1) := by decide +kernel
theorem dX5_place_56 : decode cX5_place 56 = .ok (.iload_n 2, 1) := by decide +kernel
theorem dX5_place_57 : decode cX5_place 57 = .ok (.iconst 3, 1) := by decide +kernel
theorem dX5_place_58 : decode cX5_place 58 = .ok (.if_icmp .ne 15, 3) := by decide +kernel
theorem dX5_place_61 : decode cX5_place 61 = .ok (.aload_n 0, 1) := by decide +kernel
theorem dX5_place_62 : decode cX5_place 62 = .ok (.getfield 28, 3) := by decide +kernel
theorem dX5_place_65 : decode cX5_place 65 = .ok (.getfield 122, 3) := by decide +kernel
theorem dX5_place_68 : decode cX5_place 68 = .ok (.iload_n 1, 1) := by decide +kernel
theorem dX5_place_69 : decode cX5_place 69 = .ok (.iaload, 1) := by decide +kernel
theorem dX5_place_70 : decode cX5_place 70 = .ok (.goto 14, 3) := by decide +kernel
theorem dX5_place_73 : decode cX5_place 73 = .ok (.aload_n 0, 1) := by decide +kernel
theorem dX5_place_74 : decode cX5_place 74 = .ok (.getfield 28, 3) := by decide +kernel
theorem dX5_place_77 : decode cX5_place 77 = .ok (.iload_n 1, 1) := by decide +kernel
theorem dX5_place_78 : decode cX5_place 78 = .ok (.iload_n 2, 1) := by decide +kernel
theorem dX5_place_79 : decode cX5_place 79 = .ok (.iconst 4, 1) := by decide +kernel
theorem dX5_place_80 : decode cX5_place 80 = .ok (.isub, 1) := by decide +kernel
theorem dX5_place_81 : decode cX5_place 81 = .ok (.invokevirtual 125, 3) := by decide +kernel
theorem dX5_place_84 : decode cX5_place 84 = .ok (.ireturn, 1) := by decide +kernel
theorem dX5_overlaps_0 : decode cX5_overlaps 0 = .ok (.aload_n 0, 1) := by decide +kernel
theorem dX5_overlaps_1 : decode cX5_overlaps 1 = .ok (.getfield 28, 3) := by decide +kernel
theorem dX5_overlaps_4 : decode cX5_overlaps 4 = .ok (.invokevirtual 110, 3) := by decide +kernel
theorem dX5_overlaps_7 : decode cX5_overlaps 7 = .ok (.ireturn, 1) := by decide +kernel
theorem dX5_relative_0 : decode cX5_relative 0 = .ok (.aload_n 0, 1) := by decide +kernel
theorem dX5_relative_1 : decode cX5_relative 1 = .ok (.getfield 12, 3) := by decide +kernel
theorem dX5_relative_4 : decode cX5_relative 4 = .ok (.iload_n 1, 1) := by decide +kernel
theorem dX5_relative_5 : decode cX5_relative 5 = .ok (.invokevirtual 67, 3) := by decide +kernel
theorem dX5_relative_8 : decode cX5_relative 8 = .ok (.ifCond .eq 19, 3) := by decide +kernel
theorem dX5_relative_11 : decode cX5_relative 11 = .ok (.aload_n 0, 1) := by decide +kernel
theorem dX5_relative_12 : decode cX5_relative 12 = .ok (.getfield 12, 3) := by decide +kernel
theorem dX5_relative_15 : decode cX5_relative 15 = .ok (.iload_n 2, 1) := by decide +kernel
theorem dX5_relative_16 : decode cX5_relative 16 = .ok (.invokevirtual 67, 3) := by decide +kernel
theorem dX5_relative_19 : decode cX5_relative 19 = .ok (.ifCond .eq 8, 3) := by decide +kernel
theorem dX5_relative_22 : decode cX5_relative 22 = .ok (.iload_n 1, 1) := by decide +kernel
theorem dX5_relative_23 : decode cX5_relative 23 = .ok (.iload_n 2, 1) := by decide +kernel
theorem dX5_relative_24 : decode cX5_relative 24 = .ok (.if_icmp .ne 5, 3) := by decide +kernel
theorem dX5_relative_27 : decode cX5_relative 27 = .ok (.iconst (-1), 1) := by decide +kernel
theorem dX5_relative_28 : decode cX5_relative 28 = .ok (.ireturn, 1) := by decide +kernel
theorem dX5_relative_29 : decode cX5_relative 29 = .ok (.aload_n 0, 1) := by decide +kernel
theorem dX5_relative_30 : decode cX5_relative 30 = .ok (.getfield 28, 3) := by decide +kernel
theorem dX5_relative_33 : decode cX5_relative 33 = .ok (.iload_n 1, 1) := by decide +kernel
theorem dX5_relative_34 : decode cX5_relative 34 = .ok (.invokevirtual 114, 3) := by decide +kernel
theorem dX5_relative_37 : decode cX5_relative 37 = .ok (.ifCond .eq 14, 3) := by decide +kernel
theorem dX5_relative_40 : decode cX5_relative 40 = .ok (.aload_n 0, 1) := by decide +kernel
theorem dX5_relative_41 : decode cX5_relative 41 = .ok (.getfield 28, 3) := by decide +kernel
theorem dX5_relative_44 : decode cX5_relative 44 = .ok (.iload_n 2, 1) := by decide +kernel
theorem dX5_relative_45 : decode cX5_relative 45 = .ok (.invokevirtual 114, 3) := by decide +kernel
theorem dX5_relative_48 : decode cX5_relative 48 = .ok (.ifCond .ne 6, 3) := by decide +kernel
theorem dX5_relative_51 : decode cX5_relative 51 = .ok (.bipush (-2), 2) := by decide +kernel
theorem dX5_relative_53 : decode cX5_relative 53 = .ok (.ireturn, 1) := by decide +kernel
theorem dX5_relative_54 : decode cX5_relative 54 = .ok (.aload_n 0, 1) := by decide +kernel
theorem dX5_relative_55 : decode cX5_relative 55 = .ok (.getfield 28, 3) := by decide +kernel
theorem dX5_relative_58 : decode cX5_relative 58 = .ok (.iload_n 1, 1) := by decide +kernel
theorem dX5_relative_59 : decode cX5_relative 59 = .ok (.iload_n 2, 1) := by decide +kernel
theorem dX5_relative_60 : decode cX5_relative 60 = .ok (.invokevirtual 128, 3) := by decide +kernel
theorem dX5_relative_63 : decode cX5_relative 63 = .ok (.ireturn, 1) := by decide +kernel
theorem dX5_support_0 : decode cX5_support 0 = .ok (.aload_n 0, 1) := by decide +kernel
theorem dX5_support_1 : decode cX5_support 1 = .ok (.getfield 12, 3) := by decide +kernel
theorem dX5_support_4 : decode cX5_support 4 = .ok (.iload_n 1, 1) := by decide +kernel
theorem dX5_support_5 : decode cX5_support 5 = .ok (.invokevirtual 67, 3) := by decide +kernel
theorem dX5_support_8 : decode cX5_support 8 = .ok (.ifCond .ne 5, 3) := by decide +kernel
theorem dX5_support_11 : decode cX5_support 11 = .ok (.iconst (-1), 1) := by decide +kernel
theorem dX5_support_12 : decode cX5_support 12 = .ok (.ireturn, 1) := by decide +kernel
theorem dX5_support_13 : decode cX5_support 13 = .ok (.aload_n 0, 1) := by decide +kernel
theorem dX5_support_14 : decode cX5_support 14 = .ok (.getfield 28, 3) := by decide +kernel
theorem dX5_support_17 : decode cX5_support 17 = .ok (.iload_n 1, 1) := by decide +kernel
theorem dX5_support_18 : decode cX5_support 18 = .ok (.invokevirtual 114, 3) := by decide +kernel
theorem dX5_support_21 : decode cX5_support 21 = .ok (.ifCond .eq 14, 3) := by decide +kernel
theorem dX5_support_24 : decode cX5_support 24 = .ok (.aload_n 0, 1) := by decide +kernel
theorem dX5_support_25 : decode cX5_support 25 = .ok (.getfield 28, 3) := by decide +kernel
theorem dX5_support_28 : decode cX5_support 28 = .ok (.iload_n 1, 1) := by decide +kernel
theorem dX5_support_29 : decode cX5_support 29 = .ok (.invokevirtual 131, 3) := by decide +kernel
theorem dX5_support_32 : decode cX5_support 32 = .ok (.goto 5, 3) := by decide +kernel
theorem dX5_support_35 : decode cX5_support 35 = .ok (.bipush (-2), 2) := by decide +kernel
theorem dX5_support_37 : decode cX5_support 37 = .ok (.ireturn, 1) := by decide +kernel
theorem dX5_centre_0 : decode cX5_centre 0 = .ok (.iload_n 1, 1) := by decide +kernel
theorem dX5_centre_1 : decode cX5_centre 1 = .ok (.invokestatic 134, 3) := by decide +kernel
theorem dX5_centre_4 : decode cX5_centre 4 = .ok (.ifCond .eq 12, 3) := by decide +kernel
theorem dX5_centre_7 : decode cX5_centre 7 = .ok (.iload_n 2, 1) := by decide +kernel
theorem dX5_centre_8 : decode cX5_centre 8 = .ok (.ifCond .lt 8, 3) := by decide +kernel
theorem dX5_centre_11 : decode cX5_centre 11 = .ok (.iload_n 2, 1) := by decide +kernel
theorem dX5_centre_12 : decode cX5_centre 12 = .ok (.iconst 1, 1) := by decide +kernel
theorem dX5_centre_13 : decode cX5_centre 13 = .ok (.if_icmp .le 5, 3) := by decide +kernel
theorem dX5_centre_16 : decode cX5_centre 16 = .ok (.iconst (-1), 1) := by decide +kernel
theorem dX5_centre_17 : decode cX5_centre 17 = .ok (.ireturn, 1) := by decide +kernel
theorem dX5_centre_18 : decode cX5_centre 18 = .ok (.aload_n 0, 1) := by decide +kernel
theorem dX5_centre_19 : decode cX5_centre 19 = .ok (.getfield 28, 3) := by decide +kernel
theorem dX5_centre_22 : decode cX5_centre 22 = .ok (.iload_n 1, 1) := by decide +kernel
theorem dX5_centre_23 : decode cX5_centre 23 = .ok (.invokevirtual 137, 3) := by decide +kernel
theorem dX5_centre_26 : decode cX5_centre 26 = .ok (.istore_n 3, 1) := by decide +kernel
theorem dX5_centre_27 : decode cX5_centre 27 = .ok (.iconst 2, 1) := by decide +kernel
theorem dX5_centre_28 : decode cX5_centre 28 = .ok (.aload_n 0, 1) := by decide +kernel
theorem dX5_centre_29 : decode cX5_centre 29 = .ok (.getfield 28, 3) := by decide +kernel
theorem dX5_centre_32 : decode cX5_centre 32 = .ok (.invokevirtual 140, 3) := by decide +kernel
theorem dX5_centre_35 : decode cX5_centre 35 = .ok (.imul, 1) := by decide +kernel
theorem dX5_centre_36 : decode cX5_centre 36 = .ok (.istore 4, 2) := by decide +kernel
theorem dX5_centre_38 : decode cX5_centre 38 = .ok (.iload_n 3, 1) := by decide +kernel
theorem dX5_centre_39 : decode cX5_centre 39 = .ok (.iload 4, 2) := by decide +kernel
theorem dX5_centre_41 : decode cX5_centre 41 = .ok (.invokestatic 143, 3) := by decide +kernel
theorem dX5_centre_44 : decode cX5_centre 44 = .ok (.istore 5, 2) := by decide +kernel
theorem dX5_centre_46 : decode cX5_centre 46 = .ok (.iload 5, 2) := by decide +kernel
theorem dX5_centre_48 : decode cX5_centre 48 = .ok (.ifCond .ne 5, 3) := by decide +kernel
theorem dX5_centre_51 : decode cX5_centre 51 = .ok (.iconst 0, 1) := by decide +kernel
theorem dX5_centre_52 : decode cX5_centre 52 = .ok (.ireturn, 1) := by decide +kernel
theorem dX5_centre_53 : decode cX5_centre 53 = .ok (.iload_n 2, 1) := by decide +kernel
theorem dX5_centre_54 : decode cX5_centre 54 = .ok (.ifCond .ne 7, 3) := by decide +kernel
theorem dX5_centre_57 : decode cX5_centre 57 = .ok (.iload_n 3, 1) := by decide +kernel
theorem dX5_centre_58 : decode cX5_centre 58 = .ok (.goto 5, 3) := by decide +kernel
theorem dX5_centre_61 : decode cX5_centre 61 = .ok (.iload 4, 2) := by decide +kernel
theorem dX5_centre_63 : decode cX5_centre 63 = .ok (.iload 5, 2) := by decide +kernel
theorem dX5_centre_65 : decode cX5_centre 65 = .ok (.idiv, 1) := by decide +kernel
theorem dX5_centre_66 : decode cX5_centre 66 = .ok (.ireturn, 1) := by decide +kernel
theorem dX5_tree_0 : decode cX5_tree 0 = .ok (.aload_n 0, 1) := by decide +kernel
theorem dX5_tree_1 : decode cX5_tree 1 = .ok (.getfield 28, 3) := by decide +kernel
theorem dX5_tree_4 : decode cX5_tree 4 = .ok (.invokevirtual 110, 3) := by decide +kernel
theorem dX5_tree_7 : decode cX5_tree 7 = .ok (.ifCond .le 8, 3) := by decide +kernel
theorem dX5_tree_10 : decode cX5_tree 10 = .ok (.bipush (-2), 2) := by decide +kernel
theorem dX5_tree_12 : decode cX5_tree 12 = .ok (.goto 10, 3) := by decide +kernel
theorem dX5_tree_15 : decode cX5_tree 15 = .ok (.aload_n 0, 1) := by decide +kernel
theorem dX5_tree_16 : decode cX5_tree 16 = .ok (.getfield 37, 3) := by decide +kernel
theorem dX5_tree_19 : decode cX5_tree 19 = .ok (.invokevirtual 146, 3) := by decide +kernel
theorem dX5_tree_22 : decode cX5_tree 22 = .ok (.ireturn, 1) := by decide +kernel
theorem dX5_node_0 : decode cX5_node 0 = .ok (.iload_n 1, 1) := by decide +kernel
theorem dX5_node_1 : decode cX5_node 1 = .ok (.ifCond .lt 18, 3) := by decide +kernel
theorem dX5_node_4 : decode cX5_node 4 = .ok (.iload_n 1, 1) := by decide +kernel
theorem dX5_node_5 : decode cX5_node 5 = .ok (.bipush 15, 2) := by decide +kernel
theorem dX5_node_7 : decode cX5_node 7 = .ok (.if_icmp .ge 12, 3) := by decide +kernel
theorem dX5_node_10 : decode cX5_node 10 = .ok (.iload_n 2, 1) := by decide +kernel
theorem dX5_node_11 : decode cX5_node 11 = .ok (.ifCond .lt 8, 3) := by decide +kernel
theorem dX5_node_14 : decode cX5_node 14 = .ok (.iload_n 2, 1) := by decide +kernel
theorem dX5_node_15 : decode cX5_node 15 = .ok (.iconst 4, 1) := by decide +kernel
theorem dX5_node_16 : decode cX5_node 16 = .ok (.if_icmp .lt 5, 3) := by decide +kernel
theorem dX5_node_19 : decode cX5_node 19 = .ok (.iconst (-1), 1) := by decide +kernel
theorem dX5_node_20 : decode cX5_node 20 = .ok (.ireturn, 1) := by decide +kernel
theorem dX5_node_21 : decode cX5_node 21 = .ok (.aload_n 0, 1) := by decide +kernel
theorem dX5_node_22 : decode cX5_node 22 = .ok (.getfield 28, 3) := by decide +kernel
theorem dX5_node_25 : decode cX5_node 25 = .ok (.invokevirtual 110, 3) := by decide +kernel
theorem dX5_node_28 : decode cX5_node 28 = .ok (.ifCond .le 6, 3) := by decide +kernel
theorem dX5_node_31 : decode cX5_node 31 = .ok (.bipush (-2), 2) := by decide +kernel
theorem dX5_node_33 : decode cX5_node 33 = .ok (.ireturn, 1) := by decide +kernel
theorem dX5_node_34 : decode cX5_node 34 = .ok (.iload_n 1, 1) := by decide +kernel
theorem dX5_node_35 : decode cX5_node 35 = .ok (.aload_n 0, 1) := by decide +kernel
theorem dX5_node_36 : decode cX5_node 36 = .ok (.getfield 37, 3) := by decide +kernel
theorem dX5_node_39 : decode cX5_node 39 = .ok (.invokevirtual 146, 3) := by decide +kernel
theorem dX5_node_42 : decode cX5_node 42 = .ok (.if_icmp .ge 19, 3) := by decide +kernel
theorem dX5_node_45 : decode cX5_node 45 = .ok (.aload_n 0, 1) := by decide +kernel
theorem dX5_node_46 : decode cX5_node 46 = .ok (.getfield 37, 3) := by decide +kernel
theorem dX5_node_49 : decode cX5_node 49 = .ok (.getfield 149, 3) := by decide +kernel
theorem dX5_node_52 : decode cX5_node 52 = .ok (.iload_n 1, 1) := by decide +kernel
theorem dX5_node_53 : decode cX5_node 53 = .ok (.iconst 4, 1) := by decide +kernel
theorem dX5_node_54 : decode cX5_node 54 = .ok (.imul, 1) := by decide +kernel
theorem dX5_node_55 : decode cX5_node 55 = .ok (.iload_n 2, 1) := by decide +kernel
theorem dX5_node_56 : decode cX5_node 56 = .ok (.iadd, 1) := by decide +kernel
theorem dX5_node_57 : decode cX5_node 57 = .ok (.iaload, 1) := by decide +kernel
theorem dX5_node_58 : decode cX5_node 58 = .ok (.goto 5, 3) := by decide +kernel
theorem dX5_node_61 : decode cX5_node 61 = .ok (.bipush (-9), 2) := by decide +kernel
theorem dX5_node_63 : decode cX5_node 63 = .ok (.ireturn, 1) := by decide +kernel
theorem dX5_dual_0 : decode cX5_dual 0 = .ok (.iload_n 1, 1) := by decide +kernel
theorem dX5_dual_1 : decode cX5_dual 1 = .ok (.invokestatic 134, 3) := by decide +kernel
theorem dX5_dual_4 : decode cX5_dual 4 = .ok (.ifCond .eq 32, 3) := by decide +kernel
theorem dX5_dual_7 : decode cX5_dual 7 = .ok (.aload_n 0, 1) := by decide +kernel
theorem dX5_dual_8 : decode cX5_dual 8 = .ok (.getfield 44, 3) := by decide +kernel
theorem dX5_dual_11 : decode cX5_dual 11 = .ok (.iload_n 1, 1) := by decide +kernel
theorem dX5_dual_12 : decode cX5_dual 12 = .ok (.iload_n 2, 1) := by decide +kernel
theorem dX5_dual_13 : decode cX5_dual 13 = .ok (.invokevirtual 152, 3) := by decide +kernel
theorem dX5_dual_16 : decode cX5_dual 16 = .ok (.ifCond .eq 20, 3) := by decide +kernel
theorem dX5_dual_19 : decode cX5_dual 19 = .ok (.iload_n 3, 1) := by decide +kernel
theorem dX5_dual_20 : decode cX5_dual 20 = .ok (.ifCond .lt 16, 3) := by decide +kernel
theorem dX5_dual_23 : decode cX5_dual 23 = .ok (.iload_n 3, 1) := by decide +kernel
theorem dX5_dual_24 : decode cX5_dual 24 = .ok (.aload_n 0, 1) := by decide +kernel
theorem dX5_dual_25 : decode cX5_dual 25 = .ok (.getfield 12, 3) := by decide +kernel
theorem dX5_dual_28 : decode cX5_dual 28 = .ok (.getfield 55, 3) := by decide +kernel
theorem dX5_dual_31 : decode cX5_dual 31 = .ok (.iload_n 1, 1) := by decide +kernel
theorem dX5_dual_32 : decode cX5_dual 32 = .ok (.iaload, 1) := by decide +kernel
theorem dX5_dual_33 : decode cX5_dual 33 = .ok (.if_icmp .le 5, 3) := by decide +kernel
theorem dX5_dual_36 : decode cX5_dual 36 = .ok (.iconst (-1), 1) := by decide +kernel
theorem dX5_dual_37 : decode cX5_dual 37 = .ok (.ireturn, 1) := by decide +kernel
theorem dX5_dual_38 : decode cX5_dual 38 = .ok (.aload_n 0, 1) := by decide +kernel
theorem dX5_dual_39 : decode cX5_dual 39 = .ok (.getfield 12, 3) := by decide +kernel
theorem dX5_dual_42 : decode cX5_dual 42 = .ok (.getfield 55, 3) := by decide +kernel
theorem dX5_dual_45 : decode cX5_dual 45 = .ok (.iload_n 1, 1) := by decide +kernel
theorem dX5_dual_46 : decode cX5_dual 46 = .ok (.iaload, 1) := by decide +kernel
theorem dX5_dual_47 : decode cX5_dual 47 = .ok (.iload_n 2, 1) := by decide +kernel
theorem dX5_dual_48 : decode cX5_dual 48 = .ok (.iload_n 3, 1) := by decide +kernel
theorem dX5_dual_49 : decode cX5_dual 49 = .ok (.invokestatic 156, 3) := by decide +kernel
theorem dX5_dual_52 : decode cX5_dual 52 = .ok (.ireturn, 1) := by decide +kernel
theorem dX5_need_0 : decode cX5_need 0 = .ok (.iload 4, 2) := by decide +kernel
theorem dX5_need_2 : decode cX5_need 2 = .ok (.ifCond .lt 9, 3) := by decide +kernel
theorem dX5_need_5 : decode cX5_need 5 = .ok (.iload 4, 2) := by decide +kernel
theorem dX5_need_7 : decode cX5_need 7 = .ok (.iconst 1, 1) := by decide +kernel
theorem dX5_need_8 : decode cX5_need 8 = .ok (.if_icmp .le 7, 3) := by decide +kernel
theorem dX5_need_11 : decode cX5_need 11 = .ok (.ldc2_w 160, 3) := by decide +kernel
theorem dX5_need_14 : decode cX5_need 14 = .ok (.lreturn, 1) := by decide +kernel
theorem dX5_need_15 : decode cX5_need 15 = .ok (.aload_n 0, 1) := by decide +kernel
theorem dX5_need_16 : decode cX5_need 16 = .ok (.getfield 44, 3) := by decide +kernel
theorem dX5_need_19 : decode cX5_need 19 = .ok (.iconst 0, 1) := by decide +kernel
theorem dX5_need_20 : decode cX5_need 20 = .ok (.iload_n 1, 1) := by decide +kernel
theorem dX5_need_21 : decode cX5_need 21 = .ok (.invokevirtual 152, 3) := by decide +kernel
theorem dX5_need_24 : decode cX5_need 24 = .ok (.ifCond .eq 27, 3) := by decide +kernel
theorem dX5_need_27 : decode cX5_need 27 = .ok (.aload_n 0, 1) := by decide +kernel
theorem dX5_need_28 : decode cX5_need 28 = .ok (.getfield 44, 3) := by decide +kernel
theorem dX5_need_31 : decode cX5_need 31 = .ok (.iconst 1, 1) := by decide +kernel
theorem dX5_need_32 : decode cX5_need 32 = .ok (.iload_n 2, 1) := by decide +kernel
theorem dX5_need_33 : decode cX5_need 33 = .ok (.invokevirtual 152, 3) := by decide +kernel
theorem dX5_need_36 : decode cX5_need 36 = .ok (.ifCond .eq 15, 3) := by decide +kernel
theorem dX5_need_39 : decode cX5_need 39 = .ok (.aload_n 0, 1) := by decide +kernel
theorem dX5_need_40 : decode cX5_need 40 = .ok (.getfield 44, 3) := by decide +kernel
theorem dX5_need_43 : decode cX5_need 43 = .ok (.iconst 2, 1) := by decide +kernel
theorem dX5_need_44 : decode cX5_need 44 = .ok (.iload_n 3, 1) := by decide +kernel
theorem dX5_need_45 : decode cX5_need 45 = .ok (.invokevirtual 152, 3) := by decide +kernel
theorem dX5_need_48 : decode cX5_need 48 = .ok (.ifCond .ne 7, 3) := by decide +kernel
theorem dX5_need_51 : decode cX5_need 51 = .ok (.ldc2_w 160, 3) := by decide +kernel
theorem dX5_need_54 : decode cX5_need 54 = .ok (.lreturn, 1) := by decide +kernel
theorem dX5_need_55 : decode cX5_need 55 = .ok (.aload_n 0, 1) := by decide +kernel
theorem dX5_need_56 : decode cX5_need 56 = .ok (.getfield 44, 3) := by decide +kernel
theorem dX5_need_59 : decode cX5_need 59 = .ok (.invokevirtual 162, 3) := by decide +kernel
theorem dX5_need_62 : decode cX5_need 62 = .ok (.aload_n 0, 1) := by decide +kernel
theorem dX5_need_63 : decode cX5_need 63 = .ok (.getfield 44, 3) := by decide +kernel
theorem dX5_need_66 : decode cX5_need 66 = .ok (.iload_n 1, 1) := by decide +kernel
theorem dX5_need_67 : decode cX5_need 67 = .ok (.iload_n 2, 1) := by decide +kernel
theorem dX5_need_68 : decode cX5_need 68 = .ok (.invokevirtual 165, 3) := by decide +kernel
theorem dX5_need_71 : decode cX5_need 71 = .ok (.iload 4, 2) := by decide +kernel
theorem dX5_need_73 : decode cX5_need 73 = .ok (.ifCond .ne 22, 3) := by decide +kernel
theorem dX5_need_76 : decode cX5_need 76 = .ok (.aload_n 0, 1) := by decide +kernel
theorem dX5_need_77 : decode cX5_need 77 = .ok (.getfield 44, 3) := by decide +kernel
theorem dX5_need_80 : decode cX5_need 80 = .ok (.aload_n 0, 1) := by decide +kernel
theorem dX5_need_81 : decode cX5_need 81 = .ok (.getfield 12, 3) := by decide +kernel
theorem dX5_need_84 : decode cX5_need 84 = .ok (.invokevirtual 169, 3) := by decide +kernel
theorem dX5_need_87 : decode cX5_need 87 = .ok (.iload_n 3, 1) := by decide +kernel
theorem dX5_need_88 : decode cX5_need 88 = .ok (.invokevirtual 172, 3) := by decide +kernel
theorem dX5_need_91 : decode cX5_need 91 = .ok (.i2l, 1) := by decide +kernel
theorem dX5_need_92 : decode cX5_need 92 = .ok (.goto 12, 3) := by decide +kernel
theorem dX5_need_95 : decode cX5_need 95 = .ok (.aload_n 0, 1) := by decide +kernel
theorem dX5_need_96 : decode cX5_need 96 = .ok (.getfield 44, 3) := by decide +kernel
theorem dX5_need_99 : decode cX5_need 99 = .ok (.iload_n 3, 1) := by decide +kernel
theorem dX5_need_100 : decode cX5_need 100 = .ok (.invokevirtual 175, 3) := by decide +kernel
theorem dX5_need_103 : decode cX5_need 103 = .ok (.i2l, 1) := by decide +kernel
theorem dX5_need_104 : decode cX5_need 104 = .ok (.lreturn, 1) := by decide +kernel
theorem dX5_proof_0 : decode cX5_proof 0 = .ok (.iload_n 1, 1) := by decide +kernel
theorem dX5_proof_1 : decode cX5_proof 1 = .ok (.ifCond .lt 8, 3) := by decide +kernel
theorem dX5_proof_4 : decode cX5_proof 4 = .ok (.iload_n 1, 1) := by decide +kernel
theorem dX5_proof_5 : decode cX5_proof 5 = .ok (.iconst 3, 1) := by decide +kernel
theorem dX5_proof_6 : decode cX5_proof 6 = .ok (.if_icmp .le 5, 3) := by decide +kernel
theorem dX5_proof_9 : decode cX5_proof 9 = .ok (.iconst (-1), 1) := by decide +kernel
theorem dX5_proof_10 : decode cX5_proof 10 = .ok (.ireturn, 1) := by decide +kernel
theorem dX5_proof_11 : decode cX5_proof 11 = .ok (.aload_n 0, 1) := by decide +kernel
theorem dX5_proof_12 : decode cX5_proof 12 = .ok (.getfield 44, 3) := by decide +kernel
theorem dX5_proof_15 : decode cX5_proof 15 = .ok (.invokevirtual 178, 3) := by decide +kernel
theorem dX5_proof_18 : decode cX5_proof 18 = .ok (.aload_n 0, 1) := by decide +kernel
theorem dX5_proof_19 : decode cX5_proof 19 = .ok (.getfield 44, 3) := by decide +kernel
theorem dX5_proof_22 : decode cX5_proof 22 = .ok (.getfield 181, 3) := by decide +kernel
theorem dX5_proof_25 : decode cX5_proof 25 = .ok (.iload_n 1, 1) := by decide +kernel
theorem dX5_proof_26 : decode cX5_proof 26 = .ok (.iaload, 1) := by decide +kernel
theorem dX5_proof_27 : decode cX5_proof 27 = .ok (.ireturn, 1) := by decide +kernel
theorem dX5_none_0 : decode cX5_none 0 = .ok (.aload_n 0, 1) := by decide +kernel
theorem dX5_none_1 : decode cX5_none 1 = .ok (.getfield 12, 3) := by decide +kernel
theorem dX5_none_4 : decode cX5_none 4 = .ok (.iload_n 1, 1) := by decide +kernel
theorem dX5_none_5 : decode cX5_none 5 = .ok (.iload_n 2, 1) := by decide +kernel
theorem dX5_none_6 : decode cX5_none 6 = .ok (.iload_n 3, 1) := by decide +kernel
theorem dX5_none_7 : decode cX5_none 7 = .ok (.iload 4, 2) := by decide +kernel
theorem dX5_none_9 : decode cX5_none 9 = .ok (.iload 5, 2) := by decide +kernel
theorem dX5_none_11 : decode cX5_none 11 = .ok (.invokevirtual 106, 3) := by decide +kernel
theorem dX5_none_14 : decode cX5_none 14 = .ok (.ifCond .ne 5, 3) := by decide +kernel
theorem dX5_none_17 : decode cX5_none 17 = .ok (.iconst (-1), 1) := by decide +kernel
theorem dX5_none_18 : decode cX5_none 18 = .ok (.ireturn, 1) := by decide +kernel
theorem dX5_none_19 : decode cX5_none 19 = .ok (.iconst 0, 1) := by decide +kernel
theorem dX5_none_20 : decode cX5_none 20 = .ok (.istore 6, 2) := by decide +kernel
theorem dX5_none_22 : decode cX5_none 22 = .ok (.iload 6, 2) := by decide +kernel
theorem dX5_none_24 : decode cX5_none 24 = .ok (.aload_n 0, 1) := by decide +kernel
theorem dX5_none_25 : decode cX5_none 25 = .ok (.getfield 12, 3) := by decide +kernel
theorem dX5_none_28 : decode cX5_none 28 = .ok (.getfield 59, 3) := by decide +kernel
theorem dX5_none_31 : decode cX5_none 31 = .ok (.if_icmp .ge 36, 3) := by decide +kernel
theorem dX5_none_34 : decode cX5_none 34 = .ok (.iload 6, 2) := by decide +kernel
theorem dX5_none_36 : decode cX5_none 36 = .ok (.iload_n 1, 1) := by decide +kernel
theorem dX5_none_37 : decode cX5_none 37 = .ok (.if_icmp .eq 24, 3) := by decide +kernel
theorem dX5_none_40 : decode cX5_none 40 = .ok (.aload_n 0, 1) := by decide +kernel
theorem dX5_none_41 : decode cX5_none 41 = .ok (.getfield 12, 3) := by decide +kernel
theorem dX5_none_44 : decode cX5_none 44 = .ok (.iload 6, 2) := by decide +kernel
theorem dX5_none_46 : decode cX5_none 46 = .ok (.iload_n 1, 1) := by decide +kernel
theorem dX5_none_47 : decode cX5_none 47 = .ok (.iload_n 2, 1) := by decide +kernel
theorem dX5_none_48 : decode cX5_none 48 = .ok (.iload_n 3, 1) := by decide +kernel
theorem dX5_none_49 : decode cX5_none 49 = .ok (.iload 4, 2) := by decide +kernel
theorem dX5_none_51 : decode cX5_none 51 = .ok (.iload 5, 2) := by decide +kernel
theorem dX5_none_53 : decode cX5_none 53 = .ok (.invokevirtual 184, 3) := by decide +kernel
theorem dX5_none_56 : decode cX5_none 56 = .ok (.ifCond .ne 5, 3) := by decide +kernel
theorem dX5_none_59 : decode cX5_none 59 = .ok (.iconst 1, 1) := by decide +kernel
theorem dX5_none_60 : decode cX5_none 60 = .ok (.ireturn, 1) := by decide +kernel
theorem dX5_none_61 : decode cX5_none 61 = .ok (.iinc 6 1, 3) := by decide +kernel
theorem dX5_none_64 : decode cX5_none 64 = .ok (.goto (-42), 3) := by decide +kernel
theorem dX5_none_67 : decode cX5_none 67 = .ok (.iconst 0, 1) := by decide +kernel
theorem dX5_none_68 : decode cX5_none 68 = .ok (.ireturn, 1) := by decide +kernel
theorem dX5_beginAnew_0 : decode cX5_beginAnew 0 = .ok (.aload_n 0, 1) := by decide +kernel
theorem dX5_beginAnew_1 : decode cX5_beginAnew 1 = .ok (.getfield 21, 3) := by decide +kernel
theorem dX5_beginAnew_4 : decode cX5_beginAnew 4 = .ok (.invokevirtual 188, 3) := by decide +kernel
theorem dX5_beginAnew_7 : decode cX5_beginAnew 7 = .ok (.aload_n 0, 1) := by decide +kernel
theorem dX5_beginAnew_8 : decode cX5_beginAnew 8 = .ok (.getfield 28, 3) := by decide +kernel
theorem dX5_beginAnew_11 : decode cX5_beginAnew 11 = .ok (.invokevirtual 191, 3) := by decide +kernel
theorem dX5_beginAnew_14 : decode cX5_beginAnew 14 = .ok (.aload_n 0, 1) := by decide +kernel
theorem dX5_beginAnew_15 : decode cX5_beginAnew 15 = .ok (.getfield 44, 3) := by decide +kernel
theorem dX5_beginAnew_18 : decode cX5_beginAnew 18 = .ok (.invokevirtual 194, 3) := by decide +kernel
theorem dX5_beginAnew_21 : decode cX5_beginAnew 21 = .ok (.return_, 1) := by decide +kernel
theorem dX5_isLength_0 : decode cX5_isLength 0 = .ok (.iload_n 0, 1) := by decide +kernel
theorem dX5_isLength_1 : decode cX5_isLength 1 = .ok (.iconst 1, 1) := by decide +kernel
theorem dX5_isLength_2 : decode cX5_isLength 2 = .ok (.if_icmp .lt 13, 3) := by decide +kernel
theorem dX5_isLength_5 : decode cX5_isLength 5 = .ok (.iload_n 0, 1) := by decide +kernel
theorem dX5_isLength_6 : decode cX5_isLength 6 = .ok (.bipush 20, 2) := by decide +kernel
theorem dX5_isLength_8 : decode cX5_isLength 8 = .ok (.if_icmp .gt 7, 3) := by decide +kernel
theorem dX5_isLength_11 : decode cX5_isLength 11 = .ok (.iconst 1, 1) := by decide +kernel
theorem dX5_isLength_12 : decode cX5_isLength 12 = .ok (.goto 4, 3) := by decide +kernel
theorem dX5_isLength_15 : decode cX5_isLength 15 = .ok (.iconst 0, 1) := by decide +kernel
theorem dX5_isLength_16 : decode cX5_isLength 16 = .ok (.ireturn, 1) := by decide +kernel
theorem dX5_isAxis_0 : decode cX5_isAxis 0 = .ok (.iload_n 0, 1) := by decide +kernel
theorem dX5_isAxis_1 : decode cX5_isAxis 1 = .ok (.ifCond .lt 12, 3) := by decide +kernel
theorem dX5_isAxis_4 : decode cX5_isAxis 4 = .ok (.iload_n 0, 1) := by decide +kernel
theorem dX5_isAxis_5 : decode cX5_isAxis 5 = .ok (.iconst 3, 1) := by decide +kernel
theorem dX5_isAxis_6 : decode cX5_isAxis 6 = .ok (.if_icmp .ge 7, 3) := by decide +kernel
theorem dX5_isAxis_9 : decode cX5_isAxis 9 = .ok (.iconst 1, 1) := by decide +kernel
theorem dX5_isAxis_10 : decode cX5_isAxis 10 = .ok (.goto 4, 3) := by decide +kernel
theorem dX5_isAxis_13 : decode cX5_isAxis 13 = .ok (.iconst 0, 1) := by decide +kernel
theorem dX5_isAxis_14 : decode cX5_isAxis 14 = .ok (.ireturn, 1) := by decide +kernel
theorem dX5_lowest_0 : decode cX5_lowest 0 = .ok (.iload_n 0, 1) := by decide +kernel
theorem dX5_lowest_1 : decode cX5_lowest 1 = .ok (.iload_n 0, 1) := by decide +kernel
theorem dX5_lowest_2 : decode cX5_lowest 2 = .ok (.ineg, 1) := by decide +kernel
theorem dX5_lowest_3 : decode cX5_lowest 3 = .ok (.iand, 1) := by decide +kernel
theorem dX5_lowest_4 : decode cX5_lowest 4 = .ok (.iconst 1, 1) := by decide +kernel
theorem dX5_lowest_5 : decode cX5_lowest 5 = .ok (.isub, 1) := by decide +kernel
theorem dX5_lowest_6 : decode cX5_lowest 6 = .ok (.invokestatic 197, 3) := by decide +kernel
theorem dX5_lowest_9 : decode cX5_lowest 9 = .ok (.ireturn, 1) := by decide +kernel
theorem dX5_commonDivisor_0 : decode cX5_commonDivisor 0 = .ok (.iload_n 0, 1) := by decide +kernel
theorem dX5_commonDivisor_1 : decode cX5_commonDivisor 1 = .ok (.istore_n 2, 1) := by decide +kernel
theorem dX5_commonDivisor_2 : decode cX5_commonDivisor 2 = .ok (.iload_n 1, 1) := by decide +kernel
theorem dX5_commonDivisor_3 : decode cX5_commonDivisor 3 = .ok (.istore_n 3, 1) := by decide +kernel
theorem dX5_commonDivisor_4 : decode cX5_commonDivisor 4 = .ok (.iconst 0, 1) := by decide +kernel
theorem dX5_commonDivisor_5 : decode cX5_commonDivisor 5 = .ok (.istore 4, 2) := by decide +kernel
theorem dX5_commonDivisor_7 : decode cX5_commonDivisor 7 = .ok (.iload 4, 2) := by decide +kernel
theorem dX5_commonDivisor_9 : decode cX5_commonDivisor 9 = .ok (.bipush 64, 2) := by decide +kernel
theorem dX5_commonDivisor_11 : decode cX5_commonDivisor 11 = .ok (.if_icmp .ge 23, 3) := by decide +kernel
theorem dX5_commonDivisor_14 : decode cX5_commonDivisor 14 = .ok (.iload_n 3, 1) := by decide +kernel
theorem dX5_commonDivisor_15 : decode cX5_commonDivisor 15 = .ok (.ifCond .eq 19, 3) := by decide +kernel
theorem dX5_commonDivisor_18 : decode cX5_commonDivisor 18 = .ok (.iload_n 2, 1) := by decide +kernel
theorem dX5_commonDivisor_19 : decode cX5_commonDivisor 19 = .ok (.iload_n 3, 1) := by decide +kernel
theorem dX5_commonDivisor_20 : decode cX5_commonDivisor 20 = .ok (.irem, 1) := by decide +kernel
theorem dX5_commonDivisor_21 : decode cX5_commonDivisor 21 = .ok (.istore 5, 2) := by decide +kernel
theorem dX5_commonDivisor_23 : decode cX5_commonDivisor 23 = .ok (.iload_n 3, 1) := by decide +kernel
theorem dX5_commonDivisor_24 : decode cX5_commonDivisor 24 = .ok (.istore_n 2, 1) := by decide +kernel
theorem dX5_commonDivisor_25 : decode cX5_commonDivisor 25 = .ok (.iload 5, 2) := by decide +kernel
theorem dX5_commonDivisor_27 : decode cX5_commonDivisor 27 = .ok (.istore_n 3, 1) := by decide +kernel
theorem dX5_commonDivisor_28 : decode cX5_commonDivisor 28 = .ok (.iinc 4 1, 3) := by decide +kernel
theorem dX5_commonDivisor_31 : decode cX5_commonDivisor 31 = .ok (.goto (-24), 3) := by decide +kernel
theorem dX5_commonDivisor_34 : decode cX5_commonDivisor 34 = .ok (.iload_n 2, 1) := by decide +kernel
theorem dX5_commonDivisor_35 : decode cX5_commonDivisor 35 = .ok (.ireturn, 1) := by decide +kernel
