theorem dJ6_bitCount_0f7a4_0 : decode cJ6_bitCount_0f7a4 0 = .ok (.iload_n 0, 1) := by decide +kernel
theorem dJ6_bitCount_0f7a4_1 : decode cJ6_bitCount_0f7a4 1 = .ok (.iload_n 0, 1) := by decide +kernel
theorem dJ6_bitCount_0f7a4_2 : decode cJ6_bitCount_0f7a4 2 = .ok (.iconst 1, 1) := by decide +kernel
theorem dJ6_bitCount_0f7a4_3 : decode cJ6_bitCount_0f7a4 3 = .ok (.iushr, 1) := by decide +kernel
theorem dJ6_bitCount_0f7a4_4 : decode cJ6_bitCount_0f7a4 4 = .ok (.ldc_w 265, 3) := by decide +kernel
theorem dJ6_bitCount_0f7a4_7 : decode cJ6_bitCount_0f7a4 7 = .ok (.iand, 1) := by decide +kernel
theorem dJ6_bitCount_0f7a4_8 : decode cJ6_bitCount_0f7a4 8 = .ok (.isub, 1) := by decide +kernel
theorem dJ6_bitCount_0f7a4_9 : decode cJ6_bitCount_0f7a4 9 = .ok (.istore_n 0, 1) := by decide +kernel
theorem dJ6_bitCount_0f7a4_10 : decode cJ6_bitCount_0f7a4 10 = .ok (.iload_n 0, 1) := by decide +kernel
theorem dJ6_bitCount_0f7a4_11 : decode cJ6_bitCount_0f7a4 11 = .ok (.ldc_w 266, 3) := by decide +kernel
theorem dJ6_bitCount_0f7a4_14 : decode cJ6_bitCount_0f7a4 14 = .ok (.iand, 1) := by decide +kernel
theorem dJ6_bitCount_0f7a4_15 : decode cJ6_bitCount_0f7a4 15 = .ok (.iload_n 0, 1) := by decide +kernel
theorem dJ6_bitCount_0f7a4_16 : decode cJ6_bitCount_0f7a4 16 = .ok (.iconst 2, 1) := by decide +kernel
theorem dJ6_bitCount_0f7a4_17 : decode cJ6_bitCount_0f7a4 17 = .ok (.iushr, 1) := by decide +kernel
theorem dJ6_bitCount_0f7a4_18 : decode cJ6_bitCount_0f7a4 18 = .ok (.ldc_w 266, 3) := by decide +kernel
theorem dJ6_bitCount_0f7a4_21 : decode cJ6_bitCount_0f7a4 21 = .ok (.iand, 1) := by decide +kernel
theorem dJ6_bitCount_0f7a4_22 : decode cJ6_bitCount_0f7a4 22 = .ok (.iadd, 1) := by decide +kernel
theorem dJ6_bitCount_0f7a4_23 : decode cJ6_bitCount_0f7a4 23 = .ok (.istore_n 0, 1) := by decide +kernel
theorem dJ6_bitCount_0f7a4_24 : decode cJ6_bitCount_0f7a4 24 = .ok (.iload_n 0, 1) := by decide +kernel
theorem dJ6_bitCount_0f7a4_25 : decode cJ6_bitCount_0f7a4 25 = .ok (.iload_n 0, 1) := by decide +kernel
theorem dJ6_bitCount_0f7a4_26 : decode cJ6_bitCount_0f7a4 26 = .ok (.iconst 4, 1) := by decide +kernel
theorem dJ6_bitCount_0f7a4_27 : decode cJ6_bitCount_0f7a4 27 = .ok (.iushr, 1) := by decide +kernel
theorem dJ6_bitCount_0f7a4_28 : decode cJ6_bitCount_0f7a4 28 = .ok (.iadd, 1) := by decide +kernel
theorem dJ6_bitCount_0f7a4_29 : decode cJ6_bitCount_0f7a4 29 = .ok (.ldc_w 267, 3) := by decide +kernel
theorem dJ6_bitCount_0f7a4_32 : decode cJ6_bitCount_0f7a4 32 = .ok (.iand, 1) := by decide +kernel
theorem dJ6_bitCount_0f7a4_33 : decode cJ6_bitCount_0f7a4 33 = .ok (.istore_n 0, 1) := by decide +kernel
theorem dJ6_bitCount_0f7a4_34 : decode cJ6_bitCount_0f7a4 34 = .ok (.iload_n 0, 1) := by decide +kernel
theorem dJ6_bitCount_0f7a4_35 : decode cJ6_bitCount_0f7a4 35 = .ok (.iload_n 0, 1) := by decide +kernel
theorem dJ6_bitCount_0f7a4_36 : decode cJ6_bitCount_0f7a4 36 = .ok (.bipush 8, 2) := by decide +kernel
theorem dJ6_bitCount_0f7a4_38 : decode cJ6_bitCount_0f7a4 38 = .ok (.iushr, 1) := by decide +kernel
theorem dJ6_bitCount_0f7a4_39 : decode cJ6_bitCount_0f7a4 39 = .ok (.iadd, 1) := by decide +kernel
theorem dJ6_bitCount_0f7a4_40 : decode cJ6_bitCount_0f7a4 40 = .ok (.istore_n 0, 1) := by decide +kernel
theorem dJ6_bitCount_0f7a4_41 : decode cJ6_bitCount_0f7a4 41 = .ok (.iload_n 0, 1) := by decide +kernel
theorem dJ6_bitCount_0f7a4_42 : decode cJ6_bitCount_0f7a4 42 = .ok (.iload_n 0, 1) := by decide +kernel
theorem dJ6_bitCount_0f7a4_43 : decode cJ6_bitCount_0f7a4 43 = .ok (.bipush 16, 2) := by decide +kernel
theorem dJ6_bitCount_0f7a4_45 : decode cJ6_bitCount_0f7a4 45 = .ok (.iushr, 1) := by decide +kernel
theorem dJ6_bitCount_0f7a4_46 : decode cJ6_bitCount_0f7a4 46 = .ok (.iadd, 1) := by decide +kernel
theorem dJ6_bitCount_0f7a4_47 : decode cJ6_bitCount_0f7a4 47 = .ok (.istore_n 0, 1) := by decide +kernel
theorem dJ6_bitCount_0f7a4_48 : decode cJ6_bitCount_0f7a4 48 = .ok (.iload_n 0, 1) := by decide +kernel
theorem dJ6_bitCount_0f7a4_49 : decode cJ6_bitCount_0f7a4 49 = .ok (.bipush 63, 2) := by decide +kernel
theorem dJ6_bitCount_0f7a4_51 : decode cJ6_bitCount_0f7a4 51 = .ok (.iand, 1) := by decide +kernel
theorem dJ6_bitCount_0f7a4_52 : decode cJ6_bitCount_0f7a4 52 = .ok (.ireturn, 1) := by decide +kernel
theorem dJ9_max_7cf53_0 : decode cJ9_max_7cf53 0 = .ok (.iload_n 0, 1) := by decide +kernel
theorem dJ9_max_7cf53_1 : decode cJ9_max_7cf53 1 = .ok (.iload_n 1, 1) := by decide +kernel
theorem dJ9_max_7cf53_2 : decode cJ9_max_7cf53 2 = .ok (.if_icmp .lt 7, 3) := by decide +kernel
theorem dJ9_max_7cf53_5 : decode cJ9_max_7cf53 5 = .ok (.iload_n 0, 1) := by decide +kernel
theorem dJ9_max_7cf53_6 : decode cJ9_max_7cf53 6 = .ok (.goto 4, 3) := by decide +kernel
theorem dJ9_max_7cf53_9 : decode cJ9_max_7cf53 9 = .ok (.iload_n 1, 1) := by decide +kernel
theorem dJ9_max_7cf53_10 : decode cJ9_max_7cf53 10 = .ok (.ireturn, 1) := by decide +kernel
theorem dJ9_min_7cf53_0 : decode cJ9_min_7cf53 0 = .ok (.iload_n 0, 1) := by decide +kernel
theorem dJ9_min_7cf53_1 : decode cJ9_min_7cf53 1 = .ok (.iload_n 1, 1) := by decide +kernel
theorem dJ9_min_7cf53_2 : decode cJ9_min_7cf53 2 = .ok (.if_icmp .gt 7, 3) := by decide +kernel
theorem dJ9_min_7cf53_5 : decode cJ9_min_7cf53 5 = .ok (.iload_n 0, 1) := by decide +kernel
theorem dJ9_min_7cf53_6 : decode cJ9_min_7cf53 6 = .ok (.goto 4, 3) := by decide +kernel
theorem dJ9_min_7cf53_9 : decode cJ9_min_7cf53 9 = .ok (.iload_n 1, 1) := by decide +kernel
theorem dJ9_min_7cf53_10 : decode cJ9_min_7cf53 10 = .ok (.ireturn, 1) := by decide +kernel
theorem dX4_init_0 : decode cX4_init 0 = .ok (.aload_n 0, 1) := by decide +kernel
theorem dX4_init_1 : decode cX4_init 1 = .ok (.invokespecial 3, 3) := by decide +kernel
theorem dX4_init_4 : decode cX4_init 4 = .ok (.aload_n 0, 1) := by decide +kernel
theorem dX4_init_5 : decode cX4_init 5 = .ok (.iconst 3, 1) := by decide +kernel
theorem dX4_init_6 : decode cX4_init 6 = .ok (.newarray .int, 2) := by decide +kernel
theorem dX4_init_8 : decode cX4_init 8 = .ok (.dup, 1) := by decide +kernel
theorem dX4_init_9 : decode cX4_init 9 = .ok (.iconst 0, 1) := by decide +kernel
theorem dX4_init_10 : decode cX4_init 10 = .ok (.bipush 10, 2) := by decide +kernel
theorem dX4_init_12 : decode cX4_init 12 = .ok (.iastore, 1) := by decide +kernel
theorem dX4_init_13 : decode cX4_init 13 = .ok (.dup, 1) := by decide +kernel
theorem dX4_init_14 : decode cX4_init 14 = .ok (.iconst 1, 1) := by decide +kernel
theorem dX4_init_15 : decode cX4_init 15 = .ok (.bipush 10, 2) := by decide +kernel
theorem dX4_init_17 : decode cX4_init 17 = .ok (.iastore, 1) := by decide +kernel
theorem dX4_init_18 : decode cX4_init 18 = .ok (.dup, 1) := by decide +kernel
theorem dX4_init_19 : decode cX4_init 19 = .ok (.iconst 2, 1) := by decide +kernel
theorem dX4_init_20 : decode cX4_init 20 = .ok (.bipush 10, 2) := by decide +kernel
theorem dX4_init_22 : decode cX4_init 22 = .ok (.iastore, 1) := by decide +kernel
theorem dX4_init_23 : decode cX4_init 23 = .ok (.putfield 9, 3) := by decide +kernel
theorem dX4_init_26 : decode cX4_init 26 = .ok (.aload_n 0, 1) := by decide +kernel
theorem dX4_init_27 : decode cX4_init 27 = .ok (.bipush 24, 2) := by decide +kernel
theorem dX4_init_29 : decode cX4_init 29 = .ok (.newarray .int, 2) := by decide +kernel
theorem dX4_init_31 : decode cX4_init 31 = .ok (.putfield 15, 3) := by decide +kernel
theorem dX4_init_34 : decode cX4_init 34 = .ok (.aload_n 0, 1) := by decide +kernel
theorem dX4_init_35 : decode cX4_init 35 = .ok (.bipush 8, 2) := by decide +kernel
theorem dX4_init_37 : decode cX4_init 37 = .ok (.newarray .int, 2) := by decide +kernel
theorem dX4_init_39 : decode cX4_init 39 = .ok (.putfield 18, 3) := by decide +kernel
theorem dX4_init_42 : decode cX4_init 42 = .ok (.aload_n 0, 1) := by decide +kernel
theorem dX4_init_43 : decode cX4_init 43 = .ok (.bipush 8, 2) := by decide +kernel
theorem dX4_init_45 : decode cX4_init 45 = .ok (.newarray .int, 2) := by decide +kernel
theorem dX4_init_47 : decode cX4_init 47 = .ok (.putfield 21, 3) := by decide +kernel
theorem dX4_init_50 : decode cX4_init 50 = .ok (.return_, 1) := by decide +kernel
theorem dX4_append_0 : decode cX4_append 0 = .ok (.aload_n 0, 1) := by decide +kernel
theorem dX4_append_1 : decode cX4_append 1 = .ok (.getfield 24, 3) := by decide +kernel
theorem dX4_append_4 : decode cX4_append 4 = .ok (.bipush 8, 2) := by decide +kernel
theorem dX4_append_6 : decode cX4_append 6 = .ok (.if_icmp .lt 4, 3) := by decide +kernel
theorem dX4_append_9 : decode cX4_append 9 = .ok (.return_, 1) := by decide +kernel
theorem dX4_append_10 : decode cX4_append 10 = .ok (.aload_n 0, 1) := by decide +kernel
theorem dX4_append_11 : decode cX4_append 11 = .ok (.getfield 15, 3) := by decide +kernel
theorem dX4_append_14 : decode cX4_append 14 = .ok (.aload_n 0, 1) := by decide +kernel
theorem dX4_append_15 : decode cX4_append 15 = .ok (.getfield 24, 3) := by decide +kernel
theorem dX4_append_18 : decode cX4_append 18 = .ok (.iconst 3, 1) := by decide +kernel
theorem dX4_append_19 : decode cX4_append 19 = .ok (.imul, 1) := by decide +kernel
theorem dX4_append_20 : decode cX4_append 20 = .ok (.iload_n 1, 1) := by decide +kernel
theorem dX4_append_21 : decode cX4_append 21 = .ok (.iastore, 1) := by decide +kernel
theorem dX4_append_22 : decode cX4_append 22 = .ok (.aload_n 0, 1) := by decide +kernel
theorem dX4_append_23 : decode cX4_append 23 = .ok (.getfield 15, 3) := by decide +kernel
theorem dX4_append_26 : decode cX4_append 26 = .ok (.aload_n 0, 1) := by decide +kernel
theorem dX4_append_27 : decode cX4_append 27 = .ok (.getfield 24, 3) := by decide +kernel
theorem dX4_append_30 : decode cX4_append 30 = .ok (.iconst 3, 1) := by decide +kernel
theorem dX4_append_31 : decode cX4_append 31 = .ok (.imul, 1) := by decide +kernel
theorem dX4_append_32 : decode cX4_append 32 = .ok (.iconst 1, 1) := by decide +kernel
theorem dX4_append_33 : decode cX4_append 33 = .ok (.iadd, 1) := by decide +kernel
theorem dX4_append_34 : decode cX4_append 34 = .ok (.iload_n 2, 1) := by decide +kernel
theorem dX4_append_35 : decode cX4_append 35 = .ok (.iastore, 1) := by decide +kernel
theorem dX4_append_36 : decode cX4_append 36 = .ok (.aload_n 0, 1) := by decide +kernel
theorem dX4_append_37 : decode cX4_append 37 = .ok (.getfield 15, 3) := by decide +kernel
theorem dX4_append_40 : decode cX4_append 40 = .ok (.aload_n 0, 1) := by decide +kernel
theorem dX4_append_41 : decode cX4_append 41 = .ok (.getfield 24, 3) := by decide +kernel
theorem dX4_append_44 : decode cX4_append 44 = .ok (.iconst 3, 1) := by decide +kernel
theorem dX4_append_45 : decode cX4_append 45 = .ok (.imul, 1) := by decide +kernel
theorem dX4_append_46 : decode cX4_append 46 = .ok (.iconst 2, 1) := by decide +kernel
theorem dX4_append_47 : decode cX4_append 47 = .ok (.iadd, 1) := by decide +kernel
theorem dX4_append_48 : decode cX4_append 48 = .ok (.iload_n 3, 1) := by decide +kernel
theorem dX4_append_49 : decode cX4_append 49 = .ok (.iastore, 1) := by decide +kernel
theorem dX4_append_50 : decode cX4_append 50 = .ok (.aload_n 0, 1) := by decide +kernel
theorem dX4_append_51 : decode cX4_append 51 = .ok (.getfield 18, 3) := by decide +kernel
theorem dX4_append_54 : decode cX4_append 54 = .ok (.aload_n 0, 1) := by decide +kernel
theorem dX4_append_55 : decode cX4_append 55 = .ok (.getfield 24, 3) := by decide +kernel
theorem dX4_append_58 : decode cX4_append 58 = .ok (.iconst 1, 1) := by decide +kernel
theorem dX4_append_59 : decode cX4_append 59 = .ok (.iastore, 1) := by decide +kernel
theorem dX4_append_60 : decode cX4_append 60 = .ok (.aload_n 0, 1) := by decide +kernel
theorem dX4_append_61 : decode cX4_append 61 = .ok (.getfield 21, 3) := by decide +kernel
theorem dX4_append_64 : decode cX4_append 64 = .ok (.aload_n 0, 1) := by decide +kernel
theorem dX4_append_65 : decode cX4_append 65 = .ok (.getfield 24, 3) := by decide +kernel
theorem dX4_append_68 : decode cX4_append 68 = .ok (.iconst 1, 1) := by decide +kernel
theorem dX4_append_69 : decode cX4_append 69 = .ok (.iastore, 1) := by decide +kernel
theorem dX4_append_70 : decode cX4_append 70 = .ok (.aload_n 0, 1) := by decide +kernel
theorem dX4_append_71 : decode cX4_append 71 = .ok (.dup, 1) := by decide +kernel
theorem dX4_append_72 : decode cX4_append 72 = .ok (.getfield 24, 3) := by decide +kernel
theorem dX4_append_75 : decode cX4_append 75 = .ok (.iconst 1, 1) := by decide +kernel
theorem dX4_append_76 : decode cX4_append 76 = .ok (.iadd, 1) := by decide +kernel
theorem dX4_append_77 : decode cX4_append 77 = .ok (.putfield 24, 3) := by decide +kernel
theorem dX4_append_80 : decode cX4_append 80 = .ok (.return_, 1) := by decide +kernel
theorem dX4_isBox_0 : decode cX4_isBox 0 = .ok (.iload_n 1, 1) := by decide +kernel
theorem dX4_isBox_1 : decode cX4_isBox 1 = .ok (.ifCond .lt 15, 3) := by decide +kernel
theorem dX4_isBox_4 : decode cX4_isBox 4 = .ok (.iload_n 1, 1) := by decide +kernel
theorem dX4_isBox_5 : decode cX4_isBox 5 = .ok (.aload_n 0, 1) := by decide +kernel
theorem dX4_isBox_6 : decode cX4_isBox 6 = .ok (.getfield 24, 3) := by decide +kernel
theorem dX4_isBox_9 : decode cX4_isBox 9 = .ok (.if_icmp .ge 7, 3) := by decide +kernel
theorem dX4_isBox_12 : decode cX4_isBox 12 = .ok (.iconst 1, 1) := by decide +kernel
theorem dX4_isBox_13 : decode cX4_isBox 13 = .ok (.goto 4, 3) := by decide +kernel
theorem dX4_isBox_16 : decode cX4_isBox 16 = .ok (.iconst 0, 1) := by decide +kernel
theorem dX4_isBox_17 : decode cX4_isBox 17 = .ok (.ireturn, 1) := by decide +kernel
theorem dX4_allBoxes_0 : decode cX4_allBoxes 0 = .ok (.iconst 1, 1) := by decide +kernel
theorem dX4_allBoxes_1 : decode cX4_allBoxes 1 = .ok (.aload_n 0, 1) := by decide +kernel
theorem dX4_allBoxes_2 : decode cX4_allBoxes 2 = .ok (.getfield 24, 3) := by decide +kernel
theorem dX4_allBoxes_5 : decode cX4_allBoxes 5 = .ok (.ishl, 1) := by decide +kernel
theorem dX4_allBoxes_6 : decode cX4_allBoxes 6 = .ok (.iconst 1, 1) := by decide +kernel
theorem dX4_allBoxes_7 : decode cX4_allBoxes 7 = .ok (.isub, 1) := by decide +kernel
theorem dX4_allBoxes_8 : decode cX4_allBoxes 8 = .ok (.ireturn, 1) := by decide +kernel
theorem dX4_extent_0 : decode cX4_extent 0 = .ok (.aload_n 0, 1) := by decide +kernel
theorem dX4_extent_1 : decode cX4_extent 1 = .ok (.getfield 15, 3) := by decide +kernel
theorem dX4_extent_4 : decode cX4_extent 4 = .ok (.iload_n 1, 1) := by decide +kernel
theorem dX4_extent_5 : decode cX4_extent 5 = .ok (.iconst 3, 1) := by decide +kernel
theorem dX4_extent_6 : decode cX4_extent 6 = .ok (.imul, 1) := by decide +kernel
theorem dX4_extent_7 : decode cX4_extent 7 = .ok (.getstatic 28, 3) := by decide +kernel
theorem dX4_extent_10 : decode cX4_extent 10 = .ok (.iload_n 2, 1) := by decide +kernel
theorem dX4_extent_11 : decode cX4_extent 11 = .ok (.iconst 3, 1) := by decide +kernel
theorem dX4_extent_12 : decode cX4_extent 12 = .ok (.imul, 1) := by decide +kernel
theorem dX4_extent_13 : decode cX4_extent 13 = .ok (.iload_n 3, 1) := by decide +kernel
theorem dX4_extent_14 : decode cX4_extent 14 = .ok (.iadd, 1) := by decide +kernel
theorem dX4_extent_15 : decode cX4_extent 15 = .ok (.iaload, 1) := by decide +kernel
theorem dX4_extent_16 : decode cX4_extent 16 = .ok (.iadd, 1) := by decide +kernel
theorem dX4_extent_17 : decode cX4_extent 17 = .ok (.iaload, 1) := by decide +kernel
theorem dX4_extent_18 : decode cX4_extent 18 = .ok (.ireturn, 1) := by decide +kernel
theorem dX4_volume_0 : decode cX4_volume 0 = .ok (.aload_n 0, 1) := by decide +kernel
theorem dX4_volume_1 : decode cX4_volume 1 = .ok (.getfield 15, 3) := by decide +kernel
theorem dX4_volume_4 : decode cX4_volume 4 = .ok (.iload_n 1, 1) := by decide +kernel
theorem dX4_volume_5 : decode cX4_volume 5 = .ok (.iconst 3, 1) := by decide +kernel
theorem dX4_volume_6 : decode cX4_volume 6 = .ok (.imul, 1) := by decide +kernel
theorem dX4_volume_7 : decode cX4_volume 7 = .ok (.iaload, 1) := by decide +kernel
theorem dX4_volume_8 : decode cX4_volume 8 = .ok (.aload_n 0, 1) := by decide +kernel
theorem dX4_volume_9 : decode cX4_volume 9 = .ok (.getfield 15, 3) := by decide +kernel
theorem dX4_volume_12 : decode cX4_volume 12 = .ok (.iload_n 1, 1) := by decide +kernel
theorem dX4_volume_13 : decode cX4_volume 13 = .ok (.iconst 3, 1) := by decide +kernel
theorem dX4_volume_14 : decode cX4_volume 14 = .ok (.imul, 1) := by decide +kernel
theorem dX4_volume_15 : decode cX4_volume 15 = .ok (.iconst 1, 1) := by decide +kernel
theorem dX4_volume_16 : decode cX4_volume 16 = .ok (.iadd, 1) := by decide +kernel
theorem dX4_volume_17 : decode cX4_volume 17 = .ok (.iaload, 1) := by decide +kernel
theorem dX4_volume_18 : decode cX4_volume 18 = .ok (.imul, 1) := by decide +kernel
theorem dX4_volume_19 : decode cX4_volume 19 = .ok (.aload_n 0, 1) := by decide +kernel
theorem dX4_volume_20 : decode cX4_volume 20 = .ok (.getfield 15, 3) := by decide +kernel
theorem dX4_volume_23 : decode cX4_volume 23 = .ok (.iload_n 1, 1) := by decide +kernel
theorem dX4_volume_24 : decode cX4_volume 24 = .ok (.iconst 3, 1) := by decide +kernel
theorem dX4_volume_25 : decode cX4_volume 25 = .ok (.imul, 1) := by decide +kernel
theorem dX4_volume_26 : decode cX4_volume 26 = .ok (.iconst 2, 1) := by decide +kernel
theorem dX4_volume_27 : decode cX4_volume 27 = .ok (.iadd, 1) := by decide +kernel
theorem dX4_volume_28 : decode cX4_volume 28 = .ok (.iaload, 1) := by decide +kernel
theorem dX4_volume_29 : decode cX4_volume 29 = .ok (.imul, 1) := by decide +kernel
theorem dX4_volume_30 : decode cX4_volume 30 = .ok (.ireturn, 1) := by decide +kernel
theorem dX4_hasTurn_0 : decode cX4_hasTurn 0 = .ok (.aload_n 0, 1) := by decide +kernel
theorem dX4_hasTurn_1 : decode cX4_hasTurn 1 = .ok (.getfield 18, 3) := by decide +kernel
theorem dX4_hasTurn_4 : decode cX4_hasTurn 4 = .ok (.iload_n 1, 1) := by decide +kernel
theorem dX4_hasTurn_5 : decode cX4_hasTurn 5 = .ok (.iaload, 1) := by decide +kernel
theorem dX4_hasTurn_6 : decode cX4_hasTurn 6 = .ok (.iload_n 2, 1) := by decide +kernel
theorem dX4_hasTurn_7 : decode cX4_hasTurn 7 = .ok (.ishr, 1) := by decide +kernel
theorem dX4_hasTurn_8 : decode cX4_hasTurn 8 = .ok (.iconst 1, 1) := by decide +kernel
theorem dX4_hasTurn_9 : decode cX4_hasTurn 9 = .ok (.iand, 1) := by decide +kernel
theorem dX4_hasTurn_10 : decode cX4_hasTurn 10 = .ok (.iconst 1, 1) := by decide +kernel
theorem dX4_hasTurn_11 : decode cX4_hasTurn 11 = .ok (.if_icmp .ne 7, 3) := by decide +kernel
theorem dX4_hasTurn_14 : decode cX4_hasTurn 14 = .ok (.iconst 1, 1) := by decide +kernel
theorem dX4_hasTurn_15 : decode cX4_hasTurn 15 = .ok (.goto 4, 3) := by decide +kernel
theorem dX4_hasTurn_18 : decode cX4_hasTurn 18 = .ok (.iconst 0, 1) := by decide +kernel
theorem dX4_hasTurn_19 : decode cX4_hasTurn 19 = .ok (.ireturn, 1) := by decide +kernel
theorem dX4_sameExtents_0 : decode cX4_sameExtents 0 = .ok (.aload_n 0, 1) := by decide +kernel
theorem dX4_sameExtents_1 : decode cX4_sameExtents 1 = .ok (.iload_n 1, 1) := by decide +kernel
theorem dX4_sameExtents_2 : decode cX4_sameExtents 2 = .ok (.iload_n 2, 1) := by decide +kernel
theorem dX4_sameExtents_3 : decode cX4_sameExtents 3 = .ok (.iconst 0, 1) := by decide +kernel
theorem dX4_sameExtents_4 : decode cX4_sameExtents 4 = .ok (.invokevirtual 31, 3) := by decide +kernel
theorem dX4_sameExtents_7 : decode cX4_sameExtents 7 = .ok (.aload_n 0, 1) := by decide +kernel
theorem dX4_sameExtents_8 : decode cX4_sameExtents 8 = .ok (.iload_n 1, 1) := by decide +kernel
theorem dX4_sameExtents_9 : decode cX4_sameExtents 9 = .ok (.iload_n 3, 1) := by decide +kernel
theorem dX4_sameExtents_10 : decode cX4_sameExtents 10 = .ok (.iconst 0, 1) := by decide +kernel
theorem dX4_sameExtents_11 : decode cX4_sameExtents 11 = .ok (.invokevirtual 31, 3) := by decide +kernel
theorem dX4_sameExtents_14 : decode cX4_sameExtents 14 = .ok (.if_icmp .ne 41, 3) := by decide +kernel
theorem dX4_sameExtents_17 : decode cX4_sameExtents 17 = .ok (.aload_n 0, 1) := by decide +kernel
theorem dX4_sameExtents_18 : decode cX4_sameExtents 18 = .ok (.iload_n 1, 1) := by decide +kernel
theorem dX4_sameExtents_19 : decode cX4_sameExtents 19 = .ok (.iload_n 2, 1) := by decide +kernel
theorem dX4_sameExtents_20 : decode cX4_sameExtents 20 = .ok (.iconst 1, 1) := by decide +kernel
theorem dX4_sameExtents_21 : decode cX4_sameExtents 21 = .ok (.invokevirtual 31, 3) := by decide +kernel
theorem dX4_sameExtents_24 : decode cX4_sameExtents 24 = .ok (.aload_n 0, 1) := by decide +kernel
theorem dX4_sameExtents_25 : decode cX4_sameExtents 25 = .ok (.iload_n 1, 1) := by decide +kernel
theorem dX4_sameExtents_26 : decode cX4_sameExtents 26 = .ok (.iload_n 3, 1) := by decide +kernel
theorem dX4_sameExtents_27 : decode cX4_sameExtents 27 = .ok (.iconst 1, 1) := by decide +kernel
theorem dX4_sameExtents_28 : decode cX4_sameExtents 28 = .ok (.invokevirtual 31, 3) := by decide +kernel
theorem dX4_sameExtents_31 : decode cX4_sameExtents 31 = .ok (.if_icmp .ne 24, 3) := by decide +kernel
theorem dX4_sameExtents_34 : decode cX4_sameExtents 34 = .ok (.aload_n 0, 1) := by decide +kernel
theorem dX4_sameExtents_35 : decode cX4_sameExtents 35 = .ok (.iload_n 1, 1) := by decide +kernel
theorem dX4_sameExtents_36 : decode cX4_sameExtents 36 = .ok (.iload_n 2, 1) := by decide +kernel
theorem dX4_sameExtents_37 : decode cX4_sameExtents 37 = .ok (.iconst 2, 1) := by decide +kernel
theorem dX4_sameExtents_38 : decode cX4_sameExtents 38 = .ok (.invokevirtual 31, 3) := by decide +kernel
theorem dX4_sameExtents_41 : decode cX4_sameExtents 41 = .ok (.aload_n 0, 1) := by decide +kernel
theorem dX4_sameExtents_42 : decode cX4_sameExtents 42 = .ok (.iload_n 1, 1) := by decide +kernel
theorem dX4_sameExtents_43 : decode cX4_sameExtents 43 = .ok (.iload_n 3, 1) := by decide +kernel
theorem dX4_sameExtents_44 : decode cX4_sameExtents 44 = .ok (.iconst 2, 1) := by decide +kernel
theorem dX4_sameExtents_45 : decode cX4_sameExtents 45 = .ok (.invokevirtual 31, 3) := by decide +kernel
theorem dX4_sameExtents_48 : decode cX4_sameExtents 48 = .ok (.if_icmp .ne 7, 3) := by decide +kernel
theorem dX4_sameExtents_51 : decode cX4_sameExtents 51 = .ok (.iconst 1, 1) := by decide +kernel
theorem dX4_sameExtents_52 : decode cX4_sameExtents 52 = .ok (.goto 4, 3) := by decide +kernel
theorem dX4_sameExtents_55 : decode cX4_sameExtents 55 = .ok (.iconst 0, 1) := by decide +kernel
theorem dX4_sameExtents_56 : decode cX4_sameExtents 56 = .ok (.ireturn, 1) := by decide +kernel
theorem dX4_isShort_0 : decode cX4_isShort 0 = .ok (.aload_n 0, 1) := by decide +kernel
theorem dX4_isShort_1 : decode cX4_isShort 1 = .ok (.iload_n 1, 1) := by decide +kernel
theorem dX4_isShort_2 : decode cX4_isShort 2 = .ok (.iload_n 2, 1) := by decide +kernel
theorem dX4_isShort_3 : decode cX4_isShort 3 = .ok (.iconst 0, 1) := by decide +kernel
theorem dX4_isShort_4 : decode cX4_isShort 4 = .ok (.invokevirtual 31, 3) := by decide +kernel
theorem dX4_isShort_7 : decode cX4_isShort 7 = .ok (.aload_n 0, 1) := by decide +kernel
theorem dX4_isShort_8 : decode cX4_isShort 8 = .ok (.getfield 9, 3) := by decide +kernel
theorem dX4_isShort_11 : decode cX4_isShort 11 = .ok (.iconst 0, 1) := by decide +kernel
theorem dX4_isShort_12 : decode cX4_isShort 12 = .ok (.iaload, 1) := by decide +kernel
theorem dX4_isShort_13 : decode cX4_isShort 13 = .ok (.if_icmp .gt 39, 3) := by decide +kernel
theorem dX4_isShort_16 : decode cX4_isShort 16 = .ok (.aload_n 0, 1) := by decide +kernel
theorem dX4_isShort_17 : decode cX4_isShort 17 = .ok (.iload_n 1, 1) := by decide +kernel
theorem dX4_isShort_18 : decode cX4_isShort 18 = .ok (.iload_n 2, 1) := by decide +kernel
theorem dX4_isShort_19 : decode cX4_isShort 19 = .ok (.iconst 1, 1) := by decide +kernel
theorem dX4_isShort_20 : decode cX4_isShort 20 = .ok (.invokevirtual 31, 3) := by decide +kernel
theorem dX4_isShort_23 : decode cX4_isShort 23 = .ok (.aload_n 0, 1) := by decide +kernel
theorem dX4_isShort_24 : decode cX4_isShort 24 = .ok (.getfield 9, 3) := by decide +kernel
theorem dX4_isShort_27 : decode cX4_isShort 27 = .ok (.iconst 1, 1) := by decide +kernel
theorem dX4_isShort_28 : decode cX4_isShort 28 = .ok (.iaload, 1) := by decide +kernel
theorem dX4_isShort_29 : decode cX4_isShort 29 = .ok (.if_icmp .gt 23, 3) := by decide +kernel
theorem dX4_isShort_32 : decode cX4_isShort 32 = .ok (.aload_n 0, 1) := by decide +kernel
theorem dX4_isShort_33 : decode cX4_isShort 33 = .ok (.iload_n 1, 1) := by decide +kernel
theorem dX4_isShort_34 : decode cX4_isShort 34 = .ok (.iload_n 2, 1) := by decide +kernel
theorem dX4_isShort_35 : decode cX4_isShort 35 = .ok (.iconst 2, 1) := by decide +kernel
theorem dX4_isShort_36 : decode cX4_isShort 36 = .ok (.invokevirtual 31, 3) := by decide +kernel
theorem dX4_isShort_39 : decode cX4_isShort 39 = .ok (.aload_n 0, 1) := by decide +kernel
theorem dX4_isShort_40 : decode cX4_isShort 40 = .ok (.getfield 9, 3) := by decide +kernel
theorem dX4_isShort_43 : decode cX4_isShort 43 = .ok (.iconst 2, 1) := by decide +kernel
theorem dX4_isShort_44 : decode cX4_isShort 44 = .ok (.iaload, 1) := by decide +kernel
theorem dX4_isShort_45 : decode cX4_isShort 45 = .ok (.if_icmp .gt 7, 3) := by decide +kernel
theorem dX4_isShort_48 : decode cX4_isShort 48 = .ok (.iconst 1, 1) := by decide +kernel
theorem dX4_isShort_49 : decode cX4_isShort 49 = .ok (.goto 4, 3) := by decide +kernel
theorem dX4_isShort_52 : decode cX4_isShort 52 = .ok (.iconst 0, 1) := by decide +kernel
theorem dX4_isShort_53 : decode cX4_isShort 53 = .ok (.ireturn, 1) := by decide +kernel
theorem dX4_counts_0 : decode cX4_counts 0 = .ok (.aload_n 0, 1) := by decide +kernel
theorem dX4_counts_1 : decode cX4_counts 1 = .ok (.iload_n 1, 1) := by decide +kernel
theorem dX4_counts_2 : decode cX4_counts 2 = .ok (.iload_n 2, 1) := by decide +kernel
theorem dX4_counts_3 : decode cX4_counts 3 = .ok (.invokevirtual 35, 3) := by decide +kernel
theorem dX4_counts_6 : decode cX4_counts 6 = .ok (.ifCond .eq 12, 3) := by decide +kernel
theorem dX4_counts_9 : decode cX4_counts 9 = .ok (.aload_n 0, 1) := by decide +kernel
theorem dX4_counts_10 : decode cX4_counts 10 = .ok (.iload_n 1, 1) := by decide +kernel
theorem dX4_counts_11 : decode cX4_counts 11 = .ok (.iload_n 2, 1) := by decide +kernel
theorem dX4_counts_12 : decode cX4_counts 12 = .ok (.invokevirtual 39, 3) := by decide +kernel
theorem dX4_counts_15 : decode cX4_counts 15 = .ok (.ifCond .ne 5, 3) := by decide +kernel
theorem dX4_counts_18 : decode cX4_counts 18 = .ok (.iconst 0, 1) := by decide +kernel
theorem dX4_counts_19 : decode cX4_counts 19 = .ok (.ireturn, 1) := by decide +kernel
theorem dX4_counts_20 : decode cX4_counts 20 = .ok (.iconst 0, 1) := by decide +kernel
theorem dX4_counts_21 : decode cX4_counts 21 = .ok (.istore_n 3, 1) := by decide +kernel
theorem dX4_counts_22 : decode cX4_counts 22 = .ok (.iload_n 3, 1) := by decide +kernel
theorem dX4_counts_23 : decode cX4_counts 23 = .ok (.iload_n 2, 1) := by decide +kernel
theorem dX4_counts_24 : decode cX4_counts 24 = .ok (.if_icmp .ge 30, 3) := by decide +kernel
theorem dX4_counts_27 : decode cX4_counts 27 = .ok (.aload_n 0, 1) := by decide +kernel
theorem dX4_counts_28 : decode cX4_counts 28 = .ok (.iload_n 1, 1) := by decide +kernel
theorem dX4_counts_29 : decode cX4_counts 29 = .ok (.iload_n 3, 1) := by decide +kernel
theorem dX4_counts_30 : decode cX4_counts 30 = .ok (.invokevirtual 35, 3) := by decide +kernel
theorem dX4_counts_33 : decode cX4_counts 33 = .ok (.ifCond .eq 15, 3) := by decide +kernel
theorem dX4_counts_36 : decode cX4_counts 36 = .ok (.aload_n 0, 1) := by decide +kernel
theorem dX4_counts_37 : decode cX4_counts 37 = .ok (.iload_n 1, 1) := by decide +kernel
theorem dX4_counts_38 : decode cX4_counts 38 = .ok (.iload_n 3, 1) := by decide +kernel
theorem dX4_counts_39 : decode cX4_counts 39 = .ok (.iload_n 2, 1) := by decide +kernel
theorem dX4_counts_40 : decode cX4_counts 40 = .ok (.invokevirtual 42, 3) := by decide +kernel
theorem dX4_counts_43 : decode cX4_counts 43 = .ok (.ifCond .eq 5, 3) := by decide +kernel
theorem dX4_counts_46 : decode cX4_counts 46 = .ok (.iconst 0, 1) := by decide +kernel
theorem dX4_counts_47 : decode cX4_counts 47 = .ok (.ireturn, 1) := by decide +kernel
theorem dX4_counts_48 : decode cX4_counts 48 = .ok (.iinc 3 1, 3) := by decide +kernel
theorem dX4_counts_51 : decode cX4_counts 51 = .ok (.goto (-29), 3) := by decide +kernel
theorem dX4_counts_54 : decode cX4_counts 54 = .ok (.iconst 1, 1) := by decide +kernel
theorem dX4_counts_55 : decode cX4_counts 55 = .ok (.ireturn, 1) := by decide +kernel
theorem dX4_isPlace_0 : decode cX4_isPlace 0 = .ok (.aload_n 0, 1) := by decide +kernel
theorem dX4_isPlace_1 : decode cX4_isPlace 1 = .ok (.iload_n 1, 1) := by decide +kernel
theorem dX4_isPlace_2 : decode cX4_isPlace 2 = .ok (.invokevirtual 46, 3) := by decide +kernel
theorem dX4_isPlace_5 : decode cX4_isPlace 5 = .ok (.ifCond .eq 76, 3) := by decide +kernel
theorem dX4_isPlace_8 : decode cX4_isPlace 8 = .ok (.iload_n 2, 1) := by decide +kernel
theorem dX4_isPlace_9 : decode cX4_isPlace 9 = .ok (.ifCond .lt 72, 3) := by decide +kernel
theorem dX4_isPlace_12 : decode cX4_isPlace 12 = .ok (.iload_n 2, 1) := by decide +kernel
theorem dX4_isPlace_13 : decode cX4_isPlace 13 = .ok (.bipush 6, 2) := by decide +kernel
theorem dX4_isPlace_15 : decode cX4_isPlace 15 = .ok (.if_icmp .ge 66, 3) := by decide +kernel
theorem dX4_isPlace_18 : decode cX4_isPlace 18 = .ok (.aload_n 0, 1) := by decide +kernel
theorem dX4_isPlace_19 : decode cX4_isPlace 19 = .ok (.iload_n 1, 1) := by decide +kernel
theorem dX4_isPlace_20 : decode cX4_isPlace 20 = .ok (.iload_n 2, 1) := by decide +kernel
theorem dX4_isPlace_21 : decode cX4_isPlace 21 = .ok (.invokevirtual 35, 3) := by decide +kernel
theorem dX4_isPlace_24 : decode cX4_isPlace 24 = .ok (.ifCond .eq 57, 3) := by decide +kernel
theorem dX4_isPlace_27 : decode cX4_isPlace 27 = .ok (.aload_n 0, 1) := by decide +kernel
theorem dX4_isPlace_28 : decode cX4_isPlace 28 = .ok (.iconst 0, 1) := by decide +kernel
theorem dX4_isPlace_29 : decode cX4_isPlace 29 = .ok (.iload_n 3, 1) := by decide +kernel
theorem dX4_isPlace_30 : decode cX4_isPlace 30 = .ok (.aload_n 0, 1) := by decide +kernel
theorem dX4_isPlace_31 : decode cX4_isPlace 31 = .ok (.iload_n 1, 1) := by decide +kernel
theorem dX4_isPlace_32 : decode cX4_isPlace 32 = .ok (.iload_n 2, 1) := by decide +kernel
theorem dX4_isPlace_33 : decode cX4_isPlace 33 = .ok (.iconst 0, 1) := by decide +kernel
theorem dX4_isPlace_34 : decode cX4_isPlace 34 = .ok (.invokevirtual 31, 3) := by decide +kernel
theorem dX4_isPlace_37 : decode cX4_isPlace 37 = .ok (.invokevirtual 50, 3) := by decide +kernel
theorem dX4_isPlace_40 : decode cX4_isPlace 40 = .ok (.ifCond .eq 41, 3) := by decide +kernel
theorem dX4_isPlace_43 : decode cX4_isPlace 43 = .ok (.aload_n 0, 1) := by decide +kernel
theorem dX4_isPlace_44 : decode cX4_isPlace 44 = .ok (.iconst 1, 1) := by decide +kernel
theorem dX4_isPlace_45 : decode cX4_isPlace 45 = .ok (.iload 4, 2) := by decide +kernel
theorem dX4_isPlace_47 : decode cX4_isPlace 47 = .ok (.aload_n 0, 1) := by decide +kernel
theorem dX4_isPlace_48 : decode cX4_isPlace 48 = .ok (.iload_n 1, 1) := by decide +kernel
theorem dX4_isPlace_49 : decode cX4_isPlace 49 = .ok (.iload_n 2, 1) := by decide +kernel
theorem dX4_isPlace_50 : decode cX4_isPlace 50 = .ok (.iconst 1, 1) := by decide +kernel
theorem dX4_isPlace_51 : decode cX4_isPlace 51 = .ok (.invokevirtual 31, 3) := by decide +kernel
theorem dX4_isPlace_54 : decode cX4_isPlace 54 = .ok (.invokevirtual 50, 3) := by decide +kernel
theorem dX4_isPlace_57 : decode cX4_isPlace 57 = .ok (.ifCond .eq 24, 3) := by decide +kernel
theorem dX4_isPlace_60 : decode cX4_isPlace 60 = .ok (.aload_n 0, 1) := by decide +kernel
theorem dX4_isPlace_61 : decode cX4_isPlace 61 = .ok (.iconst 2, 1) := by decide +kernel
theorem dX4_isPlace_62 : decode cX4_isPlace 62 = .ok (.iload 5, 2) := by decide +kernel
theorem dX4_isPlace_64 : decode cX4_isPlace 64 = .ok (.aload_n 0, 1) := by decide +kernel
theorem dX4_isPlace_65 : decode cX4_isPlace 65 = .ok (.iload_n 1, 1) := by decide +kernel
theorem dX4_isPlace_66 : decode cX4_isPlace 66 = .ok (.iload_n 2, 1) := by decide +kernel
theorem dX4_isPlace_67 : decode cX4_isPlace 67 = .ok (.iconst 2, 1) := by decide +kernel
theorem dX4_isPlace_68 : decode cX4_isPlace 68 = .ok (.invokevirtual 31, 3) := by decide +kernel
theorem dX4_isPlace_71 : decode cX4_isPlace 71 = .ok (.invokevirtual 50, 3) := by decide +kernel
theorem dX4_isPlace_74 : decode cX4_isPlace 74 = .ok (.ifCond .eq 7, 3) := by decide +kernel
theorem dX4_isPlace_77 : decode cX4_isPlace 77 = .ok (.iconst 1, 1) := by decide +kernel
theorem dX4_isPlace_78 : decode cX4_isPlace 78 = .ok (.goto 4, 3) := by decide +kernel
theorem dX4_isPlace_81 : decode cX4_isPlace 81 = .ok (.iconst 0, 1) := by decide +kernel
theorem dX4_isPlace_82 : decode cX4_isPlace 82 = .ok (.ireturn, 1) := by decide +kernel
theorem dX4_liesWithin_0 : decode cX4_liesWithin 0 = .ok (.iload_n 2, 1) := by decide +kernel
theorem dX4_liesWithin_1 : decode cX4_liesWithin 1 = .ok (.ifCond .lt 19, 3) := by decide +kernel
theorem dX4_liesWithin_4 : decode cX4_liesWithin 4 = .ok (.iload_n 2, 1) := by decide +kernel
theorem dX4_liesWithin_5 : decode cX4_liesWithin 5 = .ok (.aload_n 0, 1) := by decide +kernel
theorem dX4_liesWithin_6 : decode cX4_liesWithin 6 = .ok (.getfield 9, 3) := by decide +kernel
theorem dX4_liesWithin_9 : decode cX4_liesWithin 9 = .ok (.iload_n 1, 1) := by decide +kernel
theorem dX4_liesWithin_10 : decode cX4_liesWithin 10 = .ok (.iaload, 1) := by decide +kernel
theorem dX4_liesWithin_11 : decode cX4_liesWithin 11 = .ok (.iload_n 3, 1) := by decide +kernel
theorem dX4_liesWithin_12 : decode cX4_liesWithin 12 = .ok (.isub, 1) := by decide +kernel
theorem dX4_liesWithin_13 : decode cX4_liesWithin 13 = .ok (.if_icmp .gt 7, 3) := by decide +kernel
theorem dX4_liesWithin_16 : decode cX4_liesWithin 16 = .ok (.iconst 1, 1) := by decide +kernel
theorem dX4_liesWithin_17 : decode cX4_liesWithin 17 = .ok (.goto 4, 3) := by decide +kernel
theorem dX4_liesWithin_20 : decode cX4_liesWithin 20 = .ok (.iconst 0, 1) := by decide +kernel
theorem dX4_liesWithin_21 : decode cX4_liesWithin 21 = .ok (.ireturn, 1) := by decide +kernel
theorem dX4_hasRoomBeside_0 : decode cX4_hasRoomBeside 0 = .ok (.iload 4, 2) := by decide +kernel
theorem dX4_hasRoomBeside_2 : decode cX4_hasRoomBeside 2 = .ok (.aload_n 0, 1) := by decide +kernel
theorem dX4_hasRoomBeside_3 : decode cX4_hasRoomBeside 3 = .ok (.getfield 9, 3) := by decide +kernel
theorem dX4_hasRoomBeside_6 : decode cX4_hasRoomBeside 6 = .ok (.iconst 0, 1) := by decide +kernel
theorem dX4_hasRoomBeside_7 : decode cX4_hasRoomBeside 7 = .ok (.iaload, 1) := by decide +kernel
theorem dX4_hasRoomBeside_8 : decode cX4_hasRoomBeside 8 = .ok (.iload 4, 2) := by decide +kernel
theorem dX4_hasRoomBeside_10 : decode cX4_hasRoomBeside 10 = .ok (.isub, 1) := by decide +kernel
theorem dX4_hasRoomBeside_11 : decode cX4_hasRoomBeside 11 = .ok (.aload_n 0, 1) := by decide +kernel
theorem dX4_hasRoomBeside_12 : decode cX4_hasRoomBeside 12 = .ok (.iload_n 2, 1) := by decide +kernel
theorem dX4_hasRoomBeside_13 : decode cX4_hasRoomBeside 13 = .ok (.iload_n 3, 1) := by decide +kernel
theorem dX4_hasRoomBeside_14 : decode cX4_hasRoomBeside 14 = .ok (.iconst 0, 1) := by decide +kernel
theorem dX4_hasRoomBeside_15 : decode cX4_hasRoomBeside 15 = .ok (.invokevirtual 31, 3) := by decide +kernel
theorem dX4_hasRoomBeside_18 : decode cX4_hasRoomBeside 18 = .ok (.isub, 1) := by decide +kernel
theorem dX4_hasRoomBeside_19 : decode cX4_hasRoomBeside 19 = .ok (.invokestatic 53, 3) := by decide +kernel
theorem dX4_hasRoomBeside_22 : decode cX4_hasRoomBeside 22 = .ok (.istore 7, 2) := by decide +kernel
theorem dX4_hasRoomBeside_24 : decode cX4_hasRoomBeside 24 = .ok (.iload 5, 2) := by decide +kernel
theorem dX4_hasRoomBeside_26 : decode cX4_hasRoomBeside 26 = .ok (.aload_n 0, 1) := by decide +kernel
theorem dX4_hasRoomBeside_27 : decode cX4_hasRoomBeside 27 = .ok (.getfield 9, 3) := by decide +kernel
theorem dX4_hasRoomBeside_30 : decode cX4_hasRoomBeside 30 = .ok (.iconst 1, 1) := by decide +kernel
theorem dX4_hasRoomBeside_31 : decode cX4_hasRoomBeside 31 = .ok (.iaload, 1) := by decide +kernel
theorem dX4_hasRoomBeside_32 : decode cX4_hasRoomBeside 32 = .ok (.iload 5, 2) := by decide +kernel
theorem dX4_hasRoomBeside_34 : decode cX4_hasRoomBeside 34 = .ok (.isub, 1) := by decide +kernel
theorem dX4_hasRoomBeside_35 : decode cX4_hasRoomBeside 35 = .ok (.aload_n 0, 1) := by decide +kernel
theorem dX4_hasRoomBeside_36 : decode cX4_hasRoomBeside 36 = .ok (.iload_n 2, 1) := by decide +kernel
theorem dX4_hasRoomBeside_37 : decode cX4_hasRoomBeside 37 = .ok (.iload_n 3, 1) := by decide +kernel
theorem dX4_hasRoomBeside_38 : decode cX4_hasRoomBeside 38 = .ok (.iconst 1, 1) := by decide +kernel
theorem dX4_hasRoomBeside_39 : decode cX4_hasRoomBeside 39 = .ok (.invokevirtual 31, 3) := by decide +kernel
theorem dX4_hasRoomBeside_42 : decode cX4_hasRoomBeside 42 = .ok (.isub, 1) := by decide +kernel
theorem dX4_hasRoomBeside_43 : decode cX4_hasRoomBeside 43 = .ok (.invokestatic 53, 3) := by decide +kernel
theorem dX4_hasRoomBeside_46 : decode cX4_hasRoomBeside 46 = .ok (.istore 8, 2) := by decide +kernel
theorem dX4_hasRoomBeside_48 : decode cX4_hasRoomBeside 48 = .ok (.iload 6, 2) := by decide +kernel
theorem dX4_hasRoomBeside_50 : decode cX4_hasRoomBeside 50 = .ok (.aload_n 0, 1) := by decide +kernel
theorem dX4_hasRoomBeside_51 : decode cX4_hasRoomBeside 51 = .ok (.getfield 9, 3) := by decide +kernel
theorem dX4_hasRoomBeside_54 : decode cX4_hasRoomBeside 54 = .ok (.iconst 2, 1) := by decide +kernel
theorem dX4_hasRoomBeside_55 : decode cX4_hasRoomBeside 55 = .ok (.iaload, 1) := by decide +kernel
theorem dX4_hasRoomBeside_56 : decode cX4_hasRoomBeside 56 = .ok (.iload 6, 2) := by decide +kernel
theorem dX4_hasRoomBeside_58 : decode cX4_hasRoomBeside 58 = .ok (.isub, 1) := by decide +kernel
theorem dX4_hasRoomBeside_59 : decode cX4_hasRoomBeside 59 = .ok (.aload_n 0, 1) := by decide +kernel
theorem dX4_hasRoomBeside_60 : decode cX4_hasRoomBeside 60 = .ok (.iload_n 2, 1) := by decide +kernel
theorem dX4_hasRoomBeside_61 : decode cX4_hasRoomBeside 61 = .ok (.iload_n 3, 1) := by decide +kernel
theorem dX4_hasRoomBeside_62 : decode cX4_hasRoomBeside 62 = .ok (.iconst 2, 1) := by decide +kernel
theorem dX4_hasRoomBeside_63 : decode cX4_hasRoomBeside 63 = .ok (.invokevirtual 31, 3) := by decide +kernel
theorem dX4_hasRoomBeside_66 : decode cX4_hasRoomBeside 66 = .ok (.isub, 1) := by decide +kernel
theorem dX4_hasRoomBeside_67 : decode cX4_hasRoomBeside 67 = .ok (.invokestatic 53, 3) := by decide +kernel
theorem dX4_hasRoomBeside_70 : decode cX4_hasRoomBeside 70 = .ok (.istore 9, 2) := by decide +kernel
theorem dX4_hasRoomBeside_72 : decode cX4_hasRoomBeside 72 = .ok (.iconst 0, 1) := by decide +kernel
theorem dX4_hasRoomBeside_73 : decode cX4_hasRoomBeside 73 = .ok (.istore 10, 2) := by decide +kernel
theorem dX4_hasRoomBeside_75 : decode cX4_hasRoomBeside 75 = .ok (.iload 10, 2) := by decide +kernel
theorem dX4_hasRoomBeside_77 : decode cX4_hasRoomBeside 77 = .ok (.bipush 6, 2) := by decide +kernel
theorem dX4_hasRoomBeside_79 : decode cX4_hasRoomBeside 79 = .ok (.if_icmp .ge 60, 3) := by decide +kernel
theorem dX4_hasRoomBeside_82 : decode cX4_hasRoomBeside 82 = .ok (.aload_n 0, 1) := by decide +kernel
theorem dX4_hasRoomBeside_83 : decode cX4_hasRoomBeside 83 = .ok (.iload_n 1, 1) := by decide +kernel
theorem dX4_hasRoomBeside_84 : decode cX4_hasRoomBeside 84 = .ok (.iload 10, 2) := by decide +kernel
theorem dX4_hasRoomBeside_86 : decode cX4_hasRoomBeside 86 = .ok (.invokevirtual 59, 3) := by decide +kernel
theorem dX4_hasRoomBeside_89 : decode cX4_hasRoomBeside 89 = .ok (.ifCond .eq 44, 3) := by decide +kernel
theorem dX4_hasRoomBeside_92 : decode cX4_hasRoomBeside 92 = .ok (.aload_n 0, 1) := by decide +kernel
theorem dX4_hasRoomBeside_93 : decode cX4_hasRoomBeside 93 = .ok (.iload_n 1, 1) := by decide +kernel
theorem dX4_hasRoomBeside_94 : decode cX4_hasRoomBeside 94 = .ok (.iload 10, 2) := by decide +kernel
theorem dX4_hasRoomBeside_96 : decode cX4_hasRoomBeside 96 = .ok (.iconst 0, 1) := by decide +kernel
theorem dX4_hasRoomBeside_97 : decode cX4_hasRoomBeside 97 = .ok (.invokevirtual 31, 3) := by decide +kernel
theorem dX4_hasRoomBeside_100 : decode cX4_hasRoomBeside 100 = .ok (.iload 7, 2) := by decide +kernel
theorem dX4_hasRoomBeside_102 : decode cX4_hasRoomBeside 102 = .ok (.if_icmp .le 29, 3) := by decide +kernel
theorem dX4_hasRoomBeside_105 : decode cX4_hasRoomBeside 105 = .ok (.aload_n 0, 1) := by decide +kernel
theorem dX4_hasRoomBeside_106 : decode cX4_hasRoomBeside 106 = .ok (.iload_n 1, 1) := by decide +kernel
theorem dX4_hasRoomBeside_107 : decode cX4_hasRoomBeside 107 = .ok (.iload 10, 2) := by decide +kernel
theorem dX4_hasRoomBeside_109 : decode cX4_hasRoomBeside 109 = .ok (.iconst 1, 1) := by decide +kernel
theorem dX4_hasRoomBeside_110 : decode cX4_hasRoomBeside 110 = .ok (.invokevirtual 31, 3) := by decide +kernel
theorem dX4_hasRoomBeside_113 : decode cX4_hasRoomBeside 113 = .ok (.iload 8, 2) := by decide +kernel
theorem dX4_hasRoomBeside_115 : decode cX4_hasRoomBeside 115 = .ok (.if_icmp .le 16, 3) := by decide +kernel
theorem dX4_hasRoomBeside_118 : decode cX4_hasRoomBeside 118 = .ok (.aload_n 0, 1) := by decide +kernel
theorem dX4_hasRoomBeside_119 : decode cX4_hasRoomBeside 119 = .ok (.iload_n 1, 1) := by decide +kernel
theorem dX4_hasRoomBeside_120 : decode cX4_hasRoomBeside 120 = .ok (.iload 10, 2) := by decide +kernel
theorem dX4_hasRoomBeside_122 : decode cX4_hasRoomBeside 122 = .ok (.iconst 2, 1) := by decide +kernel
theorem dX4_hasRoomBeside_123 : decode cX4_hasRoomBeside 123 = .ok (.invokevirtual 31, 3) := by decide +kernel
theorem dX4_hasRoomBeside_126 : decode cX4_hasRoomBeside 126 = .ok (.iload 9, 2) := by decide +kernel
theorem dX4_hasRoomBeside_128 : decode cX4_hasRoomBeside 128 = .ok (.if_icmp .gt 5, 3) := by decide +kernel
theorem dX4_hasRoomBeside_131 : decode cX4_hasRoomBeside 131 = .ok (.iconst 1, 1) := by decide +kernel
theorem dX4_hasRoomBeside_132 : decode cX4_hasRoomBeside 132 = .ok (.ireturn, 1) := by decide +kernel
theorem dX4_hasRoomBeside_133 : decode cX4_hasRoomBeside 133 = .ok (.iinc 10 1, 3) := by decide +kernel
theorem dX4_hasRoomBeside_136 : decode cX4_hasRoomBeside 136 = .ok (.goto (-61), 3) := by decide +kernel
theorem dX4_hasRoomBeside_139 : decode cX4_hasRoomBeside 139 = .ok (.iconst 0, 1) := by decide +kernel
theorem dX4_hasRoomBeside_140 : decode cX4_hasRoomBeside 140 = .ok (.ireturn, 1) := by decide +kernel
