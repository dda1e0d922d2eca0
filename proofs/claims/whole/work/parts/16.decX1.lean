theorem dX1_init_0 : decode cX1_init 0 = .ok (.aload_n 0, 1) := by decide +kernel
theorem dX1_init_1 : decode cX1_init 1 = .ok (.invokespecial 3, 3) := by decide +kernel
theorem dX1_init_4 : decode cX1_init 4 = .ok (.aload_n 0, 1) := by decide +kernel
theorem dX1_init_5 : decode cX1_init 5 = .ok (.iconst 4, 1) := by decide +kernel
theorem dX1_init_6 : decode cX1_init 6 = .ok (.newarray .int, 2) := by decide +kernel
theorem dX1_init_8 : decode cX1_init 8 = .ok (.putfield 9, 3) := by decide +kernel
theorem dX1_init_11 : decode cX1_init 11 = .ok (.aload_n 0, 1) := by decide +kernel
theorem dX1_init_12 : decode cX1_init 12 = .ok (.sipush 1323, 3) := by decide +kernel
theorem dX1_init_15 : decode cX1_init 15 = .ok (.newarray .int, 2) := by decide +kernel
theorem dX1_init_17 : decode cX1_init 17 = .ok (.putfield 15, 3) := by decide +kernel
theorem dX1_init_20 : decode cX1_init 20 = .ok (.aload_n 0, 1) := by decide +kernel
theorem dX1_init_21 : decode cX1_init 21 = .ok (.sipush 144, 3) := by decide +kernel
theorem dX1_init_24 : decode cX1_init 24 = .ok (.newarray .int, 2) := by decide +kernel
theorem dX1_init_26 : decode cX1_init 26 = .ok (.putfield 18, 3) := by decide +kernel
theorem dX1_init_29 : decode cX1_init 29 = .ok (.aload_n 0, 1) := by decide +kernel
theorem dX1_init_30 : decode cX1_init 30 = .ok (.bipush 9, 2) := by decide +kernel
theorem dX1_init_32 : decode cX1_init 32 = .ok (.newarray .int, 2) := by decide +kernel
theorem dX1_init_34 : decode cX1_init 34 = .ok (.putfield 21, 3) := by decide +kernel
theorem dX1_init_37 : decode cX1_init 37 = .ok (.aload_n 0, 1) := by decide +kernel
theorem dX1_init_38 : decode cX1_init 38 = .ok (.bipush 48, 2) := by decide +kernel
theorem dX1_init_40 : decode cX1_init 40 = .ok (.newarray .int, 2) := by decide +kernel
theorem dX1_init_42 : decode cX1_init 42 = .ok (.putfield 24, 3) := by decide +kernel
theorem dX1_init_45 : decode cX1_init 45 = .ok (.aload_n 0, 1) := by decide +kernel
theorem dX1_init_46 : decode cX1_init 46 = .ok (.iconst 3, 1) := by decide +kernel
theorem dX1_init_47 : decode cX1_init 47 = .ok (.newarray .int, 2) := by decide +kernel
theorem dX1_init_49 : decode cX1_init 49 = .ok (.putfield 27, 3) := by decide +kernel
theorem dX1_init_52 : decode cX1_init 52 = .ok (.aload_n 0, 1) := by decide +kernel
theorem dX1_init_53 : decode cX1_init 53 = .ok (.aload_n 1, 1) := by decide +kernel
theorem dX1_init_54 : decode cX1_init 54 = .ok (.putfield 30, 3) := by decide +kernel
theorem dX1_init_57 : decode cX1_init 57 = .ok (.return_, 1) := by decide +kernel
theorem dX1_forget_0 : decode cX1_forget 0 = .ok (.aload_n 0, 1) := by decide +kernel
theorem dX1_forget_1 : decode cX1_forget 1 = .ok (.iconst 0, 1) := by decide +kernel
theorem dX1_forget_2 : decode cX1_forget 2 = .ok (.putfield 34, 3) := by decide +kernel
theorem dX1_forget_5 : decode cX1_forget 5 = .ok (.aload_n 0, 1) := by decide +kernel
theorem dX1_forget_6 : decode cX1_forget 6 = .ok (.iconst 0, 1) := by decide +kernel
theorem dX1_forget_7 : decode cX1_forget 7 = .ok (.putfield 38, 3) := by decide +kernel
theorem dX1_forget_10 : decode cX1_forget 10 = .ok (.return_, 1) := by decide +kernel
theorem dX1_lastFunction_0 : decode cX1_lastFunction 0 = .ok (.aload_n 0, 1) := by decide +kernel
theorem dX1_lastFunction_1 : decode cX1_lastFunction 1 = .ok (.getfield 30, 3) := by decide +kernel
theorem dX1_lastFunction_4 : decode cX1_lastFunction 4 = .ok (.getfield 41, 3) := by decide +kernel
theorem dX1_lastFunction_7 : decode cX1_lastFunction 7 = .ok (.iload_n 1, 1) := by decide +kernel
theorem dX1_lastFunction_8 : decode cX1_lastFunction 8 = .ok (.iaload, 1) := by decide +kernel
theorem dX1_lastFunction_9 : decode cX1_lastFunction 9 = .ok (.iconst 2, 1) := by decide +kernel
theorem dX1_lastFunction_10 : decode cX1_lastFunction 10 = .ok (.idiv, 1) := by decide +kernel
theorem dX1_lastFunction_11 : decode cX1_lastFunction 11 = .ok (.iconst 2, 1) := by decide +kernel
theorem dX1_lastFunction_12 : decode cX1_lastFunction 12 = .ok (.imul, 1) := by decide +kernel
theorem dX1_lastFunction_13 : decode cX1_lastFunction 13 = .ok (.ireturn, 1) := by decide +kernel
theorem dX1_isFunction_0 : decode cX1_isFunction 0 = .ok (.iload_n 2, 1) := by decide +kernel
theorem dX1_isFunction_1 : decode cX1_isFunction 1 = .ok (.ifCond .lt 16, 3) := by decide +kernel
theorem dX1_isFunction_4 : decode cX1_isFunction 4 = .ok (.iload_n 2, 1) := by decide +kernel
theorem dX1_isFunction_5 : decode cX1_isFunction 5 = .ok (.aload_n 0, 1) := by decide +kernel
theorem dX1_isFunction_6 : decode cX1_isFunction 6 = .ok (.iload_n 1, 1) := by decide +kernel
theorem dX1_isFunction_7 : decode cX1_isFunction 7 = .ok (.invokevirtual 46, 3) := by decide +kernel
theorem dX1_isFunction_10 : decode cX1_isFunction 10 = .ok (.if_icmp .gt 7, 3) := by decide +kernel
theorem dX1_isFunction_13 : decode cX1_isFunction 13 = .ok (.iconst 1, 1) := by decide +kernel
theorem dX1_isFunction_14 : decode cX1_isFunction 14 = .ok (.goto 4, 3) := by decide +kernel
theorem dX1_isFunction_17 : decode cX1_isFunction 17 = .ok (.iconst 0, 1) := by decide +kernel
theorem dX1_isFunction_18 : decode cX1_isFunction 18 = .ok (.ireturn, 1) := by decide +kernel
theorem dX1_valueOf_0 : decode cX1_valueOf 0 = .ok (.iload_n 1, 1) := by decide +kernel
theorem dX1_valueOf_1 : decode cX1_valueOf 1 = .ok (.ifCond .ne 5, 3) := by decide +kernel
theorem dX1_valueOf_4 : decode cX1_valueOf 4 = .ok (.iload_n 2, 1) := by decide +kernel
theorem dX1_valueOf_5 : decode cX1_valueOf 5 = .ok (.ireturn, 1) := by decide +kernel
theorem dX1_valueOf_6 : decode cX1_valueOf 6 = .ok (.iload_n 0, 1) := by decide +kernel
theorem dX1_valueOf_7 : decode cX1_valueOf 7 = .ok (.iconst 2, 1) := by decide +kernel
theorem dX1_valueOf_8 : decode cX1_valueOf 8 = .ok (.idiv, 1) := by decide +kernel
theorem dX1_valueOf_9 : decode cX1_valueOf 9 = .ok (.istore_n 3, 1) := by decide +kernel
theorem dX1_valueOf_10 : decode cX1_valueOf 10 = .ok (.iload_n 1, 1) := by decide +kernel
theorem dX1_valueOf_11 : decode cX1_valueOf 11 = .ok (.iload_n 3, 1) := by decide +kernel
theorem dX1_valueOf_12 : decode cX1_valueOf 12 = .ok (.if_icmp .gt 25, 3) := by decide +kernel
theorem dX1_valueOf_15 : decode cX1_valueOf 15 = .ok (.iload_n 2, 1) := by decide +kernel
theorem dX1_valueOf_16 : decode cX1_valueOf 16 = .ok (.iload_n 0, 1) := by decide +kernel
theorem dX1_valueOf_17 : decode cX1_valueOf 17 = .ok (.iload_n 1, 1) := by decide +kernel
theorem dX1_valueOf_18 : decode cX1_valueOf 18 = .ok (.isub, 1) := by decide +kernel
theorem dX1_valueOf_19 : decode cX1_valueOf 19 = .ok (.if_icmp .le 7, 3) := by decide +kernel
theorem dX1_valueOf_22 : decode cX1_valueOf 22 = .ok (.iload_n 0, 1) := by decide +kernel
theorem dX1_valueOf_23 : decode cX1_valueOf 23 = .ok (.goto 13, 3) := by decide +kernel
theorem dX1_valueOf_26 : decode cX1_valueOf 26 = .ok (.iload_n 2, 1) := by decide +kernel
theorem dX1_valueOf_27 : decode cX1_valueOf 27 = .ok (.iload_n 1, 1) := by decide +kernel
theorem dX1_valueOf_28 : decode cX1_valueOf 28 = .ok (.if_icmp .ge 7, 3) := by decide +kernel
theorem dX1_valueOf_31 : decode cX1_valueOf 31 = .ok (.iconst 0, 1) := by decide +kernel
theorem dX1_valueOf_32 : decode cX1_valueOf 32 = .ok (.goto 4, 3) := by decide +kernel
theorem dX1_valueOf_35 : decode cX1_valueOf 35 = .ok (.iload_n 2, 1) := by decide +kernel
theorem dX1_valueOf_36 : decode cX1_valueOf 36 = .ok (.ireturn, 1) := by decide +kernel
theorem dX1_valueOf_37 : decode cX1_valueOf 37 = .ok (.iload_n 1, 1) := by decide +kernel
theorem dX1_valueOf_38 : decode cX1_valueOf 38 = .ok (.iload_n 3, 1) := by decide +kernel
theorem dX1_valueOf_39 : decode cX1_valueOf 39 = .ok (.isub, 1) := by decide +kernel
theorem dX1_valueOf_40 : decode cX1_valueOf 40 = .ok (.istore 4, 2) := by decide +kernel
theorem dX1_valueOf_42 : decode cX1_valueOf 42 = .ok (.iload_n 0, 1) := by decide +kernel
theorem dX1_valueOf_43 : decode cX1_valueOf 43 = .ok (.iload 4, 2) := by decide +kernel
theorem dX1_valueOf_45 : decode cX1_valueOf 45 = .ok (.idiv, 1) := by decide +kernel
theorem dX1_valueOf_46 : decode cX1_valueOf 46 = .ok (.istore 5, 2) := by decide +kernel
theorem dX1_valueOf_48 : decode cX1_valueOf 48 = .ok (.iconst 2, 1) := by decide +kernel
theorem dX1_valueOf_49 : decode cX1_valueOf 49 = .ok (.iload_n 2, 1) := by decide +kernel
theorem dX1_valueOf_50 : decode cX1_valueOf 50 = .ok (.imul, 1) := by decide +kernel
theorem dX1_valueOf_51 : decode cX1_valueOf 51 = .ok (.iload_n 0, 1) := by decide +kernel
theorem dX1_valueOf_52 : decode cX1_valueOf 52 = .ok (.if_icmp .ge 10, 3) := by decide +kernel
theorem dX1_valueOf_55 : decode cX1_valueOf 55 = .ok (.iconst 2, 1) := by decide +kernel
theorem dX1_valueOf_56 : decode cX1_valueOf 56 = .ok (.iload_n 2, 1) := by decide +kernel
theorem dX1_valueOf_57 : decode cX1_valueOf 57 = .ok (.iload 4, 2) := by decide +kernel
theorem dX1_valueOf_59 : decode cX1_valueOf 59 = .ok (.idiv, 1) := by decide +kernel
theorem dX1_valueOf_60 : decode cX1_valueOf 60 = .ok (.imul, 1) := by decide +kernel
theorem dX1_valueOf_61 : decode cX1_valueOf 61 = .ok (.ireturn, 1) := by decide +kernel
theorem dX1_valueOf_62 : decode cX1_valueOf 62 = .ok (.iconst 2, 1) := by decide +kernel
theorem dX1_valueOf_63 : decode cX1_valueOf 63 = .ok (.iload_n 2, 1) := by decide +kernel
theorem dX1_valueOf_64 : decode cX1_valueOf 64 = .ok (.imul, 1) := by decide +kernel
theorem dX1_valueOf_65 : decode cX1_valueOf 65 = .ok (.iload_n 0, 1) := by decide +kernel
theorem dX1_valueOf_66 : decode cX1_valueOf 66 = .ok (.if_icmp .ne 8, 3) := by decide +kernel
theorem dX1_valueOf_69 : decode cX1_valueOf 69 = .ok (.iload 5, 2) := by decide +kernel
theorem dX1_valueOf_71 : decode cX1_valueOf 71 = .ok (.goto 14, 3) := by decide +kernel
theorem dX1_valueOf_74 : decode cX1_valueOf 74 = .ok (.iconst 2, 1) := by decide +kernel
theorem dX1_valueOf_75 : decode cX1_valueOf 75 = .ok (.iload 5, 2) := by decide +kernel
theorem dX1_valueOf_77 : decode cX1_valueOf 77 = .ok (.iload_n 0, 1) := by decide +kernel
theorem dX1_valueOf_78 : decode cX1_valueOf 78 = .ok (.iload_n 2, 1) := by decide +kernel
theorem dX1_valueOf_79 : decode cX1_valueOf 79 = .ok (.isub, 1) := by decide +kernel
theorem dX1_valueOf_80 : decode cX1_valueOf 80 = .ok (.iload 4, 2) := by decide +kernel
theorem dX1_valueOf_82 : decode cX1_valueOf 82 = .ok (.idiv, 1) := by decide +kernel
theorem dX1_valueOf_83 : decode cX1_valueOf 83 = .ok (.isub, 1) := by decide +kernel
theorem dX1_valueOf_84 : decode cX1_valueOf 84 = .ok (.imul, 1) := by decide +kernel
theorem dX1_valueOf_85 : decode cX1_valueOf 85 = .ok (.ireturn, 1) := by decide +kernel
theorem dX1_prepare_0 : decode cX1_prepare 0 = .ok (.aload_n 0, 1) := by decide +kernel
theorem dX1_prepare_1 : decode cX1_prepare 1 = .ok (.getfield 34, 3) := by decide +kernel
theorem dX1_prepare_4 : decode cX1_prepare 4 = .ok (.ifCond .eq 4, 3) := by decide +kernel
theorem dX1_prepare_7 : decode cX1_prepare 7 = .ok (.return_, 1) := by decide +kernel
theorem dX1_prepare_8 : decode cX1_prepare 8 = .ok (.aload_n 0, 1) := by decide +kernel
theorem dX1_prepare_9 : decode cX1_prepare 9 = .ok (.iconst 1, 1) := by decide +kernel
theorem dX1_prepare_10 : decode cX1_prepare 10 = .ok (.putfield 34, 3) := by decide +kernel
theorem dX1_prepare_13 : decode cX1_prepare 13 = .ok (.iconst 0, 1) := by decide +kernel
theorem dX1_prepare_14 : decode cX1_prepare 14 = .ok (.istore_n 1, 1) := by decide +kernel
theorem dX1_prepare_15 : decode cX1_prepare 15 = .ok (.iload_n 1, 1) := by decide +kernel
theorem dX1_prepare_16 : decode cX1_prepare 16 = .ok (.iconst 3, 1) := by decide +kernel
theorem dX1_prepare_17 : decode cX1_prepare 17 = .ok (.if_icmp .ge 14, 3) := by decide +kernel
theorem dX1_prepare_20 : decode cX1_prepare 20 = .ok (.aload_n 0, 1) := by decide +kernel
theorem dX1_prepare_21 : decode cX1_prepare 21 = .ok (.iload_n 1, 1) := by decide +kernel
theorem dX1_prepare_22 : decode cX1_prepare 22 = .ok (.invokevirtual 50, 3) := by decide +kernel
theorem dX1_prepare_25 : decode cX1_prepare 25 = .ok (.iinc 1 1, 3) := by decide +kernel
theorem dX1_prepare_28 : decode cX1_prepare 28 = .ok (.goto (-13), 3) := by decide +kernel
theorem dX1_prepare_31 : decode cX1_prepare 31 = .ok (.iconst 0, 1) := by decide +kernel
theorem dX1_prepare_32 : decode cX1_prepare 32 = .ok (.istore_n 1, 1) := by decide +kernel
theorem dX1_prepare_33 : decode cX1_prepare 33 = .ok (.iconst 0, 1) := by decide +kernel
theorem dX1_prepare_34 : decode cX1_prepare 34 = .ok (.istore_n 2, 1) := by decide +kernel
theorem dX1_prepare_35 : decode cX1_prepare 35 = .ok (.iload_n 2, 1) := by decide +kernel
theorem dX1_prepare_36 : decode cX1_prepare 36 = .ok (.aload_n 0, 1) := by decide +kernel
theorem dX1_prepare_37 : decode cX1_prepare 37 = .ok (.getfield 30, 3) := by decide +kernel
theorem dX1_prepare_40 : decode cX1_prepare 40 = .ok (.getfield 54, 3) := by decide +kernel
theorem dX1_prepare_43 : decode cX1_prepare 43 = .ok (.if_icmp .ge 23, 3) := by decide +kernel
theorem dX1_prepare_46 : decode cX1_prepare 46 = .ok (.aload_n 0, 1) := by decide +kernel
theorem dX1_prepare_47 : decode cX1_prepare 47 = .ok (.getfield 21, 3) := by decide +kernel
theorem dX1_prepare_50 : decode cX1_prepare 50 = .ok (.iload_n 2, 1) := by decide +kernel
theorem dX1_prepare_51 : decode cX1_prepare 51 = .ok (.iload_n 1, 1) := by decide +kernel
theorem dX1_prepare_52 : decode cX1_prepare 52 = .ok (.iastore, 1) := by decide +kernel
theorem dX1_prepare_53 : decode cX1_prepare 53 = .ok (.aload_n 0, 1) := by decide +kernel
theorem dX1_prepare_54 : decode cX1_prepare 54 = .ok (.iload_n 2, 1) := by decide +kernel
theorem dX1_prepare_55 : decode cX1_prepare 55 = .ok (.iload_n 1, 1) := by decide +kernel
theorem dX1_prepare_56 : decode cX1_prepare 56 = .ok (.invokevirtual 58, 3) := by decide +kernel
theorem dX1_prepare_59 : decode cX1_prepare 59 = .ok (.istore_n 1, 1) := by decide +kernel
theorem dX1_prepare_60 : decode cX1_prepare 60 = .ok (.iinc 2 1, 3) := by decide +kernel
theorem dX1_prepare_63 : decode cX1_prepare 63 = .ok (.goto (-28), 3) := by decide +kernel
theorem dX1_prepare_66 : decode cX1_prepare 66 = .ok (.aload_n 0, 1) := by decide +kernel
theorem dX1_prepare_67 : decode cX1_prepare 67 = .ok (.getfield 21, 3) := by decide +kernel
theorem dX1_prepare_70 : decode cX1_prepare 70 = .ok (.aload_n 0, 1) := by decide +kernel
theorem dX1_prepare_71 : decode cX1_prepare 71 = .ok (.getfield 30, 3) := by decide +kernel
theorem dX1_prepare_74 : decode cX1_prepare 74 = .ok (.getfield 54, 3) := by decide +kernel
theorem dX1_prepare_77 : decode cX1_prepare 77 = .ok (.iload_n 1, 1) := by decide +kernel
theorem dX1_prepare_78 : decode cX1_prepare 78 = .ok (.iastore, 1) := by decide +kernel
theorem dX1_prepare_79 : decode cX1_prepare 79 = .ok (.return_, 1) := by decide +kernel
theorem dX1_tellValues_0 : decode cX1_tellValues 0 = .ok (.aload_n 0, 1) := by decide +kernel
theorem dX1_tellValues_1 : decode cX1_tellValues 1 = .ok (.getfield 30, 3) := by decide +kernel
theorem dX1_tellValues_4 : decode cX1_tellValues 4 = .ok (.getfield 41, 3) := by decide +kernel
theorem dX1_tellValues_7 : decode cX1_tellValues 7 = .ok (.iload_n 1, 1) := by decide +kernel
theorem dX1_tellValues_8 : decode cX1_tellValues 8 = .ok (.iaload, 1) := by decide +kernel
theorem dX1_tellValues_9 : decode cX1_tellValues 9 = .ok (.istore_n 2, 1) := by decide +kernel
theorem dX1_tellValues_10 : decode cX1_tellValues 10 = .ok (.iconst 0, 1) := by decide +kernel
theorem dX1_tellValues_11 : decode cX1_tellValues 11 = .ok (.istore_n 3, 1) := by decide +kernel
theorem dX1_tellValues_12 : decode cX1_tellValues 12 = .ok (.iload_n 3, 1) := by decide +kernel
theorem dX1_tellValues_13 : decode cX1_tellValues 13 = .ok (.aload_n 0, 1) := by decide +kernel
theorem dX1_tellValues_14 : decode cX1_tellValues 14 = .ok (.iload_n 1, 1) := by decide +kernel
theorem dX1_tellValues_15 : decode cX1_tellValues 15 = .ok (.invokevirtual 46, 3) := by decide +kernel
theorem dX1_tellValues_18 : decode cX1_tellValues 18 = .ok (.if_icmp .gt 48, 3) := by decide +kernel
theorem dX1_tellValues_21 : decode cX1_tellValues 21 = .ok (.iconst 0, 1) := by decide +kernel
theorem dX1_tellValues_22 : decode cX1_tellValues 22 = .ok (.istore 4, 2) := by decide +kernel
theorem dX1_tellValues_24 : decode cX1_tellValues 24 = .ok (.iload 4, 2) := by decide +kernel
theorem dX1_tellValues_26 : decode cX1_tellValues 26 = .ok (.iload_n 2, 1) := by decide +kernel
theorem dX1_tellValues_27 : decode cX1_tellValues 27 = .ok (.if_icmp .gt 33, 3) := by decide +kernel
theorem dX1_tellValues_30 : decode cX1_tellValues 30 = .ok (.aload_n 0, 1) := by decide +kernel
theorem dX1_tellValues_31 : decode cX1_tellValues 31 = .ok (.getfield 15, 3) := by decide +kernel
theorem dX1_tellValues_34 : decode cX1_tellValues 34 = .ok (.iload_n 1, 1) := by decide +kernel
theorem dX1_tellValues_35 : decode cX1_tellValues 35 = .ok (.bipush 21, 2) := by decide +kernel
theorem dX1_tellValues_37 : decode cX1_tellValues 37 = .ok (.imul, 1) := by decide +kernel
theorem dX1_tellValues_38 : decode cX1_tellValues 38 = .ok (.iload_n 3, 1) := by decide +kernel
theorem dX1_tellValues_39 : decode cX1_tellValues 39 = .ok (.iadd, 1) := by decide +kernel
theorem dX1_tellValues_40 : decode cX1_tellValues 40 = .ok (.bipush 21, 2) := by decide +kernel
theorem dX1_tellValues_42 : decode cX1_tellValues 42 = .ok (.imul, 1) := by decide +kernel
theorem dX1_tellValues_43 : decode cX1_tellValues 43 = .ok (.iload 4, 2) := by decide +kernel
theorem dX1_tellValues_45 : decode cX1_tellValues 45 = .ok (.iadd, 1) := by decide +kernel
theorem dX1_tellValues_46 : decode cX1_tellValues 46 = .ok (.iload_n 2, 1) := by decide +kernel
theorem dX1_tellValues_47 : decode cX1_tellValues 47 = .ok (.iload_n 3, 1) := by decide +kernel
theorem dX1_tellValues_48 : decode cX1_tellValues 48 = .ok (.iload 4, 2) := by decide +kernel
theorem dX1_tellValues_50 : decode cX1_tellValues 50 = .ok (.invokestatic 62, 3) := by decide +kernel
theorem dX1_tellValues_53 : decode cX1_tellValues 53 = .ok (.iastore, 1) := by decide +kernel
theorem dX1_tellValues_54 : decode cX1_tellValues 54 = .ok (.iinc 4 1, 3) := by decide +kernel
theorem dX1_tellValues_57 : decode cX1_tellValues 57 = .ok (.goto (-33), 3) := by decide +kernel
theorem dX1_tellValues_60 : decode cX1_tellValues 60 = .ok (.iinc 3 1, 3) := by decide +kernel
theorem dX1_tellValues_63 : decode cX1_tellValues 63 = .ok (.goto (-51), 3) := by decide +kernel
theorem dX1_tellValues_66 : decode cX1_tellValues 66 = .ok (.return_, 1) := by decide +kernel
theorem dX1_tellTurns_0 : decode cX1_tellTurns 0 = .ok (.iload_n 2, 1) := by decide +kernel
theorem dX1_tellTurns_1 : decode cX1_tellTurns 1 = .ok (.istore_n 3, 1) := by decide +kernel
theorem dX1_tellTurns_2 : decode cX1_tellTurns 2 = .ok (.iconst 0, 1) := by decide +kernel
theorem dX1_tellTurns_3 : decode cX1_tellTurns 3 = .ok (.istore 4, 2) := by decide +kernel
theorem dX1_tellTurns_5 : decode cX1_tellTurns 5 = .ok (.iload 4, 2) := by decide +kernel
theorem dX1_tellTurns_7 : decode cX1_tellTurns 7 = .ok (.bipush 6, 2) := by decide +kernel
theorem dX1_tellTurns_9 : decode cX1_tellTurns 9 = .ok (.if_icmp .ge 63, 3) := by decide +kernel
theorem dX1_tellTurns_12 : decode cX1_tellTurns 12 = .ok (.aload_n 0, 1) := by decide +kernel
theorem dX1_tellTurns_13 : decode cX1_tellTurns 13 = .ok (.getfield 30, 3) := by decide +kernel
theorem dX1_tellTurns_16 : decode cX1_tellTurns 16 = .ok (.iload_n 1, 1) := by decide +kernel
theorem dX1_tellTurns_17 : decode cX1_tellTurns 17 = .ok (.iload 4, 2) := by decide +kernel
theorem dX1_tellTurns_19 : decode cX1_tellTurns 19 = .ok (.invokevirtual 66, 3) := by decide +kernel
theorem dX1_tellTurns_22 : decode cX1_tellTurns 22 = .ok (.ifCond .eq 44, 3) := by decide +kernel
theorem dX1_tellTurns_25 : decode cX1_tellTurns 25 = .ok (.iconst 0, 1) := by decide +kernel
theorem dX1_tellTurns_26 : decode cX1_tellTurns 26 = .ok (.istore 5, 2) := by decide +kernel
theorem dX1_tellTurns_28 : decode cX1_tellTurns 28 = .ok (.iload 5, 2) := by decide +kernel
theorem dX1_tellTurns_30 : decode cX1_tellTurns 30 = .ok (.iconst 3, 1) := by decide +kernel
theorem dX1_tellTurns_31 : decode cX1_tellTurns 31 = .ok (.if_icmp .ge 32, 3) := by decide +kernel
theorem dX1_tellTurns_34 : decode cX1_tellTurns 34 = .ok (.aload_n 0, 1) := by decide +kernel
theorem dX1_tellTurns_35 : decode cX1_tellTurns 35 = .ok (.getfield 18, 3) := by decide +kernel
theorem dX1_tellTurns_38 : decode cX1_tellTurns 38 = .ok (.iload_n 3, 1) := by decide +kernel
theorem dX1_tellTurns_39 : decode cX1_tellTurns 39 = .ok (.iconst 3, 1) := by decide +kernel
theorem dX1_tellTurns_40 : decode cX1_tellTurns 40 = .ok (.imul, 1) := by decide +kernel
theorem dX1_tellTurns_41 : decode cX1_tellTurns 41 = .ok (.iload 5, 2) := by decide +kernel
theorem dX1_tellTurns_43 : decode cX1_tellTurns 43 = .ok (.iadd, 1) := by decide +kernel
theorem dX1_tellTurns_44 : decode cX1_tellTurns 44 = .ok (.aload_n 0, 1) := by decide +kernel
theorem dX1_tellTurns_45 : decode cX1_tellTurns 45 = .ok (.getfield 30, 3) := by decide +kernel
theorem dX1_tellTurns_48 : decode cX1_tellTurns 48 = .ok (.iload_n 1, 1) := by decide +kernel
theorem dX1_tellTurns_49 : decode cX1_tellTurns 49 = .ok (.iload 4, 2) := by decide +kernel
theorem dX1_tellTurns_51 : decode cX1_tellTurns 51 = .ok (.iload 5, 2) := by decide +kernel
theorem dX1_tellTurns_53 : decode cX1_tellTurns 53 = .ok (.invokevirtual 70, 3) := by decide +kernel
theorem dX1_tellTurns_56 : decode cX1_tellTurns 56 = .ok (.iastore, 1) := by decide +kernel
theorem dX1_tellTurns_57 : decode cX1_tellTurns 57 = .ok (.iinc 5 1, 3) := by decide +kernel
theorem dX1_tellTurns_60 : decode cX1_tellTurns 60 = .ok (.goto (-32), 3) := by decide +kernel
theorem dX1_tellTurns_63 : decode cX1_tellTurns 63 = .ok (.iinc 3 1, 3) := by decide +kernel
theorem dX1_tellTurns_66 : decode cX1_tellTurns 66 = .ok (.iinc 4 1, 3) := by decide +kernel
theorem dX1_tellTurns_69 : decode cX1_tellTurns 69 = .ok (.goto (-64), 3) := by decide +kernel
theorem dX1_tellTurns_72 : decode cX1_tellTurns 72 = .ok (.iload_n 3, 1) := by decide +kernel
theorem dX1_tellTurns_73 : decode cX1_tellTurns 73 = .ok (.ireturn, 1) := by decide +kernel
theorem dX1_choose_0 : decode cX1_choose 0 = .ok (.iload_n 1, 1) := by decide +kernel
theorem dX1_choose_1 : decode cX1_choose 1 = .ok (.bipush 21, 2) := by decide +kernel
theorem dX1_choose_3 : decode cX1_choose 3 = .ok (.imul, 1) := by decide +kernel
theorem dX1_choose_4 : decode cX1_choose 4 = .ok (.istore_n 3, 1) := by decide +kernel
theorem dX1_choose_5 : decode cX1_choose 5 = .ok (.bipush 21, 2) := by decide +kernel
theorem dX1_choose_7 : decode cX1_choose 7 = .ok (.iload_n 2, 1) := by decide +kernel
theorem dX1_choose_8 : decode cX1_choose 8 = .ok (.iadd, 1) := by decide +kernel
theorem dX1_choose_9 : decode cX1_choose 9 = .ok (.bipush 21, 2) := by decide +kernel
theorem dX1_choose_11 : decode cX1_choose 11 = .ok (.imul, 1) := by decide +kernel
theorem dX1_choose_12 : decode cX1_choose 12 = .ok (.istore 4, 2) := by decide +kernel
theorem dX1_choose_14 : decode cX1_choose 14 = .ok (.aload_n 0, 1) := by decide +kernel
theorem dX1_choose_15 : decode cX1_choose 15 = .ok (.aload_n 0, 1) := by decide +kernel
theorem dX1_choose_16 : decode cX1_choose 16 = .ok (.getfield 15, 3) := by decide +kernel
theorem dX1_choose_19 : decode cX1_choose 19 = .ok (.iload_n 3, 1) := by decide +kernel
theorem dX1_choose_20 : decode cX1_choose 20 = .ok (.aload_n 0, 1) := by decide +kernel
theorem dX1_choose_21 : decode cX1_choose 21 = .ok (.getfield 30, 3) := by decide +kernel
theorem dX1_choose_24 : decode cX1_choose 24 = .ok (.getfield 41, 3) := by decide +kernel
theorem dX1_choose_27 : decode cX1_choose 27 = .ok (.iconst 0, 1) := by decide +kernel
theorem dX1_choose_28 : decode cX1_choose 28 = .ok (.iaload, 1) := by decide +kernel
theorem dX1_choose_29 : decode cX1_choose 29 = .ok (.iadd, 1) := by decide +kernel
theorem dX1_choose_30 : decode cX1_choose 30 = .ok (.iaload, 1) := by decide +kernel
theorem dX1_choose_31 : decode cX1_choose 31 = .ok (.aload_n 0, 1) := by decide +kernel
theorem dX1_choose_32 : decode cX1_choose 32 = .ok (.getfield 15, 3) := by decide +kernel
theorem dX1_choose_35 : decode cX1_choose 35 = .ok (.iload 4, 2) := by decide +kernel
theorem dX1_choose_37 : decode cX1_choose 37 = .ok (.aload_n 0, 1) := by decide +kernel
theorem dX1_choose_38 : decode cX1_choose 38 = .ok (.getfield 30, 3) := by decide +kernel
theorem dX1_choose_41 : decode cX1_choose 41 = .ok (.getfield 41, 3) := by decide +kernel
theorem dX1_choose_44 : decode cX1_choose 44 = .ok (.iconst 1, 1) := by decide +kernel
theorem dX1_choose_45 : decode cX1_choose 45 = .ok (.iaload, 1) := by decide +kernel
theorem dX1_choose_46 : decode cX1_choose 46 = .ok (.iadd, 1) := by decide +kernel
theorem dX1_choose_47 : decode cX1_choose 47 = .ok (.iaload, 1) := by decide +kernel
theorem dX1_choose_48 : decode cX1_choose 48 = .ok (.imul, 1) := by decide +kernel
theorem dX1_choose_49 : decode cX1_choose 49 = .ok (.putfield 73, 3) := by decide +kernel
theorem dX1_choose_52 : decode cX1_choose 52 = .ok (.iconst 0, 1) := by decide +kernel
theorem dX1_choose_53 : decode cX1_choose 53 = .ok (.istore 5, 2) := by decide +kernel
theorem dX1_choose_55 : decode cX1_choose 55 = .ok (.iload 5, 2) := by decide +kernel
theorem dX1_choose_57 : decode cX1_choose 57 = .ok (.aload_n 0, 1) := by decide +kernel
theorem dX1_choose_58 : decode cX1_choose 58 = .ok (.getfield 21, 3) := by decide +kernel
theorem dX1_choose_61 : decode cX1_choose 61 = .ok (.aload_n 0, 1) := by decide +kernel
theorem dX1_choose_62 : decode cX1_choose 62 = .ok (.getfield 30, 3) := by decide +kernel
theorem dX1_choose_65 : decode cX1_choose 65 = .ok (.getfield 54, 3) := by decide +kernel
theorem dX1_choose_68 : decode cX1_choose 68 = .ok (.iaload, 1) := by decide +kernel
theorem dX1_choose_69 : decode cX1_choose 69 = .ok (.if_icmp .ge 54, 3) := by decide +kernel
theorem dX1_choose_72 : decode cX1_choose 72 = .ok (.iload 5, 2) := by decide +kernel
theorem dX1_choose_74 : decode cX1_choose 74 = .ok (.iconst 3, 1) := by decide +kernel
theorem dX1_choose_75 : decode cX1_choose 75 = .ok (.imul, 1) := by decide +kernel
theorem dX1_choose_76 : decode cX1_choose 76 = .ok (.istore 6, 2) := by decide +kernel
theorem dX1_choose_78 : decode cX1_choose 78 = .ok (.aload_n 0, 1) := by decide +kernel
theorem dX1_choose_79 : decode cX1_choose 79 = .ok (.getfield 24, 3) := by decide +kernel
theorem dX1_choose_82 : decode cX1_choose 82 = .ok (.iload 5, 2) := by decide +kernel
theorem dX1_choose_84 : decode cX1_choose 84 = .ok (.aload_n 0, 1) := by decide +kernel
theorem dX1_choose_85 : decode cX1_choose 85 = .ok (.getfield 15, 3) := by decide +kernel
theorem dX1_choose_88 : decode cX1_choose 88 = .ok (.iload_n 3, 1) := by decide +kernel
theorem dX1_choose_89 : decode cX1_choose 89 = .ok (.aload_n 0, 1) := by decide +kernel
theorem dX1_choose_90 : decode cX1_choose 90 = .ok (.getfield 18, 3) := by decide +kernel
theorem dX1_choose_93 : decode cX1_choose 93 = .ok (.iload 6, 2) := by decide +kernel
theorem dX1_choose_95 : decode cX1_choose 95 = .ok (.iaload, 1) := by decide +kernel
theorem dX1_choose_96 : decode cX1_choose 96 = .ok (.iadd, 1) := by decide +kernel
theorem dX1_choose_97 : decode cX1_choose 97 = .ok (.iaload, 1) := by decide +kernel
theorem dX1_choose_98 : decode cX1_choose 98 = .ok (.aload_n 0, 1) := by decide +kernel
theorem dX1_choose_99 : decode cX1_choose 99 = .ok (.getfield 15, 3) := by decide +kernel
theorem dX1_choose_102 : decode cX1_choose 102 = .ok (.iload 4, 2) := by decide +kernel
theorem dX1_choose_104 : decode cX1_choose 104 = .ok (.aload_n 0, 1) := by decide +kernel
theorem dX1_choose_105 : decode cX1_choose 105 = .ok (.getfield 18, 3) := by decide +kernel
theorem dX1_choose_108 : decode cX1_choose 108 = .ok (.iload 6, 2) := by decide +kernel
theorem dX1_choose_110 : decode cX1_choose 110 = .ok (.iconst 1, 1) := by decide +kernel
theorem dX1_choose_111 : decode cX1_choose 111 = .ok (.iadd, 1) := by decide +kernel
theorem dX1_choose_112 : decode cX1_choose 112 = .ok (.iaload, 1) := by decide +kernel
theorem dX1_choose_113 : decode cX1_choose 113 = .ok (.iadd, 1) := by decide +kernel
theorem dX1_choose_114 : decode cX1_choose 114 = .ok (.iaload, 1) := by decide +kernel
theorem dX1_choose_115 : decode cX1_choose 115 = .ok (.imul, 1) := by decide +kernel
theorem dX1_choose_116 : decode cX1_choose 116 = .ok (.iastore, 1) := by decide +kernel
theorem dX1_choose_117 : decode cX1_choose 117 = .ok (.iinc 5 1, 3) := by decide +kernel
theorem dX1_choose_120 : decode cX1_choose 120 = .ok (.goto (-65), 3) := by decide +kernel
theorem dX1_choose_123 : decode cX1_choose 123 = .ok (.return_, 1) := by decide +kernel
theorem dX1_binHas_0 : decode cX1_binHas 0 = .ok (.aload_n 0, 1) := by decide +kernel
theorem dX1_binHas_1 : decode cX1_binHas 1 = .ok (.getfield 73, 3) := by decide +kernel
theorem dX1_binHas_4 : decode cX1_binHas 4 = .ok (.aload_n 0, 1) := by decide +kernel
theorem dX1_binHas_5 : decode cX1_binHas 5 = .ok (.getfield 15, 3) := by decide +kernel
theorem dX1_binHas_8 : decode cX1_binHas 8 = .ok (.bipush 42, 2) := by decide +kernel
theorem dX1_binHas_10 : decode cX1_binHas 10 = .ok (.iload_n 1, 1) := by decide +kernel
theorem dX1_binHas_11 : decode cX1_binHas 11 = .ok (.iadd, 1) := by decide +kernel
theorem dX1_binHas_12 : decode cX1_binHas 12 = .ok (.bipush 21, 2) := by decide +kernel
theorem dX1_binHas_14 : decode cX1_binHas 14 = .ok (.imul, 1) := by decide +kernel
theorem dX1_binHas_15 : decode cX1_binHas 15 = .ok (.aload_n 0, 1) := by decide +kernel
theorem dX1_binHas_16 : decode cX1_binHas 16 = .ok (.getfield 30, 3) := by decide +kernel
theorem dX1_binHas_19 : decode cX1_binHas 19 = .ok (.getfield 41, 3) := by decide +kernel
theorem dX1_binHas_22 : decode cX1_binHas 22 = .ok (.iconst 2, 1) := by decide +kernel
theorem dX1_binHas_23 : decode cX1_binHas 23 = .ok (.iaload, 1) := by decide +kernel
theorem dX1_binHas_24 : decode cX1_binHas 24 = .ok (.iadd, 1) := by decide +kernel
theorem dX1_binHas_25 : decode cX1_binHas 25 = .ok (.iaload, 1) := by decide +kernel
theorem dX1_binHas_26 : decode cX1_binHas 26 = .ok (.imul, 1) := by decide +kernel
theorem dX1_binHas_27 : decode cX1_binHas 27 = .ok (.ireturn, 1) := by decide +kernel
theorem dX1_needOf_0 : decode cX1_needOf 0 = .ok (.bipush 42, 2) := by decide +kernel
theorem dX1_needOf_2 : decode cX1_needOf 2 = .ok (.iload_n 2, 1) := by decide +kernel
theorem dX1_needOf_3 : decode cX1_needOf 3 = .ok (.iadd, 1) := by decide +kernel
theorem dX1_needOf_4 : decode cX1_needOf 4 = .ok (.bipush 21, 2) := by decide +kernel
theorem dX1_needOf_6 : decode cX1_needOf 6 = .ok (.imul, 1) := by decide +kernel
theorem dX1_needOf_7 : decode cX1_needOf 7 = .ok (.istore_n 3, 1) := by decide +kernel
theorem dX1_needOf_8 : decode cX1_needOf 8 = .ok (.aload_n 0, 1) := by decide +kernel
theorem dX1_needOf_9 : decode cX1_needOf 9 = .ok (.iload_n 2, 1) := by decide +kernel
theorem dX1_needOf_10 : decode cX1_needOf 10 = .ok (.invokevirtual 76, 3) := by decide +kernel
theorem dX1_needOf_13 : decode cX1_needOf 13 = .ok (.iconst 1, 1) := by decide +kernel
theorem dX1_needOf_14 : decode cX1_needOf 14 = .ok (.iadd, 1) := by decide +kernel
theorem dX1_needOf_15 : decode cX1_needOf 15 = .ok (.istore 4, 2) := by decide +kernel
theorem dX1_needOf_17 : decode cX1_needOf 17 = .ok (.iconst 0, 1) := by decide +kernel
theorem dX1_needOf_18 : decode cX1_needOf 18 = .ok (.istore 5, 2) := by decide +kernel
theorem dX1_needOf_20 : decode cX1_needOf 20 = .ok (.iconst 0, 1) := by decide +kernel
theorem dX1_needOf_21 : decode cX1_needOf 21 = .ok (.istore 6, 2) := by decide +kernel
theorem dX1_needOf_23 : decode cX1_needOf 23 = .ok (.iload 6, 2) := by decide +kernel
theorem dX1_needOf_25 : decode cX1_needOf 25 = .ok (.aload_n 0, 1) := by decide +kernel
theorem dX1_needOf_26 : decode cX1_needOf 26 = .ok (.getfield 30, 3) := by decide +kernel
theorem dX1_needOf_29 : decode cX1_needOf 29 = .ok (.getfield 54, 3) := by decide +kernel
theorem dX1_needOf_32 : decode cX1_needOf 32 = .ok (.if_icmp .ge 92, 3) := by decide +kernel
theorem dX1_needOf_35 : decode cX1_needOf 35 = .ok (.iload_n 1, 1) := by decide +kernel
theorem dX1_needOf_36 : decode cX1_needOf 36 = .ok (.iload 6, 2) := by decide +kernel
theorem dX1_needOf_38 : decode cX1_needOf 38 = .ok (.ishr, 1) := by decide +kernel
theorem dX1_needOf_39 : decode cX1_needOf 39 = .ok (.iconst 1, 1) := by decide +kernel
theorem dX1_needOf_40 : decode cX1_needOf 40 = .ok (.iand, 1) := by decide +kernel
theorem dX1_needOf_41 : decode cX1_needOf 41 = .ok (.iconst 1, 1) := by decide +kernel
theorem dX1_needOf_42 : decode cX1_needOf 42 = .ok (.if_icmp .ne 76, 3) := by decide +kernel
theorem dX1_needOf_45 : decode cX1_needOf 45 = .ok (.iload 4, 2) := by decide +kernel
theorem dX1_needOf_47 : decode cX1_needOf 47 = .ok (.istore 7, 2) := by decide +kernel
theorem dX1_needOf_49 : decode cX1_needOf 49 = .ok (.aload_n 0, 1) := by decide +kernel
theorem dX1_needOf_50 : decode cX1_needOf 50 = .ok (.getfield 21, 3) := by decide +kernel
theorem dX1_needOf_53 : decode cX1_needOf 53 = .ok (.iload 6, 2) := by decide +kernel
theorem dX1_needOf_55 : decode cX1_needOf 55 = .ok (.iaload, 1) := by decide +kernel
theorem dX1_needOf_56 : decode cX1_needOf 56 = .ok (.istore 8, 2) := by decide +kernel
theorem dX1_needOf_58 : decode cX1_needOf 58 = .ok (.iload 8, 2) := by decide +kernel
theorem dX1_needOf_60 : decode cX1_needOf 60 = .ok (.aload_n 0, 1) := by decide +kernel
theorem dX1_needOf_61 : decode cX1_needOf 61 = .ok (.getfield 21, 3) := by decide +kernel
theorem dX1_needOf_64 : decode cX1_needOf 64 = .ok (.iload 6, 2) := by decide +kernel
theorem dX1_needOf_66 : decode cX1_needOf 66 = .ok (.iconst 1, 1) := by decide +kernel
theorem dX1_needOf_67 : decode cX1_needOf 67 = .ok (.iadd, 1) := by decide +kernel
theorem dX1_needOf_68 : decode cX1_needOf 68 = .ok (.iaload, 1) := by decide +kernel
theorem dX1_needOf_69 : decode cX1_needOf 69 = .ok (.if_icmp .ge 42, 3) := by decide +kernel
theorem dX1_needOf_72 : decode cX1_needOf 72 = .ok (.iload 7, 2) := by decide +kernel
theorem dX1_needOf_74 : decode cX1_needOf 74 = .ok (.aload_n 0, 1) := by decide +kernel
theorem dX1_needOf_75 : decode cX1_needOf 75 = .ok (.getfield 24, 3) := by decide +kernel
theorem dX1_needOf_78 : decode cX1_needOf 78 = .ok (.iload 8, 2) := by decide +kernel
theorem dX1_needOf_80 : decode cX1_needOf 80 = .ok (.iaload, 1) := by decide +kernel
theorem dX1_needOf_81 : decode cX1_needOf 81 = .ok (.aload_n 0, 1) := by decide +kernel
theorem dX1_needOf_82 : decode cX1_needOf 82 = .ok (.getfield 15, 3) := by decide +kernel
theorem dX1_needOf_85 : decode cX1_needOf 85 = .ok (.iload_n 3, 1) := by decide +kernel
theorem dX1_needOf_86 : decode cX1_needOf 86 = .ok (.aload_n 0, 1) := by decide +kernel
theorem dX1_needOf_87 : decode cX1_needOf 87 = .ok (.getfield 18, 3) := by decide +kernel
theorem dX1_needOf_90 : decode cX1_needOf 90 = .ok (.iload 8, 2) := by decide +kernel
theorem dX1_needOf_92 : decode cX1_needOf 92 = .ok (.iconst 3, 1) := by decide +kernel
theorem dX1_needOf_93 : decode cX1_needOf 93 = .ok (.imul, 1) := by decide +kernel
theorem dX1_needOf_94 : decode cX1_needOf 94 = .ok (.iconst 2, 1) := by decide +kernel
theorem dX1_needOf_95 : decode cX1_needOf 95 = .ok (.iadd, 1) := by decide +kernel
theorem dX1_needOf_96 : decode cX1_needOf 96 = .ok (.iaload, 1) := by decide +kernel
theorem dX1_needOf_97 : decode cX1_needOf 97 = .ok (.iadd, 1) := by decide +kernel
theorem dX1_needOf_98 : decode cX1_needOf 98 = .ok (.iaload, 1) := by decide +kernel
theorem dX1_needOf_99 : decode cX1_needOf 99 = .ok (.imul, 1) := by decide +kernel
theorem dX1_needOf_100 : decode cX1_needOf 100 = .ok (.invokestatic 79, 3) := by decide +kernel
theorem dX1_needOf_103 : decode cX1_needOf 103 = .ok (.istore 7, 2) := by decide +kernel
theorem dX1_needOf_105 : decode cX1_needOf 105 = .ok (.iinc 8 1, 3) := by decide +kernel
theorem dX1_needOf_108 : decode cX1_needOf 108 = .ok (.goto (-50), 3) := by decide +kernel
theorem dX1_needOf_111 : decode cX1_needOf 111 = .ok (.iload 5, 2) := by decide +kernel
theorem dX1_needOf_113 : decode cX1_needOf 113 = .ok (.iload 7, 2) := by decide +kernel
theorem dX1_needOf_115 : decode cX1_needOf 115 = .ok (.iadd, 1) := by decide +kernel
theorem dX1_needOf_116 : decode cX1_needOf 116 = .ok (.istore 5, 2) := by decide +kernel
theorem dX1_needOf_118 : decode cX1_needOf 118 = .ok (.iinc 6 1, 3) := by decide +kernel
theorem dX1_needOf_121 : decode cX1_needOf 121 = .ok (.goto (-98), 3) := by decide +kernel
theorem dX1_needOf_124 : decode cX1_needOf 124 = .ok (.iload 5, 2) := by decide +kernel
theorem dX1_needOf_126 : decode cX1_needOf 126 = .ok (.ireturn, 1) := by decide +kernel
theorem dX1_proves_0 : decode cX1_proves 0 = .ok (.aload_n 0, 1) := by decide +kernel
theorem dX1_proves_1 : decode cX1_proves 1 = .ok (.iload_n 1, 1) := by decide +kernel
theorem dX1_proves_2 : decode cX1_proves 2 = .ok (.iload_n 2, 1) := by decide +kernel
theorem dX1_proves_3 : decode cX1_proves 3 = .ok (.invokevirtual 84, 3) := by decide +kernel
theorem dX1_proves_6 : decode cX1_proves 6 = .ok (.aload_n 0, 1) := by decide +kernel
theorem dX1_proves_7 : decode cX1_proves 7 = .ok (.iload_n 2, 1) := by decide +kernel
theorem dX1_proves_8 : decode cX1_proves 8 = .ok (.invokevirtual 76, 3) := by decide +kernel
theorem dX1_proves_11 : decode cX1_proves 11 = .ok (.if_icmp .le 7, 3) := by decide +kernel
theorem dX1_proves_14 : decode cX1_proves 14 = .ok (.iconst 1, 1) := by decide +kernel
theorem dX1_proves_15 : decode cX1_proves 15 = .ok (.goto 4, 3) := by decide +kernel
theorem dX1_proves_18 : decode cX1_proves 18 = .ok (.iconst 0, 1) := by decide +kernel
theorem dX1_proves_19 : decode cX1_proves 19 = .ok (.ireturn, 1) := by decide +kernel
theorem dX1_seekProof_0 : decode cX1_seekProof 0 = .ok (.aload_n 0, 1) := by decide +kernel
theorem dX1_seekProof_1 : decode cX1_seekProof 1 = .ok (.getfield 38, 3) := by decide +kernel
theorem dX1_seekProof_4 : decode cX1_seekProof 4 = .ok (.ifCond .eq 4, 3) := by decide +kernel
theorem dX1_seekProof_7 : decode cX1_seekProof 7 = .ok (.return_, 1) := by decide +kernel
theorem dX1_seekProof_8 : decode cX1_seekProof 8 = .ok (.aload_n 0, 1) := by decide +kernel
theorem dX1_seekProof_9 : decode cX1_seekProof 9 = .ok (.iconst 1, 1) := by decide +kernel
theorem dX1_seekProof_10 : decode cX1_seekProof 10 = .ok (.putfield 38, 3) := by decide +kernel
theorem dX1_seekProof_13 : decode cX1_seekProof 13 = .ok (.aload_n 0, 1) := by decide +kernel
theorem dX1_seekProof_14 : decode cX1_seekProof 14 = .ok (.invokevirtual 87, 3) := by decide +kernel
theorem dX1_seekProof_17 : decode cX1_seekProof 17 = .ok (.iconst 0, 1) := by decide +kernel
theorem dX1_seekProof_18 : decode cX1_seekProof 18 = .ok (.istore_n 1, 1) := by decide +kernel
theorem dX1_seekProof_19 : decode cX1_seekProof 19 = .ok (.iload_n 1, 1) := by decide +kernel
theorem dX1_seekProof_20 : decode cX1_seekProof 20 = .ok (.iconst 3, 1) := by decide +kernel
theorem dX1_seekProof_21 : decode cX1_seekProof 21 = .ok (.if_icmp .ge 14, 3) := by decide +kernel
theorem dX1_seekProof_24 : decode cX1_seekProof 24 = .ok (.aload_n 0, 1) := by decide +kernel
theorem dX1_seekProof_25 : decode cX1_seekProof 25 = .ok (.iload_n 1, 1) := by decide +kernel
theorem dX1_seekProof_26 : decode cX1_seekProof 26 = .ok (.invokevirtual 90, 3) := by decide +kernel
theorem dX1_seekProof_29 : decode cX1_seekProof 29 = .ok (.iinc 1 1, 3) := by decide +kernel
theorem dX1_seekProof_32 : decode cX1_seekProof 32 = .ok (.goto (-13), 3) := by decide +kernel
theorem dX1_seekProof_35 : decode cX1_seekProof 35 = .ok (.iconst 0, 1) := by decide +kernel
theorem dX1_seekProof_36 : decode cX1_seekProof 36 = .ok (.istore_n 1, 1) := by decide +kernel
theorem dX1_seekProof_37 : decode cX1_seekProof 37 = .ok (.iload_n 1, 1) := by decide +kernel
theorem dX1_seekProof_38 : decode cX1_seekProof 38 = .ok (.aload_n 0, 1) := by decide +kernel
theorem dX1_seekProof_39 : decode cX1_seekProof 39 = .ok (.iconst 0, 1) := by decide +kernel
theorem dX1_seekProof_40 : decode cX1_seekProof 40 = .ok (.invokevirtual 46, 3) := by decide +kernel
theorem dX1_seekProof_43 : decode cX1_seekProof 43 = .ok (.if_icmp .gt 54, 3) := by decide +kernel
theorem dX1_seekProof_46 : decode cX1_seekProof 46 = .ok (.iconst 0, 1) := by decide +kernel
theorem dX1_seekProof_47 : decode cX1_seekProof 47 = .ok (.istore_n 2, 1) := by decide +kernel
theorem dX1_seekProof_48 : decode cX1_seekProof 48 = .ok (.aload_n 0, 1) := by decide +kernel
theorem dX1_seekProof_49 : decode cX1_seekProof 49 = .ok (.iconst 0, 1) := by decide +kernel
theorem dX1_seekProof_50 : decode cX1_seekProof 50 = .ok (.iload_n 1, 1) := by decide +kernel
theorem dX1_seekProof_51 : decode cX1_seekProof 51 = .ok (.invokevirtual 93, 3) := by decide +kernel
theorem dX1_seekProof_54 : decode cX1_seekProof 54 = .ok (.ifCond .eq 37, 3) := by decide +kernel
theorem dX1_seekProof_57 : decode cX1_seekProof 57 = .ok (.iload_n 2, 1) := by decide +kernel
theorem dX1_seekProof_58 : decode cX1_seekProof 58 = .ok (.aload_n 0, 1) := by decide +kernel
theorem dX1_seekProof_59 : decode cX1_seekProof 59 = .ok (.iconst 1, 1) := by decide +kernel
theorem dX1_seekProof_60 : decode cX1_seekProof 60 = .ok (.invokevirtual 46, 3) := by decide +kernel
theorem dX1_seekProof_63 : decode cX1_seekProof 63 = .ok (.if_icmp .gt 28, 3) := by decide +kernel
theorem dX1_seekProof_66 : decode cX1_seekProof 66 = .ok (.aload_n 0, 1) := by decide +kernel
theorem dX1_seekProof_67 : decode cX1_seekProof 67 = .ok (.iconst 1, 1) := by decide +kernel
theorem dX1_seekProof_68 : decode cX1_seekProof 68 = .ok (.iload_n 2, 1) := by decide +kernel
theorem dX1_seekProof_69 : decode cX1_seekProof 69 = .ok (.invokevirtual 93, 3) := by decide +kernel
theorem dX1_seekProof_72 : decode cX1_seekProof 72 = .ok (.ifCond .eq 13, 3) := by decide +kernel
theorem dX1_seekProof_75 : decode cX1_seekProof 75 = .ok (.aload_n 0, 1) := by decide +kernel
theorem dX1_seekProof_76 : decode cX1_seekProof 76 = .ok (.iload_n 1, 1) := by decide +kernel
theorem dX1_seekProof_77 : decode cX1_seekProof 77 = .ok (.iload_n 2, 1) := by decide +kernel
theorem dX1_seekProof_78 : decode cX1_seekProof 78 = .ok (.invokevirtual 96, 3) := by decide +kernel
theorem dX1_seekProof_81 : decode cX1_seekProof 81 = .ok (.ifCond .eq 4, 3) := by decide +kernel
theorem dX1_seekProof_84 : decode cX1_seekProof 84 = .ok (.return_, 1) := by decide +kernel
theorem dX1_seekProof_85 : decode cX1_seekProof 85 = .ok (.iinc 2 1, 3) := by decide +kernel
theorem dX1_seekProof_88 : decode cX1_seekProof 88 = .ok (.goto (-40), 3) := by decide +kernel
theorem dX1_seekProof_91 : decode cX1_seekProof 91 = .ok (.iinc 1 1, 3) := by decide +kernel
theorem dX1_seekProof_94 : decode cX1_seekProof 94 = .ok (.goto (-57), 3) := by decide +kernel
theorem dX1_seekProof_97 : decode cX1_seekProof 97 = .ok (.aload_n 0, 1) := by decide +kernel
theorem dX1_seekProof_98 : decode cX1_seekProof 98 = .ok (.bipush (-9), 2) := by decide +kernel
theorem dX1_seekProof_100 : decode cX1_seekProof 100 = .ok (.bipush (-9), 2) := by decide +kernel
theorem dX1_seekProof_102 : decode cX1_seekProof 102 = .ok (.bipush (-9), 2) := by decide +kernel
theorem dX1_seekProof_104 : decode cX1_seekProof 104 = .ok (.bipush (-9), 2) := by decide +kernel
theorem dX1_seekProof_106 : decode cX1_seekProof 106 = .ok (.invokevirtual 99, 3) := by decide +kernel
theorem dX1_seekProof_109 : decode cX1_seekProof 109 = .ok (.return_, 1) := by decide +kernel
theorem dX1_seekOnLastAxis_0 : decode cX1_seekOnLastAxis 0 = .ok (.aload_n 0, 1) := by decide +kernel
theorem dX1_seekOnLastAxis_1 : decode cX1_seekOnLastAxis 1 = .ok (.iload_n 1, 1) := by decide +kernel
theorem dX1_seekOnLastAxis_2 : decode cX1_seekOnLastAxis 2 = .ok (.iload_n 2, 1) := by decide +kernel
theorem dX1_seekOnLastAxis_3 : decode cX1_seekOnLastAxis 3 = .ok (.invokevirtual 103, 3) := by decide +kernel
theorem dX1_seekOnLastAxis_6 : decode cX1_seekOnLastAxis 6 = .ok (.iconst 0, 1) := by decide +kernel
theorem dX1_seekOnLastAxis_7 : decode cX1_seekOnLastAxis 7 = .ok (.istore_n 3, 1) := by decide +kernel
theorem dX1_seekOnLastAxis_8 : decode cX1_seekOnLastAxis 8 = .ok (.iload_n 3, 1) := by decide +kernel
theorem dX1_seekOnLastAxis_9 : decode cX1_seekOnLastAxis 9 = .ok (.aload_n 0, 1) := by decide +kernel
theorem dX1_seekOnLastAxis_10 : decode cX1_seekOnLastAxis 10 = .ok (.iconst 2, 1) := by decide +kernel
theorem dX1_seekOnLastAxis_11 : decode cX1_seekOnLastAxis 11 = .ok (.invokevirtual 46, 3) := by decide +kernel
theorem dX1_seekOnLastAxis_14 : decode cX1_seekOnLastAxis 14 = .ok (.if_icmp .gt 47, 3) := by decide +kernel
theorem dX1_seekOnLastAxis_17 : decode cX1_seekOnLastAxis 17 = .ok (.aload_n 0, 1) := by decide +kernel
theorem dX1_seekOnLastAxis_18 : decode cX1_seekOnLastAxis 18 = .ok (.iconst 2, 1) := by decide +kernel
theorem dX1_seekOnLastAxis_19 : decode cX1_seekOnLastAxis 19 = .ok (.iload_n 3, 1) := by decide +kernel
theorem dX1_seekOnLastAxis_20 : decode cX1_seekOnLastAxis 20 = .ok (.invokevirtual 93, 3) := by decide +kernel
theorem dX1_seekOnLastAxis_23 : decode cX1_seekOnLastAxis 23 = .ok (.ifCond .eq 32, 3) := by decide +kernel
theorem dX1_seekOnLastAxis_26 : decode cX1_seekOnLastAxis 26 = .ok (.aload_n 0, 1) := by decide +kernel
theorem dX1_seekOnLastAxis_27 : decode cX1_seekOnLastAxis 27 = .ok (.aload_n 0, 1) := by decide +kernel
theorem dX1_seekOnLastAxis_28 : decode cX1_seekOnLastAxis 28 = .ok (.getfield 30, 3) := by decide +kernel
theorem dX1_seekOnLastAxis_31 : decode cX1_seekOnLastAxis 31 = .ok (.invokevirtual 107, 3) := by decide +kernel
theorem dX1_seekOnLastAxis_34 : decode cX1_seekOnLastAxis 34 = .ok (.iload_n 3, 1) := by decide +kernel
theorem dX1_seekOnLastAxis_35 : decode cX1_seekOnLastAxis 35 = .ok (.invokevirtual 111, 3) := by decide +kernel
theorem dX1_seekOnLastAxis_38 : decode cX1_seekOnLastAxis 38 = .ok (.ifCond .eq 17, 3) := by decide +kernel
theorem dX1_seekOnLastAxis_41 : decode cX1_seekOnLastAxis 41 = .ok (.aload_n 0, 1) := by decide +kernel
theorem dX1_seekOnLastAxis_42 : decode cX1_seekOnLastAxis 42 = .ok (.iload_n 1, 1) := by decide +kernel
theorem dX1_seekOnLastAxis_43 : decode cX1_seekOnLastAxis 43 = .ok (.iload_n 2, 1) := by decide +kernel
theorem dX1_seekOnLastAxis_44 : decode cX1_seekOnLastAxis 44 = .ok (.iload_n 3, 1) := by decide +kernel
theorem dX1_seekOnLastAxis_45 : decode cX1_seekOnLastAxis 45 = .ok (.aload_n 0, 1) := by decide +kernel
theorem dX1_seekOnLastAxis_46 : decode cX1_seekOnLastAxis 46 = .ok (.iload_n 3, 1) := by decide +kernel
theorem dX1_seekOnLastAxis_47 : decode cX1_seekOnLastAxis 47 = .ok (.invokevirtual 114, 3) := by decide +kernel
theorem dX1_seekOnLastAxis_50 : decode cX1_seekOnLastAxis 50 = .ok (.invokevirtual 99, 3) := by decide +kernel
theorem dX1_seekOnLastAxis_53 : decode cX1_seekOnLastAxis 53 = .ok (.iconst 1, 1) := by decide +kernel
theorem dX1_seekOnLastAxis_54 : decode cX1_seekOnLastAxis 54 = .ok (.ireturn, 1) := by decide +kernel
theorem dX1_seekOnLastAxis_55 : decode cX1_seekOnLastAxis 55 = .ok (.iinc 3 1, 3) := by decide +kernel
theorem dX1_seekOnLastAxis_58 : decode cX1_seekOnLastAxis 58 = .ok (.goto (-50), 3) := by decide +kernel
theorem dX1_seekOnLastAxis_61 : decode cX1_seekOnLastAxis 61 = .ok (.iconst 0, 1) := by decide +kernel
theorem dX1_seekOnLastAxis_62 : decode cX1_seekOnLastAxis 62 = .ok (.ireturn, 1) := by decide +kernel
theorem dX1_isTried_0 : decode cX1_isTried 0 = .ok (.aload_n 0, 1) := by decide +kernel
theorem dX1_isTried_1 : decode cX1_isTried 1 = .ok (.getfield 27, 3) := by decide +kernel
theorem dX1_isTried_4 : decode cX1_isTried 4 = .ok (.iload_n 1, 1) := by decide +kernel
theorem dX1_isTried_5 : decode cX1_isTried 5 = .ok (.iaload, 1) := by decide +kernel
theorem dX1_isTried_6 : decode cX1_isTried 6 = .ok (.iload_n 2, 1) := by decide +kernel
theorem dX1_isTried_7 : decode cX1_isTried 7 = .ok (.ishr, 1) := by decide +kernel
theorem dX1_isTried_8 : decode cX1_isTried 8 = .ok (.iconst 1, 1) := by decide +kernel
theorem dX1_isTried_9 : decode cX1_isTried 9 = .ok (.iand, 1) := by decide +kernel
theorem dX1_isTried_10 : decode cX1_isTried 10 = .ok (.iconst 1, 1) := by decide +kernel
theorem dX1_isTried_11 : decode cX1_isTried 11 = .ok (.if_icmp .ne 7, 3) := by decide +kernel
theorem dX1_isTried_14 : decode cX1_isTried 14 = .ok (.iconst 1, 1) := by decide +kernel
theorem dX1_isTried_15 : decode cX1_isTried 15 = .ok (.goto 4, 3) := by decide +kernel
theorem dX1_isTried_18 : decode cX1_isTried 18 = .ok (.iconst 0, 1) := by decide +kernel
theorem dX1_isTried_19 : decode cX1_isTried 19 = .ok (.ireturn, 1) := by decide +kernel
theorem dX1_leaveOutIdle_0 : decode cX1_leaveOutIdle 0 = .ok (.aload_n 0, 1) := by decide +kernel
theorem dX1_leaveOutIdle_1 : decode cX1_leaveOutIdle 1 = .ok (.getfield 27, 3) := by decide +kernel
theorem dX1_leaveOutIdle_4 : decode cX1_leaveOutIdle 4 = .ok (.iload_n 1, 1) := by decide +kernel
theorem dX1_leaveOutIdle_5 : decode cX1_leaveOutIdle 5 = .ok (.iconst 0, 1) := by decide +kernel
theorem dX1_leaveOutIdle_6 : decode cX1_leaveOutIdle 6 = .ok (.iastore, 1) := by decide +kernel
theorem dX1_leaveOutIdle_7 : decode cX1_leaveOutIdle 7 = .ok (.iconst 0, 1) := by decide +kernel
theorem dX1_leaveOutIdle_8 : decode cX1_leaveOutIdle 8 = .ok (.istore_n 2, 1) := by decide +kernel
theorem dX1_leaveOutIdle_9 : decode cX1_leaveOutIdle 9 = .ok (.iload_n 2, 1) := by decide +kernel
theorem dX1_leaveOutIdle_10 : decode cX1_leaveOutIdle 10 = .ok (.aload_n 0, 1) := by decide +kernel
theorem dX1_leaveOutIdle_11 : decode cX1_leaveOutIdle 11 = .ok (.iload_n 1, 1) := by decide +kernel
theorem dX1_leaveOutIdle_12 : decode cX1_leaveOutIdle 12 = .ok (.invokevirtual 46, 3) := by decide +kernel
theorem dX1_leaveOutIdle_15 : decode cX1_leaveOutIdle 15 = .ok (.if_icmp .gt 73, 3) := by decide +kernel
theorem dX1_leaveOutIdle_18 : decode cX1_leaveOutIdle 18 = .ok (.iconst 0, 1) := by decide +kernel
theorem dX1_leaveOutIdle_19 : decode cX1_leaveOutIdle 19 = .ok (.istore_n 3, 1) := by decide +kernel
theorem dX1_leaveOutIdle_20 : decode cX1_leaveOutIdle 20 = .ok (.iconst 0, 1) := by decide +kernel
theorem dX1_leaveOutIdle_21 : decode cX1_leaveOutIdle 21 = .ok (.istore 4, 2) := by decide +kernel
theorem dX1_leaveOutIdle_23 : decode cX1_leaveOutIdle 23 = .ok (.iload 4, 2) := by decide +kernel
theorem dX1_leaveOutIdle_25 : decode cX1_leaveOutIdle 25 = .ok (.iload_n 2, 1) := by decide +kernel
theorem dX1_leaveOutIdle_26 : decode cX1_leaveOutIdle 26 = .ok (.if_icmp .ge 40, 3) := by decide +kernel
theorem dX1_leaveOutIdle_29 : decode cX1_leaveOutIdle 29 = .ok (.iload_n 3, 1) := by decide +kernel
theorem dX1_leaveOutIdle_30 : decode cX1_leaveOutIdle 30 = .ok (.ifCond .ne 36, 3) := by decide +kernel
theorem dX1_leaveOutIdle_33 : decode cX1_leaveOutIdle 33 = .ok (.aload_n 0, 1) := by decide +kernel
theorem dX1_leaveOutIdle_34 : decode cX1_leaveOutIdle 34 = .ok (.iload_n 1, 1) := by decide +kernel
theorem dX1_leaveOutIdle_35 : decode cX1_leaveOutIdle 35 = .ok (.iload 4, 2) := by decide +kernel
theorem dX1_leaveOutIdle_37 : decode cX1_leaveOutIdle 37 = .ok (.invokevirtual 93, 3) := by decide +kernel
theorem dX1_leaveOutIdle_40 : decode cX1_leaveOutIdle 40 = .ok (.ifCond .eq 18, 3) := by decide +kernel
theorem dX1_leaveOutIdle_43 : decode cX1_leaveOutIdle 43 = .ok (.aload_n 0, 1) := by decide +kernel
theorem dX1_leaveOutIdle_44 : decode cX1_leaveOutIdle 44 = .ok (.iload_n 1, 1) := by decide +kernel
theorem dX1_leaveOutIdle_45 : decode cX1_leaveOutIdle 45 = .ok (.iload 4, 2) := by decide +kernel
theorem dX1_leaveOutIdle_47 : decode cX1_leaveOutIdle 47 = .ok (.iload_n 2, 1) := by decide +kernel
theorem dX1_leaveOutIdle_48 : decode cX1_leaveOutIdle 48 = .ok (.invokevirtual 117, 3) := by decide +kernel
theorem dX1_leaveOutIdle_51 : decode cX1_leaveOutIdle 51 = .ok (.ifCond .eq 7, 3) := by decide +kernel
theorem dX1_leaveOutIdle_54 : decode cX1_leaveOutIdle 54 = .ok (.iconst 1, 1) := by decide +kernel
theorem dX1_leaveOutIdle_55 : decode cX1_leaveOutIdle 55 = .ok (.goto 4, 3) := by decide +kernel
theorem dX1_leaveOutIdle_58 : decode cX1_leaveOutIdle 58 = .ok (.iconst 0, 1) := by decide +kernel
theorem dX1_leaveOutIdle_59 : decode cX1_leaveOutIdle 59 = .ok (.istore_n 3, 1) := by decide +kernel
theorem dX1_leaveOutIdle_60 : decode cX1_leaveOutIdle 60 = .ok (.iinc 4 1, 3) := by decide +kernel
theorem dX1_leaveOutIdle_63 : decode cX1_leaveOutIdle 63 = .ok (.goto (-40), 3) := by decide +kernel
theorem dX1_leaveOutIdle_66 : decode cX1_leaveOutIdle 66 = .ok (.iload_n 3, 1) := by decide +kernel
theorem dX1_leaveOutIdle_67 : decode cX1_leaveOutIdle 67 = .ok (.ifCond .ne 15, 3) := by decide +kernel
theorem dX1_leaveOutIdle_70 : decode cX1_leaveOutIdle 70 = .ok (.aload_n 0, 1) := by decide +kernel
theorem dX1_leaveOutIdle_71 : decode cX1_leaveOutIdle 71 = .ok (.getfield 27, 3) := by decide +kernel
theorem dX1_leaveOutIdle_74 : decode cX1_leaveOutIdle 74 = .ok (.iload_n 1, 1) := by decide +kernel
theorem dX1_leaveOutIdle_75 : decode cX1_leaveOutIdle 75 = .ok (.dup2, 1) := by decide +kernel
theorem dX1_leaveOutIdle_76 : decode cX1_leaveOutIdle 76 = .ok (.iaload, 1) := by decide +kernel
theorem dX1_leaveOutIdle_77 : decode cX1_leaveOutIdle 77 = .ok (.iconst 1, 1) := by decide +kernel
theorem dX1_leaveOutIdle_78 : decode cX1_leaveOutIdle 78 = .ok (.iload_n 2, 1) := by decide +kernel
theorem dX1_leaveOutIdle_79 : decode cX1_leaveOutIdle 79 = .ok (.ishl, 1) := by decide +kernel
theorem dX1_leaveOutIdle_80 : decode cX1_leaveOutIdle 80 = .ok (.ior, 1) := by decide +kernel
theorem dX1_leaveOutIdle_81 : decode cX1_leaveOutIdle 81 = .ok (.iastore, 1) := by decide +kernel
theorem dX1_leaveOutIdle_82 : decode cX1_leaveOutIdle 82 = .ok (.iinc 2 1, 3) := by decide +kernel
theorem dX1_leaveOutIdle_85 : decode cX1_leaveOutIdle 85 = .ok (.goto (-76), 3) := by decide +kernel
theorem dX1_leaveOutIdle_88 : decode cX1_leaveOutIdle 88 = .ok (.return_, 1) := by decide +kernel
theorem dX1_givesNoLess_0 : decode cX1_givesNoLess 0 = .ok (.iload_n 1, 1) := by decide +kernel
theorem dX1_givesNoLess_1 : decode cX1_givesNoLess 1 = .ok (.bipush 21, 2) := by decide +kernel
theorem dX1_givesNoLess_3 : decode cX1_givesNoLess 3 = .ok (.imul, 1) := by decide +kernel
theorem dX1_givesNoLess_4 : decode cX1_givesNoLess 4 = .ok (.iload_n 2, 1) := by decide +kernel
theorem dX1_givesNoLess_5 : decode cX1_givesNoLess 5 = .ok (.iadd, 1) := by decide +kernel
theorem dX1_givesNoLess_6 : decode cX1_givesNoLess 6 = .ok (.bipush 21, 2) := by decide +kernel
theorem dX1_givesNoLess_8 : decode cX1_givesNoLess 8 = .ok (.imul, 1) := by decide +kernel
theorem dX1_givesNoLess_9 : decode cX1_givesNoLess 9 = .ok (.istore 4, 2) := by decide +kernel
theorem dX1_givesNoLess_11 : decode cX1_givesNoLess 11 = .ok (.iload_n 1, 1) := by decide +kernel
theorem dX1_givesNoLess_12 : decode cX1_givesNoLess 12 = .ok (.bipush 21, 2) := by decide +kernel
theorem dX1_givesNoLess_14 : decode cX1_givesNoLess 14 = .ok (.imul, 1) := by decide +kernel
theorem dX1_givesNoLess_15 : decode cX1_givesNoLess 15 = .ok (.iload_n 3, 1) := by decide +kernel
theorem dX1_givesNoLess_16 : decode cX1_givesNoLess 16 = .ok (.iadd, 1) := by decide +kernel
theorem dX1_givesNoLess_17 : decode cX1_givesNoLess 17 = .ok (.bipush 21, 2) := by decide +kernel
theorem dX1_givesNoLess_19 : decode cX1_givesNoLess 19 = .ok (.imul, 1) := by decide +kernel
theorem dX1_givesNoLess_20 : decode cX1_givesNoLess 20 = .ok (.istore 5, 2) := by decide +kernel
theorem dX1_givesNoLess_22 : decode cX1_givesNoLess 22 = .ok (.aload_n 0, 1) := by decide +kernel
theorem dX1_givesNoLess_23 : decode cX1_givesNoLess 23 = .ok (.getfield 30, 3) := by decide +kernel
theorem dX1_givesNoLess_26 : decode cX1_givesNoLess 26 = .ok (.getfield 41, 3) := by decide +kernel
theorem dX1_givesNoLess_29 : decode cX1_givesNoLess 29 = .ok (.iload_n 1, 1) := by decide +kernel
theorem dX1_givesNoLess_30 : decode cX1_givesNoLess 30 = .ok (.iaload, 1) := by decide +kernel
theorem dX1_givesNoLess_31 : decode cX1_givesNoLess 31 = .ok (.istore 6, 2) := by decide +kernel
theorem dX1_givesNoLess_33 : decode cX1_givesNoLess 33 = .ok (.iconst 0, 1) := by decide +kernel
theorem dX1_givesNoLess_34 : decode cX1_givesNoLess 34 = .ok (.istore 7, 2) := by decide +kernel
theorem dX1_givesNoLess_36 : decode cX1_givesNoLess 36 = .ok (.iload 7, 2) := by decide +kernel
theorem dX1_givesNoLess_38 : decode cX1_givesNoLess 38 = .ok (.aload_n 0, 1) := by decide +kernel
theorem dX1_givesNoLess_39 : decode cX1_givesNoLess 39 = .ok (.getfield 21, 3) := by decide +kernel
theorem dX1_givesNoLess_42 : decode cX1_givesNoLess 42 = .ok (.aload_n 0, 1) := by decide +kernel
theorem dX1_givesNoLess_43 : decode cX1_givesNoLess 43 = .ok (.getfield 30, 3) := by decide +kernel
theorem dX1_givesNoLess_46 : decode cX1_givesNoLess 46 = .ok (.getfield 54, 3) := by decide +kernel
theorem dX1_givesNoLess_49 : decode cX1_givesNoLess 49 = .ok (.iaload, 1) := by decide +kernel
theorem dX1_givesNoLess_50 : decode cX1_givesNoLess 50 = .ok (.if_icmp .ge 69, 3) := by decide +kernel
theorem dX1_givesNoLess_53 : decode cX1_givesNoLess 53 = .ok (.aload_n 0, 1) := by decide +kernel
theorem dX1_givesNoLess_54 : decode cX1_givesNoLess 54 = .ok (.getfield 18, 3) := by decide +kernel
theorem dX1_givesNoLess_57 : decode cX1_givesNoLess 57 = .ok (.iload 7, 2) := by decide +kernel
theorem dX1_givesNoLess_59 : decode cX1_givesNoLess 59 = .ok (.iconst 3, 1) := by decide +kernel
theorem dX1_givesNoLess_60 : decode cX1_givesNoLess 60 = .ok (.imul, 1) := by decide +kernel
theorem dX1_givesNoLess_61 : decode cX1_givesNoLess 61 = .ok (.iload_n 1, 1) := by decide +kernel
theorem dX1_givesNoLess_62 : decode cX1_givesNoLess 62 = .ok (.iadd, 1) := by decide +kernel
theorem dX1_givesNoLess_63 : decode cX1_givesNoLess 63 = .ok (.iaload, 1) := by decide +kernel
theorem dX1_givesNoLess_64 : decode cX1_givesNoLess 64 = .ok (.istore 8, 2) := by decide +kernel
theorem dX1_givesNoLess_66 : decode cX1_givesNoLess 66 = .ok (.aload_n 0, 1) := by decide +kernel
theorem dX1_givesNoLess_67 : decode cX1_givesNoLess 67 = .ok (.getfield 15, 3) := by decide +kernel
theorem dX1_givesNoLess_70 : decode cX1_givesNoLess 70 = .ok (.iload 4, 2) := by decide +kernel
theorem dX1_givesNoLess_72 : decode cX1_givesNoLess 72 = .ok (.iload 8, 2) := by decide +kernel
theorem dX1_givesNoLess_74 : decode cX1_givesNoLess 74 = .ok (.iadd, 1) := by decide +kernel
theorem dX1_givesNoLess_75 : decode cX1_givesNoLess 75 = .ok (.iaload, 1) := by decide +kernel
theorem dX1_givesNoLess_76 : decode cX1_givesNoLess 76 = .ok (.aload_n 0, 1) := by decide +kernel
theorem dX1_givesNoLess_77 : decode cX1_givesNoLess 77 = .ok (.getfield 15, 3) := by decide +kernel
theorem dX1_givesNoLess_80 : decode cX1_givesNoLess 80 = .ok (.iload 5, 2) := by decide +kernel
theorem dX1_givesNoLess_82 : decode cX1_givesNoLess 82 = .ok (.iload 6, 2) := by decide +kernel
theorem dX1_givesNoLess_84 : decode cX1_givesNoLess 84 = .ok (.iadd, 1) := by decide +kernel
theorem dX1_givesNoLess_85 : decode cX1_givesNoLess 85 = .ok (.iaload, 1) := by decide +kernel
theorem dX1_givesNoLess_86 : decode cX1_givesNoLess 86 = .ok (.imul, 1) := by decide +kernel
theorem dX1_givesNoLess_87 : decode cX1_givesNoLess 87 = .ok (.aload_n 0, 1) := by decide +kernel
theorem dX1_givesNoLess_88 : decode cX1_givesNoLess 88 = .ok (.getfield 15, 3) := by decide +kernel
theorem dX1_givesNoLess_91 : decode cX1_givesNoLess 91 = .ok (.iload 5, 2) := by decide +kernel
theorem dX1_givesNoLess_93 : decode cX1_givesNoLess 93 = .ok (.iload 8, 2) := by decide +kernel
theorem dX1_givesNoLess_95 : decode cX1_givesNoLess 95 = .ok (.iadd, 1) := by decide +kernel
theorem dX1_givesNoLess_96 : decode cX1_givesNoLess 96 = .ok (.iaload, 1) := by decide +kernel
theorem dX1_givesNoLess_97 : decode cX1_givesNoLess 97 = .ok (.aload_n 0, 1) := by decide +kernel
theorem dX1_givesNoLess_98 : decode cX1_givesNoLess 98 = .ok (.getfield 15, 3) := by decide +kernel
theorem dX1_givesNoLess_101 : decode cX1_givesNoLess 101 = .ok (.iload 4, 2) := by decide +kernel
theorem dX1_givesNoLess_103 : decode cX1_givesNoLess 103 = .ok (.iload 6, 2) := by decide +kernel
theorem dX1_givesNoLess_105 : decode cX1_givesNoLess 105 = .ok (.iadd, 1) := by decide +kernel
theorem dX1_givesNoLess_106 : decode cX1_givesNoLess 106 = .ok (.iaload, 1) := by decide +kernel
theorem dX1_givesNoLess_107 : decode cX1_givesNoLess 107 = .ok (.imul, 1) := by decide +kernel
theorem dX1_givesNoLess_108 : decode cX1_givesNoLess 108 = .ok (.if_icmp .ge 5, 3) := by decide +kernel
theorem dX1_givesNoLess_111 : decode cX1_givesNoLess 111 = .ok (.iconst 0, 1) := by decide +kernel
theorem dX1_givesNoLess_112 : decode cX1_givesNoLess 112 = .ok (.ireturn, 1) := by decide +kernel
theorem dX1_givesNoLess_113 : decode cX1_givesNoLess 113 = .ok (.iinc 7 1, 3) := by decide +kernel
theorem dX1_givesNoLess_116 : decode cX1_givesNoLess 116 = .ok (.goto (-80), 3) := by decide +kernel
theorem dX1_givesNoLess_119 : decode cX1_givesNoLess 119 = .ok (.iconst 1, 1) := by decide +kernel
theorem dX1_givesNoLess_120 : decode cX1_givesNoLess 120 = .ok (.ireturn, 1) := by decide +kernel
theorem dX1_keep_0 : decode cX1_keep 0 = .ok (.aload_n 0, 1) := by decide +kernel
theorem dX1_keep_1 : decode cX1_keep 1 = .ok (.getfield 9, 3) := by decide +kernel
theorem dX1_keep_4 : decode cX1_keep 4 = .ok (.iconst 0, 1) := by decide +kernel
theorem dX1_keep_5 : decode cX1_keep 5 = .ok (.iload_n 1, 1) := by decide +kernel
theorem dX1_keep_6 : decode cX1_keep 6 = .ok (.iastore, 1) := by decide +kernel
theorem dX1_keep_7 : decode cX1_keep 7 = .ok (.aload_n 0, 1) := by decide +kernel
theorem dX1_keep_8 : decode cX1_keep 8 = .ok (.getfield 9, 3) := by decide +kernel
theorem dX1_keep_11 : decode cX1_keep 11 = .ok (.iconst 1, 1) := by decide +kernel
theorem dX1_keep_12 : decode cX1_keep 12 = .ok (.iload_n 2, 1) := by decide +kernel
theorem dX1_keep_13 : decode cX1_keep 13 = .ok (.iastore, 1) := by decide +kernel
theorem dX1_keep_14 : decode cX1_keep 14 = .ok (.aload_n 0, 1) := by decide +kernel
theorem dX1_keep_15 : decode cX1_keep 15 = .ok (.getfield 9, 3) := by decide +kernel
theorem dX1_keep_18 : decode cX1_keep 18 = .ok (.iconst 2, 1) := by decide +kernel
theorem dX1_keep_19 : decode cX1_keep 19 = .ok (.iload_n 3, 1) := by decide +kernel
theorem dX1_keep_20 : decode cX1_keep 20 = .ok (.iastore, 1) := by decide +kernel
theorem dX1_keep_21 : decode cX1_keep 21 = .ok (.aload_n 0, 1) := by decide +kernel
theorem dX1_keep_22 : decode cX1_keep 22 = .ok (.getfield 9, 3) := by decide +kernel
theorem dX1_keep_25 : decode cX1_keep 25 = .ok (.iconst 3, 1) := by decide +kernel
theorem dX1_keep_26 : decode cX1_keep 26 = .ok (.iload 4, 2) := by decide +kernel
theorem dX1_keep_28 : decode cX1_keep 28 = .ok (.iastore, 1) := by decide +kernel
theorem dX1_keep_29 : decode cX1_keep 29 = .ok (.return_, 1) := by decide +kernel
theorem dX1_reason_0 : decode cX1_reason 0 = .ok (.aload_n 0, 1) := by decide +kernel
theorem dX1_reason_1 : decode cX1_reason 1 = .ok (.getfield 30, 3) := by decide +kernel
theorem dX1_reason_4 : decode cX1_reason 4 = .ok (.invokevirtual 107, 3) := by decide +kernel
theorem dX1_reason_7 : decode cX1_reason 7 = .ok (.istore_n 2, 1) := by decide +kernel
theorem dX1_reason_8 : decode cX1_reason 8 = .ok (.iconst 0, 1) := by decide +kernel
theorem dX1_reason_9 : decode cX1_reason 9 = .ok (.istore_n 3, 1) := by decide +kernel
theorem dX1_reason_10 : decode cX1_reason 10 = .ok (.iload_n 3, 1) := by decide +kernel
theorem dX1_reason_11 : decode cX1_reason 11 = .ok (.aload_n 0, 1) := by decide +kernel
theorem dX1_reason_12 : decode cX1_reason 12 = .ok (.getfield 30, 3) := by decide +kernel
theorem dX1_reason_15 : decode cX1_reason 15 = .ok (.getfield 54, 3) := by decide +kernel
theorem dX1_reason_18 : decode cX1_reason 18 = .ok (.if_icmp .ge 31, 3) := by decide +kernel
theorem dX1_reason_21 : decode cX1_reason 21 = .ok (.iload_n 2, 1) := by decide +kernel
theorem dX1_reason_22 : decode cX1_reason 22 = .ok (.iconst 1, 1) := by decide +kernel
theorem dX1_reason_23 : decode cX1_reason 23 = .ok (.iload_n 3, 1) := by decide +kernel
theorem dX1_reason_24 : decode cX1_reason 24 = .ok (.ishl, 1) := by decide +kernel
theorem dX1_reason_25 : decode cX1_reason 25 = .ok (.iconst (-1), 1) := by decide +kernel
theorem dX1_reason_26 : decode cX1_reason 26 = .ok (.ixor, 1) := by decide +kernel
theorem dX1_reason_27 : decode cX1_reason 27 = .ok (.iand, 1) := by decide +kernel
theorem dX1_reason_28 : decode cX1_reason 28 = .ok (.istore 4, 2) := by decide +kernel
theorem dX1_reason_30 : decode cX1_reason 30 = .ok (.aload_n 0, 1) := by decide +kernel
theorem dX1_reason_31 : decode cX1_reason 31 = .ok (.iload 4, 2) := by decide +kernel
theorem dX1_reason_33 : decode cX1_reason 33 = .ok (.iload_n 1, 1) := by decide +kernel
theorem dX1_reason_34 : decode cX1_reason 34 = .ok (.invokevirtual 111, 3) := by decide +kernel
theorem dX1_reason_37 : decode cX1_reason 37 = .ok (.ifCond .eq 6, 3) := by decide +kernel
theorem dX1_reason_40 : decode cX1_reason 40 = .ok (.iload 4, 2) := by decide +kernel
theorem dX1_reason_42 : decode cX1_reason 42 = .ok (.istore_n 2, 1) := by decide +kernel
theorem dX1_reason_43 : decode cX1_reason 43 = .ok (.iinc 3 1, 3) := by decide +kernel
theorem dX1_reason_46 : decode cX1_reason 46 = .ok (.goto (-36), 3) := by decide +kernel
theorem dX1_reason_49 : decode cX1_reason 49 = .ok (.iload_n 2, 1) := by decide +kernel
theorem dX1_reason_50 : decode cX1_reason 50 = .ok (.ireturn, 1) := by decide +kernel
