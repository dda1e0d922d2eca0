theorem dX6_init_0 : decode cX6_init 0 = .ok (.aload_n 0, 1) := by decide +kernel
theorem dX6_init_1 : decode cX6_init 1 = .ok (.invokespecial 1, 3) := by decide +kernel
theorem dX6_init_4 : decode cX6_init 4 = .ok (.aload_n 0, 1) := by decide +kernel
theorem dX6_init_5 : decode cX6_init 5 = .ok (.iconst 3, 1) := by decide +kernel
theorem dX6_init_6 : decode cX6_init 6 = .ok (.newarray .int, 2) := by decide +kernel
theorem dX6_init_8 : decode cX6_init 8 = .ok (.dup, 1) := by decide +kernel
theorem dX6_init_9 : decode cX6_init 9 = .ok (.iconst 0, 1) := by decide +kernel
theorem dX6_init_10 : decode cX6_init 10 = .ok (.bipush 10, 2) := by decide +kernel
theorem dX6_init_12 : decode cX6_init 12 = .ok (.iastore, 1) := by decide +kernel
theorem dX6_init_13 : decode cX6_init 13 = .ok (.dup, 1) := by decide +kernel
theorem dX6_init_14 : decode cX6_init 14 = .ok (.iconst 1, 1) := by decide +kernel
theorem dX6_init_15 : decode cX6_init 15 = .ok (.bipush 10, 2) := by decide +kernel
theorem dX6_init_17 : decode cX6_init 17 = .ok (.iastore, 1) := by decide +kernel
theorem dX6_init_18 : decode cX6_init 18 = .ok (.dup, 1) := by decide +kernel
theorem dX6_init_19 : decode cX6_init 19 = .ok (.iconst 2, 1) := by decide +kernel
theorem dX6_init_20 : decode cX6_init 20 = .ok (.bipush 10, 2) := by decide +kernel
theorem dX6_init_22 : decode cX6_init 22 = .ok (.iastore, 1) := by decide +kernel
theorem dX6_init_23 : decode cX6_init 23 = .ok (.putfield 7, 3) := by decide +kernel
theorem dX6_init_26 : decode cX6_init 26 = .ok (.aload_n 0, 1) := by decide +kernel
theorem dX6_init_27 : decode cX6_init 27 = .ok (.bipush 24, 2) := by decide +kernel
theorem dX6_init_29 : decode cX6_init 29 = .ok (.newarray .int, 2) := by decide +kernel
theorem dX6_init_31 : decode cX6_init 31 = .ok (.putfield 13, 3) := by decide +kernel
theorem dX6_init_34 : decode cX6_init 34 = .ok (.aload_n 0, 1) := by decide +kernel
theorem dX6_init_35 : decode cX6_init 35 = .ok (.bipush 8, 2) := by decide +kernel
theorem dX6_init_37 : decode cX6_init 37 = .ok (.newarray .int, 2) := by decide +kernel
theorem dX6_init_39 : decode cX6_init 39 = .ok (.putfield 16, 3) := by decide +kernel
theorem dX6_init_42 : decode cX6_init 42 = .ok (.aload_n 0, 1) := by decide +kernel
theorem dX6_init_43 : decode cX6_init 43 = .ok (.bipush 8, 2) := by decide +kernel
theorem dX6_init_45 : decode cX6_init 45 = .ok (.newarray .int, 2) := by decide +kernel
theorem dX6_init_47 : decode cX6_init 47 = .ok (.putfield 19, 3) := by decide +kernel
theorem dX6_init_50 : decode cX6_init 50 = .ok (.aload_n 0, 1) := by decide +kernel
theorem dX6_init_51 : decode cX6_init 51 = .ok (.bipush 8, 2) := by decide +kernel
theorem dX6_init_53 : decode cX6_init 53 = .ok (.newarray .int, 2) := by decide +kernel
theorem dX6_init_55 : decode cX6_init 55 = .ok (.putfield 22, 3) := by decide +kernel
theorem dX6_init_58 : decode cX6_init 58 = .ok (.aload_n 0, 1) := by decide +kernel
theorem dX6_init_59 : decode cX6_init 59 = .ok (.bipush 24, 2) := by decide +kernel
theorem dX6_init_61 : decode cX6_init 61 = .ok (.newarray .int, 2) := by decide +kernel
theorem dX6_init_63 : decode cX6_init 63 = .ok (.putfield 25, 3) := by decide +kernel
theorem dX6_init_66 : decode cX6_init 66 = .ok (.aload_n 0, 1) := by decide +kernel
theorem dX6_init_67 : decode cX6_init 67 = .ok (.bipush 8, 2) := by decide +kernel
theorem dX6_init_69 : decode cX6_init 69 = .ok (.newarray .int, 2) := by decide +kernel
theorem dX6_init_71 : decode cX6_init 71 = .ok (.putfield 28, 3) := by decide +kernel
theorem dX6_init_74 : decode cX6_init 74 = .ok (.aload_n 0, 1) := by decide +kernel
theorem dX6_init_75 : decode cX6_init 75 = .ok (.bipush 8, 2) := by decide +kernel
theorem dX6_init_77 : decode cX6_init 77 = .ok (.newarray .int, 2) := by decide +kernel
theorem dX6_init_79 : decode cX6_init 79 = .ok (.putfield 31, 3) := by decide +kernel
theorem dX6_init_82 : decode cX6_init 82 = .ok (.aload_n 0, 1) := by decide +kernel
theorem dX6_init_83 : decode cX6_init 83 = .ok (.bipush 8, 2) := by decide +kernel
theorem dX6_init_85 : decode cX6_init 85 = .ok (.newarray .int, 2) := by decide +kernel
theorem dX6_init_87 : decode cX6_init 87 = .ok (.putfield 34, 3) := by decide +kernel
theorem dX6_init_90 : decode cX6_init 90 = .ok (.aload_n 0, 1) := by decide +kernel
theorem dX6_init_91 : decode cX6_init 91 = .ok (.bipush 24, 2) := by decide +kernel
theorem dX6_init_93 : decode cX6_init 93 = .ok (.newarray .int, 2) := by decide +kernel
theorem dX6_init_95 : decode cX6_init 95 = .ok (.putfield 37, 3) := by decide +kernel
theorem dX6_init_98 : decode cX6_init 98 = .ok (.aload_n 0, 1) := by decide +kernel
theorem dX6_init_99 : decode cX6_init 99 = .ok (.sipush 3408, 3) := by decide +kernel
theorem dX6_init_102 : decode cX6_init 102 = .ok (.newarray .boolean, 2) := by decide +kernel
theorem dX6_init_104 : decode cX6_init 104 = .ok (.putfield 40, 3) := by decide +kernel
theorem dX6_init_107 : decode cX6_init 107 = .ok (.aload_n 0, 1) := by decide +kernel
theorem dX6_init_108 : decode cX6_init 108 = .ok (.sipush 144, 3) := by decide +kernel
theorem dX6_init_111 : decode cX6_init 111 = .ok (.newarray .int, 2) := by decide +kernel
theorem dX6_init_113 : decode cX6_init 113 = .ok (.putfield 44, 3) := by decide +kernel
theorem dX6_init_116 : decode cX6_init 116 = .ok (.aload_n 0, 1) := by decide +kernel
theorem dX6_init_117 : decode cX6_init 117 = .ok (.bipush 48, 2) := by decide +kernel
theorem dX6_init_119 : decode cX6_init 119 = .ok (.newarray .int, 2) := by decide +kernel
theorem dX6_init_121 : decode cX6_init 121 = .ok (.putfield 47, 3) := by decide +kernel
theorem dX6_init_124 : decode cX6_init 124 = .ok (.aload_n 0, 1) := by decide +kernel
theorem dX6_init_125 : decode cX6_init 125 = .ok (.bipush 20, 2) := by decide +kernel
theorem dX6_init_127 : decode cX6_init 127 = .ok (.newarray .int, 2) := by decide +kernel
theorem dX6_init_129 : decode cX6_init 129 = .ok (.putfield 50, 3) := by decide +kernel
theorem dX6_init_132 : decode cX6_init 132 = .ok (.aload_n 0, 1) := by decide +kernel
theorem dX6_init_133 : decode cX6_init 133 = .ok (.bipush 20, 2) := by decide +kernel
theorem dX6_init_135 : decode cX6_init 135 = .ok (.newarray .int, 2) := by decide +kernel
theorem dX6_init_137 : decode cX6_init 137 = .ok (.putfield 53, 3) := by decide +kernel
theorem dX6_init_140 : decode cX6_init 140 = .ok (.aload_n 0, 1) := by decide +kernel
theorem dX6_init_141 : decode cX6_init 141 = .ok (.bipush 20, 2) := by decide +kernel
theorem dX6_init_143 : decode cX6_init 143 = .ok (.newarray .int, 2) := by decide +kernel
theorem dX6_init_145 : decode cX6_init 145 = .ok (.putfield 56, 3) := by decide +kernel
theorem dX6_init_148 : decode cX6_init 148 = .ok (.aload_n 0, 1) := by decide +kernel
theorem dX6_init_149 : decode cX6_init 149 = .ok (.bipush 20, 2) := by decide +kernel
theorem dX6_init_151 : decode cX6_init 151 = .ok (.newarray .int, 2) := by decide +kernel
theorem dX6_init_153 : decode cX6_init 153 = .ok (.putfield 59, 3) := by decide +kernel
theorem dX6_init_156 : decode cX6_init 156 = .ok (.aload_n 0, 1) := by decide +kernel
theorem dX6_init_157 : decode cX6_init 157 = .ok (.bipush 20, 2) := by decide +kernel
theorem dX6_init_159 : decode cX6_init 159 = .ok (.newarray .int, 2) := by decide +kernel
theorem dX6_init_161 : decode cX6_init 161 = .ok (.putfield 62, 3) := by decide +kernel
theorem dX6_init_164 : decode cX6_init 164 = .ok (.aload_n 0, 1) := by decide +kernel
theorem dX6_init_165 : decode cX6_init 165 = .ok (.bipush 20, 2) := by decide +kernel
theorem dX6_init_167 : decode cX6_init 167 = .ok (.newarray .int, 2) := by decide +kernel
theorem dX6_init_169 : decode cX6_init 169 = .ok (.putfield 65, 3) := by decide +kernel
theorem dX6_init_172 : decode cX6_init 172 = .ok (.aload_n 0, 1) := by decide +kernel
theorem dX6_init_173 : decode cX6_init 173 = .ok (.bipush 20, 2) := by decide +kernel
theorem dX6_init_175 : decode cX6_init 175 = .ok (.newarray .int, 2) := by decide +kernel
theorem dX6_init_177 : decode cX6_init 177 = .ok (.putfield 68, 3) := by decide +kernel
theorem dX6_init_180 : decode cX6_init 180 = .ok (.aload_n 0, 1) := by decide +kernel
theorem dX6_init_181 : decode cX6_init 181 = .ok (.iconst 4, 1) := by decide +kernel
theorem dX6_init_182 : decode cX6_init 182 = .ok (.newarray .int, 2) := by decide +kernel
theorem dX6_init_184 : decode cX6_init 184 = .ok (.putfield 71, 3) := by decide +kernel
theorem dX6_init_187 : decode cX6_init 187 = .ok (.aload_n 0, 1) := by decide +kernel
theorem dX6_init_188 : decode cX6_init 188 = .ok (.invokevirtual 74, 3) := by decide +kernel
theorem dX6_init_191 : decode cX6_init 191 = .ok (.return_, 1) := by decide +kernel
theorem dX6_sideOf_0 : decode cX6_sideOf 0 = .ok (.iload_n 0, 1) := by decide +kernel
theorem dX6_sideOf_1 : decode cX6_sideOf 1 = .ok (.ifCond .ne 8, 3) := by decide +kernel
theorem dX6_sideOf_4 : decode cX6_sideOf 4 = .ok (.bipush 12, 2) := by decide +kernel
theorem dX6_sideOf_6 : decode cX6_sideOf 6 = .ok (.goto 47, 3) := by decide +kernel
theorem dX6_sideOf_9 : decode cX6_sideOf 9 = .ok (.iload_n 0, 1) := by decide +kernel
theorem dX6_sideOf_10 : decode cX6_sideOf 10 = .ok (.iconst 1, 1) := by decide +kernel
theorem dX6_sideOf_11 : decode cX6_sideOf 11 = .ok (.if_icmp .ne 8, 3) := by decide +kernel
theorem dX6_sideOf_14 : decode cX6_sideOf 14 = .ok (.bipush 21, 2) := by decide +kernel
theorem dX6_sideOf_16 : decode cX6_sideOf 16 = .ok (.goto 37, 3) := by decide +kernel
theorem dX6_sideOf_19 : decode cX6_sideOf 19 = .ok (.iload_n 0, 1) := by decide +kernel
theorem dX6_sideOf_20 : decode cX6_sideOf 20 = .ok (.iconst 2, 1) := by decide +kernel
theorem dX6_sideOf_21 : decode cX6_sideOf 21 = .ok (.if_icmp .ne 8, 3) := by decide +kernel
theorem dX6_sideOf_24 : decode cX6_sideOf 24 = .ok (.bipush 102, 2) := by decide +kernel
theorem dX6_sideOf_26 : decode cX6_sideOf 26 = .ok (.goto 27, 3) := by decide +kernel
theorem dX6_sideOf_29 : decode cX6_sideOf 29 = .ok (.iload_n 0, 1) := by decide +kernel
theorem dX6_sideOf_30 : decode cX6_sideOf 30 = .ok (.iconst 3, 1) := by decide +kernel
theorem dX6_sideOf_31 : decode cX6_sideOf 31 = .ok (.if_icmp .ne 8, 3) := by decide +kernel
theorem dX6_sideOf_34 : decode cX6_sideOf 34 = .ok (.bipush 120, 2) := by decide +kernel
theorem dX6_sideOf_36 : decode cX6_sideOf 36 = .ok (.goto 17, 3) := by decide +kernel
theorem dX6_sideOf_39 : decode cX6_sideOf 39 = .ok (.iload_n 0, 1) := by decide +kernel
theorem dX6_sideOf_40 : decode cX6_sideOf 40 = .ok (.iconst 4, 1) := by decide +kernel
theorem dX6_sideOf_41 : decode cX6_sideOf 41 = .ok (.if_icmp .ne 9, 3) := by decide +kernel
theorem dX6_sideOf_44 : decode cX6_sideOf 44 = .ok (.sipush 201, 3) := by decide +kernel
theorem dX6_sideOf_47 : decode cX6_sideOf 47 = .ok (.goto 6, 3) := by decide +kernel
theorem dX6_sideOf_50 : decode cX6_sideOf 50 = .ok (.sipush 210, 3) := by decide +kernel
theorem dX6_sideOf_53 : decode cX6_sideOf 53 = .ok (.istore_n 2, 1) := by decide +kernel
theorem dX6_sideOf_54 : decode cX6_sideOf 54 = .ok (.iload_n 1, 1) := by decide +kernel
theorem dX6_sideOf_55 : decode cX6_sideOf 55 = .ok (.ifCond .ne 10, 3) := by decide +kernel
theorem dX6_sideOf_58 : decode cX6_sideOf 58 = .ok (.iload_n 2, 1) := by decide +kernel
theorem dX6_sideOf_59 : decode cX6_sideOf 59 = .ok (.bipush 100, 2) := by decide +kernel
theorem dX6_sideOf_61 : decode cX6_sideOf 61 = .ok (.idiv, 1) := by decide +kernel
theorem dX6_sideOf_62 : decode cX6_sideOf 62 = .ok (.goto 22, 3) := by decide +kernel
theorem dX6_sideOf_65 : decode cX6_sideOf 65 = .ok (.iload_n 1, 1) := by decide +kernel
theorem dX6_sideOf_66 : decode cX6_sideOf 66 = .ok (.iconst 1, 1) := by decide +kernel
theorem dX6_sideOf_67 : decode cX6_sideOf 67 = .ok (.if_icmp .ne 13, 3) := by decide +kernel
theorem dX6_sideOf_70 : decode cX6_sideOf 70 = .ok (.iload_n 2, 1) := by decide +kernel
theorem dX6_sideOf_71 : decode cX6_sideOf 71 = .ok (.bipush 10, 2) := by decide +kernel
theorem dX6_sideOf_73 : decode cX6_sideOf 73 = .ok (.idiv, 1) := by decide +kernel
theorem dX6_sideOf_74 : decode cX6_sideOf 74 = .ok (.bipush 10, 2) := by decide +kernel
theorem dX6_sideOf_76 : decode cX6_sideOf 76 = .ok (.irem, 1) := by decide +kernel
theorem dX6_sideOf_77 : decode cX6_sideOf 77 = .ok (.goto 7, 3) := by decide +kernel
theorem dX6_sideOf_80 : decode cX6_sideOf 80 = .ok (.iload_n 2, 1) := by decide +kernel
theorem dX6_sideOf_81 : decode cX6_sideOf 81 = .ok (.bipush 10, 2) := by decide +kernel
theorem dX6_sideOf_83 : decode cX6_sideOf 83 = .ok (.irem, 1) := by decide +kernel
theorem dX6_sideOf_84 : decode cX6_sideOf 84 = .ok (.ireturn, 1) := by decide +kernel
theorem dX6_extent_0 : decode cX6_extent 0 = .ok (.aload_n 0, 1) := by decide +kernel
theorem dX6_extent_1 : decode cX6_extent 1 = .ok (.getfield 13, 3) := by decide +kernel
theorem dX6_extent_4 : decode cX6_extent 4 = .ok (.iconst 3, 1) := by decide +kernel
theorem dX6_extent_5 : decode cX6_extent 5 = .ok (.iload_n 1, 1) := by decide +kernel
theorem dX6_extent_6 : decode cX6_extent 6 = .ok (.imul, 1) := by decide +kernel
theorem dX6_extent_7 : decode cX6_extent 7 = .ok (.iload_n 2, 1) := by decide +kernel
theorem dX6_extent_8 : decode cX6_extent 8 = .ok (.iload_n 3, 1) := by decide +kernel
theorem dX6_extent_9 : decode cX6_extent 9 = .ok (.invokestatic 77, 3) := by decide +kernel
theorem dX6_extent_12 : decode cX6_extent 12 = .ok (.iadd, 1) := by decide +kernel
theorem dX6_extent_13 : decode cX6_extent 13 = .ok (.iaload, 1) := by decide +kernel
theorem dX6_extent_14 : decode cX6_extent 14 = .ok (.ireturn, 1) := by decide +kernel
theorem dX6_has_0 : decode cX6_has 0 = .ok (.aload_n 0, 1) := by decide +kernel
theorem dX6_has_1 : decode cX6_has 1 = .ok (.getfield 19, 3) := by decide +kernel
theorem dX6_has_4 : decode cX6_has 4 = .ok (.iload_n 1, 1) := by decide +kernel
theorem dX6_has_5 : decode cX6_has 5 = .ok (.iaload, 1) := by decide +kernel
theorem dX6_has_6 : decode cX6_has 6 = .ok (.iload_n 2, 1) := by decide +kernel
theorem dX6_has_7 : decode cX6_has 7 = .ok (.ishr, 1) := by decide +kernel
theorem dX6_has_8 : decode cX6_has 8 = .ok (.iconst 1, 1) := by decide +kernel
theorem dX6_has_9 : decode cX6_has 9 = .ok (.iand, 1) := by decide +kernel
theorem dX6_has_10 : decode cX6_has 10 = .ok (.iconst 1, 1) := by decide +kernel
theorem dX6_has_11 : decode cX6_has 11 = .ok (.if_icmp .ne 7, 3) := by decide +kernel
theorem dX6_has_14 : decode cX6_has 14 = .ok (.iconst 1, 1) := by decide +kernel
theorem dX6_has_15 : decode cX6_has 15 = .ok (.goto 4, 3) := by decide +kernel
theorem dX6_has_18 : decode cX6_has 18 = .ok (.iconst 0, 1) := by decide +kernel
theorem dX6_has_19 : decode cX6_has 19 = .ok (.ireturn, 1) := by decide +kernel
theorem dX6_anew_0 : decode cX6_anew 0 = .ok (.aload_n 0, 1) := by decide +kernel
theorem dX6_anew_1 : decode cX6_anew 1 = .ok (.aload_n 0, 1) := by decide +kernel
theorem dX6_anew_2 : decode cX6_anew 2 = .ok (.getfield 81, 3) := by decide +kernel
theorem dX6_anew_5 : decode cX6_anew 5 = .ok (.ifCond .ne 7, 3) := by decide +kernel
theorem dX6_anew_8 : decode cX6_anew 8 = .ok (.iconst 1, 1) := by decide +kernel
theorem dX6_anew_9 : decode cX6_anew 9 = .ok (.goto 4, 3) := by decide +kernel
theorem dX6_anew_12 : decode cX6_anew 12 = .ok (.iconst 0, 1) := by decide +kernel
theorem dX6_anew_13 : decode cX6_anew 13 = .ok (.putfield 85, 3) := by decide +kernel
theorem dX6_anew_16 : decode cX6_anew 16 = .ok (.aload_n 0, 1) := by decide +kernel
theorem dX6_anew_17 : decode cX6_anew 17 = .ok (.iconst 0, 1) := by decide +kernel
theorem dX6_anew_18 : decode cX6_anew 18 = .ok (.putfield 88, 3) := by decide +kernel
theorem dX6_anew_21 : decode cX6_anew 21 = .ok (.aload_n 0, 1) := by decide +kernel
theorem dX6_anew_22 : decode cX6_anew 22 = .ok (.lconst 0, 1) := by decide +kernel
theorem dX6_anew_23 : decode cX6_anew 23 = .ok (.putfield 91, 3) := by decide +kernel
theorem dX6_anew_26 : decode cX6_anew 26 = .ok (.iconst 0, 1) := by decide +kernel
theorem dX6_anew_27 : decode cX6_anew 27 = .ok (.istore_n 1, 1) := by decide +kernel
theorem dX6_anew_28 : decode cX6_anew 28 = .ok (.iload_n 1, 1) := by decide +kernel
theorem dX6_anew_29 : decode cX6_anew 29 = .ok (.bipush 8, 2) := by decide +kernel
theorem dX6_anew_31 : decode cX6_anew 31 = .ok (.if_icmp .ge 30, 3) := by decide +kernel
theorem dX6_anew_34 : decode cX6_anew 34 = .ok (.aload_n 0, 1) := by decide +kernel
theorem dX6_anew_35 : decode cX6_anew 35 = .ok (.getfield 22, 3) := by decide +kernel
theorem dX6_anew_38 : decode cX6_anew 38 = .ok (.iload_n 1, 1) := by decide +kernel
theorem dX6_anew_39 : decode cX6_anew 39 = .ok (.iconst 0, 1) := by decide +kernel
theorem dX6_anew_40 : decode cX6_anew 40 = .ok (.iastore, 1) := by decide +kernel
theorem dX6_anew_41 : decode cX6_anew 41 = .ok (.aload_n 0, 1) := by decide +kernel
theorem dX6_anew_42 : decode cX6_anew 42 = .ok (.getfield 31, 3) := by decide +kernel
theorem dX6_anew_45 : decode cX6_anew 45 = .ok (.iload_n 1, 1) := by decide +kernel
theorem dX6_anew_46 : decode cX6_anew 46 = .ok (.iconst 0, 1) := by decide +kernel
theorem dX6_anew_47 : decode cX6_anew 47 = .ok (.iastore, 1) := by decide +kernel
theorem dX6_anew_48 : decode cX6_anew 48 = .ok (.aload_n 0, 1) := by decide +kernel
theorem dX6_anew_49 : decode cX6_anew 49 = .ok (.getfield 28, 3) := by decide +kernel
theorem dX6_anew_52 : decode cX6_anew 52 = .ok (.iload_n 1, 1) := by decide +kernel
theorem dX6_anew_53 : decode cX6_anew 53 = .ok (.iload_n 1, 1) := by decide +kernel
theorem dX6_anew_54 : decode cX6_anew 54 = .ok (.iastore, 1) := by decide +kernel
theorem dX6_anew_55 : decode cX6_anew 55 = .ok (.iinc 1 1, 3) := by decide +kernel
theorem dX6_anew_58 : decode cX6_anew 58 = .ok (.goto (-30), 3) := by decide +kernel
theorem dX6_anew_61 : decode cX6_anew 61 = .ok (.iconst 0, 1) := by decide +kernel
theorem dX6_anew_62 : decode cX6_anew 62 = .ok (.istore_n 1, 1) := by decide +kernel
theorem dX6_anew_63 : decode cX6_anew 63 = .ok (.iload_n 1, 1) := by decide +kernel
theorem dX6_anew_64 : decode cX6_anew 64 = .ok (.aload_n 0, 1) := by decide +kernel
theorem dX6_anew_65 : decode cX6_anew 65 = .ok (.getfield 81, 3) := by decide +kernel
theorem dX6_anew_68 : decode cX6_anew 68 = .ok (.if_icmp .ge 76, 3) := by decide +kernel
theorem dX6_anew_71 : decode cX6_anew 71 = .ok (.iload_n 1, 1) := by decide +kernel
theorem dX6_anew_72 : decode cX6_anew 72 = .ok (.istore_n 2, 1) := by decide +kernel
theorem dX6_anew_73 : decode cX6_anew 73 = .ok (.iload_n 2, 1) := by decide +kernel
theorem dX6_anew_74 : decode cX6_anew 74 = .ok (.ifCond .le 64, 3) := by decide +kernel
theorem dX6_anew_77 : decode cX6_anew 77 = .ok (.aload_n 0, 1) := by decide +kernel
theorem dX6_anew_78 : decode cX6_anew 78 = .ok (.aload_n 0, 1) := by decide +kernel
theorem dX6_anew_79 : decode cX6_anew 79 = .ok (.getfield 28, 3) := by decide +kernel
theorem dX6_anew_82 : decode cX6_anew 82 = .ok (.iload_n 2, 1) := by decide +kernel
theorem dX6_anew_83 : decode cX6_anew 83 = .ok (.iaload, 1) := by decide +kernel
theorem dX6_anew_84 : decode cX6_anew 84 = .ok (.invokevirtual 95, 3) := by decide +kernel
theorem dX6_anew_87 : decode cX6_anew 87 = .ok (.aload_n 0, 1) := by decide +kernel
theorem dX6_anew_88 : decode cX6_anew 88 = .ok (.aload_n 0, 1) := by decide +kernel
theorem dX6_anew_89 : decode cX6_anew 89 = .ok (.getfield 28, 3) := by decide +kernel
theorem dX6_anew_92 : decode cX6_anew 92 = .ok (.iload_n 2, 1) := by decide +kernel
theorem dX6_anew_93 : decode cX6_anew 93 = .ok (.iconst 1, 1) := by decide +kernel
theorem dX6_anew_94 : decode cX6_anew 94 = .ok (.isub, 1) := by decide +kernel
theorem dX6_anew_95 : decode cX6_anew 95 = .ok (.iaload, 1) := by decide +kernel
theorem dX6_anew_96 : decode cX6_anew 96 = .ok (.invokevirtual 95, 3) := by decide +kernel
theorem dX6_anew_99 : decode cX6_anew 99 = .ok (.if_icmp .le 39, 3) := by decide +kernel
theorem dX6_anew_102 : decode cX6_anew 102 = .ok (.aload_n 0, 1) := by decide +kernel
theorem dX6_anew_103 : decode cX6_anew 103 = .ok (.getfield 28, 3) := by decide +kernel
theorem dX6_anew_106 : decode cX6_anew 106 = .ok (.iload_n 2, 1) := by decide +kernel
theorem dX6_anew_107 : decode cX6_anew 107 = .ok (.iaload, 1) := by decide +kernel
theorem dX6_anew_108 : decode cX6_anew 108 = .ok (.istore_n 3, 1) := by decide +kernel
theorem dX6_anew_109 : decode cX6_anew 109 = .ok (.aload_n 0, 1) := by decide +kernel
theorem dX6_anew_110 : decode cX6_anew 110 = .ok (.getfield 28, 3) := by decide +kernel
theorem dX6_anew_113 : decode cX6_anew 113 = .ok (.iload_n 2, 1) := by decide +kernel
theorem dX6_anew_114 : decode cX6_anew 114 = .ok (.aload_n 0, 1) := by decide +kernel
theorem dX6_anew_115 : decode cX6_anew 115 = .ok (.getfield 28, 3) := by decide +kernel
theorem dX6_anew_118 : decode cX6_anew 118 = .ok (.iload_n 2, 1) := by decide +kernel
theorem dX6_anew_119 : decode cX6_anew 119 = .ok (.iconst 1, 1) := by decide +kernel
theorem dX6_anew_120 : decode cX6_anew 120 = .ok (.isub, 1) := by decide +kernel
theorem dX6_anew_121 : decode cX6_anew 121 = .ok (.iaload, 1) := by decide +kernel
theorem dX6_anew_122 : decode cX6_anew 122 = .ok (.iastore, 1) := by decide +kernel
theorem dX6_anew_123 : decode cX6_anew 123 = .ok (.aload_n 0, 1) := by decide +kernel
theorem dX6_anew_124 : decode cX6_anew 124 = .ok (.getfield 28, 3) := by decide +kernel
theorem dX6_anew_127 : decode cX6_anew 127 = .ok (.iload_n 2, 1) := by decide +kernel
theorem dX6_anew_128 : decode cX6_anew 128 = .ok (.iconst 1, 1) := by decide +kernel
theorem dX6_anew_129 : decode cX6_anew 129 = .ok (.isub, 1) := by decide +kernel
theorem dX6_anew_130 : decode cX6_anew 130 = .ok (.iload_n 3, 1) := by decide +kernel
theorem dX6_anew_131 : decode cX6_anew 131 = .ok (.iastore, 1) := by decide +kernel
theorem dX6_anew_132 : decode cX6_anew 132 = .ok (.iinc 2 (-1), 3) := by decide +kernel
theorem dX6_anew_135 : decode cX6_anew 135 = .ok (.goto (-62), 3) := by decide +kernel
theorem dX6_anew_138 : decode cX6_anew 138 = .ok (.iinc 1 1, 3) := by decide +kernel
theorem dX6_anew_141 : decode cX6_anew 141 = .ok (.goto (-78), 3) := by decide +kernel
theorem dX6_anew_144 : decode cX6_anew 144 = .ok (.iconst 0, 1) := by decide +kernel
theorem dX6_anew_145 : decode cX6_anew 145 = .ok (.istore_n 1, 1) := by decide +kernel
theorem dX6_anew_146 : decode cX6_anew 146 = .ok (.iload_n 1, 1) := by decide +kernel
theorem dX6_anew_147 : decode cX6_anew 147 = .ok (.aload_n 0, 1) := by decide +kernel
theorem dX6_anew_148 : decode cX6_anew 148 = .ok (.getfield 81, 3) := by decide +kernel
theorem dX6_anew_151 : decode cX6_anew 151 = .ok (.if_icmp .ge 125, 3) := by decide +kernel
theorem dX6_anew_154 : decode cX6_anew 154 = .ok (.iconst 0, 1) := by decide +kernel
theorem dX6_anew_155 : decode cX6_anew 155 = .ok (.istore_n 2, 1) := by decide +kernel
theorem dX6_anew_156 : decode cX6_anew 156 = .ok (.iload_n 2, 1) := by decide +kernel
theorem dX6_anew_157 : decode cX6_anew 157 = .ok (.iconst 3, 1) := by decide +kernel
theorem dX6_anew_158 : decode cX6_anew 158 = .ok (.if_icmp .ge 51, 3) := by decide +kernel
theorem dX6_anew_161 : decode cX6_anew 161 = .ok (.aload_n 0, 1) := by decide +kernel
theorem dX6_anew_162 : decode cX6_anew 162 = .ok (.iload_n 1, 1) := by decide +kernel
theorem dX6_anew_163 : decode cX6_anew 163 = .ok (.iload_n 2, 1) := by decide +kernel
theorem dX6_anew_164 : decode cX6_anew 164 = .ok (.invokevirtual 99, 3) := by decide +kernel
theorem dX6_anew_167 : decode cX6_anew 167 = .ok (.iconst 0, 1) := by decide +kernel
theorem dX6_anew_168 : decode cX6_anew 168 = .ok (.istore_n 3, 1) := by decide +kernel
theorem dX6_anew_169 : decode cX6_anew 169 = .ok (.iload_n 3, 1) := by decide +kernel
theorem dX6_anew_170 : decode cX6_anew 170 = .ok (.bipush 6, 2) := by decide +kernel
theorem dX6_anew_172 : decode cX6_anew 172 = .ok (.if_icmp .ge 31, 3) := by decide +kernel
theorem dX6_anew_175 : decode cX6_anew 175 = .ok (.aload_n 0, 1) := by decide +kernel
theorem dX6_anew_176 : decode cX6_anew 176 = .ok (.getfield 44, 3) := by decide +kernel
theorem dX6_anew_179 : decode cX6_anew 179 = .ok (.bipush 18, 2) := by decide +kernel
theorem dX6_anew_181 : decode cX6_anew 181 = .ok (.iload_n 1, 1) := by decide +kernel
theorem dX6_anew_182 : decode cX6_anew 182 = .ok (.imul, 1) := by decide +kernel
theorem dX6_anew_183 : decode cX6_anew 183 = .ok (.iconst 3, 1) := by decide +kernel
theorem dX6_anew_184 : decode cX6_anew 184 = .ok (.iload_n 3, 1) := by decide +kernel
theorem dX6_anew_185 : decode cX6_anew 185 = .ok (.imul, 1) := by decide +kernel
theorem dX6_anew_186 : decode cX6_anew 186 = .ok (.iadd, 1) := by decide +kernel
theorem dX6_anew_187 : decode cX6_anew 187 = .ok (.iload_n 2, 1) := by decide +kernel
theorem dX6_anew_188 : decode cX6_anew 188 = .ok (.iadd, 1) := by decide +kernel
theorem dX6_anew_189 : decode cX6_anew 189 = .ok (.aload_n 0, 1) := by decide +kernel
theorem dX6_anew_190 : decode cX6_anew 190 = .ok (.iload_n 1, 1) := by decide +kernel
theorem dX6_anew_191 : decode cX6_anew 191 = .ok (.iload_n 3, 1) := by decide +kernel
theorem dX6_anew_192 : decode cX6_anew 192 = .ok (.iload_n 2, 1) := by decide +kernel
theorem dX6_anew_193 : decode cX6_anew 193 = .ok (.invokevirtual 103, 3) := by decide +kernel
theorem dX6_anew_196 : decode cX6_anew 196 = .ok (.iastore, 1) := by decide +kernel
theorem dX6_anew_197 : decode cX6_anew 197 = .ok (.iinc 3 1, 3) := by decide +kernel
theorem dX6_anew_200 : decode cX6_anew 200 = .ok (.goto (-31), 3) := by decide +kernel
theorem dX6_anew_203 : decode cX6_anew 203 = .ok (.iinc 2 1, 3) := by decide +kernel
theorem dX6_anew_206 : decode cX6_anew 206 = .ok (.goto (-50), 3) := by decide +kernel
theorem dX6_anew_209 : decode cX6_anew 209 = .ok (.iconst 0, 1) := by decide +kernel
theorem dX6_anew_210 : decode cX6_anew 210 = .ok (.istore_n 2, 1) := by decide +kernel
theorem dX6_anew_211 : decode cX6_anew 211 = .ok (.iload_n 2, 1) := by decide +kernel
theorem dX6_anew_212 : decode cX6_anew 212 = .ok (.bipush 6, 2) := by decide +kernel
theorem dX6_anew_214 : decode cX6_anew 214 = .ok (.if_icmp .ge 56, 3) := by decide +kernel
theorem dX6_anew_217 : decode cX6_anew 217 = .ok (.aload_n 0, 1) := by decide +kernel
theorem dX6_anew_218 : decode cX6_anew 218 = .ok (.getfield 47, 3) := by decide +kernel
theorem dX6_anew_221 : decode cX6_anew 221 = .ok (.bipush 6, 2) := by decide +kernel
theorem dX6_anew_223 : decode cX6_anew 223 = .ok (.iload_n 1, 1) := by decide +kernel
theorem dX6_anew_224 : decode cX6_anew 224 = .ok (.imul, 1) := by decide +kernel
theorem dX6_anew_225 : decode cX6_anew 225 = .ok (.iload_n 2, 1) := by decide +kernel
theorem dX6_anew_226 : decode cX6_anew 226 = .ok (.iadd, 1) := by decide +kernel
theorem dX6_anew_227 : decode cX6_anew 227 = .ok (.aload_n 0, 1) := by decide +kernel
theorem dX6_anew_228 : decode cX6_anew 228 = .ok (.iload_n 1, 1) := by decide +kernel
theorem dX6_anew_229 : decode cX6_anew 229 = .ok (.iload_n 2, 1) := by decide +kernel
theorem dX6_anew_230 : decode cX6_anew 230 = .ok (.invokevirtual 107, 3) := by decide +kernel
theorem dX6_anew_233 : decode cX6_anew 233 = .ok (.ifCond .eq 29, 3) := by decide +kernel
theorem dX6_anew_236 : decode cX6_anew 236 = .ok (.aload_n 0, 1) := by decide +kernel
theorem dX6_anew_237 : decode cX6_anew 237 = .ok (.iload_n 1, 1) := by decide +kernel
theorem dX6_anew_238 : decode cX6_anew 238 = .ok (.iload_n 2, 1) := by decide +kernel
theorem dX6_anew_239 : decode cX6_anew 239 = .ok (.iconst 0, 1) := by decide +kernel
theorem dX6_anew_240 : decode cX6_anew 240 = .ok (.invokevirtual 111, 3) := by decide +kernel
theorem dX6_anew_243 : decode cX6_anew 243 = .ok (.aload_n 0, 1) := by decide +kernel
theorem dX6_anew_244 : decode cX6_anew 244 = .ok (.iload_n 1, 1) := by decide +kernel
theorem dX6_anew_245 : decode cX6_anew 245 = .ok (.iload_n 2, 1) := by decide +kernel
theorem dX6_anew_246 : decode cX6_anew 246 = .ok (.iconst 1, 1) := by decide +kernel
theorem dX6_anew_247 : decode cX6_anew 247 = .ok (.invokevirtual 111, 3) := by decide +kernel
theorem dX6_anew_250 : decode cX6_anew 250 = .ok (.imul, 1) := by decide +kernel
theorem dX6_anew_251 : decode cX6_anew 251 = .ok (.aload_n 0, 1) := by decide +kernel
theorem dX6_anew_252 : decode cX6_anew 252 = .ok (.iload_n 1, 1) := by decide +kernel
theorem dX6_anew_253 : decode cX6_anew 253 = .ok (.iload_n 2, 1) := by decide +kernel
theorem dX6_anew_254 : decode cX6_anew 254 = .ok (.iconst 2, 1) := by decide +kernel
theorem dX6_anew_255 : decode cX6_anew 255 = .ok (.invokevirtual 111, 3) := by decide +kernel
theorem dX6_anew_258 : decode cX6_anew 258 = .ok (.imul, 1) := by decide +kernel
theorem dX6_anew_259 : decode cX6_anew 259 = .ok (.goto 4, 3) := by decide +kernel
theorem dX6_anew_262 : decode cX6_anew 262 = .ok (.iconst 0, 1) := by decide +kernel
theorem dX6_anew_263 : decode cX6_anew 263 = .ok (.iastore, 1) := by decide +kernel
theorem dX6_anew_264 : decode cX6_anew 264 = .ok (.iinc 2 1, 3) := by decide +kernel
theorem dX6_anew_267 : decode cX6_anew 267 = .ok (.goto (-56), 3) := by decide +kernel
theorem dX6_anew_270 : decode cX6_anew 270 = .ok (.iinc 1 1, 3) := by decide +kernel
theorem dX6_anew_273 : decode cX6_anew 273 = .ok (.goto (-127), 3) := by decide +kernel
theorem dX6_anew_276 : decode cX6_anew 276 = .ok (.aload_n 0, 1) := by decide +kernel
theorem dX6_anew_277 : decode cX6_anew 277 = .ok (.iconst 0, 1) := by decide +kernel
theorem dX6_anew_278 : decode cX6_anew 278 = .ok (.putfield 114, 3) := by decide +kernel
theorem dX6_anew_281 : decode cX6_anew 281 = .ok (.return_, 1) := by decide +kernel
theorem dX6_volume_0 : decode cX6_volume 0 = .ok (.aload_n 0, 1) := by decide +kernel
theorem dX6_volume_1 : decode cX6_volume 1 = .ok (.getfield 13, 3) := by decide +kernel
theorem dX6_volume_4 : decode cX6_volume 4 = .ok (.iconst 3, 1) := by decide +kernel
theorem dX6_volume_5 : decode cX6_volume 5 = .ok (.iload_n 1, 1) := by decide +kernel
theorem dX6_volume_6 : decode cX6_volume 6 = .ok (.imul, 1) := by decide +kernel
theorem dX6_volume_7 : decode cX6_volume 7 = .ok (.iaload, 1) := by decide +kernel
theorem dX6_volume_8 : decode cX6_volume 8 = .ok (.aload_n 0, 1) := by decide +kernel
theorem dX6_volume_9 : decode cX6_volume 9 = .ok (.getfield 13, 3) := by decide +kernel
theorem dX6_volume_12 : decode cX6_volume 12 = .ok (.iconst 3, 1) := by decide +kernel
theorem dX6_volume_13 : decode cX6_volume 13 = .ok (.iload_n 1, 1) := by decide +kernel
theorem dX6_volume_14 : decode cX6_volume 14 = .ok (.imul, 1) := by decide +kernel
theorem dX6_volume_15 : decode cX6_volume 15 = .ok (.iconst 1, 1) := by decide +kernel
theorem dX6_volume_16 : decode cX6_volume 16 = .ok (.iadd, 1) := by decide +kernel
theorem dX6_volume_17 : decode cX6_volume 17 = .ok (.iaload, 1) := by decide +kernel
theorem dX6_volume_18 : decode cX6_volume 18 = .ok (.imul, 1) := by decide +kernel
theorem dX6_volume_19 : decode cX6_volume 19 = .ok (.aload_n 0, 1) := by decide +kernel
theorem dX6_volume_20 : decode cX6_volume 20 = .ok (.getfield 13, 3) := by decide +kernel
theorem dX6_volume_23 : decode cX6_volume 23 = .ok (.iconst 3, 1) := by decide +kernel
theorem dX6_volume_24 : decode cX6_volume 24 = .ok (.iload_n 1, 1) := by decide +kernel
theorem dX6_volume_25 : decode cX6_volume 25 = .ok (.imul, 1) := by decide +kernel
theorem dX6_volume_26 : decode cX6_volume 26 = .ok (.iconst 2, 1) := by decide +kernel
theorem dX6_volume_27 : decode cX6_volume 27 = .ok (.iadd, 1) := by decide +kernel
theorem dX6_volume_28 : decode cX6_volume 28 = .ok (.iaload, 1) := by decide +kernel
theorem dX6_volume_29 : decode cX6_volume 29 = .ok (.imul, 1) := by decide +kernel
theorem dX6_volume_30 : decode cX6_volume 30 = .ok (.ireturn, 1) := by decide +kernel
theorem dX6_isSum_0 : decode cX6_isSum 0 = .ok (.aload_n 0, 1) := by decide +kernel
theorem dX6_isSum_1 : decode cX6_isSum 1 = .ok (.getfield 40, 3) := by decide +kernel
theorem dX6_isSum_4 : decode cX6_isSum 4 = .ok (.sipush 142, 3) := by decide +kernel
theorem dX6_isSum_7 : decode cX6_isSum 7 = .ok (.iconst 3, 1) := by decide +kernel
theorem dX6_isSum_8 : decode cX6_isSum 8 = .ok (.iload_n 1, 1) := by decide +kernel
theorem dX6_isSum_9 : decode cX6_isSum 9 = .ok (.imul, 1) := by decide +kernel
theorem dX6_isSum_10 : decode cX6_isSum 10 = .ok (.iload_n 2, 1) := by decide +kernel
theorem dX6_isSum_11 : decode cX6_isSum 11 = .ok (.iadd, 1) := by decide +kernel
theorem dX6_isSum_12 : decode cX6_isSum 12 = .ok (.imul, 1) := by decide +kernel
theorem dX6_isSum_13 : decode cX6_isSum 13 = .ok (.iload_n 3, 1) := by decide +kernel
theorem dX6_isSum_14 : decode cX6_isSum 14 = .ok (.iadd, 1) := by decide +kernel
theorem dX6_isSum_15 : decode cX6_isSum 15 = .ok (.baload, 1) := by decide +kernel
theorem dX6_isSum_16 : decode cX6_isSum 16 = .ok (.ireturn, 1) := by decide +kernel
theorem dX6_sum_0 : decode cX6_sum 0 = .ok (.sipush 142, 3) := by decide +kernel
theorem dX6_sum_3 : decode cX6_sum 3 = .ok (.iconst 3, 1) := by decide +kernel
theorem dX6_sum_4 : decode cX6_sum 4 = .ok (.iload_n 1, 1) := by decide +kernel
theorem dX6_sum_5 : decode cX6_sum 5 = .ok (.imul, 1) := by decide +kernel
theorem dX6_sum_6 : decode cX6_sum 6 = .ok (.iload_n 2, 1) := by decide +kernel
theorem dX6_sum_7 : decode cX6_sum 7 = .ok (.iadd, 1) := by decide +kernel
theorem dX6_sum_8 : decode cX6_sum 8 = .ok (.imul, 1) := by decide +kernel
theorem dX6_sum_9 : decode cX6_sum 9 = .ok (.istore_n 3, 1) := by decide +kernel
theorem dX6_sum_10 : decode cX6_sum 10 = .ok (.iconst 0, 1) := by decide +kernel
theorem dX6_sum_11 : decode cX6_sum 11 = .ok (.istore 4, 2) := by decide +kernel
theorem dX6_sum_13 : decode cX6_sum 13 = .ok (.iload 4, 2) := by decide +kernel
theorem dX6_sum_15 : decode cX6_sum 15 = .ok (.sipush 142, 3) := by decide +kernel
theorem dX6_sum_18 : decode cX6_sum 18 = .ok (.if_icmp .ge 28, 3) := by decide +kernel
theorem dX6_sum_21 : decode cX6_sum 21 = .ok (.aload_n 0, 1) := by decide +kernel
theorem dX6_sum_22 : decode cX6_sum 22 = .ok (.getfield 40, 3) := by decide +kernel
theorem dX6_sum_25 : decode cX6_sum 25 = .ok (.iload_n 3, 1) := by decide +kernel
theorem dX6_sum_26 : decode cX6_sum 26 = .ok (.iload 4, 2) := by decide +kernel
theorem dX6_sum_28 : decode cX6_sum 28 = .ok (.iadd, 1) := by decide +kernel
theorem dX6_sum_29 : decode cX6_sum 29 = .ok (.iload 4, 2) := by decide +kernel
theorem dX6_sum_31 : decode cX6_sum 31 = .ok (.ifCond .ne 7, 3) := by decide +kernel
theorem dX6_sum_34 : decode cX6_sum 34 = .ok (.iconst 1, 1) := by decide +kernel
theorem dX6_sum_35 : decode cX6_sum 35 = .ok (.goto 4, 3) := by decide +kernel
theorem dX6_sum_38 : decode cX6_sum 38 = .ok (.iconst 0, 1) := by decide +kernel
theorem dX6_sum_39 : decode cX6_sum 39 = .ok (.bastore, 1) := by decide +kernel
theorem dX6_sum_40 : decode cX6_sum 40 = .ok (.iinc 4 1, 3) := by decide +kernel
theorem dX6_sum_43 : decode cX6_sum 43 = .ok (.goto (-30), 3) := by decide +kernel
theorem dX6_sum_46 : decode cX6_sum 46 = .ok (.iconst 0, 1) := by decide +kernel
theorem dX6_sum_47 : decode cX6_sum 47 = .ok (.istore 4, 2) := by decide +kernel
theorem dX6_sum_49 : decode cX6_sum 49 = .ok (.iload 4, 2) := by decide +kernel
theorem dX6_sum_51 : decode cX6_sum 51 = .ok (.aload_n 0, 1) := by decide +kernel
theorem dX6_sum_52 : decode cX6_sum 52 = .ok (.getfield 81, 3) := by decide +kernel
theorem dX6_sum_55 : decode cX6_sum 55 = .ok (.if_icmp .ge 131, 3) := by decide +kernel
theorem dX6_sum_58 : decode cX6_sum 58 = .ok (.sipush 141, 3) := by decide +kernel
theorem dX6_sum_61 : decode cX6_sum 61 = .ok (.istore 5, 2) := by decide +kernel
theorem dX6_sum_63 : decode cX6_sum 63 = .ok (.iload 5, 2) := by decide +kernel
theorem dX6_sum_65 : decode cX6_sum 65 = .ok (.ifCond .lt 115, 3) := by decide +kernel
theorem dX6_sum_68 : decode cX6_sum 68 = .ok (.iload 4, 2) := by decide +kernel
theorem dX6_sum_70 : decode cX6_sum 70 = .ok (.iload_n 1, 1) := by decide +kernel
theorem dX6_sum_71 : decode cX6_sum 71 = .ok (.if_icmp .eq 109, 3) := by decide +kernel
theorem dX6_sum_74 : decode cX6_sum 74 = .ok (.aload_n 0, 1) := by decide +kernel
theorem dX6_sum_75 : decode cX6_sum 75 = .ok (.getfield 40, 3) := by decide +kernel
theorem dX6_sum_78 : decode cX6_sum 78 = .ok (.iload_n 3, 1) := by decide +kernel
theorem dX6_sum_79 : decode cX6_sum 79 = .ok (.iload 5, 2) := by decide +kernel
theorem dX6_sum_81 : decode cX6_sum 81 = .ok (.iadd, 1) := by decide +kernel
theorem dX6_sum_82 : decode cX6_sum 82 = .ok (.baload, 1) := by decide +kernel
theorem dX6_sum_83 : decode cX6_sum 83 = .ok (.istore 6, 2) := by decide +kernel
theorem dX6_sum_85 : decode cX6_sum 85 = .ok (.iconst 0, 1) := by decide +kernel
theorem dX6_sum_86 : decode cX6_sum 86 = .ok (.istore 7, 2) := by decide +kernel
theorem dX6_sum_88 : decode cX6_sum 88 = .ok (.iload 7, 2) := by decide +kernel
theorem dX6_sum_90 : decode cX6_sum 90 = .ok (.bipush 6, 2) := by decide +kernel
theorem dX6_sum_92 : decode cX6_sum 92 = .ok (.if_icmp .ge 71, 3) := by decide +kernel
theorem dX6_sum_95 : decode cX6_sum 95 = .ok (.aload_n 0, 1) := by decide +kernel
theorem dX6_sum_96 : decode cX6_sum 96 = .ok (.iload 4, 2) := by decide +kernel
theorem dX6_sum_98 : decode cX6_sum 98 = .ok (.iload 7, 2) := by decide +kernel
theorem dX6_sum_100 : decode cX6_sum 100 = .ok (.invokevirtual 118, 3) := by decide +kernel
theorem dX6_sum_103 : decode cX6_sum 103 = .ok (.ifCond .eq 15, 3) := by decide +kernel
theorem dX6_sum_106 : decode cX6_sum 106 = .ok (.aload_n 0, 1) := by decide +kernel
theorem dX6_sum_107 : decode cX6_sum 107 = .ok (.iload 4, 2) := by decide +kernel
theorem dX6_sum_109 : decode cX6_sum 109 = .ok (.iload 7, 2) := by decide +kernel
theorem dX6_sum_111 : decode cX6_sum 111 = .ok (.iload_n 2, 1) := by decide +kernel
theorem dX6_sum_112 : decode cX6_sum 112 = .ok (.invokevirtual 121, 3) := by decide +kernel
theorem dX6_sum_115 : decode cX6_sum 115 = .ok (.goto 6, 3) := by decide +kernel
theorem dX6_sum_118 : decode cX6_sum 118 = .ok (.sipush 200, 3) := by decide +kernel
theorem dX6_sum_121 : decode cX6_sum 121 = .ok (.istore 8, 2) := by decide +kernel
theorem dX6_sum_123 : decode cX6_sum 123 = .ok (.iload 6, 2) := by decide +kernel
theorem dX6_sum_125 : decode cX6_sum 125 = .ok (.ifCond .ne 25, 3) := by decide +kernel
theorem dX6_sum_128 : decode cX6_sum 128 = .ok (.iload 8, 2) := by decide +kernel
theorem dX6_sum_130 : decode cX6_sum 130 = .ok (.iload 5, 2) := by decide +kernel
theorem dX6_sum_132 : decode cX6_sum 132 = .ok (.if_icmp .gt 22, 3) := by decide +kernel
theorem dX6_sum_135 : decode cX6_sum 135 = .ok (.aload_n 0, 1) := by decide +kernel
theorem dX6_sum_136 : decode cX6_sum 136 = .ok (.getfield 40, 3) := by decide +kernel
theorem dX6_sum_139 : decode cX6_sum 139 = .ok (.iload_n 3, 1) := by decide +kernel
theorem dX6_sum_140 : decode cX6_sum 140 = .ok (.iload 5, 2) := by decide +kernel
theorem dX6_sum_142 : decode cX6_sum 142 = .ok (.iadd, 1) := by decide +kernel
theorem dX6_sum_143 : decode cX6_sum 143 = .ok (.iload 8, 2) := by decide +kernel
theorem dX6_sum_145 : decode cX6_sum 145 = .ok (.isub, 1) := by decide +kernel
theorem dX6_sum_146 : decode cX6_sum 146 = .ok (.baload, 1) := by decide +kernel
theorem dX6_sum_147 : decode cX6_sum 147 = .ok (.ifCond .eq 7, 3) := by decide +kernel
theorem dX6_sum_150 : decode cX6_sum 150 = .ok (.iconst 1, 1) := by decide +kernel
theorem dX6_sum_151 : decode cX6_sum 151 = .ok (.goto 4, 3) := by decide +kernel
theorem dX6_sum_154 : decode cX6_sum 154 = .ok (.iconst 0, 1) := by decide +kernel
theorem dX6_sum_155 : decode cX6_sum 155 = .ok (.istore 6, 2) := by decide +kernel
theorem dX6_sum_157 : decode cX6_sum 157 = .ok (.iinc 7 1, 3) := by decide +kernel
theorem dX6_sum_160 : decode cX6_sum 160 = .ok (.goto (-72), 3) := by decide +kernel
theorem dX6_sum_163 : decode cX6_sum 163 = .ok (.aload_n 0, 1) := by decide +kernel
theorem dX6_sum_164 : decode cX6_sum 164 = .ok (.getfield 40, 3) := by decide +kernel
theorem dX6_sum_167 : decode cX6_sum 167 = .ok (.iload_n 3, 1) := by decide +kernel
theorem dX6_sum_168 : decode cX6_sum 168 = .ok (.iload 5, 2) := by decide +kernel
theorem dX6_sum_170 : decode cX6_sum 170 = .ok (.iadd, 1) := by decide +kernel
theorem dX6_sum_171 : decode cX6_sum 171 = .ok (.iload 6, 2) := by decide +kernel
theorem dX6_sum_173 : decode cX6_sum 173 = .ok (.bastore, 1) := by decide +kernel
theorem dX6_sum_174 : decode cX6_sum 174 = .ok (.iinc 5 (-1), 3) := by decide +kernel
theorem dX6_sum_177 : decode cX6_sum 177 = .ok (.goto (-114), 3) := by decide +kernel
theorem dX6_sum_180 : decode cX6_sum 180 = .ok (.iinc 4 1, 3) := by decide +kernel
theorem dX6_sum_183 : decode cX6_sum 183 = .ok (.goto (-134), 3) := by decide +kernel
theorem dX6_sum_186 : decode cX6_sum 186 = .ok (.return_, 1) := by decide +kernel
theorem dX6_isFirst_0 : decode cX6_isFirst 0 = .ok (.aload_n 0, 1) := by decide +kernel
theorem dX6_isFirst_1 : decode cX6_isFirst 1 = .ok (.iload_n 1, 1) := by decide +kernel
theorem dX6_isFirst_2 : decode cX6_isFirst 2 = .ok (.iload_n 2, 1) := by decide +kernel
theorem dX6_isFirst_3 : decode cX6_isFirst 3 = .ok (.invokevirtual 118, 3) := by decide +kernel
theorem dX6_isFirst_6 : decode cX6_isFirst 6 = .ok (.istore_n 3, 1) := by decide +kernel
theorem dX6_isFirst_7 : decode cX6_isFirst 7 = .ok (.iconst 0, 1) := by decide +kernel
theorem dX6_isFirst_8 : decode cX6_isFirst 8 = .ok (.istore 4, 2) := by decide +kernel
theorem dX6_isFirst_10 : decode cX6_isFirst 10 = .ok (.iload 4, 2) := by decide +kernel
theorem dX6_isFirst_12 : decode cX6_isFirst 12 = .ok (.iload_n 2, 1) := by decide +kernel
theorem dX6_isFirst_13 : decode cX6_isFirst 13 = .ok (.if_icmp .ge 83, 3) := by decide +kernel
theorem dX6_isFirst_16 : decode cX6_isFirst 16 = .ok (.iload_n 3, 1) := by decide +kernel
theorem dX6_isFirst_17 : decode cX6_isFirst 17 = .ok (.ifCond .eq 71, 3) := by decide +kernel
theorem dX6_isFirst_20 : decode cX6_isFirst 20 = .ok (.aload_n 0, 1) := by decide +kernel
theorem dX6_isFirst_21 : decode cX6_isFirst 21 = .ok (.iload_n 1, 1) := by decide +kernel
theorem dX6_isFirst_22 : decode cX6_isFirst 22 = .ok (.iload 4, 2) := by decide +kernel
theorem dX6_isFirst_24 : decode cX6_isFirst 24 = .ok (.invokevirtual 118, 3) := by decide +kernel
theorem dX6_isFirst_27 : decode cX6_isFirst 27 = .ok (.ifCond .eq 57, 3) := by decide +kernel
theorem dX6_isFirst_30 : decode cX6_isFirst 30 = .ok (.aload_n 0, 1) := by decide +kernel
theorem dX6_isFirst_31 : decode cX6_isFirst 31 = .ok (.iload_n 1, 1) := by decide +kernel
theorem dX6_isFirst_32 : decode cX6_isFirst 32 = .ok (.iload 4, 2) := by decide +kernel
theorem dX6_isFirst_34 : decode cX6_isFirst 34 = .ok (.iconst 0, 1) := by decide +kernel
theorem dX6_isFirst_35 : decode cX6_isFirst 35 = .ok (.invokevirtual 121, 3) := by decide +kernel
theorem dX6_isFirst_38 : decode cX6_isFirst 38 = .ok (.aload_n 0, 1) := by decide +kernel
theorem dX6_isFirst_39 : decode cX6_isFirst 39 = .ok (.iload_n 1, 1) := by decide +kernel
theorem dX6_isFirst_40 : decode cX6_isFirst 40 = .ok (.iload_n 2, 1) := by decide +kernel
theorem dX6_isFirst_41 : decode cX6_isFirst 41 = .ok (.iconst 0, 1) := by decide +kernel
theorem dX6_isFirst_42 : decode cX6_isFirst 42 = .ok (.invokevirtual 121, 3) := by decide +kernel
theorem dX6_isFirst_45 : decode cX6_isFirst 45 = .ok (.if_icmp .ne 39, 3) := by decide +kernel
theorem dX6_isFirst_48 : decode cX6_isFirst 48 = .ok (.aload_n 0, 1) := by decide +kernel
theorem dX6_isFirst_49 : decode cX6_isFirst 49 = .ok (.iload_n 1, 1) := by decide +kernel
theorem dX6_isFirst_50 : decode cX6_isFirst 50 = .ok (.iload 4, 2) := by decide +kernel
theorem dX6_isFirst_52 : decode cX6_isFirst 52 = .ok (.iconst 1, 1) := by decide +kernel
theorem dX6_isFirst_53 : decode cX6_isFirst 53 = .ok (.invokevirtual 121, 3) := by decide +kernel
theorem dX6_isFirst_56 : decode cX6_isFirst 56 = .ok (.aload_n 0, 1) := by decide +kernel
theorem dX6_isFirst_57 : decode cX6_isFirst 57 = .ok (.iload_n 1, 1) := by decide +kernel
theorem dX6_isFirst_58 : decode cX6_isFirst 58 = .ok (.iload_n 2, 1) := by decide +kernel
theorem dX6_isFirst_59 : decode cX6_isFirst 59 = .ok (.iconst 1, 1) := by decide +kernel
theorem dX6_isFirst_60 : decode cX6_isFirst 60 = .ok (.invokevirtual 121, 3) := by decide +kernel
theorem dX6_isFirst_63 : decode cX6_isFirst 63 = .ok (.if_icmp .ne 21, 3) := by decide +kernel
theorem dX6_isFirst_66 : decode cX6_isFirst 66 = .ok (.aload_n 0, 1) := by decide +kernel
theorem dX6_isFirst_67 : decode cX6_isFirst 67 = .ok (.iload_n 1, 1) := by decide +kernel
theorem dX6_isFirst_68 : decode cX6_isFirst 68 = .ok (.iload 4, 2) := by decide +kernel
theorem dX6_isFirst_70 : decode cX6_isFirst 70 = .ok (.iconst 2, 1) := by decide +kernel
theorem dX6_isFirst_71 : decode cX6_isFirst 71 = .ok (.invokevirtual 121, 3) := by decide +kernel
theorem dX6_isFirst_74 : decode cX6_isFirst 74 = .ok (.aload_n 0, 1) := by decide +kernel
theorem dX6_isFirst_75 : decode cX6_isFirst 75 = .ok (.iload_n 1, 1) := by decide +kernel
theorem dX6_isFirst_76 : decode cX6_isFirst 76 = .ok (.iload_n 2, 1) := by decide +kernel
theorem dX6_isFirst_77 : decode cX6_isFirst 77 = .ok (.iconst 2, 1) := by decide +kernel
theorem dX6_isFirst_78 : decode cX6_isFirst 78 = .ok (.invokevirtual 121, 3) := by decide +kernel
theorem dX6_isFirst_81 : decode cX6_isFirst 81 = .ok (.if_icmp .eq 7, 3) := by decide +kernel
theorem dX6_isFirst_84 : decode cX6_isFirst 84 = .ok (.iconst 1, 1) := by decide +kernel
theorem dX6_isFirst_85 : decode cX6_isFirst 85 = .ok (.goto 4, 3) := by decide +kernel
theorem dX6_isFirst_88 : decode cX6_isFirst 88 = .ok (.iconst 0, 1) := by decide +kernel
theorem dX6_isFirst_89 : decode cX6_isFirst 89 = .ok (.istore_n 3, 1) := by decide +kernel
theorem dX6_isFirst_90 : decode cX6_isFirst 90 = .ok (.iinc 4 1, 3) := by decide +kernel
theorem dX6_isFirst_93 : decode cX6_isFirst 93 = .ok (.goto (-83), 3) := by decide +kernel
theorem dX6_isFirst_96 : decode cX6_isFirst 96 = .ok (.iload_n 3, 1) := by decide +kernel
theorem dX6_isFirst_97 : decode cX6_isFirst 97 = .ok (.ireturn, 1) := by decide +kernel
theorem dX6_many_0 : decode cX6_many 0 = .ok (.aload_n 0, 1) := by decide +kernel
theorem dX6_many_1 : decode cX6_many 1 = .ok (.getfield 44, 3) := by decide +kernel
theorem dX6_many_4 : decode cX6_many 4 = .ok (.bipush 18, 2) := by decide +kernel
theorem dX6_many_6 : decode cX6_many 6 = .ok (.iload_n 1, 1) := by decide +kernel
theorem dX6_many_7 : decode cX6_many 7 = .ok (.imul, 1) := by decide +kernel
theorem dX6_many_8 : decode cX6_many 8 = .ok (.iconst 3, 1) := by decide +kernel
theorem dX6_many_9 : decode cX6_many 9 = .ok (.iload_n 2, 1) := by decide +kernel
theorem dX6_many_10 : decode cX6_many 10 = .ok (.imul, 1) := by decide +kernel
theorem dX6_many_11 : decode cX6_many 11 = .ok (.iadd, 1) := by decide +kernel
theorem dX6_many_12 : decode cX6_many 12 = .ok (.iload_n 3, 1) := by decide +kernel
theorem dX6_many_13 : decode cX6_many 13 = .ok (.iadd, 1) := by decide +kernel
theorem dX6_many_14 : decode cX6_many 14 = .ok (.iaload, 1) := by decide +kernel
theorem dX6_many_15 : decode cX6_many 15 = .ok (.ireturn, 1) := by decide +kernel
theorem dX6_waysOf_0 : decode cX6_waysOf 0 = .ok (.aload_n 0, 1) := by decide +kernel
theorem dX6_waysOf_1 : decode cX6_waysOf 1 = .ok (.getfield 47, 3) := by decide +kernel
theorem dX6_waysOf_4 : decode cX6_waysOf 4 = .ok (.bipush 6, 2) := by decide +kernel
theorem dX6_waysOf_6 : decode cX6_waysOf 6 = .ok (.iload_n 1, 1) := by decide +kernel
theorem dX6_waysOf_7 : decode cX6_waysOf 7 = .ok (.imul, 1) := by decide +kernel
theorem dX6_waysOf_8 : decode cX6_waysOf 8 = .ok (.iload_n 2, 1) := by decide +kernel
theorem dX6_waysOf_9 : decode cX6_waysOf 9 = .ok (.iadd, 1) := by decide +kernel
theorem dX6_waysOf_10 : decode cX6_waysOf 10 = .ok (.iaload, 1) := by decide +kernel
theorem dX6_waysOf_11 : decode cX6_waysOf 11 = .ok (.ireturn, 1) := by decide +kernel
theorem dX6_counted_0 : decode cX6_counted 0 = .ok (.iconst 0, 1) := by decide +kernel
theorem dX6_counted_1 : decode cX6_counted 1 = .ok (.istore 4, 2) := by decide +kernel
theorem dX6_counted_3 : decode cX6_counted 3 = .ok (.iconst 0, 1) := by decide +kernel
theorem dX6_counted_4 : decode cX6_counted 4 = .ok (.istore 5, 2) := by decide +kernel
theorem dX6_counted_6 : decode cX6_counted 6 = .ok (.iload 5, 2) := by decide +kernel
theorem dX6_counted_8 : decode cX6_counted 8 = .ok (.aload_n 0, 1) := by decide +kernel
theorem dX6_counted_9 : decode cX6_counted 9 = .ok (.getfield 7, 3) := by decide +kernel
theorem dX6_counted_12 : decode cX6_counted 12 = .ok (.iload_n 3, 1) := by decide +kernel
theorem dX6_counted_13 : decode cX6_counted 13 = .ok (.iaload, 1) := by decide +kernel
theorem dX6_counted_14 : decode cX6_counted 14 = .ok (.aload_n 0, 1) := by decide +kernel
theorem dX6_counted_15 : decode cX6_counted 15 = .ok (.iload_n 1, 1) := by decide +kernel
theorem dX6_counted_16 : decode cX6_counted 16 = .ok (.iload_n 2, 1) := by decide +kernel
theorem dX6_counted_17 : decode cX6_counted 17 = .ok (.iload_n 3, 1) := by decide +kernel
theorem dX6_counted_18 : decode cX6_counted 18 = .ok (.invokevirtual 121, 3) := by decide +kernel
theorem dX6_counted_21 : decode cX6_counted 21 = .ok (.isub, 1) := by decide +kernel
theorem dX6_counted_22 : decode cX6_counted 22 = .ok (.if_icmp .gt 30, 3) := by decide +kernel
theorem dX6_counted_25 : decode cX6_counted 25 = .ok (.iload 4, 2) := by decide +kernel
theorem dX6_counted_27 : decode cX6_counted 27 = .ok (.aload_n 0, 1) := by decide +kernel
theorem dX6_counted_28 : decode cX6_counted 28 = .ok (.iload_n 1, 1) := by decide +kernel
theorem dX6_counted_29 : decode cX6_counted 29 = .ok (.iload_n 3, 1) := by decide +kernel
theorem dX6_counted_30 : decode cX6_counted 30 = .ok (.iload 5, 2) := by decide +kernel
theorem dX6_counted_32 : decode cX6_counted 32 = .ok (.invokevirtual 124, 3) := by decide +kernel
theorem dX6_counted_35 : decode cX6_counted 35 = .ok (.ifCond .eq 7, 3) := by decide +kernel
theorem dX6_counted_38 : decode cX6_counted 38 = .ok (.iconst 1, 1) := by decide +kernel
theorem dX6_counted_39 : decode cX6_counted 39 = .ok (.goto 4, 3) := by decide +kernel
theorem dX6_counted_42 : decode cX6_counted 42 = .ok (.iconst 0, 1) := by decide +kernel
theorem dX6_counted_43 : decode cX6_counted 43 = .ok (.iadd, 1) := by decide +kernel
theorem dX6_counted_44 : decode cX6_counted 44 = .ok (.istore 4, 2) := by decide +kernel
theorem dX6_counted_46 : decode cX6_counted 46 = .ok (.iinc 5 1, 3) := by decide +kernel
theorem dX6_counted_49 : decode cX6_counted 49 = .ok (.goto (-43), 3) := by decide +kernel
theorem dX6_counted_52 : decode cX6_counted 52 = .ok (.iload 4, 2) := by decide +kernel
theorem dX6_counted_54 : decode cX6_counted 54 = .ok (.ireturn, 1) := by decide +kernel
theorem dX6_ways_0 : decode cX6_ways 0 = .ok (.iconst 0, 1) := by decide +kernel
theorem dX6_ways_1 : decode cX6_ways 1 = .ok (.istore_n 2, 1) := by decide +kernel
theorem dX6_ways_2 : decode cX6_ways 2 = .ok (.iconst 0, 1) := by decide +kernel
theorem dX6_ways_3 : decode cX6_ways 3 = .ok (.istore_n 3, 1) := by decide +kernel
theorem dX6_ways_4 : decode cX6_ways 4 = .ok (.iload_n 3, 1) := by decide +kernel
theorem dX6_ways_5 : decode cX6_ways 5 = .ok (.bipush 6, 2) := by decide +kernel
theorem dX6_ways_7 : decode cX6_ways 7 = .ok (.if_icmp .ge 18, 3) := by decide +kernel
theorem dX6_ways_10 : decode cX6_ways 10 = .ok (.iload_n 2, 1) := by decide +kernel
theorem dX6_ways_11 : decode cX6_ways 11 = .ok (.aload_n 0, 1) := by decide +kernel
theorem dX6_ways_12 : decode cX6_ways 12 = .ok (.iload_n 1, 1) := by decide +kernel
theorem dX6_ways_13 : decode cX6_ways 13 = .ok (.iload_n 3, 1) := by decide +kernel
theorem dX6_ways_14 : decode cX6_ways 14 = .ok (.invokevirtual 128, 3) := by decide +kernel
theorem dX6_ways_17 : decode cX6_ways 17 = .ok (.iadd, 1) := by decide +kernel
theorem dX6_ways_18 : decode cX6_ways 18 = .ok (.istore_n 2, 1) := by decide +kernel
theorem dX6_ways_19 : decode cX6_ways 19 = .ok (.iinc 3 1, 3) := by decide +kernel
theorem dX6_ways_22 : decode cX6_ways 22 = .ok (.goto (-18), 3) := by decide +kernel
theorem dX6_ways_25 : decode cX6_ways 25 = .ok (.iload_n 2, 1) := by decide +kernel
theorem dX6_ways_26 : decode cX6_ways 26 = .ok (.ireturn, 1) := by decide +kernel
theorem dX6_coordinate_0 : decode cX6_coordinate 0 = .ok (.iconst 0, 1) := by decide +kernel
theorem dX6_coordinate_1 : decode cX6_coordinate 1 = .ok (.istore 4, 2) := by decide +kernel
theorem dX6_coordinate_3 : decode cX6_coordinate 3 = .ok (.iload_n 3, 1) := by decide +kernel
theorem dX6_coordinate_4 : decode cX6_coordinate 4 = .ok (.istore 5, 2) := by decide +kernel
theorem dX6_coordinate_6 : decode cX6_coordinate 6 = .ok (.iload 5, 2) := by decide +kernel
theorem dX6_coordinate_8 : decode cX6_coordinate 8 = .ok (.ifCond .gt 14, 3) := by decide +kernel
theorem dX6_coordinate_11 : decode cX6_coordinate 11 = .ok (.aload_n 0, 1) := by decide +kernel
theorem dX6_coordinate_12 : decode cX6_coordinate 12 = .ok (.iload_n 1, 1) := by decide +kernel
theorem dX6_coordinate_13 : decode cX6_coordinate 13 = .ok (.iload_n 2, 1) := by decide +kernel
theorem dX6_coordinate_14 : decode cX6_coordinate 14 = .ok (.iload 4, 2) := by decide +kernel
theorem dX6_coordinate_16 : decode cX6_coordinate 16 = .ok (.invokevirtual 124, 3) := by decide +kernel
theorem dX6_coordinate_19 : decode cX6_coordinate 19 = .ok (.ifCond .ne 30, 3) := by decide +kernel
theorem dX6_coordinate_22 : decode cX6_coordinate 22 = .ok (.iload 5, 2) := by decide +kernel
theorem dX6_coordinate_24 : decode cX6_coordinate 24 = .ok (.aload_n 0, 1) := by decide +kernel
theorem dX6_coordinate_25 : decode cX6_coordinate 25 = .ok (.iload_n 1, 1) := by decide +kernel
theorem dX6_coordinate_26 : decode cX6_coordinate 26 = .ok (.iload_n 2, 1) := by decide +kernel
theorem dX6_coordinate_27 : decode cX6_coordinate 27 = .ok (.iload 4, 2) := by decide +kernel
theorem dX6_coordinate_29 : decode cX6_coordinate 29 = .ok (.invokevirtual 124, 3) := by decide +kernel
theorem dX6_coordinate_32 : decode cX6_coordinate 32 = .ok (.ifCond .eq 7, 3) := by decide +kernel
theorem dX6_coordinate_35 : decode cX6_coordinate 35 = .ok (.iconst 1, 1) := by decide +kernel
theorem dX6_coordinate_36 : decode cX6_coordinate 36 = .ok (.goto 4, 3) := by decide +kernel
theorem dX6_coordinate_39 : decode cX6_coordinate 39 = .ok (.iconst 0, 1) := by decide +kernel
theorem dX6_coordinate_40 : decode cX6_coordinate 40 = .ok (.isub, 1) := by decide +kernel
theorem dX6_coordinate_41 : decode cX6_coordinate 41 = .ok (.istore 5, 2) := by decide +kernel
theorem dX6_coordinate_43 : decode cX6_coordinate 43 = .ok (.iinc 4 1, 3) := by decide +kernel
theorem dX6_coordinate_46 : decode cX6_coordinate 46 = .ok (.goto (-40), 3) := by decide +kernel
theorem dX6_coordinate_49 : decode cX6_coordinate 49 = .ok (.iload 4, 2) := by decide +kernel
theorem dX6_coordinate_51 : decode cX6_coordinate 51 = .ok (.ireturn, 1) := by decide +kernel
theorem dX6_goes_0 : decode cX6_goes 0 = .ok (.iconst 0, 1) := by decide +kernel
theorem dX6_goes_1 : decode cX6_goes 1 = .ok (.istore_n 3, 1) := by decide +kernel
theorem dX6_goes_2 : decode cX6_goes 2 = .ok (.iload_n 2, 1) := by decide +kernel
theorem dX6_goes_3 : decode cX6_goes 3 = .ok (.istore 4, 2) := by decide +kernel
theorem dX6_goes_5 : decode cX6_goes 5 = .ok (.iload 4, 2) := by decide +kernel
theorem dX6_goes_7 : decode cX6_goes 7 = .ok (.aload_n 0, 1) := by decide +kernel
theorem dX6_goes_8 : decode cX6_goes 8 = .ok (.iload_n 1, 1) := by decide +kernel
theorem dX6_goes_9 : decode cX6_goes 9 = .ok (.iload_n 3, 1) := by decide +kernel
theorem dX6_goes_10 : decode cX6_goes 10 = .ok (.invokevirtual 128, 3) := by decide +kernel
theorem dX6_goes_13 : decode cX6_goes 13 = .ok (.if_icmp .lt 20, 3) := by decide +kernel
theorem dX6_goes_16 : decode cX6_goes 16 = .ok (.iload 4, 2) := by decide +kernel
theorem dX6_goes_18 : decode cX6_goes 18 = .ok (.aload_n 0, 1) := by decide +kernel
theorem dX6_goes_19 : decode cX6_goes 19 = .ok (.iload_n 1, 1) := by decide +kernel
theorem dX6_goes_20 : decode cX6_goes 20 = .ok (.iload_n 3, 1) := by decide +kernel
theorem dX6_goes_21 : decode cX6_goes 21 = .ok (.invokevirtual 128, 3) := by decide +kernel
theorem dX6_goes_24 : decode cX6_goes 24 = .ok (.isub, 1) := by decide +kernel
theorem dX6_goes_25 : decode cX6_goes 25 = .ok (.istore 4, 2) := by decide +kernel
theorem dX6_goes_27 : decode cX6_goes 27 = .ok (.iinc 3 1, 3) := by decide +kernel
theorem dX6_goes_30 : decode cX6_goes 30 = .ok (.goto (-25), 3) := by decide +kernel
theorem dX6_goes_33 : decode cX6_goes 33 = .ok (.aload_n 0, 1) := by decide +kernel
theorem dX6_goes_34 : decode cX6_goes 34 = .ok (.iload_n 1, 1) := by decide +kernel
theorem dX6_goes_35 : decode cX6_goes 35 = .ok (.iload_n 3, 1) := by decide +kernel
theorem dX6_goes_36 : decode cX6_goes 36 = .ok (.iconst 0, 1) := by decide +kernel
theorem dX6_goes_37 : decode cX6_goes 37 = .ok (.invokevirtual 111, 3) := by decide +kernel
theorem dX6_goes_40 : decode cX6_goes 40 = .ok (.istore 5, 2) := by decide +kernel
theorem dX6_goes_42 : decode cX6_goes 42 = .ok (.aload_n 0, 1) := by decide +kernel
theorem dX6_goes_43 : decode cX6_goes 43 = .ok (.iload_n 1, 1) := by decide +kernel
theorem dX6_goes_44 : decode cX6_goes 44 = .ok (.iload_n 3, 1) := by decide +kernel
theorem dX6_goes_45 : decode cX6_goes 45 = .ok (.iconst 1, 1) := by decide +kernel
theorem dX6_goes_46 : decode cX6_goes 46 = .ok (.invokevirtual 111, 3) := by decide +kernel
theorem dX6_goes_49 : decode cX6_goes 49 = .ok (.istore 6, 2) := by decide +kernel
theorem dX6_goes_51 : decode cX6_goes 51 = .ok (.aload_n 0, 1) := by decide +kernel
theorem dX6_goes_52 : decode cX6_goes 52 = .ok (.getfield 34, 3) := by decide +kernel
theorem dX6_goes_55 : decode cX6_goes 55 = .ok (.iload_n 1, 1) := by decide +kernel
theorem dX6_goes_56 : decode cX6_goes 56 = .ok (.iload_n 3, 1) := by decide +kernel
theorem dX6_goes_57 : decode cX6_goes 57 = .ok (.iastore, 1) := by decide +kernel
theorem dX6_goes_58 : decode cX6_goes 58 = .ok (.aload_n 0, 1) := by decide +kernel
theorem dX6_goes_59 : decode cX6_goes 59 = .ok (.getfield 37, 3) := by decide +kernel
theorem dX6_goes_62 : decode cX6_goes 62 = .ok (.iconst 3, 1) := by decide +kernel
theorem dX6_goes_63 : decode cX6_goes 63 = .ok (.iload_n 1, 1) := by decide +kernel
theorem dX6_goes_64 : decode cX6_goes 64 = .ok (.imul, 1) := by decide +kernel
theorem dX6_goes_65 : decode cX6_goes 65 = .ok (.aload_n 0, 1) := by decide +kernel
theorem dX6_goes_66 : decode cX6_goes 66 = .ok (.iload_n 1, 1) := by decide +kernel
theorem dX6_goes_67 : decode cX6_goes 67 = .ok (.iconst 0, 1) := by decide +kernel
theorem dX6_goes_68 : decode cX6_goes 68 = .ok (.iload 4, 2) := by decide +kernel
theorem dX6_goes_70 : decode cX6_goes 70 = .ok (.iload 5, 2) := by decide +kernel
theorem dX6_goes_72 : decode cX6_goes 72 = .ok (.irem, 1) := by decide +kernel
theorem dX6_goes_73 : decode cX6_goes 73 = .ok (.invokevirtual 131, 3) := by decide +kernel
theorem dX6_goes_76 : decode cX6_goes 76 = .ok (.iastore, 1) := by decide +kernel
theorem dX6_goes_77 : decode cX6_goes 77 = .ok (.aload_n 0, 1) := by decide +kernel
theorem dX6_goes_78 : decode cX6_goes 78 = .ok (.getfield 37, 3) := by decide +kernel
theorem dX6_goes_81 : decode cX6_goes 81 = .ok (.iconst 3, 1) := by decide +kernel
theorem dX6_goes_82 : decode cX6_goes 82 = .ok (.iload_n 1, 1) := by decide +kernel
theorem dX6_goes_83 : decode cX6_goes 83 = .ok (.imul, 1) := by decide +kernel
theorem dX6_goes_84 : decode cX6_goes 84 = .ok (.iconst 1, 1) := by decide +kernel
theorem dX6_goes_85 : decode cX6_goes 85 = .ok (.iadd, 1) := by decide +kernel
theorem dX6_goes_86 : decode cX6_goes 86 = .ok (.aload_n 0, 1) := by decide +kernel
theorem dX6_goes_87 : decode cX6_goes 87 = .ok (.iload_n 1, 1) := by decide +kernel
theorem dX6_goes_88 : decode cX6_goes 88 = .ok (.iconst 1, 1) := by decide +kernel
theorem dX6_goes_89 : decode cX6_goes 89 = .ok (.iload 4, 2) := by decide +kernel
theorem dX6_goes_91 : decode cX6_goes 91 = .ok (.iload 5, 2) := by decide +kernel
theorem dX6_goes_93 : decode cX6_goes 93 = .ok (.idiv, 1) := by decide +kernel
theorem dX6_goes_94 : decode cX6_goes 94 = .ok (.iload 6, 2) := by decide +kernel
theorem dX6_goes_96 : decode cX6_goes 96 = .ok (.irem, 1) := by decide +kernel
theorem dX6_goes_97 : decode cX6_goes 97 = .ok (.invokevirtual 131, 3) := by decide +kernel
theorem dX6_goes_100 : decode cX6_goes 100 = .ok (.iastore, 1) := by decide +kernel
theorem dX6_goes_101 : decode cX6_goes 101 = .ok (.aload_n 0, 1) := by decide +kernel
theorem dX6_goes_102 : decode cX6_goes 102 = .ok (.getfield 37, 3) := by decide +kernel
theorem dX6_goes_105 : decode cX6_goes 105 = .ok (.iconst 3, 1) := by decide +kernel
theorem dX6_goes_106 : decode cX6_goes 106 = .ok (.iload_n 1, 1) := by decide +kernel
theorem dX6_goes_107 : decode cX6_goes 107 = .ok (.imul, 1) := by decide +kernel
theorem dX6_goes_108 : decode cX6_goes 108 = .ok (.iconst 2, 1) := by decide +kernel
theorem dX6_goes_109 : decode cX6_goes 109 = .ok (.iadd, 1) := by decide +kernel
theorem dX6_goes_110 : decode cX6_goes 110 = .ok (.aload_n 0, 1) := by decide +kernel
theorem dX6_goes_111 : decode cX6_goes 111 = .ok (.iload_n 1, 1) := by decide +kernel
theorem dX6_goes_112 : decode cX6_goes 112 = .ok (.iconst 2, 1) := by decide +kernel
theorem dX6_goes_113 : decode cX6_goes 113 = .ok (.iload 4, 2) := by decide +kernel
theorem dX6_goes_115 : decode cX6_goes 115 = .ok (.iload 5, 2) := by decide +kernel
theorem dX6_goes_117 : decode cX6_goes 117 = .ok (.idiv, 1) := by decide +kernel
theorem dX6_goes_118 : decode cX6_goes 118 = .ok (.iload 6, 2) := by decide +kernel
theorem dX6_goes_120 : decode cX6_goes 120 = .ok (.idiv, 1) := by decide +kernel
theorem dX6_goes_121 : decode cX6_goes 121 = .ok (.invokevirtual 131, 3) := by decide +kernel
theorem dX6_goes_124 : decode cX6_goes 124 = .ok (.iastore, 1) := by decide +kernel
theorem dX6_goes_125 : decode cX6_goes 125 = .ok (.return_, 1) := by decide +kernel
theorem dX6_isApart_0 : decode cX6_isApart 0 = .ok (.iload_n 1, 1) := by decide +kernel
theorem dX6_isApart_1 : decode cX6_isApart 1 = .ok (.iload_n 2, 1) := by decide +kernel
theorem dX6_isApart_2 : decode cX6_isApart 2 = .ok (.iadd, 1) := by decide +kernel
theorem dX6_isApart_3 : decode cX6_isApart 3 = .ok (.iload_n 3, 1) := by decide +kernel
theorem dX6_isApart_4 : decode cX6_isApart 4 = .ok (.if_icmp .le 11, 3) := by decide +kernel
theorem dX6_isApart_7 : decode cX6_isApart 7 = .ok (.iload_n 3, 1) := by decide +kernel
theorem dX6_isApart_8 : decode cX6_isApart 8 = .ok (.iload 4, 2) := by decide +kernel
theorem dX6_isApart_10 : decode cX6_isApart 10 = .ok (.iadd, 1) := by decide +kernel
theorem dX6_isApart_11 : decode cX6_isApart 11 = .ok (.iload_n 1, 1) := by decide +kernel
theorem dX6_isApart_12 : decode cX6_isApart 12 = .ok (.if_icmp .gt 7, 3) := by decide +kernel
theorem dX6_isApart_15 : decode cX6_isApart 15 = .ok (.iconst 1, 1) := by decide +kernel
theorem dX6_isApart_16 : decode cX6_isApart 16 = .ok (.goto 4, 3) := by decide +kernel
theorem dX6_isApart_19 : decode cX6_isApart 19 = .ok (.iconst 0, 1) := by decide +kernel
theorem dX6_isApart_20 : decode cX6_isApart 20 = .ok (.ireturn, 1) := by decide +kernel
theorem dX6_isPlanned_0 : decode cX6_isPlanned 0 = .ok (.iconst 1, 1) := by decide +kernel
theorem dX6_isPlanned_1 : decode cX6_isPlanned 1 = .ok (.istore_n 2, 1) := by decide +kernel
theorem dX6_isPlanned_2 : decode cX6_isPlanned 2 = .ok (.iconst 0, 1) := by decide +kernel
theorem dX6_isPlanned_3 : decode cX6_isPlanned 3 = .ok (.istore_n 3, 1) := by decide +kernel
theorem dX6_isPlanned_4 : decode cX6_isPlanned 4 = .ok (.iload_n 3, 1) := by decide +kernel
theorem dX6_isPlanned_5 : decode cX6_isPlanned 5 = .ok (.aload_n 0, 1) := by decide +kernel
theorem dX6_isPlanned_6 : decode cX6_isPlanned 6 = .ok (.getfield 88, 3) := by decide +kernel
theorem dX6_isPlanned_9 : decode cX6_isPlanned 9 = .ok (.if_icmp .ge 106, 3) := by decide +kernel
theorem dX6_isPlanned_12 : decode cX6_isPlanned 12 = .ok (.iload_n 2, 1) := by decide +kernel
theorem dX6_isPlanned_13 : decode cX6_isPlanned 13 = .ok (.ifCond .eq 102, 3) := by decide +kernel
theorem dX6_isPlanned_16 : decode cX6_isPlanned 16 = .ok (.aload_n 0, 1) := by decide +kernel
theorem dX6_isPlanned_17 : decode cX6_isPlanned 17 = .ok (.getfield 28, 3) := by decide +kernel
theorem dX6_isPlanned_20 : decode cX6_isPlanned 20 = .ok (.iload_n 3, 1) := by decide +kernel
theorem dX6_isPlanned_21 : decode cX6_isPlanned 21 = .ok (.iaload, 1) := by decide +kernel
theorem dX6_isPlanned_22 : decode cX6_isPlanned 22 = .ok (.istore 4, 2) := by decide +kernel
theorem dX6_isPlanned_24 : decode cX6_isPlanned 24 = .ok (.iconst 0, 1) := by decide +kernel
theorem dX6_isPlanned_25 : decode cX6_isPlanned 25 = .ok (.istore_n 2, 1) := by decide +kernel
theorem dX6_isPlanned_26 : decode cX6_isPlanned 26 = .ok (.iconst 0, 1) := by decide +kernel
theorem dX6_isPlanned_27 : decode cX6_isPlanned 27 = .ok (.istore 5, 2) := by decide +kernel
theorem dX6_isPlanned_29 : decode cX6_isPlanned 29 = .ok (.iload 5, 2) := by decide +kernel
theorem dX6_isPlanned_31 : decode cX6_isPlanned 31 = .ok (.iconst 3, 1) := by decide +kernel
theorem dX6_isPlanned_32 : decode cX6_isPlanned 32 = .ok (.if_icmp .ge 77, 3) := by decide +kernel
theorem dX6_isPlanned_35 : decode cX6_isPlanned 35 = .ok (.iload_n 2, 1) := by decide +kernel
theorem dX6_isPlanned_36 : decode cX6_isPlanned 36 = .ok (.ifCond .ne 61, 3) := by decide +kernel
theorem dX6_isPlanned_39 : decode cX6_isPlanned 39 = .ok (.aload_n 0, 1) := by decide +kernel
theorem dX6_isPlanned_40 : decode cX6_isPlanned 40 = .ok (.aload_n 0, 1) := by decide +kernel
theorem dX6_isPlanned_41 : decode cX6_isPlanned 41 = .ok (.getfield 37, 3) := by decide +kernel
theorem dX6_isPlanned_44 : decode cX6_isPlanned 44 = .ok (.iconst 3, 1) := by decide +kernel
theorem dX6_isPlanned_45 : decode cX6_isPlanned 45 = .ok (.iload_n 1, 1) := by decide +kernel
theorem dX6_isPlanned_46 : decode cX6_isPlanned 46 = .ok (.imul, 1) := by decide +kernel
theorem dX6_isPlanned_47 : decode cX6_isPlanned 47 = .ok (.iload 5, 2) := by decide +kernel
theorem dX6_isPlanned_49 : decode cX6_isPlanned 49 = .ok (.iadd, 1) := by decide +kernel
theorem dX6_isPlanned_50 : decode cX6_isPlanned 50 = .ok (.iaload, 1) := by decide +kernel
theorem dX6_isPlanned_51 : decode cX6_isPlanned 51 = .ok (.aload_n 0, 1) := by decide +kernel
theorem dX6_isPlanned_52 : decode cX6_isPlanned 52 = .ok (.iload_n 1, 1) := by decide +kernel
theorem dX6_isPlanned_53 : decode cX6_isPlanned 53 = .ok (.aload_n 0, 1) := by decide +kernel
theorem dX6_isPlanned_54 : decode cX6_isPlanned 54 = .ok (.getfield 34, 3) := by decide +kernel
theorem dX6_isPlanned_57 : decode cX6_isPlanned 57 = .ok (.iload_n 1, 1) := by decide +kernel
theorem dX6_isPlanned_58 : decode cX6_isPlanned 58 = .ok (.iaload, 1) := by decide +kernel
theorem dX6_isPlanned_59 : decode cX6_isPlanned 59 = .ok (.iload 5, 2) := by decide +kernel
theorem dX6_isPlanned_61 : decode cX6_isPlanned 61 = .ok (.invokevirtual 121, 3) := by decide +kernel
theorem dX6_isPlanned_64 : decode cX6_isPlanned 64 = .ok (.aload_n 0, 1) := by decide +kernel
theorem dX6_isPlanned_65 : decode cX6_isPlanned 65 = .ok (.getfield 37, 3) := by decide +kernel
theorem dX6_isPlanned_68 : decode cX6_isPlanned 68 = .ok (.iconst 3, 1) := by decide +kernel
theorem dX6_isPlanned_69 : decode cX6_isPlanned 69 = .ok (.iload 4, 2) := by decide +kernel
theorem dX6_isPlanned_71 : decode cX6_isPlanned 71 = .ok (.imul, 1) := by decide +kernel
theorem dX6_isPlanned_72 : decode cX6_isPlanned 72 = .ok (.iload 5, 2) := by decide +kernel
theorem dX6_isPlanned_74 : decode cX6_isPlanned 74 = .ok (.iadd, 1) := by decide +kernel
theorem dX6_isPlanned_75 : decode cX6_isPlanned 75 = .ok (.iaload, 1) := by decide +kernel
theorem dX6_isPlanned_76 : decode cX6_isPlanned 76 = .ok (.aload_n 0, 1) := by decide +kernel
theorem dX6_isPlanned_77 : decode cX6_isPlanned 77 = .ok (.iload 4, 2) := by decide +kernel
theorem dX6_isPlanned_79 : decode cX6_isPlanned 79 = .ok (.aload_n 0, 1) := by decide +kernel
theorem dX6_isPlanned_80 : decode cX6_isPlanned 80 = .ok (.getfield 34, 3) := by decide +kernel
theorem dX6_isPlanned_83 : decode cX6_isPlanned 83 = .ok (.iload 4, 2) := by decide +kernel
theorem dX6_isPlanned_85 : decode cX6_isPlanned 85 = .ok (.iaload, 1) := by decide +kernel
theorem dX6_isPlanned_86 : decode cX6_isPlanned 86 = .ok (.iload 5, 2) := by decide +kernel
theorem dX6_isPlanned_88 : decode cX6_isPlanned 88 = .ok (.invokevirtual 121, 3) := by decide +kernel
theorem dX6_isPlanned_91 : decode cX6_isPlanned 91 = .ok (.invokevirtual 134, 3) := by decide +kernel
theorem dX6_isPlanned_94 : decode cX6_isPlanned 94 = .ok (.ifCond .eq 7, 3) := by decide +kernel
theorem dX6_isPlanned_97 : decode cX6_isPlanned 97 = .ok (.iconst 1, 1) := by decide +kernel
theorem dX6_isPlanned_98 : decode cX6_isPlanned 98 = .ok (.goto 4, 3) := by decide +kernel
theorem dX6_isPlanned_101 : decode cX6_isPlanned 101 = .ok (.iconst 0, 1) := by decide +kernel
theorem dX6_isPlanned_102 : decode cX6_isPlanned 102 = .ok (.istore_n 2, 1) := by decide +kernel
theorem dX6_isPlanned_103 : decode cX6_isPlanned 103 = .ok (.iinc 5 1, 3) := by decide +kernel
theorem dX6_isPlanned_106 : decode cX6_isPlanned 106 = .ok (.goto (-77), 3) := by decide +kernel
theorem dX6_isPlanned_109 : decode cX6_isPlanned 109 = .ok (.iinc 3 1, 3) := by decide +kernel
theorem dX6_isPlanned_112 : decode cX6_isPlanned 112 = .ok (.goto (-108), 3) := by decide +kernel
theorem dX6_isPlanned_115 : decode cX6_isPlanned 115 = .ok (.iload_n 2, 1) := by decide +kernel
theorem dX6_isPlanned_116 : decode cX6_isPlanned 116 = .ok (.ireturn, 1) := by decide +kernel
theorem dX6_run_0 : decode cX6_run 0 = .ok (.iload_n 1, 1) := by decide +kernel
theorem dX6_run_1 : decode cX6_run 1 = .ok (.iconst 1, 1) := by decide +kernel
theorem dX6_run_2 : decode cX6_run 2 = .ok (.if_icmp .lt 10, 3) := by decide +kernel
theorem dX6_run_5 : decode cX6_run 5 = .ok (.iload_n 1, 1) := by decide +kernel
theorem dX6_run_6 : decode cX6_run 6 = .ok (.sipush 20000, 3) := by decide +kernel
theorem dX6_run_9 : decode cX6_run 9 = .ok (.if_icmp .le 5, 3) := by decide +kernel
theorem dX6_run_12 : decode cX6_run 12 = .ok (.iconst (-1), 1) := by decide +kernel
theorem dX6_run_13 : decode cX6_run 13 = .ok (.ireturn, 1) := by decide +kernel
theorem dX6_run_14 : decode cX6_run 14 = .ok (.iload_n 1, 1) := by decide +kernel
theorem dX6_run_15 : decode cX6_run 15 = .ok (.istore_n 2, 1) := by decide +kernel
theorem dX6_run_16 : decode cX6_run 16 = .ok (.aload_n 0, 1) := by decide +kernel
theorem dX6_run_17 : decode cX6_run 17 = .ok (.getfield 85, 3) := by decide +kernel
theorem dX6_run_20 : decode cX6_run 20 = .ok (.ifCond .ne 159, 3) := by decide +kernel
theorem dX6_run_23 : decode cX6_run 23 = .ok (.aload_n 0, 1) := by decide +kernel
theorem dX6_run_24 : decode cX6_run 24 = .ok (.getfield 28, 3) := by decide +kernel
theorem dX6_run_27 : decode cX6_run 27 = .ok (.aload_n 0, 1) := by decide +kernel
theorem dX6_run_28 : decode cX6_run 28 = .ok (.getfield 88, 3) := by decide +kernel
theorem dX6_run_31 : decode cX6_run 31 = .ok (.iaload, 1) := by decide +kernel
theorem dX6_run_32 : decode cX6_run 32 = .ok (.istore_n 3, 1) := by decide +kernel
theorem dX6_run_33 : decode cX6_run 33 = .ok (.aload_n 0, 1) := by decide +kernel
theorem dX6_run_34 : decode cX6_run 34 = .ok (.getfield 31, 3) := by decide +kernel
theorem dX6_run_37 : decode cX6_run 37 = .ok (.aload_n 0, 1) := by decide +kernel
theorem dX6_run_38 : decode cX6_run 38 = .ok (.getfield 88, 3) := by decide +kernel
theorem dX6_run_41 : decode cX6_run 41 = .ok (.iaload, 1) := by decide +kernel
theorem dX6_run_42 : decode cX6_run 42 = .ok (.aload_n 0, 1) := by decide +kernel
theorem dX6_run_43 : decode cX6_run 43 = .ok (.iload_n 3, 1) := by decide +kernel
theorem dX6_run_44 : decode cX6_run 44 = .ok (.invokevirtual 138, 3) := by decide +kernel
theorem dX6_run_47 : decode cX6_run 47 = .ok (.if_icmp .ne 32, 3) := by decide +kernel
theorem dX6_run_50 : decode cX6_run 50 = .ok (.aload_n 0, 1) := by decide +kernel
theorem dX6_run_51 : decode cX6_run 51 = .ok (.dup, 1) := by decide +kernel
theorem dX6_run_52 : decode cX6_run 52 = .ok (.getfield 88, 3) := by decide +kernel
theorem dX6_run_55 : decode cX6_run 55 = .ok (.iconst 1, 1) := by decide +kernel
theorem dX6_run_56 : decode cX6_run 56 = .ok (.isub, 1) := by decide +kernel
theorem dX6_run_57 : decode cX6_run 57 = .ok (.putfield 88, 3) := by decide +kernel
theorem dX6_run_60 : decode cX6_run 60 = .ok (.aload_n 0, 1) := by decide +kernel
theorem dX6_run_61 : decode cX6_run 61 = .ok (.aload_n 0, 1) := by decide +kernel
theorem dX6_run_62 : decode cX6_run 62 = .ok (.getfield 88, 3) := by decide +kernel
theorem dX6_run_65 : decode cX6_run 65 = .ok (.ifCond .ge 7, 3) := by decide +kernel
theorem dX6_run_68 : decode cX6_run 68 = .ok (.iconst 2, 1) := by decide +kernel
theorem dX6_run_69 : decode cX6_run 69 = .ok (.goto 4, 3) := by decide +kernel
theorem dX6_run_72 : decode cX6_run 72 = .ok (.iconst 0, 1) := by decide +kernel
theorem dX6_run_73 : decode cX6_run 73 = .ok (.putfield 85, 3) := by decide +kernel
theorem dX6_run_76 : decode cX6_run 76 = .ok (.goto 100, 3) := by decide +kernel
theorem dX6_run_79 : decode cX6_run 79 = .ok (.iload_n 2, 1) := by decide +kernel
theorem dX6_run_80 : decode cX6_run 80 = .ok (.ifCond .ne 5, 3) := by decide +kernel
theorem dX6_run_83 : decode cX6_run 83 = .ok (.iconst 0, 1) := by decide +kernel
theorem dX6_run_84 : decode cX6_run 84 = .ok (.ireturn, 1) := by decide +kernel
theorem dX6_run_85 : decode cX6_run 85 = .ok (.iinc 2 (-1), 3) := by decide +kernel
theorem dX6_run_88 : decode cX6_run 88 = .ok (.aload_n 0, 1) := by decide +kernel
theorem dX6_run_89 : decode cX6_run 89 = .ok (.dup, 1) := by decide +kernel
theorem dX6_run_90 : decode cX6_run 90 = .ok (.getfield 91, 3) := by decide +kernel
theorem dX6_run_93 : decode cX6_run 93 = .ok (.lconst 1, 1) := by decide +kernel
theorem dX6_run_94 : decode cX6_run 94 = .ok (.ladd, 1) := by decide +kernel
theorem dX6_run_95 : decode cX6_run 95 = .ok (.putfield 91, 3) := by decide +kernel
theorem dX6_run_98 : decode cX6_run 98 = .ok (.aload_n 0, 1) := by decide +kernel
theorem dX6_run_99 : decode cX6_run 99 = .ok (.iload_n 3, 1) := by decide +kernel
theorem dX6_run_100 : decode cX6_run 100 = .ok (.aload_n 0, 1) := by decide +kernel
theorem dX6_run_101 : decode cX6_run 101 = .ok (.getfield 31, 3) := by decide +kernel
theorem dX6_run_104 : decode cX6_run 104 = .ok (.aload_n 0, 1) := by decide +kernel
theorem dX6_run_105 : decode cX6_run 105 = .ok (.getfield 88, 3) := by decide +kernel
theorem dX6_run_108 : decode cX6_run 108 = .ok (.dup2, 1) := by decide +kernel
theorem dX6_run_109 : decode cX6_run 109 = .ok (.iaload, 1) := by decide +kernel
theorem dX6_run_110 : decode cX6_run 110 = .ok (.dup_x2, 1) := by decide +kernel
theorem dX6_run_111 : decode cX6_run 111 = .ok (.iconst 1, 1) := by decide +kernel
theorem dX6_run_112 : decode cX6_run 112 = .ok (.iadd, 1) := by decide +kernel
theorem dX6_run_113 : decode cX6_run 113 = .ok (.iastore, 1) := by decide +kernel
theorem dX6_run_114 : decode cX6_run 114 = .ok (.invokevirtual 141, 3) := by decide +kernel
theorem dX6_run_117 : decode cX6_run 117 = .ok (.aload_n 0, 1) := by decide +kernel
theorem dX6_run_118 : decode cX6_run 118 = .ok (.iload_n 3, 1) := by decide +kernel
theorem dX6_run_119 : decode cX6_run 119 = .ok (.invokevirtual 144, 3) := by decide +kernel
theorem dX6_run_122 : decode cX6_run 122 = .ok (.ifCond .eq 54, 3) := by decide +kernel
theorem dX6_run_125 : decode cX6_run 125 = .ok (.aload_n 0, 1) := by decide +kernel
theorem dX6_run_126 : decode cX6_run 126 = .ok (.dup, 1) := by decide +kernel
theorem dX6_run_127 : decode cX6_run 127 = .ok (.getfield 88, 3) := by decide +kernel
theorem dX6_run_130 : decode cX6_run 130 = .ok (.iconst 1, 1) := by decide +kernel
theorem dX6_run_131 : decode cX6_run 131 = .ok (.iadd, 1) := by decide +kernel
theorem dX6_run_132 : decode cX6_run 132 = .ok (.putfield 88, 3) := by decide +kernel
theorem dX6_run_135 : decode cX6_run 135 = .ok (.aload_n 0, 1) := by decide +kernel
theorem dX6_run_136 : decode cX6_run 136 = .ok (.aload_n 0, 1) := by decide +kernel
theorem dX6_run_137 : decode cX6_run 137 = .ok (.getfield 88, 3) := by decide +kernel
theorem dX6_run_140 : decode cX6_run 140 = .ok (.aload_n 0, 1) := by decide +kernel
theorem dX6_run_141 : decode cX6_run 141 = .ok (.getfield 81, 3) := by decide +kernel
theorem dX6_run_144 : decode cX6_run 144 = .ok (.if_icmp .ne 7, 3) := by decide +kernel
theorem dX6_run_147 : decode cX6_run 147 = .ok (.iconst 1, 1) := by decide +kernel
theorem dX6_run_148 : decode cX6_run 148 = .ok (.goto 4, 3) := by decide +kernel
theorem dX6_run_151 : decode cX6_run 151 = .ok (.iconst 0, 1) := by decide +kernel
theorem dX6_run_152 : decode cX6_run 152 = .ok (.putfield 85, 3) := by decide +kernel
theorem dX6_run_155 : decode cX6_run 155 = .ok (.aload_n 0, 1) := by decide +kernel
theorem dX6_run_156 : decode cX6_run 156 = .ok (.getfield 88, 3) := by decide +kernel
theorem dX6_run_159 : decode cX6_run 159 = .ok (.aload_n 0, 1) := by decide +kernel
theorem dX6_run_160 : decode cX6_run 160 = .ok (.getfield 81, 3) := by decide +kernel
theorem dX6_run_163 : decode cX6_run 163 = .ok (.if_icmp .ge 13, 3) := by decide +kernel
theorem dX6_run_166 : decode cX6_run 166 = .ok (.aload_n 0, 1) := by decide +kernel
theorem dX6_run_167 : decode cX6_run 167 = .ok (.getfield 31, 3) := by decide +kernel
theorem dX6_run_170 : decode cX6_run 170 = .ok (.aload_n 0, 1) := by decide +kernel
theorem dX6_run_171 : decode cX6_run 171 = .ok (.getfield 88, 3) := by decide +kernel
theorem dX6_run_174 : decode cX6_run 174 = .ok (.iconst 0, 1) := by decide +kernel
