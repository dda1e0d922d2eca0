theorem dX0_init_0 : decode cX0_init 0 = .ok (.aload_n 0, 1) := by decide +kernel
theorem dX0_init_1 : decode cX0_init 1 = .ok (.invokespecial 3, 3) := by decide +kernel
theorem dX0_init_4 : decode cX0_init 4 = .ok (.aload_n 0, 1) := by decide +kernel
theorem dX0_init_5 : decode cX0_init 5 = .ok (.bipush 60, 2) := by decide +kernel
theorem dX0_init_7 : decode cX0_init 7 = .ok (.newarray .int, 2) := by decide +kernel
theorem dX0_init_9 : decode cX0_init 9 = .ok (.putfield 9, 3) := by decide +kernel
theorem dX0_init_12 : decode cX0_init 12 = .ok (.aload_n 0, 1) := by decide +kernel
theorem dX0_init_13 : decode cX0_init 13 = .ok (.bipush 9, 2) := by decide +kernel
theorem dX0_init_15 : decode cX0_init 15 = .ok (.newarray .int, 2) := by decide +kernel
theorem dX0_init_17 : decode cX0_init 17 = .ok (.putfield 15, 3) := by decide +kernel
theorem dX0_init_20 : decode cX0_init 20 = .ok (.aload_n 0, 1) := by decide +kernel
theorem dX0_init_21 : decode cX0_init 21 = .ok (.aload_n 1, 1) := by decide +kernel
theorem dX0_init_22 : decode cX0_init 22 = .ok (.putfield 18, 3) := by decide +kernel
theorem dX0_init_25 : decode cX0_init 25 = .ok (.return_, 1) := by decide +kernel
theorem dX0_build_0 : decode cX0_build 0 = .ok (.iconst 0, 1) := by decide +kernel
theorem dX0_build_1 : decode cX0_build 1 = .ok (.istore_n 1, 1) := by decide +kernel
theorem dX0_build_2 : decode cX0_build 2 = .ok (.aload_n 0, 1) := by decide +kernel
theorem dX0_build_3 : decode cX0_build 3 = .ok (.getfield 18, 3) := by decide +kernel
theorem dX0_build_6 : decode cX0_build 6 = .ok (.getfield 22, 3) := by decide +kernel
theorem dX0_build_9 : decode cX0_build 9 = .ok (.ifCond .eq 19, 3) := by decide +kernel
theorem dX0_build_12 : decode cX0_build 12 = .ok (.aload_n 0, 1) := by decide +kernel
theorem dX0_build_13 : decode cX0_build 13 = .ok (.getfield 15, 3) := by decide +kernel
theorem dX0_build_16 : decode cX0_build 16 = .ok (.iload_n 1, 1) := by decide +kernel
theorem dX0_build_17 : decode cX0_build 17 = .ok (.iinc 1 1, 3) := by decide +kernel
theorem dX0_build_20 : decode cX0_build 20 = .ok (.aload_n 0, 1) := by decide +kernel
theorem dX0_build_21 : decode cX0_build 21 = .ok (.getfield 18, 3) := by decide +kernel
theorem dX0_build_24 : decode cX0_build 24 = .ok (.getfield 22, 3) := by decide +kernel
theorem dX0_build_27 : decode cX0_build 27 = .ok (.iastore, 1) := by decide +kernel
theorem dX0_build_28 : decode cX0_build 28 = .ok (.iconst 0, 1) := by decide +kernel
theorem dX0_build_29 : decode cX0_build 29 = .ok (.istore_n 2, 1) := by decide +kernel
theorem dX0_build_30 : decode cX0_build 30 = .ok (.iload_n 2, 1) := by decide +kernel
theorem dX0_build_31 : decode cX0_build 31 = .ok (.bipush 15, 2) := by decide +kernel
theorem dX0_build_33 : decode cX0_build 33 = .ok (.if_icmp .ge 146, 3) := by decide +kernel
theorem dX0_build_36 : decode cX0_build 36 = .ok (.iload_n 1, 1) := by decide +kernel
theorem dX0_build_37 : decode cX0_build 37 = .ok (.ifCond .le 142, 3) := by decide +kernel
theorem dX0_build_40 : decode cX0_build 40 = .ok (.aload_n 0, 1) := by decide +kernel
theorem dX0_build_41 : decode cX0_build 41 = .ok (.getfield 15, 3) := by decide +kernel
theorem dX0_build_44 : decode cX0_build 44 = .ok (.iinc 1 (-1), 3) := by decide +kernel
theorem dX0_build_47 : decode cX0_build 47 = .ok (.iload_n 1, 1) := by decide +kernel
theorem dX0_build_48 : decode cX0_build 48 = .ok (.iaload, 1) := by decide +kernel
theorem dX0_build_49 : decode cX0_build 49 = .ok (.istore_n 3, 1) := by decide +kernel
theorem dX0_build_50 : decode cX0_build 50 = .ok (.iload_n 3, 1) := by decide +kernel
theorem dX0_build_51 : decode cX0_build 51 = .ok (.iload_n 3, 1) := by decide +kernel
theorem dX0_build_52 : decode cX0_build 52 = .ok (.iconst 1, 1) := by decide +kernel
theorem dX0_build_53 : decode cX0_build 53 = .ok (.isub, 1) := by decide +kernel
theorem dX0_build_54 : decode cX0_build 54 = .ok (.iand, 1) := by decide +kernel
theorem dX0_build_55 : decode cX0_build 55 = .ok (.ifCond .ne 21, 3) := by decide +kernel
theorem dX0_build_58 : decode cX0_build 58 = .ok (.aload_n 0, 1) := by decide +kernel
theorem dX0_build_59 : decode cX0_build 59 = .ok (.iload_n 2, 1) := by decide +kernel
theorem dX0_build_60 : decode cX0_build 60 = .ok (.bipush (-9), 2) := by decide +kernel
theorem dX0_build_62 : decode cX0_build 62 = .ok (.iload_n 3, 1) := by decide +kernel
theorem dX0_build_63 : decode cX0_build 63 = .ok (.invokestatic 28, 3) := by decide +kernel
theorem dX0_build_66 : decode cX0_build 66 = .ok (.bipush (-9), 2) := by decide +kernel
theorem dX0_build_68 : decode cX0_build 68 = .ok (.bipush (-9), 2) := by decide +kernel
theorem dX0_build_70 : decode cX0_build 70 = .ok (.invokevirtual 32, 3) := by decide +kernel
theorem dX0_build_73 : decode cX0_build 73 = .ok (.goto 100, 3) := by decide +kernel
theorem dX0_build_76 : decode cX0_build 76 = .ok (.aload_n 0, 1) := by decide +kernel
theorem dX0_build_77 : decode cX0_build 77 = .ok (.iload_n 3, 1) := by decide +kernel
theorem dX0_build_78 : decode cX0_build 78 = .ok (.invokevirtual 36, 3) := by decide +kernel
theorem dX0_build_81 : decode cX0_build 81 = .ok (.istore 4, 2) := by decide +kernel
theorem dX0_build_83 : decode cX0_build 83 = .ok (.iload 4, 2) := by decide +kernel
theorem dX0_build_85 : decode cX0_build 85 = .ok (.bipush (-9), 2) := by decide +kernel
theorem dX0_build_87 : decode cX0_build 87 = .ok (.if_icmp .eq 14, 3) := by decide +kernel
theorem dX0_build_90 : decode cX0_build 90 = .ok (.iload_n 1, 1) := by decide +kernel
theorem dX0_build_91 : decode cX0_build 91 = .ok (.iconst 2, 1) := by decide +kernel
theorem dX0_build_92 : decode cX0_build 92 = .ok (.iadd, 1) := by decide +kernel
theorem dX0_build_93 : decode cX0_build 93 = .ok (.aload_n 0, 1) := by decide +kernel
theorem dX0_build_94 : decode cX0_build 94 = .ok (.getfield 15, 3) := by decide +kernel
theorem dX0_build_97 : decode cX0_build 97 = .ok (.arraylength, 1) := by decide +kernel
theorem dX0_build_98 : decode cX0_build 98 = .ok (.if_icmp .le 5, 3) := by decide +kernel
theorem dX0_build_101 : decode cX0_build 101 = .ok (.iconst 0, 1) := by decide +kernel
theorem dX0_build_102 : decode cX0_build 102 = .ok (.ireturn, 1) := by decide +kernel
theorem dX0_build_103 : decode cX0_build 103 = .ok (.aload_n 0, 1) := by decide +kernel
theorem dX0_build_104 : decode cX0_build 104 = .ok (.iload_n 3, 1) := by decide +kernel
theorem dX0_build_105 : decode cX0_build 105 = .ok (.iload 4, 2) := by decide +kernel
theorem dX0_build_107 : decode cX0_build 107 = .ok (.invokevirtual 39, 3) := by decide +kernel
theorem dX0_build_110 : decode cX0_build 110 = .ok (.invokestatic 28, 3) := by decide +kernel
theorem dX0_build_113 : decode cX0_build 113 = .ok (.istore 5, 2) := by decide +kernel
theorem dX0_build_115 : decode cX0_build 115 = .ok (.aload_n 0, 1) := by decide +kernel
theorem dX0_build_116 : decode cX0_build 116 = .ok (.iload_n 3, 1) := by decide +kernel
theorem dX0_build_117 : decode cX0_build 117 = .ok (.iload 4, 2) := by decide +kernel
theorem dX0_build_119 : decode cX0_build 119 = .ok (.iload 5, 2) := by decide +kernel
theorem dX0_build_121 : decode cX0_build 121 = .ok (.invokevirtual 43, 3) := by decide +kernel
theorem dX0_build_124 : decode cX0_build 124 = .ok (.istore 6, 2) := by decide +kernel
theorem dX0_build_126 : decode cX0_build 126 = .ok (.aload_n 0, 1) := by decide +kernel
theorem dX0_build_127 : decode cX0_build 127 = .ok (.iload_n 2, 1) := by decide +kernel
theorem dX0_build_128 : decode cX0_build 128 = .ok (.iload 4, 2) := by decide +kernel
theorem dX0_build_130 : decode cX0_build 130 = .ok (.iload 5, 2) := by decide +kernel
theorem dX0_build_132 : decode cX0_build 132 = .ok (.iload_n 2, 1) := by decide +kernel
theorem dX0_build_133 : decode cX0_build 133 = .ok (.iconst 1, 1) := by decide +kernel
theorem dX0_build_134 : decode cX0_build 134 = .ok (.iadd, 1) := by decide +kernel
theorem dX0_build_135 : decode cX0_build 135 = .ok (.iload_n 2, 1) := by decide +kernel
theorem dX0_build_136 : decode cX0_build 136 = .ok (.iconst 2, 1) := by decide +kernel
theorem dX0_build_137 : decode cX0_build 137 = .ok (.iload 6, 2) := by decide +kernel
theorem dX0_build_139 : decode cX0_build 139 = .ok (.invokestatic 47, 3) := by decide +kernel
theorem dX0_build_142 : decode cX0_build 142 = .ok (.imul, 1) := by decide +kernel
theorem dX0_build_143 : decode cX0_build 143 = .ok (.iadd, 1) := by decide +kernel
theorem dX0_build_144 : decode cX0_build 144 = .ok (.invokevirtual 32, 3) := by decide +kernel
theorem dX0_build_147 : decode cX0_build 147 = .ok (.aload_n 0, 1) := by decide +kernel
theorem dX0_build_148 : decode cX0_build 148 = .ok (.getfield 15, 3) := by decide +kernel
theorem dX0_build_151 : decode cX0_build 151 = .ok (.iload_n 1, 1) := by decide +kernel
theorem dX0_build_152 : decode cX0_build 152 = .ok (.iinc 1 1, 3) := by decide +kernel
theorem dX0_build_155 : decode cX0_build 155 = .ok (.iload_n 3, 1) := by decide +kernel
theorem dX0_build_156 : decode cX0_build 156 = .ok (.iload 6, 2) := by decide +kernel
theorem dX0_build_158 : decode cX0_build 158 = .ok (.iconst (-1), 1) := by decide +kernel
theorem dX0_build_159 : decode cX0_build 159 = .ok (.ixor, 1) := by decide +kernel
theorem dX0_build_160 : decode cX0_build 160 = .ok (.iand, 1) := by decide +kernel
theorem dX0_build_161 : decode cX0_build 161 = .ok (.iastore, 1) := by decide +kernel
theorem dX0_build_162 : decode cX0_build 162 = .ok (.aload_n 0, 1) := by decide +kernel
theorem dX0_build_163 : decode cX0_build 163 = .ok (.getfield 15, 3) := by decide +kernel
theorem dX0_build_166 : decode cX0_build 166 = .ok (.iload_n 1, 1) := by decide +kernel
theorem dX0_build_167 : decode cX0_build 167 = .ok (.iinc 1 1, 3) := by decide +kernel
theorem dX0_build_170 : decode cX0_build 170 = .ok (.iload 6, 2) := by decide +kernel
theorem dX0_build_172 : decode cX0_build 172 = .ok (.iastore, 1) := by decide +kernel
theorem dX0_build_173 : decode cX0_build 173 = .ok (.iinc 2 1, 3) := by decide +kernel
theorem dX0_build_176 : decode cX0_build 176 = .ok (.goto (-146), 3) := by decide +kernel
theorem dX0_build_179 : decode cX0_build 179 = .ok (.iload_n 2, 1) := by decide +kernel
theorem dX0_build_180 : decode cX0_build 180 = .ok (.ireturn, 1) := by decide +kernel
theorem dX0_write_0 : decode cX0_write 0 = .ok (.iload_n 1, 1) := by decide +kernel
theorem dX0_write_1 : decode cX0_write 1 = .ok (.iconst 4, 1) := by decide +kernel
theorem dX0_write_2 : decode cX0_write 2 = .ok (.imul, 1) := by decide +kernel
theorem dX0_write_3 : decode cX0_write 3 = .ok (.istore 6, 2) := by decide +kernel
theorem dX0_write_5 : decode cX0_write 5 = .ok (.aload_n 0, 1) := by decide +kernel
theorem dX0_write_6 : decode cX0_write 6 = .ok (.getfield 9, 3) := by decide +kernel
theorem dX0_write_9 : decode cX0_write 9 = .ok (.iload 6, 2) := by decide +kernel
theorem dX0_write_11 : decode cX0_write 11 = .ok (.iload_n 2, 1) := by decide +kernel
theorem dX0_write_12 : decode cX0_write 12 = .ok (.iastore, 1) := by decide +kernel
theorem dX0_write_13 : decode cX0_write 13 = .ok (.aload_n 0, 1) := by decide +kernel
theorem dX0_write_14 : decode cX0_write 14 = .ok (.getfield 9, 3) := by decide +kernel
theorem dX0_write_17 : decode cX0_write 17 = .ok (.iload 6, 2) := by decide +kernel
theorem dX0_write_19 : decode cX0_write 19 = .ok (.iconst 1, 1) := by decide +kernel
theorem dX0_write_20 : decode cX0_write 20 = .ok (.iadd, 1) := by decide +kernel
theorem dX0_write_21 : decode cX0_write 21 = .ok (.iload_n 3, 1) := by decide +kernel
theorem dX0_write_22 : decode cX0_write 22 = .ok (.iastore, 1) := by decide +kernel
theorem dX0_write_23 : decode cX0_write 23 = .ok (.aload_n 0, 1) := by decide +kernel
theorem dX0_write_24 : decode cX0_write 24 = .ok (.getfield 9, 3) := by decide +kernel
theorem dX0_write_27 : decode cX0_write 27 = .ok (.iload 6, 2) := by decide +kernel
theorem dX0_write_29 : decode cX0_write 29 = .ok (.iconst 2, 1) := by decide +kernel
theorem dX0_write_30 : decode cX0_write 30 = .ok (.iadd, 1) := by decide +kernel
theorem dX0_write_31 : decode cX0_write 31 = .ok (.iload 4, 2) := by decide +kernel
theorem dX0_write_33 : decode cX0_write 33 = .ok (.iastore, 1) := by decide +kernel
theorem dX0_write_34 : decode cX0_write 34 = .ok (.aload_n 0, 1) := by decide +kernel
theorem dX0_write_35 : decode cX0_write 35 = .ok (.getfield 9, 3) := by decide +kernel
theorem dX0_write_38 : decode cX0_write 38 = .ok (.iload 6, 2) := by decide +kernel
theorem dX0_write_40 : decode cX0_write 40 = .ok (.iconst 3, 1) := by decide +kernel
theorem dX0_write_41 : decode cX0_write 41 = .ok (.iadd, 1) := by decide +kernel
theorem dX0_write_42 : decode cX0_write 42 = .ok (.iload 5, 2) := by decide +kernel
theorem dX0_write_44 : decode cX0_write 44 = .ok (.iastore, 1) := by decide +kernel
theorem dX0_write_45 : decode cX0_write 45 = .ok (.return_, 1) := by decide +kernel
theorem dX0_axisOfCut_0 : decode cX0_axisOfCut 0 = .ok (.iconst 0, 1) := by decide +kernel
theorem dX0_axisOfCut_1 : decode cX0_axisOfCut 1 = .ok (.istore_n 2, 1) := by decide +kernel
theorem dX0_axisOfCut_2 : decode cX0_axisOfCut 2 = .ok (.iload_n 2, 1) := by decide +kernel
theorem dX0_axisOfCut_3 : decode cX0_axisOfCut 3 = .ok (.iconst 3, 1) := by decide +kernel
theorem dX0_axisOfCut_4 : decode cX0_axisOfCut 4 = .ok (.if_icmp .ge 20, 3) := by decide +kernel
theorem dX0_axisOfCut_7 : decode cX0_axisOfCut 7 = .ok (.aload_n 0, 1) := by decide +kernel
theorem dX0_axisOfCut_8 : decode cX0_axisOfCut 8 = .ok (.iload_n 1, 1) := by decide +kernel
theorem dX0_axisOfCut_9 : decode cX0_axisOfCut 9 = .ok (.iload_n 2, 1) := by decide +kernel
theorem dX0_axisOfCut_10 : decode cX0_axisOfCut 10 = .ok (.invokevirtual 39, 3) := by decide +kernel
theorem dX0_axisOfCut_13 : decode cX0_axisOfCut 13 = .ok (.ifCond .eq 5, 3) := by decide +kernel
theorem dX0_axisOfCut_16 : decode cX0_axisOfCut 16 = .ok (.iload_n 2, 1) := by decide +kernel
theorem dX0_axisOfCut_17 : decode cX0_axisOfCut 17 = .ok (.ireturn, 1) := by decide +kernel
theorem dX0_axisOfCut_18 : decode cX0_axisOfCut 18 = .ok (.iinc 2 1, 3) := by decide +kernel
theorem dX0_axisOfCut_21 : decode cX0_axisOfCut 21 = .ok (.goto (-19), 3) := by decide +kernel
theorem dX0_axisOfCut_24 : decode cX0_axisOfCut 24 = .ok (.bipush (-9), 2) := by decide +kernel
theorem dX0_axisOfCut_26 : decode cX0_axisOfCut 26 = .ok (.ireturn, 1) := by decide +kernel
theorem dX0_cutPlaces_0 : decode cX0_cutPlaces 0 = .ok (.bipush 20, 2) := by decide +kernel
theorem dX0_cutPlaces_2 : decode cX0_cutPlaces 2 = .ok (.istore_n 3, 1) := by decide +kernel
theorem dX0_cutPlaces_3 : decode cX0_cutPlaces 3 = .ok (.iconst 0, 1) := by decide +kernel
theorem dX0_cutPlaces_4 : decode cX0_cutPlaces 4 = .ok (.istore 4, 2) := by decide +kernel
theorem dX0_cutPlaces_6 : decode cX0_cutPlaces 6 = .ok (.iconst 0, 1) := by decide +kernel
theorem dX0_cutPlaces_7 : decode cX0_cutPlaces 7 = .ok (.istore 5, 2) := by decide +kernel
theorem dX0_cutPlaces_9 : decode cX0_cutPlaces 9 = .ok (.iconst 0, 1) := by decide +kernel
theorem dX0_cutPlaces_10 : decode cX0_cutPlaces 10 = .ok (.istore 6, 2) := by decide +kernel
theorem dX0_cutPlaces_12 : decode cX0_cutPlaces 12 = .ok (.iload 6, 2) := by decide +kernel
theorem dX0_cutPlaces_14 : decode cX0_cutPlaces 14 = .ok (.bipush 8, 2) := by decide +kernel
theorem dX0_cutPlaces_16 : decode cX0_cutPlaces 16 = .ok (.if_icmp .ge 81, 3) := by decide +kernel
theorem dX0_cutPlaces_19 : decode cX0_cutPlaces 19 = .ok (.iload_n 1, 1) := by decide +kernel
theorem dX0_cutPlaces_20 : decode cX0_cutPlaces 20 = .ok (.iload 6, 2) := by decide +kernel
theorem dX0_cutPlaces_22 : decode cX0_cutPlaces 22 = .ok (.ishr, 1) := by decide +kernel
theorem dX0_cutPlaces_23 : decode cX0_cutPlaces 23 = .ok (.iconst 1, 1) := by decide +kernel
theorem dX0_cutPlaces_24 : decode cX0_cutPlaces 24 = .ok (.iand, 1) := by decide +kernel
theorem dX0_cutPlaces_25 : decode cX0_cutPlaces 25 = .ok (.iconst 1, 1) := by decide +kernel
theorem dX0_cutPlaces_26 : decode cX0_cutPlaces 26 = .ok (.if_icmp .ne 65, 3) := by decide +kernel
theorem dX0_cutPlaces_29 : decode cX0_cutPlaces 29 = .ok (.aload_n 0, 1) := by decide +kernel
theorem dX0_cutPlaces_30 : decode cX0_cutPlaces 30 = .ok (.getfield 18, 3) := by decide +kernel
theorem dX0_cutPlaces_33 : decode cX0_cutPlaces 33 = .ok (.getfield 52, 3) := by decide +kernel
theorem dX0_cutPlaces_36 : decode cX0_cutPlaces 36 = .ok (.iload 6, 2) := by decide +kernel
theorem dX0_cutPlaces_38 : decode cX0_cutPlaces 38 = .ok (.iconst 3, 1) := by decide +kernel
theorem dX0_cutPlaces_39 : decode cX0_cutPlaces 39 = .ok (.imul, 1) := by decide +kernel
theorem dX0_cutPlaces_40 : decode cX0_cutPlaces 40 = .ok (.iload_n 2, 1) := by decide +kernel
theorem dX0_cutPlaces_41 : decode cX0_cutPlaces 41 = .ok (.iadd, 1) := by decide +kernel
theorem dX0_cutPlaces_42 : decode cX0_cutPlaces 42 = .ok (.iaload, 1) := by decide +kernel
theorem dX0_cutPlaces_43 : decode cX0_cutPlaces 43 = .ok (.istore 7, 2) := by decide +kernel
theorem dX0_cutPlaces_45 : decode cX0_cutPlaces 45 = .ok (.aload_n 0, 1) := by decide +kernel
theorem dX0_cutPlaces_46 : decode cX0_cutPlaces 46 = .ok (.getfield 18, 3) := by decide +kernel
theorem dX0_cutPlaces_49 : decode cX0_cutPlaces 49 = .ok (.getfield 55, 3) := by decide +kernel
theorem dX0_cutPlaces_52 : decode cX0_cutPlaces 52 = .ok (.iload 6, 2) := by decide +kernel
theorem dX0_cutPlaces_54 : decode cX0_cutPlaces 54 = .ok (.iconst 3, 1) := by decide +kernel
theorem dX0_cutPlaces_55 : decode cX0_cutPlaces 55 = .ok (.imul, 1) := by decide +kernel
theorem dX0_cutPlaces_56 : decode cX0_cutPlaces 56 = .ok (.iload_n 2, 1) := by decide +kernel
theorem dX0_cutPlaces_57 : decode cX0_cutPlaces 57 = .ok (.iadd, 1) := by decide +kernel
theorem dX0_cutPlaces_58 : decode cX0_cutPlaces 58 = .ok (.iaload, 1) := by decide +kernel
theorem dX0_cutPlaces_59 : decode cX0_cutPlaces 59 = .ok (.istore 8, 2) := by decide +kernel
theorem dX0_cutPlaces_61 : decode cX0_cutPlaces 61 = .ok (.iload_n 3, 1) := by decide +kernel
theorem dX0_cutPlaces_62 : decode cX0_cutPlaces 62 = .ok (.iload 8, 2) := by decide +kernel
theorem dX0_cutPlaces_64 : decode cX0_cutPlaces 64 = .ok (.invokestatic 58, 3) := by decide +kernel
theorem dX0_cutPlaces_67 : decode cX0_cutPlaces 67 = .ok (.istore_n 3, 1) := by decide +kernel
theorem dX0_cutPlaces_68 : decode cX0_cutPlaces 68 = .ok (.iload 4, 2) := by decide +kernel
theorem dX0_cutPlaces_70 : decode cX0_cutPlaces 70 = .ok (.iload 7, 2) := by decide +kernel
theorem dX0_cutPlaces_72 : decode cX0_cutPlaces 72 = .ok (.invokestatic 63, 3) := by decide +kernel
theorem dX0_cutPlaces_75 : decode cX0_cutPlaces 75 = .ok (.istore 4, 2) := by decide +kernel
theorem dX0_cutPlaces_77 : decode cX0_cutPlaces 77 = .ok (.iload 5, 2) := by decide +kernel
theorem dX0_cutPlaces_79 : decode cX0_cutPlaces 79 = .ok (.iconst 1, 1) := by decide +kernel
theorem dX0_cutPlaces_80 : decode cX0_cutPlaces 80 = .ok (.iload 8, 2) := by decide +kernel
theorem dX0_cutPlaces_82 : decode cX0_cutPlaces 82 = .ok (.ishl, 1) := by decide +kernel
theorem dX0_cutPlaces_83 : decode cX0_cutPlaces 83 = .ok (.iconst 2, 1) := by decide +kernel
theorem dX0_cutPlaces_84 : decode cX0_cutPlaces 84 = .ok (.iload 7, 2) := by decide +kernel
theorem dX0_cutPlaces_86 : decode cX0_cutPlaces 86 = .ok (.ishl, 1) := by decide +kernel
theorem dX0_cutPlaces_87 : decode cX0_cutPlaces 87 = .ok (.isub, 1) := by decide +kernel
theorem dX0_cutPlaces_88 : decode cX0_cutPlaces 88 = .ok (.ior, 1) := by decide +kernel
theorem dX0_cutPlaces_89 : decode cX0_cutPlaces 89 = .ok (.istore 5, 2) := by decide +kernel
theorem dX0_cutPlaces_91 : decode cX0_cutPlaces 91 = .ok (.iinc 6 1, 3) := by decide +kernel
theorem dX0_cutPlaces_94 : decode cX0_cutPlaces 94 = .ok (.goto (-82), 3) := by decide +kernel
theorem dX0_cutPlaces_97 : decode cX0_cutPlaces 97 = .ok (.iload 4, 2) := by decide +kernel
theorem dX0_cutPlaces_99 : decode cX0_cutPlaces 99 = .ok (.iload_n 3, 1) := by decide +kernel
theorem dX0_cutPlaces_100 : decode cX0_cutPlaces 100 = .ok (.if_icmp .ge 5, 3) := by decide +kernel
theorem dX0_cutPlaces_103 : decode cX0_cutPlaces 103 = .ok (.iconst 0, 1) := by decide +kernel
theorem dX0_cutPlaces_104 : decode cX0_cutPlaces 104 = .ok (.ireturn, 1) := by decide +kernel
theorem dX0_cutPlaces_105 : decode cX0_cutPlaces 105 = .ok (.iconst 2, 1) := by decide +kernel
theorem dX0_cutPlaces_106 : decode cX0_cutPlaces 106 = .ok (.iload 4, 2) := by decide +kernel
theorem dX0_cutPlaces_108 : decode cX0_cutPlaces 108 = .ok (.ishl, 1) := by decide +kernel
theorem dX0_cutPlaces_109 : decode cX0_cutPlaces 109 = .ok (.iconst 1, 1) := by decide +kernel
theorem dX0_cutPlaces_110 : decode cX0_cutPlaces 110 = .ok (.iload_n 3, 1) := by decide +kernel
theorem dX0_cutPlaces_111 : decode cX0_cutPlaces 111 = .ok (.ishl, 1) := by decide +kernel
theorem dX0_cutPlaces_112 : decode cX0_cutPlaces 112 = .ok (.isub, 1) := by decide +kernel
theorem dX0_cutPlaces_113 : decode cX0_cutPlaces 113 = .ok (.iload 5, 2) := by decide +kernel
theorem dX0_cutPlaces_115 : decode cX0_cutPlaces 115 = .ok (.iconst (-1), 1) := by decide +kernel
theorem dX0_cutPlaces_116 : decode cX0_cutPlaces 116 = .ok (.ixor, 1) := by decide +kernel
theorem dX0_cutPlaces_117 : decode cX0_cutPlaces 117 = .ok (.iand, 1) := by decide +kernel
theorem dX0_cutPlaces_118 : decode cX0_cutPlaces 118 = .ok (.ireturn, 1) := by decide +kernel
theorem dX0_boxesBefore_0 : decode cX0_boxesBefore 0 = .ok (.iconst 0, 1) := by decide +kernel
theorem dX0_boxesBefore_1 : decode cX0_boxesBefore 1 = .ok (.istore 4, 2) := by decide +kernel
theorem dX0_boxesBefore_3 : decode cX0_boxesBefore 3 = .ok (.iconst 0, 1) := by decide +kernel
theorem dX0_boxesBefore_4 : decode cX0_boxesBefore 4 = .ok (.istore 5, 2) := by decide +kernel
theorem dX0_boxesBefore_6 : decode cX0_boxesBefore 6 = .ok (.iload 5, 2) := by decide +kernel
theorem dX0_boxesBefore_8 : decode cX0_boxesBefore 8 = .ok (.bipush 8, 2) := by decide +kernel
theorem dX0_boxesBefore_10 : decode cX0_boxesBefore 10 = .ok (.if_icmp .ge 46, 3) := by decide +kernel
theorem dX0_boxesBefore_13 : decode cX0_boxesBefore 13 = .ok (.iload_n 1, 1) := by decide +kernel
theorem dX0_boxesBefore_14 : decode cX0_boxesBefore 14 = .ok (.iload 5, 2) := by decide +kernel
theorem dX0_boxesBefore_16 : decode cX0_boxesBefore 16 = .ok (.ishr, 1) := by decide +kernel
theorem dX0_boxesBefore_17 : decode cX0_boxesBefore 17 = .ok (.iconst 1, 1) := by decide +kernel
theorem dX0_boxesBefore_18 : decode cX0_boxesBefore 18 = .ok (.iand, 1) := by decide +kernel
theorem dX0_boxesBefore_19 : decode cX0_boxesBefore 19 = .ok (.iconst 1, 1) := by decide +kernel
theorem dX0_boxesBefore_20 : decode cX0_boxesBefore 20 = .ok (.if_icmp .ne 30, 3) := by decide +kernel
theorem dX0_boxesBefore_23 : decode cX0_boxesBefore 23 = .ok (.aload_n 0, 1) := by decide +kernel
theorem dX0_boxesBefore_24 : decode cX0_boxesBefore 24 = .ok (.getfield 18, 3) := by decide +kernel
theorem dX0_boxesBefore_27 : decode cX0_boxesBefore 27 = .ok (.getfield 55, 3) := by decide +kernel
theorem dX0_boxesBefore_30 : decode cX0_boxesBefore 30 = .ok (.iload 5, 2) := by decide +kernel
theorem dX0_boxesBefore_32 : decode cX0_boxesBefore 32 = .ok (.iconst 3, 1) := by decide +kernel
theorem dX0_boxesBefore_33 : decode cX0_boxesBefore 33 = .ok (.imul, 1) := by decide +kernel
theorem dX0_boxesBefore_34 : decode cX0_boxesBefore 34 = .ok (.iload_n 2, 1) := by decide +kernel
theorem dX0_boxesBefore_35 : decode cX0_boxesBefore 35 = .ok (.iadd, 1) := by decide +kernel
theorem dX0_boxesBefore_36 : decode cX0_boxesBefore 36 = .ok (.iaload, 1) := by decide +kernel
theorem dX0_boxesBefore_37 : decode cX0_boxesBefore 37 = .ok (.iload_n 3, 1) := by decide +kernel
theorem dX0_boxesBefore_38 : decode cX0_boxesBefore 38 = .ok (.if_icmp .gt 12, 3) := by decide +kernel
theorem dX0_boxesBefore_41 : decode cX0_boxesBefore 41 = .ok (.iload 4, 2) := by decide +kernel
theorem dX0_boxesBefore_43 : decode cX0_boxesBefore 43 = .ok (.iconst 1, 1) := by decide +kernel
theorem dX0_boxesBefore_44 : decode cX0_boxesBefore 44 = .ok (.iload 5, 2) := by decide +kernel
theorem dX0_boxesBefore_46 : decode cX0_boxesBefore 46 = .ok (.ishl, 1) := by decide +kernel
theorem dX0_boxesBefore_47 : decode cX0_boxesBefore 47 = .ok (.ior, 1) := by decide +kernel
theorem dX0_boxesBefore_48 : decode cX0_boxesBefore 48 = .ok (.istore 4, 2) := by decide +kernel
theorem dX0_boxesBefore_50 : decode cX0_boxesBefore 50 = .ok (.iinc 5 1, 3) := by decide +kernel
theorem dX0_boxesBefore_53 : decode cX0_boxesBefore 53 = .ok (.goto (-47), 3) := by decide +kernel
theorem dX0_boxesBefore_56 : decode cX0_boxesBefore 56 = .ok (.iload 4, 2) := by decide +kernel
theorem dX0_boxesBefore_58 : decode cX0_boxesBefore 58 = .ok (.ireturn, 1) := by decide +kernel
