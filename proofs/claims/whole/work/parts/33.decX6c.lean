theorem dX6_planted_147 : decode cX6_planted 147 = .ok (.if_icmp .ne 11, 3) := by decide +kernel
theorem dX6_planted_150 : decode cX6_planted 150 = .ok (.aload_n 0, 1) := by decide +kernel
theorem dX6_planted_151 : decode cX6_planted 151 = .ok (.getfield 59, 3) := by decide +kernel
theorem dX6_planted_154 : decode cX6_planted 154 = .ok (.iload 5, 2) := by decide +kernel
theorem dX6_planted_156 : decode cX6_planted 156 = .ok (.iload_n 3, 1) := by decide +kernel
theorem dX6_planted_157 : decode cX6_planted 157 = .ok (.iastore, 1) := by decide +kernel
theorem dX6_planted_158 : decode cX6_planted 158 = .ok (.aload_n 0, 1) := by decide +kernel
theorem dX6_planted_159 : decode cX6_planted 159 = .ok (.getfield 56, 3) := by decide +kernel
theorem dX6_planted_162 : decode cX6_planted 162 = .ok (.iload_n 3, 1) := by decide +kernel
theorem dX6_planted_163 : decode cX6_planted 163 = .ok (.bipush (-9), 2) := by decide +kernel
theorem dX6_planted_165 : decode cX6_planted 165 = .ok (.iastore, 1) := by decide +kernel
theorem dX6_planted_166 : decode cX6_planted 166 = .ok (.aload_n 0, 1) := by decide +kernel
theorem dX6_planted_167 : decode cX6_planted 167 = .ok (.getfield 59, 3) := by decide +kernel
theorem dX6_planted_170 : decode cX6_planted 170 = .ok (.iload_n 3, 1) := by decide +kernel
theorem dX6_planted_171 : decode cX6_planted 171 = .ok (.bipush (-9), 2) := by decide +kernel
theorem dX6_planted_173 : decode cX6_planted 173 = .ok (.iastore, 1) := by decide +kernel
theorem dX6_planted_174 : decode cX6_planted 174 = .ok (.aload_n 0, 1) := by decide +kernel
theorem dX6_planted_175 : decode cX6_planted 175 = .ok (.getfield 50, 3) := by decide +kernel
theorem dX6_planted_178 : decode cX6_planted 178 = .ok (.iload_n 3, 1) := by decide +kernel
theorem dX6_planted_179 : decode cX6_planted 179 = .ok (.bipush (-9), 2) := by decide +kernel
theorem dX6_planted_181 : decode cX6_planted 181 = .ok (.iastore, 1) := by decide +kernel
theorem dX6_planted_182 : decode cX6_planted 182 = .ok (.aload_n 0, 1) := by decide +kernel
theorem dX6_planted_183 : decode cX6_planted 183 = .ok (.getfield 53, 3) := by decide +kernel
theorem dX6_planted_186 : decode cX6_planted 186 = .ok (.iload_n 3, 1) := by decide +kernel
theorem dX6_planted_187 : decode cX6_planted 187 = .ok (.iload 4, 2) := by decide +kernel
theorem dX6_planted_189 : decode cX6_planted 189 = .ok (.invokestatic 177, 3) := by decide +kernel
theorem dX6_planted_192 : decode cX6_planted 192 = .ok (.iastore, 1) := by decide +kernel
theorem dX6_planted_193 : decode cX6_planted 193 = .ok (.iload 4, 2) := by decide +kernel
theorem dX6_planted_195 : decode cX6_planted 195 = .ok (.iload 4, 2) := by decide +kernel
theorem dX6_planted_197 : decode cX6_planted 197 = .ok (.iconst 1, 1) := by decide +kernel
theorem dX6_planted_198 : decode cX6_planted 198 = .ok (.isub, 1) := by decide +kernel
theorem dX6_planted_199 : decode cX6_planted 199 = .ok (.iand, 1) := by decide +kernel
theorem dX6_planted_200 : decode cX6_planted 200 = .ok (.ifCond .eq 115, 3) := by decide +kernel
theorem dX6_planted_203 : decode cX6_planted 203 = .ok (.aload_n 0, 1) := by decide +kernel
theorem dX6_planted_204 : decode cX6_planted 204 = .ok (.iload 4, 2) := by decide +kernel
theorem dX6_planted_206 : decode cX6_planted 206 = .ok (.invokevirtual 180, 3) := by decide +kernel
theorem dX6_planted_209 : decode cX6_planted 209 = .ok (.istore 6, 2) := by decide +kernel
theorem dX6_planted_211 : decode cX6_planted 211 = .ok (.iload 6, 2) := by decide +kernel
theorem dX6_planted_213 : decode cX6_planted 213 = .ok (.bipush (-9), 2) := by decide +kernel
theorem dX6_planted_215 : decode cX6_planted 215 = .ok (.if_icmp .ne 5, 3) := by decide +kernel
theorem dX6_planted_218 : decode cX6_planted 218 = .ok (.iconst 0, 1) := by decide +kernel
theorem dX6_planted_219 : decode cX6_planted 219 = .ok (.ireturn, 1) := by decide +kernel
theorem dX6_planted_220 : decode cX6_planted 220 = .ok (.aload_n 0, 1) := by decide +kernel
theorem dX6_planted_221 : decode cX6_planted 221 = .ok (.getfield 50, 3) := by decide +kernel
theorem dX6_planted_224 : decode cX6_planted 224 = .ok (.iload_n 3, 1) := by decide +kernel
theorem dX6_planted_225 : decode cX6_planted 225 = .ok (.iload 6, 2) := by decide +kernel
theorem dX6_planted_227 : decode cX6_planted 227 = .ok (.bipush 32, 2) := by decide +kernel
theorem dX6_planted_229 : decode cX6_planted 229 = .ok (.idiv, 1) := by decide +kernel
theorem dX6_planted_230 : decode cX6_planted 230 = .ok (.iastore, 1) := by decide +kernel
theorem dX6_planted_231 : decode cX6_planted 231 = .ok (.aload_n 0, 1) := by decide +kernel
theorem dX6_planted_232 : decode cX6_planted 232 = .ok (.getfield 53, 3) := by decide +kernel
theorem dX6_planted_235 : decode cX6_planted 235 = .ok (.iload_n 3, 1) := by decide +kernel
theorem dX6_planted_236 : decode cX6_planted 236 = .ok (.iload 6, 2) := by decide +kernel
theorem dX6_planted_238 : decode cX6_planted 238 = .ok (.bipush 32, 2) := by decide +kernel
theorem dX6_planted_240 : decode cX6_planted 240 = .ok (.irem, 1) := by decide +kernel
theorem dX6_planted_241 : decode cX6_planted 241 = .ok (.iastore, 1) := by decide +kernel
theorem dX6_planted_242 : decode cX6_planted 242 = .ok (.aload_n 0, 1) := by decide +kernel
theorem dX6_planted_243 : decode cX6_planted 243 = .ok (.iload 4, 2) := by decide +kernel
theorem dX6_planted_245 : decode cX6_planted 245 = .ok (.iload 6, 2) := by decide +kernel
theorem dX6_planted_247 : decode cX6_planted 247 = .ok (.bipush 32, 2) := by decide +kernel
theorem dX6_planted_249 : decode cX6_planted 249 = .ok (.idiv, 1) := by decide +kernel
theorem dX6_planted_250 : decode cX6_planted 250 = .ok (.iload 6, 2) := by decide +kernel
theorem dX6_planted_252 : decode cX6_planted 252 = .ok (.bipush 32, 2) := by decide +kernel
theorem dX6_planted_254 : decode cX6_planted 254 = .ok (.irem, 1) := by decide +kernel
theorem dX6_planted_255 : decode cX6_planted 255 = .ok (.invokevirtual 183, 3) := by decide +kernel
theorem dX6_planted_258 : decode cX6_planted 258 = .ok (.istore 7, 2) := by decide +kernel
theorem dX6_planted_260 : decode cX6_planted 260 = .ok (.aload_n 0, 1) := by decide +kernel
theorem dX6_planted_261 : decode cX6_planted 261 = .ok (.getfield 62, 3) := by decide +kernel
theorem dX6_planted_264 : decode cX6_planted 264 = .ok (.iload_n 2, 1) := by decide +kernel
theorem dX6_planted_265 : decode cX6_planted 265 = .ok (.iload 4, 2) := by decide +kernel
theorem dX6_planted_267 : decode cX6_planted 267 = .ok (.iload 7, 2) := by decide +kernel
theorem dX6_planted_269 : decode cX6_planted 269 = .ok (.iconst (-1), 1) := by decide +kernel
theorem dX6_planted_270 : decode cX6_planted 270 = .ok (.ixor, 1) := by decide +kernel
theorem dX6_planted_271 : decode cX6_planted 271 = .ok (.iand, 1) := by decide +kernel
theorem dX6_planted_272 : decode cX6_planted 272 = .ok (.iastore, 1) := by decide +kernel
theorem dX6_planted_273 : decode cX6_planted 273 = .ok (.aload_n 0, 1) := by decide +kernel
theorem dX6_planted_274 : decode cX6_planted 274 = .ok (.getfield 65, 3) := by decide +kernel
theorem dX6_planted_277 : decode cX6_planted 277 = .ok (.iload_n 2, 1) := by decide +kernel
theorem dX6_planted_278 : decode cX6_planted 278 = .ok (.iload_n 3, 1) := by decide +kernel
theorem dX6_planted_279 : decode cX6_planted 279 = .ok (.iastore, 1) := by decide +kernel
theorem dX6_planted_280 : decode cX6_planted 280 = .ok (.aload_n 0, 1) := by decide +kernel
theorem dX6_planted_281 : decode cX6_planted 281 = .ok (.getfield 68, 3) := by decide +kernel
theorem dX6_planted_284 : decode cX6_planted 284 = .ok (.iload_n 2, 1) := by decide +kernel
theorem dX6_planted_285 : decode cX6_planted 285 = .ok (.iinc 2 1, 3) := by decide +kernel
theorem dX6_planted_288 : decode cX6_planted 288 = .ok (.iconst 2, 1) := by decide +kernel
theorem dX6_planted_289 : decode cX6_planted 289 = .ok (.iastore, 1) := by decide +kernel
theorem dX6_planted_290 : decode cX6_planted 290 = .ok (.aload_n 0, 1) := by decide +kernel
theorem dX6_planted_291 : decode cX6_planted 291 = .ok (.getfield 62, 3) := by decide +kernel
theorem dX6_planted_294 : decode cX6_planted 294 = .ok (.iload_n 2, 1) := by decide +kernel
theorem dX6_planted_295 : decode cX6_planted 295 = .ok (.iload 7, 2) := by decide +kernel
theorem dX6_planted_297 : decode cX6_planted 297 = .ok (.iastore, 1) := by decide +kernel
theorem dX6_planted_298 : decode cX6_planted 298 = .ok (.aload_n 0, 1) := by decide +kernel
theorem dX6_planted_299 : decode cX6_planted 299 = .ok (.getfield 65, 3) := by decide +kernel
theorem dX6_planted_302 : decode cX6_planted 302 = .ok (.iload_n 2, 1) := by decide +kernel
theorem dX6_planted_303 : decode cX6_planted 303 = .ok (.iload_n 3, 1) := by decide +kernel
theorem dX6_planted_304 : decode cX6_planted 304 = .ok (.iastore, 1) := by decide +kernel
theorem dX6_planted_305 : decode cX6_planted 305 = .ok (.aload_n 0, 1) := by decide +kernel
theorem dX6_planted_306 : decode cX6_planted 306 = .ok (.getfield 68, 3) := by decide +kernel
theorem dX6_planted_309 : decode cX6_planted 309 = .ok (.iload_n 2, 1) := by decide +kernel
theorem dX6_planted_310 : decode cX6_planted 310 = .ok (.iinc 2 1, 3) := by decide +kernel
theorem dX6_planted_313 : decode cX6_planted 313 = .ok (.iconst 1, 1) := by decide +kernel
theorem dX6_planted_314 : decode cX6_planted 314 = .ok (.iastore, 1) := by decide +kernel
theorem dX6_planted_315 : decode cX6_planted 315 = .ok (.goto (-242), 3) := by decide +kernel
theorem dX6_planted_318 : decode cX6_planted 318 = .ok (.aload_n 0, 1) := by decide +kernel
theorem dX6_planted_319 : decode cX6_planted 319 = .ok (.getfield 174, 3) := by decide +kernel
theorem dX6_planted_322 : decode cX6_planted 322 = .ok (.ireturn, 1) := by decide +kernel
theorem dX6_firstOf_0 : decode cX6_firstOf 0 = .ok (.iconst 0, 1) := by decide +kernel
theorem dX6_firstOf_1 : decode cX6_firstOf 1 = .ok (.istore_n 1, 1) := by decide +kernel
theorem dX6_firstOf_2 : decode cX6_firstOf 2 = .ok (.iload_n 0, 1) := by decide +kernel
theorem dX6_firstOf_3 : decode cX6_firstOf 3 = .ok (.iload_n 1, 1) := by decide +kernel
theorem dX6_firstOf_4 : decode cX6_firstOf 4 = .ok (.ishr, 1) := by decide +kernel
theorem dX6_firstOf_5 : decode cX6_firstOf 5 = .ok (.iconst 1, 1) := by decide +kernel
theorem dX6_firstOf_6 : decode cX6_firstOf 6 = .ok (.iand, 1) := by decide +kernel
theorem dX6_firstOf_7 : decode cX6_firstOf 7 = .ok (.ifCond .ne 9, 3) := by decide +kernel
theorem dX6_firstOf_10 : decode cX6_firstOf 10 = .ok (.iinc 1 1, 3) := by decide +kernel
theorem dX6_firstOf_13 : decode cX6_firstOf 13 = .ok (.goto (-11), 3) := by decide +kernel
theorem dX6_firstOf_16 : decode cX6_firstOf 16 = .ok (.iload_n 1, 1) := by decide +kernel
theorem dX6_firstOf_17 : decode cX6_firstOf 17 = .ok (.ireturn, 1) := by decide +kernel
theorem dX6_cutOf_0 : decode cX6_cutOf 0 = .ok (.iconst 0, 1) := by decide +kernel
theorem dX6_cutOf_1 : decode cX6_cutOf 1 = .ok (.istore_n 2, 1) := by decide +kernel
theorem dX6_cutOf_2 : decode cX6_cutOf 2 = .ok (.iload_n 2, 1) := by decide +kernel
theorem dX6_cutOf_3 : decode cX6_cutOf 3 = .ok (.iconst 3, 1) := by decide +kernel
theorem dX6_cutOf_4 : decode cX6_cutOf 4 = .ok (.if_icmp .ge 44, 3) := by decide +kernel
theorem dX6_cutOf_7 : decode cX6_cutOf 7 = .ok (.iconst 1, 1) := by decide +kernel
theorem dX6_cutOf_8 : decode cX6_cutOf 8 = .ok (.istore_n 3, 1) := by decide +kernel
theorem dX6_cutOf_9 : decode cX6_cutOf 9 = .ok (.iload_n 3, 1) := by decide +kernel
theorem dX6_cutOf_10 : decode cX6_cutOf 10 = .ok (.aload_n 0, 1) := by decide +kernel
theorem dX6_cutOf_11 : decode cX6_cutOf 11 = .ok (.getfield 7, 3) := by decide +kernel
theorem dX6_cutOf_14 : decode cX6_cutOf 14 = .ok (.iload_n 2, 1) := by decide +kernel
theorem dX6_cutOf_15 : decode cX6_cutOf 15 = .ok (.iaload, 1) := by decide +kernel
theorem dX6_cutOf_16 : decode cX6_cutOf 16 = .ok (.if_icmp .ge 26, 3) := by decide +kernel
theorem dX6_cutOf_19 : decode cX6_cutOf 19 = .ok (.aload_n 0, 1) := by decide +kernel
theorem dX6_cutOf_20 : decode cX6_cutOf 20 = .ok (.iload_n 1, 1) := by decide +kernel
theorem dX6_cutOf_21 : decode cX6_cutOf 21 = .ok (.iload_n 2, 1) := by decide +kernel
theorem dX6_cutOf_22 : decode cX6_cutOf 22 = .ok (.iload_n 3, 1) := by decide +kernel
theorem dX6_cutOf_23 : decode cX6_cutOf 23 = .ok (.invokevirtual 183, 3) := by decide +kernel
theorem dX6_cutOf_26 : decode cX6_cutOf 26 = .ok (.ifCond .le 10, 3) := by decide +kernel
theorem dX6_cutOf_29 : decode cX6_cutOf 29 = .ok (.bipush 32, 2) := by decide +kernel
theorem dX6_cutOf_31 : decode cX6_cutOf 31 = .ok (.iload_n 2, 1) := by decide +kernel
theorem dX6_cutOf_32 : decode cX6_cutOf 32 = .ok (.imul, 1) := by decide +kernel
theorem dX6_cutOf_33 : decode cX6_cutOf 33 = .ok (.iload_n 3, 1) := by decide +kernel
theorem dX6_cutOf_34 : decode cX6_cutOf 34 = .ok (.iadd, 1) := by decide +kernel
theorem dX6_cutOf_35 : decode cX6_cutOf 35 = .ok (.ireturn, 1) := by decide +kernel
theorem dX6_cutOf_36 : decode cX6_cutOf 36 = .ok (.iinc 3 1, 3) := by decide +kernel
theorem dX6_cutOf_39 : decode cX6_cutOf 39 = .ok (.goto (-30), 3) := by decide +kernel
theorem dX6_cutOf_42 : decode cX6_cutOf 42 = .ok (.iinc 2 1, 3) := by decide +kernel
theorem dX6_cutOf_45 : decode cX6_cutOf 45 = .ok (.goto (-43), 3) := by decide +kernel
theorem dX6_cutOf_48 : decode cX6_cutOf 48 = .ok (.bipush (-9), 2) := by decide +kernel
theorem dX6_cutOf_50 : decode cX6_cutOf 50 = .ok (.ireturn, 1) := by decide +kernel
theorem dX6_before_0 : decode cX6_before 0 = .ok (.iconst 0, 1) := by decide +kernel
theorem dX6_before_1 : decode cX6_before 1 = .ok (.istore 4, 2) := by decide +kernel
theorem dX6_before_3 : decode cX6_before 3 = .ok (.iconst 0, 1) := by decide +kernel
theorem dX6_before_4 : decode cX6_before 4 = .ok (.istore 5, 2) := by decide +kernel
theorem dX6_before_6 : decode cX6_before 6 = .ok (.iload 5, 2) := by decide +kernel
theorem dX6_before_8 : decode cX6_before 8 = .ok (.aload_n 0, 1) := by decide +kernel
theorem dX6_before_9 : decode cX6_before 9 = .ok (.getfield 81, 3) := by decide +kernel
theorem dX6_before_12 : decode cX6_before 12 = .ok (.if_icmp .ge 55, 3) := by decide +kernel
theorem dX6_before_15 : decode cX6_before 15 = .ok (.iload_n 1, 1) := by decide +kernel
theorem dX6_before_16 : decode cX6_before 16 = .ok (.iload 5, 2) := by decide +kernel
theorem dX6_before_18 : decode cX6_before 18 = .ok (.ishr, 1) := by decide +kernel
theorem dX6_before_19 : decode cX6_before 19 = .ok (.iconst 1, 1) := by decide +kernel
theorem dX6_before_20 : decode cX6_before 20 = .ok (.iand, 1) := by decide +kernel
theorem dX6_before_21 : decode cX6_before 21 = .ok (.iconst 1, 1) := by decide +kernel
theorem dX6_before_22 : decode cX6_before 22 = .ok (.if_icmp .ne 39, 3) := by decide +kernel
theorem dX6_before_25 : decode cX6_before 25 = .ok (.aload_n 0, 1) := by decide +kernel
theorem dX6_before_26 : decode cX6_before 26 = .ok (.iload 5, 2) := by decide +kernel
theorem dX6_before_28 : decode cX6_before 28 = .ok (.iload_n 2, 1) := by decide +kernel
theorem dX6_before_29 : decode cX6_before 29 = .ok (.invokevirtual 165, 3) := by decide +kernel
theorem dX6_before_32 : decode cX6_before 32 = .ok (.iload_n 3, 1) := by decide +kernel
theorem dX6_before_33 : decode cX6_before 33 = .ok (.if_icmp .gt 15, 3) := by decide +kernel
theorem dX6_before_36 : decode cX6_before 36 = .ok (.iload 4, 2) := by decide +kernel
theorem dX6_before_38 : decode cX6_before 38 = .ok (.iconst 1, 1) := by decide +kernel
theorem dX6_before_39 : decode cX6_before 39 = .ok (.iload 5, 2) := by decide +kernel
theorem dX6_before_41 : decode cX6_before 41 = .ok (.ishl, 1) := by decide +kernel
theorem dX6_before_42 : decode cX6_before 42 = .ok (.ior, 1) := by decide +kernel
theorem dX6_before_43 : decode cX6_before 43 = .ok (.istore 4, 2) := by decide +kernel
theorem dX6_before_45 : decode cX6_before 45 = .ok (.goto 16, 3) := by decide +kernel
theorem dX6_before_48 : decode cX6_before 48 = .ok (.aload_n 0, 1) := by decide +kernel
theorem dX6_before_49 : decode cX6_before 49 = .ok (.iload 5, 2) := by decide +kernel
theorem dX6_before_51 : decode cX6_before 51 = .ok (.iload_n 2, 1) := by decide +kernel
theorem dX6_before_52 : decode cX6_before 52 = .ok (.invokevirtual 162, 3) := by decide +kernel
theorem dX6_before_55 : decode cX6_before 55 = .ok (.iload_n 3, 1) := by decide +kernel
theorem dX6_before_56 : decode cX6_before 56 = .ok (.if_icmp .ge 5, 3) := by decide +kernel
theorem dX6_before_59 : decode cX6_before 59 = .ok (.iconst 0, 1) := by decide +kernel
theorem dX6_before_60 : decode cX6_before 60 = .ok (.ireturn, 1) := by decide +kernel
theorem dX6_before_61 : decode cX6_before 61 = .ok (.iinc 5 1, 3) := by decide +kernel
theorem dX6_before_64 : decode cX6_before 64 = .ok (.goto (-58), 3) := by decide +kernel
theorem dX6_before_67 : decode cX6_before 67 = .ok (.iload 4, 2) := by decide +kernel
theorem dX6_before_69 : decode cX6_before 69 = .ok (.iload_n 1, 1) := by decide +kernel
theorem dX6_before_70 : decode cX6_before 70 = .ok (.if_icmp .ne 7, 3) := by decide +kernel
theorem dX6_before_73 : decode cX6_before 73 = .ok (.iconst 0, 1) := by decide +kernel
theorem dX6_before_74 : decode cX6_before 74 = .ok (.goto 5, 3) := by decide +kernel
theorem dX6_before_77 : decode cX6_before 77 = .ok (.iload 4, 2) := by decide +kernel
theorem dX6_before_79 : decode cX6_before 79 = .ok (.ireturn, 1) := by decide +kernel
theorem dX6_tree_0 : decode cX6_tree 0 = .ok (.aload_n 0, 1) := by decide +kernel
theorem dX6_tree_1 : decode cX6_tree 1 = .ok (.invokevirtual 158, 3) := by decide +kernel
theorem dX6_tree_4 : decode cX6_tree 4 = .ok (.ifCond .le 8, 3) := by decide +kernel
theorem dX6_tree_7 : decode cX6_tree 7 = .ok (.bipush (-2), 2) := by decide +kernel
theorem dX6_tree_9 : decode cX6_tree 9 = .ok (.goto 7, 3) := by decide +kernel
theorem dX6_tree_12 : decode cX6_tree 12 = .ok (.aload_n 0, 1) := by decide +kernel
theorem dX6_tree_13 : decode cX6_tree 13 = .ok (.invokevirtual 186, 3) := by decide +kernel
theorem dX6_tree_16 : decode cX6_tree 16 = .ok (.ireturn, 1) := by decide +kernel
theorem dX6_node_0 : decode cX6_node 0 = .ok (.iload_n 2, 1) := by decide +kernel
theorem dX6_node_1 : decode cX6_node 1 = .ok (.ifCond .lt 18, 3) := by decide +kernel
theorem dX6_node_4 : decode cX6_node 4 = .ok (.iload_n 2, 1) := by decide +kernel
theorem dX6_node_5 : decode cX6_node 5 = .ok (.iconst 3, 1) := by decide +kernel
theorem dX6_node_6 : decode cX6_node 6 = .ok (.if_icmp .gt 13, 3) := by decide +kernel
theorem dX6_node_9 : decode cX6_node 9 = .ok (.iload_n 1, 1) := by decide +kernel
theorem dX6_node_10 : decode cX6_node 10 = .ok (.ifCond .lt 9, 3) := by decide +kernel
theorem dX6_node_13 : decode cX6_node 13 = .ok (.iload_n 1, 1) := by decide +kernel
theorem dX6_node_14 : decode cX6_node 14 = .ok (.bipush 14, 2) := by decide +kernel
theorem dX6_node_16 : decode cX6_node 16 = .ok (.if_icmp .le 5, 3) := by decide +kernel
theorem dX6_node_19 : decode cX6_node 19 = .ok (.iconst (-1), 1) := by decide +kernel
theorem dX6_node_20 : decode cX6_node 20 = .ok (.ireturn, 1) := by decide +kernel
theorem dX6_node_21 : decode cX6_node 21 = .ok (.aload_n 0, 1) := by decide +kernel
theorem dX6_node_22 : decode cX6_node 22 = .ok (.invokevirtual 158, 3) := by decide +kernel
theorem dX6_node_25 : decode cX6_node 25 = .ok (.ifCond .le 6, 3) := by decide +kernel
theorem dX6_node_28 : decode cX6_node 28 = .ok (.bipush (-2), 2) := by decide +kernel
theorem dX6_node_30 : decode cX6_node 30 = .ok (.ireturn, 1) := by decide +kernel
theorem dX6_node_31 : decode cX6_node 31 = .ok (.iload_n 1, 1) := by decide +kernel
theorem dX6_node_32 : decode cX6_node 32 = .ok (.aload_n 0, 1) := by decide +kernel
theorem dX6_node_33 : decode cX6_node 33 = .ok (.invokevirtual 186, 3) := by decide +kernel
theorem dX6_node_36 : decode cX6_node 36 = .ok (.if_icmp .lt 6, 3) := by decide +kernel
theorem dX6_node_39 : decode cX6_node 39 = .ok (.bipush (-9), 2) := by decide +kernel
theorem dX6_node_41 : decode cX6_node 41 = .ok (.ireturn, 1) := by decide +kernel
theorem dX6_node_42 : decode cX6_node 42 = .ok (.iload_n 2, 1) := by decide +kernel
theorem dX6_node_43 : decode cX6_node 43 = .ok (.ifCond .ne 12, 3) := by decide +kernel
theorem dX6_node_46 : decode cX6_node 46 = .ok (.aload_n 0, 1) := by decide +kernel
theorem dX6_node_47 : decode cX6_node 47 = .ok (.getfield 50, 3) := by decide +kernel
theorem dX6_node_50 : decode cX6_node 50 = .ok (.iload_n 1, 1) := by decide +kernel
theorem dX6_node_51 : decode cX6_node 51 = .ok (.iaload, 1) := by decide +kernel
theorem dX6_node_52 : decode cX6_node 52 = .ok (.goto 37, 3) := by decide +kernel
theorem dX6_node_55 : decode cX6_node 55 = .ok (.iload_n 2, 1) := by decide +kernel
theorem dX6_node_56 : decode cX6_node 56 = .ok (.iconst 1, 1) := by decide +kernel
theorem dX6_node_57 : decode cX6_node 57 = .ok (.if_icmp .ne 12, 3) := by decide +kernel
theorem dX6_node_60 : decode cX6_node 60 = .ok (.aload_n 0, 1) := by decide +kernel
theorem dX6_node_61 : decode cX6_node 61 = .ok (.getfield 53, 3) := by decide +kernel
theorem dX6_node_64 : decode cX6_node 64 = .ok (.iload_n 1, 1) := by decide +kernel
theorem dX6_node_65 : decode cX6_node 65 = .ok (.iaload, 1) := by decide +kernel
theorem dX6_node_66 : decode cX6_node 66 = .ok (.goto 23, 3) := by decide +kernel
theorem dX6_node_69 : decode cX6_node 69 = .ok (.iload_n 2, 1) := by decide +kernel
theorem dX6_node_70 : decode cX6_node 70 = .ok (.iconst 2, 1) := by decide +kernel
theorem dX6_node_71 : decode cX6_node 71 = .ok (.if_icmp .ne 12, 3) := by decide +kernel
theorem dX6_node_74 : decode cX6_node 74 = .ok (.aload_n 0, 1) := by decide +kernel
theorem dX6_node_75 : decode cX6_node 75 = .ok (.getfield 56, 3) := by decide +kernel
theorem dX6_node_78 : decode cX6_node 78 = .ok (.iload_n 1, 1) := by decide +kernel
theorem dX6_node_79 : decode cX6_node 79 = .ok (.iaload, 1) := by decide +kernel
theorem dX6_node_80 : decode cX6_node 80 = .ok (.goto 9, 3) := by decide +kernel
theorem dX6_node_83 : decode cX6_node 83 = .ok (.aload_n 0, 1) := by decide +kernel
theorem dX6_node_84 : decode cX6_node 84 = .ok (.getfield 59, 3) := by decide +kernel
theorem dX6_node_87 : decode cX6_node 87 = .ok (.iload_n 1, 1) := by decide +kernel
theorem dX6_node_88 : decode cX6_node 88 = .ok (.iaload, 1) := by decide +kernel
theorem dX6_node_89 : decode cX6_node 89 = .ok (.ireturn, 1) := by decide +kernel
theorem dX6_worth_0 : decode cX6_worth 0 = .ok (.iload_n 0, 1) := by decide +kernel
theorem dX6_worth_1 : decode cX6_worth 1 = .ok (.iconst 2, 1) := by decide +kernel
theorem dX6_worth_2 : decode cX6_worth 2 = .ok (.idiv, 1) := by decide +kernel
theorem dX6_worth_3 : decode cX6_worth 3 = .ok (.istore_n 3, 1) := by decide +kernel
theorem dX6_worth_4 : decode cX6_worth 4 = .ok (.iload_n 1, 1) := by decide +kernel
theorem dX6_worth_5 : decode cX6_worth 5 = .ok (.ifCond .ne 5, 3) := by decide +kernel
theorem dX6_worth_8 : decode cX6_worth 8 = .ok (.iload_n 2, 1) := by decide +kernel
theorem dX6_worth_9 : decode cX6_worth 9 = .ok (.ireturn, 1) := by decide +kernel
theorem dX6_worth_10 : decode cX6_worth 10 = .ok (.iload_n 1, 1) := by decide +kernel
theorem dX6_worth_11 : decode cX6_worth 11 = .ok (.iload_n 3, 1) := by decide +kernel
theorem dX6_worth_12 : decode cX6_worth 12 = .ok (.if_icmp .gt 25, 3) := by decide +kernel
theorem dX6_worth_15 : decode cX6_worth 15 = .ok (.iload_n 2, 1) := by decide +kernel
theorem dX6_worth_16 : decode cX6_worth 16 = .ok (.iload_n 0, 1) := by decide +kernel
theorem dX6_worth_17 : decode cX6_worth 17 = .ok (.iload_n 1, 1) := by decide +kernel
theorem dX6_worth_18 : decode cX6_worth 18 = .ok (.isub, 1) := by decide +kernel
theorem dX6_worth_19 : decode cX6_worth 19 = .ok (.if_icmp .le 7, 3) := by decide +kernel
theorem dX6_worth_22 : decode cX6_worth 22 = .ok (.iload_n 0, 1) := by decide +kernel
theorem dX6_worth_23 : decode cX6_worth 23 = .ok (.goto 13, 3) := by decide +kernel
theorem dX6_worth_26 : decode cX6_worth 26 = .ok (.iload_n 2, 1) := by decide +kernel
theorem dX6_worth_27 : decode cX6_worth 27 = .ok (.iload_n 1, 1) := by decide +kernel
theorem dX6_worth_28 : decode cX6_worth 28 = .ok (.if_icmp .ge 7, 3) := by decide +kernel
theorem dX6_worth_31 : decode cX6_worth 31 = .ok (.iconst 0, 1) := by decide +kernel
theorem dX6_worth_32 : decode cX6_worth 32 = .ok (.goto 4, 3) := by decide +kernel
theorem dX6_worth_35 : decode cX6_worth 35 = .ok (.iload_n 2, 1) := by decide +kernel
theorem dX6_worth_36 : decode cX6_worth 36 = .ok (.ireturn, 1) := by decide +kernel
theorem dX6_worth_37 : decode cX6_worth 37 = .ok (.iload_n 1, 1) := by decide +kernel
theorem dX6_worth_38 : decode cX6_worth 38 = .ok (.iload_n 3, 1) := by decide +kernel
theorem dX6_worth_39 : decode cX6_worth 39 = .ok (.isub, 1) := by decide +kernel
theorem dX6_worth_40 : decode cX6_worth 40 = .ok (.istore 4, 2) := by decide +kernel
theorem dX6_worth_42 : decode cX6_worth 42 = .ok (.iload_n 0, 1) := by decide +kernel
theorem dX6_worth_43 : decode cX6_worth 43 = .ok (.iload 4, 2) := by decide +kernel
theorem dX6_worth_45 : decode cX6_worth 45 = .ok (.idiv, 1) := by decide +kernel
theorem dX6_worth_46 : decode cX6_worth 46 = .ok (.istore 5, 2) := by decide +kernel
theorem dX6_worth_48 : decode cX6_worth 48 = .ok (.iconst 2, 1) := by decide +kernel
theorem dX6_worth_49 : decode cX6_worth 49 = .ok (.iload_n 2, 1) := by decide +kernel
theorem dX6_worth_50 : decode cX6_worth 50 = .ok (.imul, 1) := by decide +kernel
theorem dX6_worth_51 : decode cX6_worth 51 = .ok (.iload_n 0, 1) := by decide +kernel
theorem dX6_worth_52 : decode cX6_worth 52 = .ok (.if_icmp .ge 12, 3) := by decide +kernel
theorem dX6_worth_55 : decode cX6_worth 55 = .ok (.iconst 2, 1) := by decide +kernel
theorem dX6_worth_56 : decode cX6_worth 56 = .ok (.iload_n 2, 1) := by decide +kernel
theorem dX6_worth_57 : decode cX6_worth 57 = .ok (.iload 4, 2) := by decide +kernel
theorem dX6_worth_59 : decode cX6_worth 59 = .ok (.idiv, 1) := by decide +kernel
theorem dX6_worth_60 : decode cX6_worth 60 = .ok (.imul, 1) := by decide +kernel
theorem dX6_worth_61 : decode cX6_worth 61 = .ok (.goto 26, 3) := by decide +kernel
theorem dX6_worth_64 : decode cX6_worth 64 = .ok (.iconst 2, 1) := by decide +kernel
theorem dX6_worth_65 : decode cX6_worth 65 = .ok (.iload_n 2, 1) := by decide +kernel
theorem dX6_worth_66 : decode cX6_worth 66 = .ok (.imul, 1) := by decide +kernel
theorem dX6_worth_67 : decode cX6_worth 67 = .ok (.iload_n 0, 1) := by decide +kernel
theorem dX6_worth_68 : decode cX6_worth 68 = .ok (.if_icmp .ne 8, 3) := by decide +kernel
theorem dX6_worth_71 : decode cX6_worth 71 = .ok (.iload 5, 2) := by decide +kernel
theorem dX6_worth_73 : decode cX6_worth 73 = .ok (.goto 14, 3) := by decide +kernel
theorem dX6_worth_76 : decode cX6_worth 76 = .ok (.iconst 2, 1) := by decide +kernel
theorem dX6_worth_77 : decode cX6_worth 77 = .ok (.iload 5, 2) := by decide +kernel
theorem dX6_worth_79 : decode cX6_worth 79 = .ok (.iload_n 0, 1) := by decide +kernel
theorem dX6_worth_80 : decode cX6_worth 80 = .ok (.iload_n 2, 1) := by decide +kernel
theorem dX6_worth_81 : decode cX6_worth 81 = .ok (.isub, 1) := by decide +kernel
theorem dX6_worth_82 : decode cX6_worth 82 = .ok (.iload 4, 2) := by decide +kernel
theorem dX6_worth_84 : decode cX6_worth 84 = .ok (.idiv, 1) := by decide +kernel
theorem dX6_worth_85 : decode cX6_worth 85 = .ok (.isub, 1) := by decide +kernel
theorem dX6_worth_86 : decode cX6_worth 86 = .ok (.imul, 1) := by decide +kernel
theorem dX6_worth_87 : decode cX6_worth 87 = .ok (.ireturn, 1) := by decide +kernel
theorem dX6_isDual_0 : decode cX6_isDual 0 = .ok (.iload_n 2, 1) := by decide +kernel
theorem dX6_isDual_1 : decode cX6_isDual 1 = .ok (.ifCond .lt 21, 3) := by decide +kernel
theorem dX6_isDual_4 : decode cX6_isDual 4 = .ok (.iload_n 2, 1) := by decide +kernel
theorem dX6_isDual_5 : decode cX6_isDual 5 = .ok (.aload_n 0, 1) := by decide +kernel
theorem dX6_isDual_6 : decode cX6_isDual 6 = .ok (.getfield 7, 3) := by decide +kernel
theorem dX6_isDual_9 : decode cX6_isDual 9 = .ok (.iload_n 1, 1) := by decide +kernel
theorem dX6_isDual_10 : decode cX6_isDual 10 = .ok (.iaload, 1) := by decide +kernel
theorem dX6_isDual_11 : decode cX6_isDual 11 = .ok (.iconst 2, 1) := by decide +kernel
theorem dX6_isDual_12 : decode cX6_isDual 12 = .ok (.idiv, 1) := by decide +kernel
theorem dX6_isDual_13 : decode cX6_isDual 13 = .ok (.iconst 2, 1) := by decide +kernel
theorem dX6_isDual_14 : decode cX6_isDual 14 = .ok (.imul, 1) := by decide +kernel
theorem dX6_isDual_15 : decode cX6_isDual 15 = .ok (.if_icmp .gt 7, 3) := by decide +kernel
theorem dX6_isDual_18 : decode cX6_isDual 18 = .ok (.iconst 1, 1) := by decide +kernel
theorem dX6_isDual_19 : decode cX6_isDual 19 = .ok (.goto 4, 3) := by decide +kernel
theorem dX6_isDual_22 : decode cX6_isDual 22 = .ok (.iconst 0, 1) := by decide +kernel
theorem dX6_isDual_23 : decode cX6_isDual 23 = .ok (.ireturn, 1) := by decide +kernel
theorem dX6_dual_0 : decode cX6_dual 0 = .ok (.iload_n 1, 1) := by decide +kernel
theorem dX6_dual_1 : decode cX6_dual 1 = .ok (.ifCond .lt 31, 3) := by decide +kernel
theorem dX6_dual_4 : decode cX6_dual 4 = .ok (.iload_n 1, 1) := by decide +kernel
theorem dX6_dual_5 : decode cX6_dual 5 = .ok (.iconst 2, 1) := by decide +kernel
theorem dX6_dual_6 : decode cX6_dual 6 = .ok (.if_icmp .gt 26, 3) := by decide +kernel
theorem dX6_dual_9 : decode cX6_dual 9 = .ok (.aload_n 0, 1) := by decide +kernel
theorem dX6_dual_10 : decode cX6_dual 10 = .ok (.iload_n 1, 1) := by decide +kernel
theorem dX6_dual_11 : decode cX6_dual 11 = .ok (.iload_n 2, 1) := by decide +kernel
theorem dX6_dual_12 : decode cX6_dual 12 = .ok (.invokevirtual 189, 3) := by decide +kernel
theorem dX6_dual_15 : decode cX6_dual 15 = .ok (.ifCond .eq 17, 3) := by decide +kernel
theorem dX6_dual_18 : decode cX6_dual 18 = .ok (.iload_n 3, 1) := by decide +kernel
theorem dX6_dual_19 : decode cX6_dual 19 = .ok (.ifCond .lt 13, 3) := by decide +kernel
theorem dX6_dual_22 : decode cX6_dual 22 = .ok (.iload_n 3, 1) := by decide +kernel
theorem dX6_dual_23 : decode cX6_dual 23 = .ok (.aload_n 0, 1) := by decide +kernel
theorem dX6_dual_24 : decode cX6_dual 24 = .ok (.getfield 7, 3) := by decide +kernel
theorem dX6_dual_27 : decode cX6_dual 27 = .ok (.iload_n 1, 1) := by decide +kernel
theorem dX6_dual_28 : decode cX6_dual 28 = .ok (.iaload, 1) := by decide +kernel
theorem dX6_dual_29 : decode cX6_dual 29 = .ok (.if_icmp .le 7, 3) := by decide +kernel
theorem dX6_dual_32 : decode cX6_dual 32 = .ok (.iconst (-1), 1) := by decide +kernel
theorem dX6_dual_33 : decode cX6_dual 33 = .ok (.goto 14, 3) := by decide +kernel
theorem dX6_dual_36 : decode cX6_dual 36 = .ok (.aload_n 0, 1) := by decide +kernel
theorem dX6_dual_37 : decode cX6_dual 37 = .ok (.getfield 7, 3) := by decide +kernel
theorem dX6_dual_40 : decode cX6_dual 40 = .ok (.iload_n 1, 1) := by decide +kernel
theorem dX6_dual_41 : decode cX6_dual 41 = .ok (.iaload, 1) := by decide +kernel
theorem dX6_dual_42 : decode cX6_dual 42 = .ok (.iload_n 2, 1) := by decide +kernel
theorem dX6_dual_43 : decode cX6_dual 43 = .ok (.iload_n 3, 1) := by decide +kernel
theorem dX6_dual_44 : decode cX6_dual 44 = .ok (.invokestatic 192, 3) := by decide +kernel
theorem dX6_dual_47 : decode cX6_dual 47 = .ok (.ireturn, 1) := by decide +kernel
theorem dX6_has__0 : decode cX6_has_ 0 = .ok (.aload_n 0, 1) := by decide +kernel
theorem dX6_has__1 : decode cX6_has_ 1 = .ok (.getfield 7, 3) := by decide +kernel
theorem dX6_has__4 : decode cX6_has_ 4 = .ok (.iconst 0, 1) := by decide +kernel
theorem dX6_has__5 : decode cX6_has_ 5 = .ok (.iaload, 1) := by decide +kernel
theorem dX6_has__6 : decode cX6_has_ 6 = .ok (.iload_n 1, 1) := by decide +kernel
theorem dX6_has__7 : decode cX6_has_ 7 = .ok (.aload_n 0, 1) := by decide +kernel
theorem dX6_has__8 : decode cX6_has_ 8 = .ok (.getfield 7, 3) := by decide +kernel
theorem dX6_has__11 : decode cX6_has_ 11 = .ok (.iconst 0, 1) := by decide +kernel
theorem dX6_has__12 : decode cX6_has_ 12 = .ok (.iaload, 1) := by decide +kernel
theorem dX6_has__13 : decode cX6_has_ 13 = .ok (.invokestatic 192, 3) := by decide +kernel
theorem dX6_has__16 : decode cX6_has_ 16 = .ok (.i2l, 1) := by decide +kernel
theorem dX6_has__17 : decode cX6_has_ 17 = .ok (.aload_n 0, 1) := by decide +kernel
theorem dX6_has__18 : decode cX6_has_ 18 = .ok (.getfield 7, 3) := by decide +kernel
theorem dX6_has__21 : decode cX6_has_ 21 = .ok (.iconst 1, 1) := by decide +kernel
theorem dX6_has__22 : decode cX6_has_ 22 = .ok (.iaload, 1) := by decide +kernel
theorem dX6_has__23 : decode cX6_has_ 23 = .ok (.iload_n 2, 1) := by decide +kernel
theorem dX6_has__24 : decode cX6_has_ 24 = .ok (.aload_n 0, 1) := by decide +kernel
theorem dX6_has__25 : decode cX6_has_ 25 = .ok (.getfield 7, 3) := by decide +kernel
theorem dX6_has__28 : decode cX6_has_ 28 = .ok (.iconst 1, 1) := by decide +kernel
theorem dX6_has__29 : decode cX6_has_ 29 = .ok (.iaload, 1) := by decide +kernel
theorem dX6_has__30 : decode cX6_has_ 30 = .ok (.invokestatic 192, 3) := by decide +kernel
theorem dX6_has__33 : decode cX6_has_ 33 = .ok (.i2l, 1) := by decide +kernel
theorem dX6_has__34 : decode cX6_has_ 34 = .ok (.lmul, 1) := by decide +kernel
theorem dX6_has__35 : decode cX6_has_ 35 = .ok (.aload_n 0, 1) := by decide +kernel
theorem dX6_has__36 : decode cX6_has_ 36 = .ok (.getfield 7, 3) := by decide +kernel
theorem dX6_has__39 : decode cX6_has_ 39 = .ok (.iconst 2, 1) := by decide +kernel
theorem dX6_has__40 : decode cX6_has_ 40 = .ok (.iaload, 1) := by decide +kernel
theorem dX6_has__41 : decode cX6_has_ 41 = .ok (.iload_n 3, 1) := by decide +kernel
theorem dX6_has__42 : decode cX6_has_ 42 = .ok (.aload_n 0, 1) := by decide +kernel
theorem dX6_has__43 : decode cX6_has_ 43 = .ok (.getfield 7, 3) := by decide +kernel
theorem dX6_has__46 : decode cX6_has_ 46 = .ok (.iconst 2, 1) := by decide +kernel
theorem dX6_has__47 : decode cX6_has_ 47 = .ok (.iaload, 1) := by decide +kernel
theorem dX6_has__48 : decode cX6_has_ 48 = .ok (.invokestatic 192, 3) := by decide +kernel
theorem dX6_has__51 : decode cX6_has_ 51 = .ok (.i2l, 1) := by decide +kernel
theorem dX6_has__52 : decode cX6_has_ 52 = .ok (.lmul, 1) := by decide +kernel
theorem dX6_has__53 : decode cX6_has_ 53 = .ok (.lreturn, 1) := by decide +kernel
theorem dX6_needs_0 : decode cX6_needs 0 = .ok (.lconst 0, 1) := by decide +kernel
theorem dX6_needs_1 : decode cX6_needs 1 = .ok (.lstore 5, 2) := by decide +kernel
theorem dX6_needs_3 : decode cX6_needs 3 = .ok (.iconst 0, 1) := by decide +kernel
theorem dX6_needs_4 : decode cX6_needs 4 = .ok (.istore 7, 2) := by decide +kernel
theorem dX6_needs_6 : decode cX6_needs 6 = .ok (.iload 7, 2) := by decide +kernel
theorem dX6_needs_8 : decode cX6_needs 8 = .ok (.aload_n 0, 1) := by decide +kernel
theorem dX6_needs_9 : decode cX6_needs 9 = .ok (.getfield 81, 3) := by decide +kernel
theorem dX6_needs_12 : decode cX6_needs 12 = .ok (.if_icmp .ge 215, 3) := by decide +kernel
theorem dX6_needs_15 : decode cX6_needs 15 = .ok (.aload_n 0, 1) := by decide +kernel
theorem dX6_needs_16 : decode cX6_needs 16 = .ok (.iload_n 1, 1) := by decide +kernel
theorem dX6_needs_17 : decode cX6_needs 17 = .ok (.iload_n 2, 1) := by decide +kernel
theorem dX6_needs_18 : decode cX6_needs 18 = .ok (.iload_n 3, 1) := by decide +kernel
theorem dX6_needs_19 : decode cX6_needs 19 = .ok (.invokevirtual 195, 3) := by decide +kernel
theorem dX6_needs_22 : decode cX6_needs 22 = .ok (.lconst 1, 1) := by decide +kernel
theorem dX6_needs_23 : decode cX6_needs 23 = .ok (.ladd, 1) := by decide +kernel
theorem dX6_needs_24 : decode cX6_needs 24 = .ok (.lstore 8, 2) := by decide +kernel
theorem dX6_needs_26 : decode cX6_needs 26 = .ok (.iconst 0, 1) := by decide +kernel
theorem dX6_needs_27 : decode cX6_needs 27 = .ok (.istore 10, 2) := by decide +kernel
theorem dX6_needs_29 : decode cX6_needs 29 = .ok (.iconst 0, 1) := by decide +kernel
theorem dX6_needs_30 : decode cX6_needs 30 = .ok (.istore 11, 2) := by decide +kernel
theorem dX6_needs_32 : decode cX6_needs 32 = .ok (.iload 11, 2) := by decide +kernel
theorem dX6_needs_34 : decode cX6_needs 34 = .ok (.bipush 6, 2) := by decide +kernel
theorem dX6_needs_36 : decode cX6_needs 36 = .ok (.if_icmp .ge 163, 3) := by decide +kernel
theorem dX6_needs_39 : decode cX6_needs 39 = .ok (.aload_n 0, 1) := by decide +kernel
theorem dX6_needs_40 : decode cX6_needs 40 = .ok (.iload 7, 2) := by decide +kernel
theorem dX6_needs_42 : decode cX6_needs 42 = .ok (.iload 11, 2) := by decide +kernel
theorem dX6_needs_44 : decode cX6_needs 44 = .ok (.invokevirtual 118, 3) := by decide +kernel
theorem dX6_needs_47 : decode cX6_needs 47 = .ok (.ifCond .eq 146, 3) := by decide +kernel
theorem dX6_needs_50 : decode cX6_needs 50 = .ok (.aload_n 0, 1) := by decide +kernel
theorem dX6_needs_51 : decode cX6_needs 51 = .ok (.iload 7, 2) := by decide +kernel
theorem dX6_needs_53 : decode cX6_needs 53 = .ok (.iload 11, 2) := by decide +kernel
theorem dX6_needs_55 : decode cX6_needs 55 = .ok (.iconst 0, 1) := by decide +kernel
theorem dX6_needs_56 : decode cX6_needs 56 = .ok (.invokevirtual 121, 3) := by decide +kernel
theorem dX6_needs_59 : decode cX6_needs 59 = .ok (.aload_n 0, 1) := by decide +kernel
theorem dX6_needs_60 : decode cX6_needs 60 = .ok (.getfield 7, 3) := by decide +kernel
theorem dX6_needs_63 : decode cX6_needs 63 = .ok (.iconst 0, 1) := by decide +kernel
theorem dX6_needs_64 : decode cX6_needs 64 = .ok (.iaload, 1) := by decide +kernel
theorem dX6_needs_65 : decode cX6_needs 65 = .ok (.if_icmp .gt 128, 3) := by decide +kernel
theorem dX6_needs_68 : decode cX6_needs 68 = .ok (.aload_n 0, 1) := by decide +kernel
theorem dX6_needs_69 : decode cX6_needs 69 = .ok (.iload 7, 2) := by decide +kernel
theorem dX6_needs_71 : decode cX6_needs 71 = .ok (.iload 11, 2) := by decide +kernel
theorem dX6_needs_73 : decode cX6_needs 73 = .ok (.iconst 1, 1) := by decide +kernel
theorem dX6_needs_74 : decode cX6_needs 74 = .ok (.invokevirtual 121, 3) := by decide +kernel
theorem dX6_needs_77 : decode cX6_needs 77 = .ok (.aload_n 0, 1) := by decide +kernel
theorem dX6_needs_78 : decode cX6_needs 78 = .ok (.getfield 7, 3) := by decide +kernel
theorem dX6_needs_81 : decode cX6_needs 81 = .ok (.iconst 1, 1) := by decide +kernel
theorem dX6_needs_82 : decode cX6_needs 82 = .ok (.iaload, 1) := by decide +kernel
theorem dX6_needs_83 : decode cX6_needs 83 = .ok (.if_icmp .gt 110, 3) := by decide +kernel
theorem dX6_needs_86 : decode cX6_needs 86 = .ok (.aload_n 0, 1) := by decide +kernel
theorem dX6_needs_87 : decode cX6_needs 87 = .ok (.iload 7, 2) := by decide +kernel
theorem dX6_needs_89 : decode cX6_needs 89 = .ok (.iload 11, 2) := by decide +kernel
theorem dX6_needs_91 : decode cX6_needs 91 = .ok (.iconst 2, 1) := by decide +kernel
theorem dX6_needs_92 : decode cX6_needs 92 = .ok (.invokevirtual 121, 3) := by decide +kernel
theorem dX6_needs_95 : decode cX6_needs 95 = .ok (.aload_n 0, 1) := by decide +kernel
theorem dX6_needs_96 : decode cX6_needs 96 = .ok (.getfield 7, 3) := by decide +kernel
theorem dX6_needs_99 : decode cX6_needs 99 = .ok (.iconst 2, 1) := by decide +kernel
theorem dX6_needs_100 : decode cX6_needs 100 = .ok (.iaload, 1) := by decide +kernel
theorem dX6_needs_101 : decode cX6_needs 101 = .ok (.if_icmp .gt 92, 3) := by decide +kernel
theorem dX6_needs_104 : decode cX6_needs 104 = .ok (.aload_n 0, 1) := by decide +kernel
theorem dX6_needs_105 : decode cX6_needs 105 = .ok (.getfield 7, 3) := by decide +kernel
theorem dX6_needs_108 : decode cX6_needs 108 = .ok (.iconst 0, 1) := by decide +kernel
theorem dX6_needs_109 : decode cX6_needs 109 = .ok (.iaload, 1) := by decide +kernel
theorem dX6_needs_110 : decode cX6_needs 110 = .ok (.iload_n 1, 1) := by decide +kernel
theorem dX6_needs_111 : decode cX6_needs 111 = .ok (.aload_n 0, 1) := by decide +kernel
theorem dX6_needs_112 : decode cX6_needs 112 = .ok (.iload 7, 2) := by decide +kernel
theorem dX6_needs_114 : decode cX6_needs 114 = .ok (.iload 11, 2) := by decide +kernel
theorem dX6_needs_116 : decode cX6_needs 116 = .ok (.iconst 0, 1) := by decide +kernel
theorem dX6_needs_117 : decode cX6_needs 117 = .ok (.invokevirtual 121, 3) := by decide +kernel
theorem dX6_needs_120 : decode cX6_needs 120 = .ok (.invokestatic 192, 3) := by decide +kernel
theorem dX6_needs_123 : decode cX6_needs 123 = .ok (.i2l, 1) := by decide +kernel
theorem dX6_needs_124 : decode cX6_needs 124 = .ok (.aload_n 0, 1) := by decide +kernel
theorem dX6_needs_125 : decode cX6_needs 125 = .ok (.getfield 7, 3) := by decide +kernel
theorem dX6_needs_128 : decode cX6_needs 128 = .ok (.iconst 1, 1) := by decide +kernel
theorem dX6_needs_129 : decode cX6_needs 129 = .ok (.iaload, 1) := by decide +kernel
theorem dX6_needs_130 : decode cX6_needs 130 = .ok (.iload_n 2, 1) := by decide +kernel
theorem dX6_needs_131 : decode cX6_needs 131 = .ok (.aload_n 0, 1) := by decide +kernel
theorem dX6_needs_132 : decode cX6_needs 132 = .ok (.iload 7, 2) := by decide +kernel
theorem dX6_needs_134 : decode cX6_needs 134 = .ok (.iload 11, 2) := by decide +kernel
theorem dX6_needs_136 : decode cX6_needs 136 = .ok (.iconst 1, 1) := by decide +kernel
theorem dX6_needs_137 : decode cX6_needs 137 = .ok (.invokevirtual 121, 3) := by decide +kernel
theorem dX6_needs_140 : decode cX6_needs 140 = .ok (.invokestatic 192, 3) := by decide +kernel
theorem dX6_needs_143 : decode cX6_needs 143 = .ok (.i2l, 1) := by decide +kernel
theorem dX6_needs_144 : decode cX6_needs 144 = .ok (.lmul, 1) := by decide +kernel
theorem dX6_needs_145 : decode cX6_needs 145 = .ok (.aload_n 0, 1) := by decide +kernel
theorem dX6_needs_146 : decode cX6_needs 146 = .ok (.getfield 7, 3) := by decide +kernel
theorem dX6_needs_149 : decode cX6_needs 149 = .ok (.iconst 2, 1) := by decide +kernel
theorem dX6_needs_150 : decode cX6_needs 150 = .ok (.iaload, 1) := by decide +kernel
theorem dX6_needs_151 : decode cX6_needs 151 = .ok (.iload_n 3, 1) := by decide +kernel
theorem dX6_needs_152 : decode cX6_needs 152 = .ok (.aload_n 0, 1) := by decide +kernel
theorem dX6_needs_153 : decode cX6_needs 153 = .ok (.iload 7, 2) := by decide +kernel
theorem dX6_needs_155 : decode cX6_needs 155 = .ok (.iload 11, 2) := by decide +kernel
theorem dX6_needs_157 : decode cX6_needs 157 = .ok (.iconst 2, 1) := by decide +kernel
theorem dX6_needs_158 : decode cX6_needs 158 = .ok (.invokevirtual 121, 3) := by decide +kernel
theorem dX6_needs_161 : decode cX6_needs 161 = .ok (.invokestatic 192, 3) := by decide +kernel
theorem dX6_needs_164 : decode cX6_needs 164 = .ok (.i2l, 1) := by decide +kernel
theorem dX6_needs_165 : decode cX6_needs 165 = .ok (.lmul, 1) := by decide +kernel
theorem dX6_needs_166 : decode cX6_needs 166 = .ok (.lstore 12, 2) := by decide +kernel
theorem dX6_needs_168 : decode cX6_needs 168 = .ok (.iload 10, 2) := by decide +kernel
theorem dX6_needs_170 : decode cX6_needs 170 = .ok (.ifCond .eq 16, 3) := by decide +kernel
theorem dX6_needs_173 : decode cX6_needs 173 = .ok (.lload 8, 2) := by decide +kernel
theorem dX6_needs_175 : decode cX6_needs 175 = .ok (.lload 12, 2) := by decide +kernel
theorem dX6_needs_177 : decode cX6_needs 177 = .ok (.lcmp, 1) := by decide +kernel
theorem dX6_needs_178 : decode cX6_needs 178 = .ok (.ifCond .ge 8, 3) := by decide +kernel
theorem dX6_needs_181 : decode cX6_needs 181 = .ok (.lload 8, 2) := by decide +kernel
theorem dX6_needs_183 : decode cX6_needs 183 = .ok (.goto 5, 3) := by decide +kernel
theorem dX6_needs_186 : decode cX6_needs 186 = .ok (.lload 12, 2) := by decide +kernel
theorem dX6_needs_188 : decode cX6_needs 188 = .ok (.lstore 8, 2) := by decide +kernel
theorem dX6_needs_190 : decode cX6_needs 190 = .ok (.iconst 1, 1) := by decide +kernel
theorem dX6_needs_191 : decode cX6_needs 191 = .ok (.istore 10, 2) := by decide +kernel
theorem dX6_needs_193 : decode cX6_needs 193 = .ok (.iinc 11 1, 3) := by decide +kernel
theorem dX6_needs_196 : decode cX6_needs 196 = .ok (.goto (-164), 3) := by decide +kernel
theorem dX6_needs_199 : decode cX6_needs 199 = .ok (.lload 5, 2) := by decide +kernel
theorem dX6_needs_201 : decode cX6_needs 201 = .ok (.iload 4, 2) := by decide +kernel
theorem dX6_needs_203 : decode cX6_needs 203 = .ok (.iload 7, 2) := by decide +kernel
theorem dX6_needs_205 : decode cX6_needs 205 = .ok (.ishr, 1) := by decide +kernel
theorem dX6_needs_206 : decode cX6_needs 206 = .ok (.iconst 1, 1) := by decide +kernel
theorem dX6_needs_207 : decode cX6_needs 207 = .ok (.iand, 1) := by decide +kernel
theorem dX6_needs_208 : decode cX6_needs 208 = .ok (.iconst 1, 1) := by decide +kernel
theorem dX6_needs_209 : decode cX6_needs 209 = .ok (.if_icmp .ne 8, 3) := by decide +kernel
theorem dX6_needs_212 : decode cX6_needs 212 = .ok (.lload 8, 2) := by decide +kernel
theorem dX6_needs_214 : decode cX6_needs 214 = .ok (.goto 4, 3) := by decide +kernel
theorem dX6_needs_217 : decode cX6_needs 217 = .ok (.lconst 0, 1) := by decide +kernel
theorem dX6_needs_218 : decode cX6_needs 218 = .ok (.ladd, 1) := by decide +kernel
theorem dX6_needs_219 : decode cX6_needs 219 = .ok (.lstore 5, 2) := by decide +kernel
theorem dX6_needs_221 : decode cX6_needs 221 = .ok (.iinc 7 1, 3) := by decide +kernel
theorem dX6_needs_224 : decode cX6_needs 224 = .ok (.goto (-218), 3) := by decide +kernel
theorem dX6_needs_227 : decode cX6_needs 227 = .ok (.lload 5, 2) := by decide +kernel
theorem dX6_needs_229 : decode cX6_needs 229 = .ok (.lreturn, 1) := by decide +kernel
theorem dX6_need_0 : decode cX6_need 0 = .ok (.aload_n 0, 1) := by decide +kernel
theorem dX6_need_1 : decode cX6_need 1 = .ok (.iconst 0, 1) := by decide +kernel
theorem dX6_need_2 : decode cX6_need 2 = .ok (.iload_n 1, 1) := by decide +kernel
theorem dX6_need_3 : decode cX6_need 3 = .ok (.invokevirtual 189, 3) := by decide +kernel
theorem dX6_need_6 : decode cX6_need 6 = .ok (.ifCond .eq 32, 3) := by decide +kernel
theorem dX6_need_9 : decode cX6_need 9 = .ok (.aload_n 0, 1) := by decide +kernel
theorem dX6_need_10 : decode cX6_need 10 = .ok (.iconst 1, 1) := by decide +kernel
theorem dX6_need_11 : decode cX6_need 11 = .ok (.iload_n 2, 1) := by decide +kernel
theorem dX6_need_12 : decode cX6_need 12 = .ok (.invokevirtual 189, 3) := by decide +kernel
theorem dX6_need_15 : decode cX6_need 15 = .ok (.ifCond .eq 23, 3) := by decide +kernel
theorem dX6_need_18 : decode cX6_need 18 = .ok (.aload_n 0, 1) := by decide +kernel
theorem dX6_need_19 : decode cX6_need 19 = .ok (.iconst 2, 1) := by decide +kernel
theorem dX6_need_20 : decode cX6_need 20 = .ok (.iload_n 3, 1) := by decide +kernel
theorem dX6_need_21 : decode cX6_need 21 = .ok (.invokevirtual 189, 3) := by decide +kernel
theorem dX6_need_24 : decode cX6_need 24 = .ok (.ifCond .eq 14, 3) := by decide +kernel
theorem dX6_need_27 : decode cX6_need 27 = .ok (.iload 4, 2) := by decide +kernel
theorem dX6_need_29 : decode cX6_need 29 = .ok (.ifCond .lt 9, 3) := by decide +kernel
theorem dX6_need_32 : decode cX6_need 32 = .ok (.iload 4, 2) := by decide +kernel
theorem dX6_need_34 : decode cX6_need 34 = .ok (.iconst 1, 1) := by decide +kernel
theorem dX6_need_35 : decode cX6_need 35 = .ok (.if_icmp .le 7, 3) := by decide +kernel
theorem dX6_need_38 : decode cX6_need 38 = .ok (.ldc2_w 198, 3) := by decide +kernel
theorem dX6_need_41 : decode cX6_need 41 = .ok (.lreturn, 1) := by decide +kernel
theorem dX6_need_42 : decode cX6_need 42 = .ok (.iload 4, 2) := by decide +kernel
theorem dX6_need_44 : decode cX6_need 44 = .ok (.iconst 1, 1) := by decide +kernel
theorem dX6_need_45 : decode cX6_need 45 = .ok (.if_icmp .ne 13, 3) := by decide +kernel
theorem dX6_need_48 : decode cX6_need 48 = .ok (.aload_n 0, 1) := by decide +kernel
theorem dX6_need_49 : decode cX6_need 49 = .ok (.iload_n 1, 1) := by decide +kernel
theorem dX6_need_50 : decode cX6_need 50 = .ok (.iload_n 2, 1) := by decide +kernel
theorem dX6_need_51 : decode cX6_need 51 = .ok (.iload_n 3, 1) := by decide +kernel
theorem dX6_need_52 : decode cX6_need 52 = .ok (.invokevirtual 195, 3) := by decide +kernel
theorem dX6_need_55 : decode cX6_need 55 = .ok (.goto 13, 3) := by decide +kernel
theorem dX6_need_58 : decode cX6_need 58 = .ok (.aload_n 0, 1) := by decide +kernel
theorem dX6_need_59 : decode cX6_need 59 = .ok (.iload_n 1, 1) := by decide +kernel
theorem dX6_need_60 : decode cX6_need 60 = .ok (.iload_n 2, 1) := by decide +kernel
theorem dX6_need_61 : decode cX6_need 61 = .ok (.iload_n 3, 1) := by decide +kernel
theorem dX6_need_62 : decode cX6_need 62 = .ok (.sipush 255, 3) := by decide +kernel
theorem dX6_need_65 : decode cX6_need 65 = .ok (.invokevirtual 200, 3) := by decide +kernel
theorem dX6_need_68 : decode cX6_need 68 = .ok (.lreturn, 1) := by decide +kernel
theorem dX6_prove_0 : decode cX6_prove 0 = .ok (.aload_n 0, 1) := by decide +kernel
theorem dX6_prove_1 : decode cX6_prove 1 = .ok (.iconst 1, 1) := by decide +kernel
theorem dX6_prove_2 : decode cX6_prove 2 = .ok (.putfield 114, 3) := by decide +kernel
theorem dX6_prove_5 : decode cX6_prove 5 = .ok (.iconst 0, 1) := by decide +kernel
theorem dX6_prove_6 : decode cX6_prove 6 = .ok (.istore_n 1, 1) := by decide +kernel
theorem dX6_prove_7 : decode cX6_prove 7 = .ok (.iload_n 1, 1) := by decide +kernel
theorem dX6_prove_8 : decode cX6_prove 8 = .ok (.iconst 4, 1) := by decide +kernel
theorem dX6_prove_9 : decode cX6_prove 9 = .ok (.if_icmp .ge 17, 3) := by decide +kernel
theorem dX6_prove_12 : decode cX6_prove 12 = .ok (.aload_n 0, 1) := by decide +kernel
theorem dX6_prove_13 : decode cX6_prove 13 = .ok (.getfield 71, 3) := by decide +kernel
theorem dX6_prove_16 : decode cX6_prove 16 = .ok (.iload_n 1, 1) := by decide +kernel
theorem dX6_prove_17 : decode cX6_prove 17 = .ok (.bipush (-9), 2) := by decide +kernel
theorem dX6_prove_19 : decode cX6_prove 19 = .ok (.iastore, 1) := by decide +kernel
theorem dX6_prove_20 : decode cX6_prove 20 = .ok (.iinc 1 1, 3) := by decide +kernel
theorem dX6_prove_23 : decode cX6_prove 23 = .ok (.goto (-16), 3) := by decide +kernel
theorem dX6_prove_26 : decode cX6_prove 26 = .ok (.iconst 0, 1) := by decide +kernel
theorem dX6_prove_27 : decode cX6_prove 27 = .ok (.istore_n 1, 1) := by decide +kernel
theorem dX6_prove_28 : decode cX6_prove 28 = .ok (.aload_n 0, 1) := by decide +kernel
theorem dX6_prove_29 : decode cX6_prove 29 = .ok (.iconst 0, 1) := by decide +kernel
theorem dX6_prove_30 : decode cX6_prove 30 = .ok (.iload_n 1, 1) := by decide +kernel
theorem dX6_prove_31 : decode cX6_prove 31 = .ok (.invokevirtual 189, 3) := by decide +kernel
theorem dX6_prove_34 : decode cX6_prove 34 = .ok (.ifCond .eq 165, 3) := by decide +kernel
theorem dX6_prove_37 : decode cX6_prove 37 = .ok (.iconst 0, 1) := by decide +kernel
theorem dX6_prove_38 : decode cX6_prove 38 = .ok (.istore_n 2, 1) := by decide +kernel
theorem dX6_prove_39 : decode cX6_prove 39 = .ok (.aload_n 0, 1) := by decide +kernel
theorem dX6_prove_40 : decode cX6_prove 40 = .ok (.iconst 1, 1) := by decide +kernel
theorem dX6_prove_41 : decode cX6_prove 41 = .ok (.iload_n 2, 1) := by decide +kernel
theorem dX6_prove_42 : decode cX6_prove 42 = .ok (.invokevirtual 189, 3) := by decide +kernel
theorem dX6_prove_45 : decode cX6_prove 45 = .ok (.ifCond .eq 148, 3) := by decide +kernel
theorem dX6_prove_48 : decode cX6_prove 48 = .ok (.iconst 0, 1) := by decide +kernel
theorem dX6_prove_49 : decode cX6_prove 49 = .ok (.istore_n 3, 1) := by decide +kernel
theorem dX6_prove_50 : decode cX6_prove 50 = .ok (.aload_n 0, 1) := by decide +kernel
theorem dX6_prove_51 : decode cX6_prove 51 = .ok (.iconst 2, 1) := by decide +kernel
theorem dX6_prove_52 : decode cX6_prove 52 = .ok (.iload_n 3, 1) := by decide +kernel
theorem dX6_prove_53 : decode cX6_prove 53 = .ok (.invokevirtual 189, 3) := by decide +kernel
theorem dX6_prove_56 : decode cX6_prove 56 = .ok (.ifCond .eq 131, 3) := by decide +kernel
theorem dX6_prove_59 : decode cX6_prove 59 = .ok (.aload_n 0, 1) := by decide +kernel
theorem dX6_prove_60 : decode cX6_prove 60 = .ok (.iload_n 1, 1) := by decide +kernel
theorem dX6_prove_61 : decode cX6_prove 61 = .ok (.iload_n 2, 1) := by decide +kernel
theorem dX6_prove_62 : decode cX6_prove 62 = .ok (.iload_n 3, 1) := by decide +kernel
theorem dX6_prove_63 : decode cX6_prove 63 = .ok (.sipush 255, 3) := by decide +kernel
theorem dX6_prove_66 : decode cX6_prove 66 = .ok (.invokevirtual 200, 3) := by decide +kernel
theorem dX6_prove_69 : decode cX6_prove 69 = .ok (.aload_n 0, 1) := by decide +kernel
theorem dX6_prove_70 : decode cX6_prove 70 = .ok (.iload_n 1, 1) := by decide +kernel
theorem dX6_prove_71 : decode cX6_prove 71 = .ok (.iload_n 2, 1) := by decide +kernel
theorem dX6_prove_72 : decode cX6_prove 72 = .ok (.iload_n 3, 1) := by decide +kernel
theorem dX6_prove_73 : decode cX6_prove 73 = .ok (.invokevirtual 195, 3) := by decide +kernel
theorem dX6_prove_76 : decode cX6_prove 76 = .ok (.lcmp, 1) := by decide +kernel
theorem dX6_prove_77 : decode cX6_prove 77 = .ok (.ifCond .le 104, 3) := by decide +kernel
theorem dX6_prove_80 : decode cX6_prove 80 = .ok (.aload_n 0, 1) := by decide +kernel
theorem dX6_prove_81 : decode cX6_prove 81 = .ok (.getfield 71, 3) := by decide +kernel
theorem dX6_prove_84 : decode cX6_prove 84 = .ok (.iconst 0, 1) := by decide +kernel
theorem dX6_prove_85 : decode cX6_prove 85 = .ok (.iload_n 1, 1) := by decide +kernel
theorem dX6_prove_86 : decode cX6_prove 86 = .ok (.iastore, 1) := by decide +kernel
theorem dX6_prove_87 : decode cX6_prove 87 = .ok (.aload_n 0, 1) := by decide +kernel
theorem dX6_prove_88 : decode cX6_prove 88 = .ok (.getfield 71, 3) := by decide +kernel
theorem dX6_prove_91 : decode cX6_prove 91 = .ok (.iconst 1, 1) := by decide +kernel
theorem dX6_prove_92 : decode cX6_prove 92 = .ok (.iload_n 2, 1) := by decide +kernel
theorem dX6_prove_93 : decode cX6_prove 93 = .ok (.iastore, 1) := by decide +kernel
theorem dX6_prove_94 : decode cX6_prove 94 = .ok (.aload_n 0, 1) := by decide +kernel
theorem dX6_prove_95 : decode cX6_prove 95 = .ok (.getfield 71, 3) := by decide +kernel
theorem dX6_prove_98 : decode cX6_prove 98 = .ok (.iconst 2, 1) := by decide +kernel
theorem dX6_prove_99 : decode cX6_prove 99 = .ok (.iload_n 3, 1) := by decide +kernel
theorem dX6_prove_100 : decode cX6_prove 100 = .ok (.iastore, 1) := by decide +kernel
theorem dX6_prove_101 : decode cX6_prove 101 = .ok (.iconst 1, 1) := by decide +kernel
theorem dX6_prove_102 : decode cX6_prove 102 = .ok (.aload_n 0, 1) := by decide +kernel
theorem dX6_prove_103 : decode cX6_prove 103 = .ok (.getfield 81, 3) := by decide +kernel
theorem dX6_prove_106 : decode cX6_prove 106 = .ok (.ishl, 1) := by decide +kernel
theorem dX6_prove_107 : decode cX6_prove 107 = .ok (.iconst 1, 1) := by decide +kernel
theorem dX6_prove_108 : decode cX6_prove 108 = .ok (.isub, 1) := by decide +kernel
theorem dX6_prove_109 : decode cX6_prove 109 = .ok (.istore 4, 2) := by decide +kernel
theorem dX6_prove_111 : decode cX6_prove 111 = .ok (.iconst 0, 1) := by decide +kernel
theorem dX6_prove_112 : decode cX6_prove 112 = .ok (.istore 5, 2) := by decide +kernel
theorem dX6_prove_114 : decode cX6_prove 114 = .ok (.iload 5, 2) := by decide +kernel
theorem dX6_prove_116 : decode cX6_prove 116 = .ok (.aload_n 0, 1) := by decide +kernel
theorem dX6_prove_117 : decode cX6_prove 117 = .ok (.getfield 81, 3) := by decide +kernel
theorem dX6_prove_120 : decode cX6_prove 120 = .ok (.if_icmp .ge 52, 3) := by decide +kernel
theorem dX6_prove_123 : decode cX6_prove 123 = .ok (.aload_n 0, 1) := by decide +kernel
theorem dX6_prove_124 : decode cX6_prove 124 = .ok (.iload_n 1, 1) := by decide +kernel
theorem dX6_prove_125 : decode cX6_prove 125 = .ok (.iload_n 2, 1) := by decide +kernel
theorem dX6_prove_126 : decode cX6_prove 126 = .ok (.iload_n 3, 1) := by decide +kernel
theorem dX6_prove_127 : decode cX6_prove 127 = .ok (.iload 4, 2) := by decide +kernel
theorem dX6_prove_129 : decode cX6_prove 129 = .ok (.iconst 1, 1) := by decide +kernel
theorem dX6_prove_130 : decode cX6_prove 130 = .ok (.iload 5, 2) := by decide +kernel
theorem dX6_prove_132 : decode cX6_prove 132 = .ok (.ishl, 1) := by decide +kernel
theorem dX6_prove_133 : decode cX6_prove 133 = .ok (.iconst (-1), 1) := by decide +kernel
theorem dX6_prove_134 : decode cX6_prove 134 = .ok (.ixor, 1) := by decide +kernel
theorem dX6_prove_135 : decode cX6_prove 135 = .ok (.iand, 1) := by decide +kernel
theorem dX6_prove_136 : decode cX6_prove 136 = .ok (.invokevirtual 200, 3) := by decide +kernel
theorem dX6_prove_139 : decode cX6_prove 139 = .ok (.aload_n 0, 1) := by decide +kernel
theorem dX6_prove_140 : decode cX6_prove 140 = .ok (.iload_n 1, 1) := by decide +kernel
theorem dX6_prove_141 : decode cX6_prove 141 = .ok (.iload_n 2, 1) := by decide +kernel
theorem dX6_prove_142 : decode cX6_prove 142 = .ok (.iload_n 3, 1) := by decide +kernel
theorem dX6_prove_143 : decode cX6_prove 143 = .ok (.invokevirtual 195, 3) := by decide +kernel
theorem dX6_prove_146 : decode cX6_prove 146 = .ok (.lcmp, 1) := by decide +kernel
theorem dX6_prove_147 : decode cX6_prove 147 = .ok (.ifCond .le 15, 3) := by decide +kernel
theorem dX6_prove_150 : decode cX6_prove 150 = .ok (.iload 4, 2) := by decide +kernel
theorem dX6_prove_152 : decode cX6_prove 152 = .ok (.iconst 1, 1) := by decide +kernel
theorem dX6_prove_153 : decode cX6_prove 153 = .ok (.iload 5, 2) := by decide +kernel
theorem dX6_prove_155 : decode cX6_prove 155 = .ok (.ishl, 1) := by decide +kernel
theorem dX6_prove_156 : decode cX6_prove 156 = .ok (.iconst (-1), 1) := by decide +kernel
theorem dX6_prove_157 : decode cX6_prove 157 = .ok (.ixor, 1) := by decide +kernel
theorem dX6_prove_158 : decode cX6_prove 158 = .ok (.iand, 1) := by decide +kernel
theorem dX6_prove_159 : decode cX6_prove 159 = .ok (.goto 5, 3) := by decide +kernel
theorem dX6_prove_162 : decode cX6_prove 162 = .ok (.iload 4, 2) := by decide +kernel
theorem dX6_prove_164 : decode cX6_prove 164 = .ok (.istore 4, 2) := by decide +kernel
theorem dX6_prove_166 : decode cX6_prove 166 = .ok (.iinc 5 1, 3) := by decide +kernel
theorem dX6_prove_169 : decode cX6_prove 169 = .ok (.goto (-55), 3) := by decide +kernel
theorem dX6_prove_172 : decode cX6_prove 172 = .ok (.aload_n 0, 1) := by decide +kernel
theorem dX6_prove_173 : decode cX6_prove 173 = .ok (.getfield 71, 3) := by decide +kernel
theorem dX6_prove_176 : decode cX6_prove 176 = .ok (.iconst 3, 1) := by decide +kernel
theorem dX6_prove_177 : decode cX6_prove 177 = .ok (.iload 4, 2) := by decide +kernel
theorem dX6_prove_179 : decode cX6_prove 179 = .ok (.iastore, 1) := by decide +kernel
theorem dX6_prove_180 : decode cX6_prove 180 = .ok (.return_, 1) := by decide +kernel
theorem dX6_prove_181 : decode cX6_prove 181 = .ok (.iinc 3 1, 3) := by decide +kernel
theorem dX6_prove_184 : decode cX6_prove 184 = .ok (.goto (-134), 3) := by decide +kernel
theorem dX6_prove_187 : decode cX6_prove 187 = .ok (.iinc 2 1, 3) := by decide +kernel
theorem dX6_prove_190 : decode cX6_prove 190 = .ok (.goto (-151), 3) := by decide +kernel
theorem dX6_prove_193 : decode cX6_prove 193 = .ok (.iinc 1 1, 3) := by decide +kernel
theorem dX6_prove_196 : decode cX6_prove 196 = .ok (.goto (-168), 3) := by decide +kernel
theorem dX6_prove_199 : decode cX6_prove 199 = .ok (.return_, 1) := by decide +kernel
theorem dX6_proof_0 : decode cX6_proof 0 = .ok (.iload_n 1, 1) := by decide +kernel
theorem dX6_proof_1 : decode cX6_proof 1 = .ok (.ifCond .lt 8, 3) := by decide +kernel
theorem dX6_proof_4 : decode cX6_proof 4 = .ok (.iload_n 1, 1) := by decide +kernel
theorem dX6_proof_5 : decode cX6_proof 5 = .ok (.iconst 3, 1) := by decide +kernel
theorem dX6_proof_6 : decode cX6_proof 6 = .ok (.if_icmp .le 5, 3) := by decide +kernel
theorem dX6_proof_9 : decode cX6_proof 9 = .ok (.iconst (-1), 1) := by decide +kernel
theorem dX6_proof_10 : decode cX6_proof 10 = .ok (.ireturn, 1) := by decide +kernel
theorem dX6_proof_11 : decode cX6_proof 11 = .ok (.aload_n 0, 1) := by decide +kernel
theorem dX6_proof_12 : decode cX6_proof 12 = .ok (.getfield 114, 3) := by decide +kernel
theorem dX6_proof_15 : decode cX6_proof 15 = .ok (.ifCond .ne 7, 3) := by decide +kernel
theorem dX6_proof_18 : decode cX6_proof 18 = .ok (.aload_n 0, 1) := by decide +kernel
theorem dX6_proof_19 : decode cX6_proof 19 = .ok (.invokevirtual 204, 3) := by decide +kernel
theorem dX6_proof_22 : decode cX6_proof 22 = .ok (.aload_n 0, 1) := by decide +kernel
theorem dX6_proof_23 : decode cX6_proof 23 = .ok (.getfield 71, 3) := by decide +kernel
theorem dX6_proof_26 : decode cX6_proof 26 = .ok (.iload_n 1, 1) := by decide +kernel
theorem dX6_proof_27 : decode cX6_proof 27 = .ok (.iaload, 1) := by decide +kernel
theorem dX6_proof_28 : decode cX6_proof 28 = .ok (.ireturn, 1) := by decide +kernel
theorem dX6_none_0 : decode cX6_none 0 = .ok (.aload_n 0, 1) := by decide +kernel
theorem dX6_none_1 : decode cX6_none 1 = .ok (.iload_n 1, 1) := by decide +kernel
theorem dX6_none_2 : decode cX6_none 2 = .ok (.iload_n 2, 1) := by decide +kernel
theorem dX6_none_3 : decode cX6_none 3 = .ok (.iload_n 3, 1) := by decide +kernel
theorem dX6_none_4 : decode cX6_none 4 = .ok (.iload 4, 2) := by decide +kernel
theorem dX6_none_6 : decode cX6_none 6 = .ok (.iload 5, 2) := by decide +kernel
theorem dX6_none_8 : decode cX6_none 8 = .ok (.invokevirtual 154, 3) := by decide +kernel
theorem dX6_none_11 : decode cX6_none 11 = .ok (.ifCond .ne 5, 3) := by decide +kernel
theorem dX6_none_14 : decode cX6_none 14 = .ok (.iconst (-1), 1) := by decide +kernel
theorem dX6_none_15 : decode cX6_none 15 = .ok (.ireturn, 1) := by decide +kernel
theorem dX6_none_16 : decode cX6_none 16 = .ok (.iconst 0, 1) := by decide +kernel
theorem dX6_none_17 : decode cX6_none 17 = .ok (.istore 6, 2) := by decide +kernel
theorem dX6_none_19 : decode cX6_none 19 = .ok (.iconst 0, 1) := by decide +kernel
theorem dX6_none_20 : decode cX6_none 20 = .ok (.istore 7, 2) := by decide +kernel
theorem dX6_none_22 : decode cX6_none 22 = .ok (.iload 7, 2) := by decide +kernel
theorem dX6_none_24 : decode cX6_none 24 = .ok (.aload_n 0, 1) := by decide +kernel
theorem dX6_none_25 : decode cX6_none 25 = .ok (.getfield 81, 3) := by decide +kernel
theorem dX6_none_28 : decode cX6_none 28 = .ok (.if_icmp .ge 43, 3) := by decide +kernel
theorem dX6_none_31 : decode cX6_none 31 = .ok (.iload 6, 2) := by decide +kernel
theorem dX6_none_33 : decode cX6_none 33 = .ok (.ifCond .ne 25, 3) := by decide +kernel
theorem dX6_none_36 : decode cX6_none 36 = .ok (.iload 7, 2) := by decide +kernel
theorem dX6_none_38 : decode cX6_none 38 = .ok (.iload_n 1, 1) := by decide +kernel
theorem dX6_none_39 : decode cX6_none 39 = .ok (.if_icmp .eq 23, 3) := by decide +kernel
theorem dX6_none_42 : decode cX6_none 42 = .ok (.aload_n 0, 1) := by decide +kernel
theorem dX6_none_43 : decode cX6_none 43 = .ok (.iload 7, 2) := by decide +kernel
theorem dX6_none_45 : decode cX6_none 45 = .ok (.iload_n 1, 1) := by decide +kernel
theorem dX6_none_46 : decode cX6_none 46 = .ok (.iload_n 2, 1) := by decide +kernel
theorem dX6_none_47 : decode cX6_none 47 = .ok (.iload_n 3, 1) := by decide +kernel
theorem dX6_none_48 : decode cX6_none 48 = .ok (.iload 4, 2) := by decide +kernel
theorem dX6_none_50 : decode cX6_none 50 = .ok (.iload 5, 2) := by decide +kernel
theorem dX6_none_52 : decode cX6_none 52 = .ok (.invokevirtual 207, 3) := by decide +kernel
theorem dX6_none_55 : decode cX6_none 55 = .ok (.ifCond .ne 7, 3) := by decide +kernel
theorem dX6_none_58 : decode cX6_none 58 = .ok (.iconst 1, 1) := by decide +kernel
theorem dX6_none_59 : decode cX6_none 59 = .ok (.goto 4, 3) := by decide +kernel
theorem dX6_none_62 : decode cX6_none 62 = .ok (.iconst 0, 1) := by decide +kernel
theorem dX6_none_63 : decode cX6_none 63 = .ok (.istore 6, 2) := by decide +kernel
theorem dX6_none_65 : decode cX6_none 65 = .ok (.iinc 7 1, 3) := by decide +kernel
theorem dX6_none_68 : decode cX6_none 68 = .ok (.goto (-46), 3) := by decide +kernel
theorem dX6_none_71 : decode cX6_none 71 = .ok (.iload 6, 2) := by decide +kernel
theorem dX6_none_73 : decode cX6_none 73 = .ok (.ifCond .eq 7, 3) := by decide +kernel
theorem dX6_none_76 : decode cX6_none 76 = .ok (.iconst 1, 1) := by decide +kernel
theorem dX6_none_77 : decode cX6_none 77 = .ok (.goto 4, 3) := by decide +kernel
theorem dX6_none_80 : decode cX6_none 80 = .ok (.iconst 0, 1) := by decide +kernel
theorem dX6_none_81 : decode cX6_none 81 = .ok (.ireturn, 1) := by decide +kernel
theorem dX6_isPossible_0 : decode cX6_isPossible 0 = .ok (.iconst 0, 1) := by decide +kernel
theorem dX6_isPossible_1 : decode cX6_isPossible 1 = .ok (.istore 7, 2) := by decide +kernel
theorem dX6_isPossible_3 : decode cX6_isPossible 3 = .ok (.iconst 0, 1) := by decide +kernel
theorem dX6_isPossible_4 : decode cX6_isPossible 4 = .ok (.istore 8, 2) := by decide +kernel
theorem dX6_isPossible_6 : decode cX6_isPossible 6 = .ok (.iload 8, 2) := by decide +kernel
theorem dX6_isPossible_8 : decode cX6_isPossible 8 = .ok (.bipush 6, 2) := by decide +kernel
theorem dX6_isPossible_10 : decode cX6_isPossible 10 = .ok (.if_icmp .ge 164, 3) := by decide +kernel
theorem dX6_isPossible_13 : decode cX6_isPossible 13 = .ok (.aload_n 0, 1) := by decide +kernel
theorem dX6_isPossible_14 : decode cX6_isPossible 14 = .ok (.iload_n 1, 1) := by decide +kernel
theorem dX6_isPossible_15 : decode cX6_isPossible 15 = .ok (.iload 8, 2) := by decide +kernel
theorem dX6_isPossible_17 : decode cX6_isPossible 17 = .ok (.invokevirtual 118, 3) := by decide +kernel
theorem dX6_isPossible_20 : decode cX6_isPossible 20 = .ok (.ifCond .eq 148, 3) := by decide +kernel
theorem dX6_isPossible_23 : decode cX6_isPossible 23 = .ok (.aload_n 0, 1) := by decide +kernel
theorem dX6_isPossible_24 : decode cX6_isPossible 24 = .ok (.iload_n 1, 1) := by decide +kernel
theorem dX6_isPossible_25 : decode cX6_isPossible 25 = .ok (.iload 8, 2) := by decide +kernel
theorem dX6_isPossible_27 : decode cX6_isPossible 27 = .ok (.iconst 0, 1) := by decide +kernel
theorem dX6_isPossible_28 : decode cX6_isPossible 28 = .ok (.invokevirtual 121, 3) := by decide +kernel
theorem dX6_isPossible_31 : decode cX6_isPossible 31 = .ok (.aload_n 0, 1) := by decide +kernel
theorem dX6_isPossible_32 : decode cX6_isPossible 32 = .ok (.getfield 7, 3) := by decide +kernel
theorem dX6_isPossible_35 : decode cX6_isPossible 35 = .ok (.iconst 0, 1) := by decide +kernel
theorem dX6_isPossible_36 : decode cX6_isPossible 36 = .ok (.iaload, 1) := by decide +kernel
theorem dX6_isPossible_37 : decode cX6_isPossible 37 = .ok (.if_icmp .gt 131, 3) := by decide +kernel
theorem dX6_isPossible_40 : decode cX6_isPossible 40 = .ok (.aload_n 0, 1) := by decide +kernel
theorem dX6_isPossible_41 : decode cX6_isPossible 41 = .ok (.iload_n 1, 1) := by decide +kernel
theorem dX6_isPossible_42 : decode cX6_isPossible 42 = .ok (.iload 8, 2) := by decide +kernel
theorem dX6_isPossible_44 : decode cX6_isPossible 44 = .ok (.iconst 1, 1) := by decide +kernel
theorem dX6_isPossible_45 : decode cX6_isPossible 45 = .ok (.invokevirtual 121, 3) := by decide +kernel
theorem dX6_isPossible_48 : decode cX6_isPossible 48 = .ok (.aload_n 0, 1) := by decide +kernel
theorem dX6_isPossible_49 : decode cX6_isPossible 49 = .ok (.getfield 7, 3) := by decide +kernel
theorem dX6_isPossible_52 : decode cX6_isPossible 52 = .ok (.iconst 1, 1) := by decide +kernel
theorem dX6_isPossible_53 : decode cX6_isPossible 53 = .ok (.iaload, 1) := by decide +kernel
theorem dX6_isPossible_54 : decode cX6_isPossible 54 = .ok (.if_icmp .gt 114, 3) := by decide +kernel
theorem dX6_isPossible_57 : decode cX6_isPossible 57 = .ok (.aload_n 0, 1) := by decide +kernel
theorem dX6_isPossible_58 : decode cX6_isPossible 58 = .ok (.iload_n 1, 1) := by decide +kernel
theorem dX6_isPossible_59 : decode cX6_isPossible 59 = .ok (.iload 8, 2) := by decide +kernel
theorem dX6_isPossible_61 : decode cX6_isPossible 61 = .ok (.iconst 2, 1) := by decide +kernel
theorem dX6_isPossible_62 : decode cX6_isPossible 62 = .ok (.invokevirtual 121, 3) := by decide +kernel
theorem dX6_isPossible_65 : decode cX6_isPossible 65 = .ok (.aload_n 0, 1) := by decide +kernel
theorem dX6_isPossible_66 : decode cX6_isPossible 66 = .ok (.getfield 7, 3) := by decide +kernel
theorem dX6_isPossible_69 : decode cX6_isPossible 69 = .ok (.iconst 2, 1) := by decide +kernel
theorem dX6_isPossible_70 : decode cX6_isPossible 70 = .ok (.iaload, 1) := by decide +kernel
theorem dX6_isPossible_71 : decode cX6_isPossible 71 = .ok (.if_icmp .gt 97, 3) := by decide +kernel
theorem dX6_isPossible_74 : decode cX6_isPossible 74 = .ok (.iconst 0, 1) := by decide +kernel
theorem dX6_isPossible_75 : decode cX6_isPossible 75 = .ok (.istore 9, 2) := by decide +kernel
theorem dX6_isPossible_77 : decode cX6_isPossible 77 = .ok (.iload 9, 2) := by decide +kernel
theorem dX6_isPossible_79 : decode cX6_isPossible 79 = .ok (.iconst 3, 1) := by decide +kernel
theorem dX6_isPossible_80 : decode cX6_isPossible 80 = .ok (.if_icmp .ge 88, 3) := by decide +kernel
theorem dX6_isPossible_83 : decode cX6_isPossible 83 = .ok (.iload 9, 2) := by decide +kernel
theorem dX6_isPossible_85 : decode cX6_isPossible 85 = .ok (.ifCond .ne 8, 3) := by decide +kernel
theorem dX6_isPossible_88 : decode cX6_isPossible 88 = .ok (.iload 4, 2) := by decide +kernel
theorem dX6_isPossible_90 : decode cX6_isPossible 90 = .ok (.goto 16, 3) := by decide +kernel
theorem dX6_isPossible_93 : decode cX6_isPossible 93 = .ok (.iload 9, 2) := by decide +kernel
theorem dX6_isPossible_95 : decode cX6_isPossible 95 = .ok (.iconst 1, 1) := by decide +kernel
theorem dX6_isPossible_96 : decode cX6_isPossible 96 = .ok (.if_icmp .ne 8, 3) := by decide +kernel
theorem dX6_isPossible_99 : decode cX6_isPossible 99 = .ok (.iload 5, 2) := by decide +kernel
theorem dX6_isPossible_101 : decode cX6_isPossible 101 = .ok (.goto 5, 3) := by decide +kernel
theorem dX6_isPossible_104 : decode cX6_isPossible 104 = .ok (.iload 6, 2) := by decide +kernel
theorem dX6_isPossible_106 : decode cX6_isPossible 106 = .ok (.istore 10, 2) := by decide +kernel
theorem dX6_isPossible_108 : decode cX6_isPossible 108 = .ok (.aload_n 0, 1) := by decide +kernel
theorem dX6_isPossible_109 : decode cX6_isPossible 109 = .ok (.iload_n 1, 1) := by decide +kernel
theorem dX6_isPossible_110 : decode cX6_isPossible 110 = .ok (.iload 8, 2) := by decide +kernel
theorem dX6_isPossible_112 : decode cX6_isPossible 112 = .ok (.iload 9, 2) := by decide +kernel
theorem dX6_isPossible_114 : decode cX6_isPossible 114 = .ok (.invokevirtual 121, 3) := by decide +kernel
theorem dX6_isPossible_117 : decode cX6_isPossible 117 = .ok (.istore 11, 2) := by decide +kernel
theorem dX6_isPossible_119 : decode cX6_isPossible 119 = .ok (.iload 7, 2) := by decide +kernel
theorem dX6_isPossible_121 : decode cX6_isPossible 121 = .ok (.ifCond .ne 34, 3) := by decide +kernel
theorem dX6_isPossible_124 : decode cX6_isPossible 124 = .ok (.iload 11, 2) := by decide +kernel
theorem dX6_isPossible_126 : decode cX6_isPossible 126 = .ok (.iload 10, 2) := by decide +kernel
theorem dX6_isPossible_128 : decode cX6_isPossible 128 = .ok (.if_icmp .le 27, 3) := by decide +kernel
theorem dX6_isPossible_131 : decode cX6_isPossible 131 = .ok (.iload 10, 2) := by decide +kernel
theorem dX6_isPossible_133 : decode cX6_isPossible 133 = .ok (.aload_n 0, 1) := by decide +kernel
theorem dX6_isPossible_134 : decode cX6_isPossible 134 = .ok (.iload_n 2, 1) := by decide +kernel
theorem dX6_isPossible_135 : decode cX6_isPossible 135 = .ok (.iload_n 3, 1) := by decide +kernel
theorem dX6_isPossible_136 : decode cX6_isPossible 136 = .ok (.iload 9, 2) := by decide +kernel
theorem dX6_isPossible_138 : decode cX6_isPossible 138 = .ok (.invokevirtual 121, 3) := by decide +kernel
theorem dX6_isPossible_141 : decode cX6_isPossible 141 = .ok (.iadd, 1) := by decide +kernel
theorem dX6_isPossible_142 : decode cX6_isPossible 142 = .ok (.iload 11, 2) := by decide +kernel
theorem dX6_isPossible_144 : decode cX6_isPossible 144 = .ok (.iadd, 1) := by decide +kernel
theorem dX6_isPossible_145 : decode cX6_isPossible 145 = .ok (.aload_n 0, 1) := by decide +kernel
theorem dX6_isPossible_146 : decode cX6_isPossible 146 = .ok (.getfield 7, 3) := by decide +kernel
theorem dX6_isPossible_149 : decode cX6_isPossible 149 = .ok (.iload 9, 2) := by decide +kernel
theorem dX6_isPossible_151 : decode cX6_isPossible 151 = .ok (.iaload, 1) := by decide +kernel
theorem dX6_isPossible_152 : decode cX6_isPossible 152 = .ok (.if_icmp .gt 7, 3) := by decide +kernel
theorem dX6_isPossible_155 : decode cX6_isPossible 155 = .ok (.iconst 1, 1) := by decide +kernel
theorem dX6_isPossible_156 : decode cX6_isPossible 156 = .ok (.goto 4, 3) := by decide +kernel
theorem dX6_isPossible_159 : decode cX6_isPossible 159 = .ok (.iconst 0, 1) := by decide +kernel
theorem dX6_isPossible_160 : decode cX6_isPossible 160 = .ok (.istore 7, 2) := by decide +kernel
theorem dX6_isPossible_162 : decode cX6_isPossible 162 = .ok (.iinc 9 1, 3) := by decide +kernel
theorem dX6_isPossible_165 : decode cX6_isPossible 165 = .ok (.goto (-88), 3) := by decide +kernel
theorem dX6_isPossible_168 : decode cX6_isPossible 168 = .ok (.iinc 8 1, 3) := by decide +kernel
theorem dX6_isPossible_171 : decode cX6_isPossible 171 = .ok (.goto (-165), 3) := by decide +kernel
theorem dX6_isPossible_174 : decode cX6_isPossible 174 = .ok (.iload 7, 2) := by decide +kernel
theorem dX6_isPossible_176 : decode cX6_isPossible 176 = .ok (.ireturn, 1) := by decide +kernel
