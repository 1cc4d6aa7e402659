-- decode rows of the law's methods
theorem dL_below_0 : decode cL_below 0 = .ok (.iload_n 0, 1) := by decide +kernel
theorem dL_below_1 : decode cL_below 1 = .ok (.ldc 7, 2) := by decide +kernel
theorem dL_below_3 : decode cL_below 3 = .ok (.iand, 1) := by decide +kernel
theorem dL_below_4 : decode cL_below 4 = .ok (.iload_n 1, 1) := by decide +kernel
theorem dL_below_5 : decode cL_below 5 = .ok (.irem, 1) := by decide +kernel
theorem dL_below_6 : decode cL_below 6 = .ok (.ireturn, 1) := by decide +kernel
theorem dL_cell_0 : decode cL_cell 0 = .ok (.iload_n 1, 1) := by decide +kernel
theorem dL_cell_1 : decode cL_cell 1 = .ok (.aload_n 0, 1) := by decide +kernel
theorem dL_cell_2 : decode cL_cell 2 = .ok (.arraylength, 1) := by decide +kernel
theorem dL_cell_3 : decode cL_cell 3 = .ok (.if_icmp .ge 9, 3) := by decide +kernel
theorem dL_cell_6 : decode cL_cell 6 = .ok (.aload_n 0, 1) := by decide +kernel
theorem dL_cell_7 : decode cL_cell 7 = .ok (.iload_n 1, 1) := by decide +kernel
theorem dL_cell_8 : decode cL_cell 8 = .ok (.iaload, 1) := by decide +kernel
theorem dL_cell_9 : decode cL_cell 9 = .ok (.goto 9, 3) := by decide +kernel
theorem dL_cell_12 : decode cL_cell 12 = .ok (.ldc 8, 2) := by decide +kernel
theorem dL_cell_14 : decode cL_cell 14 = .ok (.iload_n 1, 1) := by decide +kernel
theorem dL_cell_15 : decode cL_cell 15 = .ok (.iconst 3, 1) := by decide +kernel
theorem dL_cell_16 : decode cL_cell 16 = .ok (.iadd, 1) := by decide +kernel
theorem dL_cell_17 : decode cL_cell 17 = .ok (.imul, 1) := by decide +kernel
theorem dL_cell_18 : decode cL_cell 18 = .ok (.ireturn, 1) := by decide +kernel
theorem dL_doing_0 : decode cL_doing 0 = .ok (.iload_n 0, 1) := by decide +kernel
theorem dL_doing_1 : decode cL_doing 1 = .ok (.iload_n 1, 1) := by decide +kernel
theorem dL_doing_2 : decode cL_doing 2 = .ok (.invokestatic 9, 3) := by decide +kernel
theorem dL_doing_5 : decode cL_doing 5 = .ok (.istore_n 2, 1) := by decide +kernel
theorem dL_doing_6 : decode cL_doing 6 = .ok (.iconst 3, 1) := by decide +kernel
theorem dL_doing_7 : decode cL_doing 7 = .ok (.newarray .int, 2) := by decide +kernel
theorem dL_doing_9 : decode cL_doing 9 = .ok (.dup, 1) := by decide +kernel
theorem dL_doing_10 : decode cL_doing 10 = .ok (.iconst 0, 1) := by decide +kernel
theorem dL_doing_11 : decode cL_doing 11 = .ok (.iload_n 2, 1) := by decide +kernel
theorem dL_doing_12 : decode cL_doing 12 = .ok (.iastore, 1) := by decide +kernel
theorem dL_doing_13 : decode cL_doing 13 = .ok (.dup, 1) := by decide +kernel
theorem dL_doing_14 : decode cL_doing 14 = .ok (.iconst 1, 1) := by decide +kernel
theorem dL_doing_15 : decode cL_doing 15 = .ok (.iload_n 2, 1) := by decide +kernel
theorem dL_doing_16 : decode cL_doing 16 = .ok (.iconst 3, 1) := by decide +kernel
theorem dL_doing_17 : decode cL_doing 17 = .ok (.if_icmp .ne 13, 3) := by decide +kernel
theorem dL_doing_20 : decode cL_doing 20 = .ok (.iload_n 0, 1) := by decide +kernel
theorem dL_doing_21 : decode cL_doing 21 = .ok (.iconst 3, 1) := by decide +kernel
theorem dL_doing_22 : decode cL_doing 22 = .ok (.ishr, 1) := by decide +kernel
theorem dL_doing_23 : decode cL_doing 23 = .ok (.iconst 4, 1) := by decide +kernel
theorem dL_doing_24 : decode cL_doing 24 = .ok (.invokestatic 9, 3) := by decide +kernel
theorem dL_doing_27 : decode cL_doing 27 = .ok (.goto 10, 3) := by decide +kernel
theorem dL_doing_30 : decode cL_doing 30 = .ok (.iload_n 0, 1) := by decide +kernel
theorem dL_doing_31 : decode cL_doing 31 = .ok (.iconst 3, 1) := by decide +kernel
theorem dL_doing_32 : decode cL_doing 32 = .ok (.ishr, 1) := by decide +kernel
theorem dL_doing_33 : decode cL_doing 33 = .ok (.iconst 4, 1) := by decide +kernel
theorem dL_doing_34 : decode cL_doing 34 = .ok (.invokestatic 9, 3) := by decide +kernel
theorem dL_doing_37 : decode cL_doing 37 = .ok (.iastore, 1) := by decide +kernel
theorem dL_doing_38 : decode cL_doing 38 = .ok (.dup, 1) := by decide +kernel
theorem dL_doing_39 : decode cL_doing 39 = .ok (.iconst 2, 1) := by decide +kernel
theorem dL_doing_40 : decode cL_doing 40 = .ok (.iload_n 0, 1) := by decide +kernel
theorem dL_doing_41 : decode cL_doing 41 = .ok (.iconst 2, 1) := by decide +kernel
theorem dL_doing_42 : decode cL_doing 42 = .ok (.ishr, 1) := by decide +kernel
theorem dL_doing_43 : decode cL_doing 43 = .ok (.bipush 7, 2) := by decide +kernel
theorem dL_doing_45 : decode cL_doing 45 = .ok (.invokestatic 9, 3) := by decide +kernel
theorem dL_doing_48 : decode cL_doing 48 = .ok (.iconst 3, 1) := by decide +kernel
theorem dL_doing_49 : decode cL_doing 49 = .ok (.isub, 1) := by decide +kernel
theorem dL_doing_50 : decode cL_doing 50 = .ok (.iastore, 1) := by decide +kernel
theorem dL_doing_51 : decode cL_doing 51 = .ok (.areturn, 1) := by decide +kernel
theorem dL_isSound_0 : decode cL_isSound 0 = .ok (.aload_n 0, 1) := by decide +kernel
theorem dL_isSound_1 : decode cL_isSound 1 = .ok (.invokevirtual 44, 3) := by decide +kernel
theorem dL_isSound_4 : decode cL_isSound 4 = .ok (.istore_n 2, 1) := by decide +kernel
theorem dL_isSound_5 : decode cL_isSound 5 = .ok (.iconst 0, 1) := by decide +kernel
theorem dL_isSound_6 : decode cL_isSound 6 = .ok (.istore_n 3, 1) := by decide +kernel
theorem dL_isSound_7 : decode cL_isSound 7 = .ok (.iload_n 2, 1) := by decide +kernel
theorem dL_isSound_8 : decode cL_isSound 8 = .ok (.iconst 1, 1) := by decide +kernel
theorem dL_isSound_9 : decode cL_isSound 9 = .ok (.iand, 1) := by decide +kernel
theorem dL_isSound_10 : decode cL_isSound 10 = .ok (.ifCond .ne 5, 3) := by decide +kernel
theorem dL_isSound_13 : decode cL_isSound 13 = .ok (.iconst 0, 1) := by decide +kernel
theorem dL_isSound_14 : decode cL_isSound 14 = .ok (.ireturn, 1) := by decide +kernel
theorem dL_isSound_15 : decode cL_isSound 15 = .ok (.iconst 0, 1) := by decide +kernel
theorem dL_isSound_16 : decode cL_isSound 16 = .ok (.istore 4, 2) := by decide +kernel
theorem dL_isSound_18 : decode cL_isSound 18 = .ok (.iload 4, 2) := by decide +kernel
theorem dL_isSound_20 : decode cL_isSound 20 = .ok (.aload_n 1, 1) := by decide +kernel
theorem dL_isSound_21 : decode cL_isSound 21 = .ok (.arraylength, 1) := by decide +kernel
theorem dL_isSound_22 : decode cL_isSound 22 = .ok (.if_icmp .ge 230, 3) := by decide +kernel
theorem dL_isSound_25 : decode cL_isSound 25 = .ok (.iload_n 2, 1) := by decide +kernel
theorem dL_isSound_26 : decode cL_isSound 26 = .ok (.iload 4, 2) := by decide +kernel
theorem dL_isSound_28 : decode cL_isSound 28 = .ok (.ishr, 1) := by decide +kernel
theorem dL_isSound_29 : decode cL_isSound 29 = .ok (.iconst 1, 1) := by decide +kernel
theorem dL_isSound_30 : decode cL_isSound 30 = .ok (.iand, 1) := by decide +kernel
theorem dL_isSound_31 : decode cL_isSound 31 = .ok (.iconst 1, 1) := by decide +kernel
theorem dL_isSound_32 : decode cL_isSound 32 = .ok (.if_icmp .ne 7, 3) := by decide +kernel
theorem dL_isSound_35 : decode cL_isSound 35 = .ok (.iconst 1, 1) := by decide +kernel
theorem dL_isSound_36 : decode cL_isSound 36 = .ok (.goto 4, 3) := by decide +kernel
theorem dL_isSound_39 : decode cL_isSound 39 = .ok (.iconst 0, 1) := by decide +kernel
theorem dL_isSound_40 : decode cL_isSound 40 = .ok (.istore 5, 2) := by decide +kernel
theorem dL_isSound_42 : decode cL_isSound 42 = .ok (.aload_n 0, 1) := by decide +kernel
theorem dL_isSound_43 : decode cL_isSound 43 = .ok (.iload 4, 2) := by decide +kernel
theorem dL_isSound_45 : decode cL_isSound 45 = .ok (.iconst 1, 1) := by decide +kernel
theorem dL_isSound_46 : decode cL_isSound 46 = .ok (.invokevirtual 48, 3) := by decide +kernel
theorem dL_isSound_49 : decode cL_isSound 49 = .ok (.istore 6, 2) := by decide +kernel
theorem dL_isSound_51 : decode cL_isSound 51 = .ok (.iconst 0, 1) := by decide +kernel
theorem dL_isSound_52 : decode cL_isSound 52 = .ok (.istore 7, 2) := by decide +kernel
theorem dL_isSound_54 : decode cL_isSound 54 = .ok (.iconst 0, 1) := by decide +kernel
theorem dL_isSound_55 : decode cL_isSound 55 = .ok (.istore 8, 2) := by decide +kernel
theorem dL_isSound_57 : decode cL_isSound 57 = .ok (.iconst 0, 1) := by decide +kernel
theorem dL_isSound_58 : decode cL_isSound 58 = .ok (.istore 9, 2) := by decide +kernel
theorem dL_isSound_60 : decode cL_isSound 60 = .ok (.iload 9, 2) := by decide +kernel
theorem dL_isSound_62 : decode cL_isSound 62 = .ok (.aload_n 1, 1) := by decide +kernel
theorem dL_isSound_63 : decode cL_isSound 63 = .ok (.arraylength, 1) := by decide +kernel
theorem dL_isSound_64 : decode cL_isSound 64 = .ok (.if_icmp .ge 46, 3) := by decide +kernel
theorem dL_isSound_67 : decode cL_isSound 67 = .ok (.aload_n 0, 1) := by decide +kernel
theorem dL_isSound_68 : decode cL_isSound 68 = .ok (.iload 9, 2) := by decide +kernel
theorem dL_isSound_70 : decode cL_isSound 70 = .ok (.iconst 1, 1) := by decide +kernel
theorem dL_isSound_71 : decode cL_isSound 71 = .ok (.invokevirtual 48, 3) := by decide +kernel
theorem dL_isSound_74 : decode cL_isSound 74 = .ok (.iload 4, 2) := by decide +kernel
theorem dL_isSound_76 : decode cL_isSound 76 = .ok (.if_icmp .ne 28, 3) := by decide +kernel
theorem dL_isSound_79 : decode cL_isSound 79 = .ok (.aload_n 1, 1) := by decide +kernel
theorem dL_isSound_80 : decode cL_isSound 80 = .ok (.iload 9, 2) := by decide +kernel
theorem dL_isSound_82 : decode cL_isSound 82 = .ok (.iaload, 1) := by decide +kernel
theorem dL_isSound_83 : decode cL_isSound 83 = .ok (.iconst 2, 1) := by decide +kernel
theorem dL_isSound_84 : decode cL_isSound 84 = .ok (.if_icmp .le 6, 3) := by decide +kernel
theorem dL_isSound_87 : decode cL_isSound 87 = .ok (.goto 17, 3) := by decide +kernel
theorem dL_isSound_90 : decode cL_isSound 90 = .ok (.iinc 7 1, 3) := by decide +kernel
theorem dL_isSound_93 : decode cL_isSound 93 = .ok (.iload 8, 2) := by decide +kernel
theorem dL_isSound_95 : decode cL_isSound 95 = .ok (.iload_n 2, 1) := by decide +kernel
theorem dL_isSound_96 : decode cL_isSound 96 = .ok (.iload 9, 2) := by decide +kernel
theorem dL_isSound_98 : decode cL_isSound 98 = .ok (.ishr, 1) := by decide +kernel
theorem dL_isSound_99 : decode cL_isSound 99 = .ok (.iconst 1, 1) := by decide +kernel
theorem dL_isSound_100 : decode cL_isSound 100 = .ok (.iand, 1) := by decide +kernel
theorem dL_isSound_101 : decode cL_isSound 101 = .ok (.iadd, 1) := by decide +kernel
theorem dL_isSound_102 : decode cL_isSound 102 = .ok (.istore 8, 2) := by decide +kernel
theorem dL_isSound_104 : decode cL_isSound 104 = .ok (.iinc 9 1, 3) := by decide +kernel
theorem dL_isSound_107 : decode cL_isSound 107 = .ok (.goto (-47), 3) := by decide +kernel
theorem dL_isSound_110 : decode cL_isSound 110 = .ok (.aload_n 0, 1) := by decide +kernel
theorem dL_isSound_111 : decode cL_isSound 111 = .ok (.iload 4, 2) := by decide +kernel
theorem dL_isSound_113 : decode cL_isSound 113 = .ok (.iconst 3, 1) := by decide +kernel
theorem dL_isSound_114 : decode cL_isSound 114 = .ok (.invokevirtual 48, 3) := by decide +kernel
theorem dL_isSound_117 : decode cL_isSound 117 = .ok (.iload 7, 2) := by decide +kernel
theorem dL_isSound_119 : decode cL_isSound 119 = .ok (.if_icmp .ne 67, 3) := by decide +kernel
theorem dL_isSound_122 : decode cL_isSound 122 = .ok (.aload_n 0, 1) := by decide +kernel
theorem dL_isSound_123 : decode cL_isSound 123 = .ok (.iload 4, 2) := by decide +kernel
theorem dL_isSound_125 : decode cL_isSound 125 = .ok (.invokevirtual 51, 3) := by decide +kernel
theorem dL_isSound_128 : decode cL_isSound 128 = .ok (.ifCond .lt 7, 3) := by decide +kernel
theorem dL_isSound_131 : decode cL_isSound 131 = .ok (.iconst 1, 1) := by decide +kernel
theorem dL_isSound_132 : decode cL_isSound 132 = .ok (.goto 4, 3) := by decide +kernel
theorem dL_isSound_135 : decode cL_isSound 135 = .ok (.iconst 0, 1) := by decide +kernel
theorem dL_isSound_136 : decode cL_isSound 136 = .ok (.iload 5, 2) := by decide +kernel
theorem dL_isSound_138 : decode cL_isSound 138 = .ok (.if_icmp .ne 48, 3) := by decide +kernel
theorem dL_isSound_141 : decode cL_isSound 141 = .ok (.aload_n 0, 1) := by decide +kernel
theorem dL_isSound_142 : decode cL_isSound 142 = .ok (.iload 4, 2) := by decide +kernel
theorem dL_isSound_144 : decode cL_isSound 144 = .ok (.invokevirtual 51, 3) := by decide +kernel
theorem dL_isSound_147 : decode cL_isSound 147 = .ok (.aload_n 0, 1) := by decide +kernel
theorem dL_isSound_148 : decode cL_isSound 148 = .ok (.invokevirtual 55, 3) := by decide +kernel
theorem dL_isSound_151 : decode cL_isSound 151 = .ok (.if_icmp .gt 35, 3) := by decide +kernel
theorem dL_isSound_154 : decode cL_isSound 154 = .ok (.iload 5, 2) := by decide +kernel
theorem dL_isSound_156 : decode cL_isSound 156 = .ok (.ifCond .eq 11, 3) := by decide +kernel
theorem dL_isSound_159 : decode cL_isSound 159 = .ok (.aload_n 1, 1) := by decide +kernel
theorem dL_isSound_160 : decode cL_isSound 160 = .ok (.iload 4, 2) := by decide +kernel
theorem dL_isSound_162 : decode cL_isSound 162 = .ok (.iaload, 1) := by decide +kernel
theorem dL_isSound_163 : decode cL_isSound 163 = .ok (.iconst 2, 1) := by decide +kernel
theorem dL_isSound_164 : decode cL_isSound 164 = .ok (.if_icmp .gt 22, 3) := by decide +kernel
theorem dL_isSound_167 : decode cL_isSound 167 = .ok (.iload 5, 2) := by decide +kernel
theorem dL_isSound_169 : decode cL_isSound 169 = .ok (.ifCond .eq 19, 3) := by decide +kernel
theorem dL_isSound_172 : decode cL_isSound 172 = .ok (.iload 6, 2) := by decide +kernel
theorem dL_isSound_174 : decode cL_isSound 174 = .ok (.ifCond .lt 14, 3) := by decide +kernel
theorem dL_isSound_177 : decode cL_isSound 177 = .ok (.iload_n 2, 1) := by decide +kernel
theorem dL_isSound_178 : decode cL_isSound 178 = .ok (.iload 6, 2) := by decide +kernel
theorem dL_isSound_180 : decode cL_isSound 180 = .ok (.ishr, 1) := by decide +kernel
theorem dL_isSound_181 : decode cL_isSound 181 = .ok (.iconst 1, 1) := by decide +kernel
theorem dL_isSound_182 : decode cL_isSound 182 = .ok (.iand, 1) := by decide +kernel
theorem dL_isSound_183 : decode cL_isSound 183 = .ok (.ifCond .ne 5, 3) := by decide +kernel
theorem dL_isSound_186 : decode cL_isSound 186 = .ok (.iconst 0, 1) := by decide +kernel
theorem dL_isSound_187 : decode cL_isSound 187 = .ok (.ireturn, 1) := by decide +kernel
theorem dL_isSound_188 : decode cL_isSound 188 = .ok (.iload 5, 2) := by decide +kernel
theorem dL_isSound_190 : decode cL_isSound 190 = .ok (.ifCond .eq 26, 3) := by decide +kernel
theorem dL_isSound_193 : decode cL_isSound 193 = .ok (.iload 7, 2) := by decide +kernel
theorem dL_isSound_195 : decode cL_isSound 195 = .ok (.ifCond .le 21, 3) := by decide +kernel
theorem dL_isSound_198 : decode cL_isSound 198 = .ok (.iload 8, 2) := by decide +kernel
theorem dL_isSound_200 : decode cL_isSound 200 = .ok (.aload_n 1, 1) := by decide +kernel
theorem dL_isSound_201 : decode cL_isSound 201 = .ok (.iload 4, 2) := by decide +kernel
theorem dL_isSound_203 : decode cL_isSound 203 = .ok (.iaload, 1) := by decide +kernel
theorem dL_isSound_204 : decode cL_isSound 204 = .ok (.ifCond .ne 7, 3) := by decide +kernel
theorem dL_isSound_207 : decode cL_isSound 207 = .ok (.iconst 1, 1) := by decide +kernel
theorem dL_isSound_208 : decode cL_isSound 208 = .ok (.goto 5, 3) := by decide +kernel
theorem dL_isSound_211 : decode cL_isSound 211 = .ok (.iload 7, 2) := by decide +kernel
theorem dL_isSound_213 : decode cL_isSound 213 = .ok (.if_icmp .ne 13, 3) := by decide +kernel
theorem dL_isSound_216 : decode cL_isSound 216 = .ok (.iload 5, 2) := by decide +kernel
theorem dL_isSound_218 : decode cL_isSound 218 = .ok (.ifCond .ne 10, 3) := by decide +kernel
theorem dL_isSound_221 : decode cL_isSound 221 = .ok (.iload 8, 2) := by decide +kernel
theorem dL_isSound_223 : decode cL_isSound 223 = .ok (.ifCond .le 5, 3) := by decide +kernel
theorem dL_isSound_226 : decode cL_isSound 226 = .ok (.iconst 0, 1) := by decide +kernel
theorem dL_isSound_227 : decode cL_isSound 227 = .ok (.ireturn, 1) := by decide +kernel
theorem dL_isSound_228 : decode cL_isSound 228 = .ok (.iload_n 3, 1) := by decide +kernel
theorem dL_isSound_229 : decode cL_isSound 229 = .ok (.iload 5, 2) := by decide +kernel
theorem dL_isSound_231 : decode cL_isSound 231 = .ok (.ifCond .eq 12, 3) := by decide +kernel
theorem dL_isSound_234 : decode cL_isSound 234 = .ok (.aload_n 0, 1) := by decide +kernel
theorem dL_isSound_235 : decode cL_isSound 235 = .ok (.iload 4, 2) := by decide +kernel
theorem dL_isSound_237 : decode cL_isSound 237 = .ok (.invokevirtual 51, 3) := by decide +kernel
theorem dL_isSound_240 : decode cL_isSound 240 = .ok (.goto 4, 3) := by decide +kernel
theorem dL_isSound_243 : decode cL_isSound 243 = .ok (.iconst 0, 1) := by decide +kernel
theorem dL_isSound_244 : decode cL_isSound 244 = .ok (.iadd, 1) := by decide +kernel
theorem dL_isSound_245 : decode cL_isSound 245 = .ok (.istore_n 3, 1) := by decide +kernel
theorem dL_isSound_246 : decode cL_isSound 246 = .ok (.iinc 4 1, 3) := by decide +kernel
theorem dL_isSound_249 : decode cL_isSound 249 = .ok (.goto (-231), 3) := by decide +kernel
theorem dL_isSound_252 : decode cL_isSound 252 = .ok (.aload_n 0, 1) := by decide +kernel
theorem dL_isSound_253 : decode cL_isSound 253 = .ok (.invokevirtual 58, 3) := by decide +kernel
theorem dL_isSound_256 : decode cL_isSound 256 = .ok (.iload_n 3, 1) := by decide +kernel
theorem dL_isSound_257 : decode cL_isSound 257 = .ok (.i2d, 1) := by decide +kernel
theorem dL_isSound_258 : decode cL_isSound 258 = .ok (.iload_n 2, 1) := by decide +kernel
theorem dL_isSound_259 : decode cL_isSound 259 = .ok (.invokestatic 62, 3) := by decide +kernel
theorem dL_isSound_262 : decode cL_isSound 262 = .ok (.i2d, 1) := by decide +kernel
theorem dL_isSound_263 : decode cL_isSound 263 = .ok (.ddiv, 1) := by decide +kernel
theorem dL_isSound_264 : decode cL_isSound 264 = .ok (.dcmp .l, 1) := by decide +kernel
theorem dL_isSound_265 : decode cL_isSound 265 = .ok (.ifCond .ne 7, 3) := by decide +kernel
theorem dL_isSound_268 : decode cL_isSound 268 = .ok (.iconst 1, 1) := by decide +kernel
theorem dL_isSound_269 : decode cL_isSound 269 = .ok (.goto 4, 3) := by decide +kernel
theorem dL_isSound_272 : decode cL_isSound 272 = .ok (.iconst 0, 1) := by decide +kernel
theorem dL_isSound_273 : decode cL_isSound 273 = .ok (.ireturn, 1) := by decide +kernel
theorem dL_build_0 : decode cL_build 0 = .ok (.iload_n 2, 1) := by decide +kernel
theorem dL_build_1 : decode cL_build 1 = .ok (.newarray .int, 2) := by decide +kernel
theorem dL_build_3 : decode cL_build 3 = .ok (.astore 6, 2) := by decide +kernel
theorem dL_build_5 : decode cL_build 5 = .ok (.iload_n 2, 1) := by decide +kernel
theorem dL_build_6 : decode cL_build 6 = .ok (.newarray .int, 2) := by decide +kernel
theorem dL_build_8 : decode cL_build 8 = .ok (.astore 7, 2) := by decide +kernel
theorem dL_build_10 : decode cL_build 10 = .ok (.iload_n 2, 1) := by decide +kernel
theorem dL_build_11 : decode cL_build 11 = .ok (.anewarray 15, 3) := by decide +kernel
theorem dL_build_14 : decode cL_build 14 = .ok (.astore 8, 2) := by decide +kernel
theorem dL_build_16 : decode cL_build 16 = .ok (.iload_n 2, 1) := by decide +kernel
theorem dL_build_17 : decode cL_build 17 = .ok (.anewarray 15, 3) := by decide +kernel
theorem dL_build_20 : decode cL_build 20 = .ok (.astore 9, 2) := by decide +kernel
theorem dL_build_22 : decode cL_build 22 = .ok (.aload 6, 2) := by decide +kernel
theorem dL_build_24 : decode cL_build 24 = .ok (.iconst 0, 1) := by decide +kernel
theorem dL_build_25 : decode cL_build 25 = .ok (.iconst (-1), 1) := by decide +kernel
theorem dL_build_26 : decode cL_build 26 = .ok (.iastore, 1) := by decide +kernel
theorem dL_build_27 : decode cL_build 27 = .ok (.iconst 0, 1) := by decide +kernel
theorem dL_build_28 : decode cL_build 28 = .ok (.istore 10, 2) := by decide +kernel
theorem dL_build_30 : decode cL_build 30 = .ok (.iload 10, 2) := by decide +kernel
theorem dL_build_32 : decode cL_build 32 = .ok (.iload_n 2, 1) := by decide +kernel
theorem dL_build_33 : decode cL_build 33 = .ok (.if_icmp .ge 281, 3) := by decide +kernel
theorem dL_build_36 : decode cL_build 36 = .ok (.aload_n 1, 1) := by decide +kernel
theorem dL_build_37 : decode cL_build 37 = .ok (.iload 10, 2) := by decide +kernel
theorem dL_build_39 : decode cL_build 39 = .ok (.bipush 16, 2) := by decide +kernel
theorem dL_build_41 : decode cL_build 41 = .ok (.irem, 1) := by decide +kernel
theorem dL_build_42 : decode cL_build 42 = .ok (.invokestatic 17, 3) := by decide +kernel
theorem dL_build_45 : decode cL_build 45 = .ok (.iload 10, 2) := by decide +kernel
theorem dL_build_47 : decode cL_build 47 = .ok (.bipush 16, 2) := by decide +kernel
theorem dL_build_49 : decode cL_build 49 = .ok (.idiv, 1) := by decide +kernel
theorem dL_build_50 : decode cL_build 50 = .ok (.iconst 3, 1) := by decide +kernel
theorem dL_build_51 : decode cL_build 51 = .ok (.imul, 1) := by decide +kernel
theorem dL_build_52 : decode cL_build 52 = .ok (.ishr, 1) := by decide +kernel
theorem dL_build_53 : decode cL_build 53 = .ok (.iload 10, 2) := by decide +kernel
theorem dL_build_55 : decode cL_build 55 = .ok (.iadd, 1) := by decide +kernel
theorem dL_build_56 : decode cL_build 56 = .ok (.istore 11, 2) := by decide +kernel
theorem dL_build_58 : decode cL_build 58 = .ok (.iload 10, 2) := by decide +kernel
theorem dL_build_60 : decode cL_build 60 = .ok (.ifCond .le 96, 3) := by decide +kernel
theorem dL_build_63 : decode cL_build 63 = .ok (.aload 6, 2) := by decide +kernel
theorem dL_build_65 : decode cL_build 65 = .ok (.iload 10, 2) := by decide +kernel
theorem dL_build_67 : decode cL_build 67 = .ok (.iload 11, 2) := by decide +kernel
theorem dL_build_69 : decode cL_build 69 = .ok (.iconst 1, 1) := by decide +kernel
theorem dL_build_70 : decode cL_build 70 = .ok (.ishr, 1) := by decide +kernel
theorem dL_build_71 : decode cL_build 71 = .ok (.iload 10, 2) := by decide +kernel
theorem dL_build_73 : decode cL_build 73 = .ok (.invokestatic 9, 3) := by decide +kernel
theorem dL_build_76 : decode cL_build 76 = .ok (.iastore, 1) := by decide +kernel
theorem dL_build_77 : decode cL_build 77 = .ok (.aload 7, 2) := by decide +kernel
theorem dL_build_79 : decode cL_build 79 = .ok (.aload 6, 2) := by decide +kernel
theorem dL_build_81 : decode cL_build 81 = .ok (.iload 10, 2) := by decide +kernel
theorem dL_build_83 : decode cL_build 83 = .ok (.iaload, 1) := by decide +kernel
theorem dL_build_84 : decode cL_build 84 = .ok (.iaload, 1) := by decide +kernel
theorem dL_build_85 : decode cL_build 85 = .ok (.iconst 1, 1) := by decide +kernel
theorem dL_build_86 : decode cL_build 86 = .ok (.if_icmp .le 15, 3) := by decide +kernel
theorem dL_build_89 : decode cL_build 89 = .ok (.aload 6, 2) := by decide +kernel
theorem dL_build_91 : decode cL_build 91 = .ok (.iload 10, 2) := by decide +kernel
theorem dL_build_93 : decode cL_build 93 = .ok (.dup2, 1) := by decide +kernel
theorem dL_build_94 : decode cL_build 94 = .ok (.iaload, 1) := by decide +kernel
theorem dL_build_95 : decode cL_build 95 = .ok (.iconst 1, 1) := by decide +kernel
theorem dL_build_96 : decode cL_build 96 = .ok (.isub, 1) := by decide +kernel
theorem dL_build_97 : decode cL_build 97 = .ok (.iastore, 1) := by decide +kernel
theorem dL_build_98 : decode cL_build 98 = .ok (.goto (-21), 3) := by decide +kernel
theorem dL_build_101 : decode cL_build 101 = .ok (.aload 7, 2) := by decide +kernel
theorem dL_build_103 : decode cL_build 103 = .ok (.iload 10, 2) := by decide +kernel
theorem dL_build_105 : decode cL_build 105 = .ok (.iload 11, 2) := by decide +kernel
theorem dL_build_107 : decode cL_build 107 = .ok (.iconst 3, 1) := by decide +kernel
theorem dL_build_108 : decode cL_build 108 = .ok (.ishr, 1) := by decide +kernel
theorem dL_build_109 : decode cL_build 109 = .ok (.iload_n 3, 1) := by decide +kernel
theorem dL_build_110 : decode cL_build 110 = .ok (.invokestatic 9, 3) := by decide +kernel
theorem dL_build_113 : decode cL_build 113 = .ok (.iastore, 1) := by decide +kernel
theorem dL_build_114 : decode cL_build 114 = .ok (.aload 7, 2) := by decide +kernel
theorem dL_build_116 : decode cL_build 116 = .ok (.iload 10, 2) := by decide +kernel
theorem dL_build_118 : decode cL_build 118 = .ok (.iaload, 1) := by decide +kernel
theorem dL_build_119 : decode cL_build 119 = .ok (.iconst 2, 1) := by decide +kernel
theorem dL_build_120 : decode cL_build 120 = .ok (.if_icmp .ne 21, 3) := by decide +kernel
theorem dL_build_123 : decode cL_build 123 = .ok (.aload 7, 2) := by decide +kernel
theorem dL_build_125 : decode cL_build 125 = .ok (.aload 6, 2) := by decide +kernel
theorem dL_build_127 : decode cL_build 127 = .ok (.iload 10, 2) := by decide +kernel
theorem dL_build_129 : decode cL_build 129 = .ok (.iaload, 1) := by decide +kernel
theorem dL_build_130 : decode cL_build 130 = .ok (.iaload, 1) := by decide +kernel
theorem dL_build_131 : decode cL_build 131 = .ok (.iconst 1, 1) := by decide +kernel
theorem dL_build_132 : decode cL_build 132 = .ok (.if_icmp .ne 9, 3) := by decide +kernel
theorem dL_build_135 : decode cL_build 135 = .ok (.aload 7, 2) := by decide +kernel
theorem dL_build_137 : decode cL_build 137 = .ok (.iload 10, 2) := by decide +kernel
theorem dL_build_139 : decode cL_build 139 = .ok (.iconst 0, 1) := by decide +kernel
theorem dL_build_140 : decode cL_build 140 = .ok (.iastore, 1) := by decide +kernel
theorem dL_build_141 : decode cL_build 141 = .ok (.aload_n 0, 1) := by decide +kernel
theorem dL_build_142 : decode cL_build 142 = .ok (.aload 6, 2) := by decide +kernel
theorem dL_build_144 : decode cL_build 144 = .ok (.iload 10, 2) := by decide +kernel
theorem dL_build_146 : decode cL_build 146 = .ok (.iaload, 1) := by decide +kernel
theorem dL_build_147 : decode cL_build 147 = .ok (.aload 7, 2) := by decide +kernel
theorem dL_build_149 : decode cL_build 149 = .ok (.iload 10, 2) := by decide +kernel
theorem dL_build_151 : decode cL_build 151 = .ok (.iaload, 1) := by decide +kernel
theorem dL_build_152 : decode cL_build 152 = .ok (.invokevirtual 21, 3) := by decide +kernel
theorem dL_build_155 : decode cL_build 155 = .ok (.pop, 1) := by decide +kernel
theorem dL_build_156 : decode cL_build 156 = .ok (.aload 8, 2) := by decide +kernel
theorem dL_build_158 : decode cL_build 158 = .ok (.iload 10, 2) := by decide +kernel
theorem dL_build_160 : decode cL_build 160 = .ok (.aload 7, 2) := by decide +kernel
theorem dL_build_162 : decode cL_build 162 = .ok (.iload 10, 2) := by decide +kernel
theorem dL_build_164 : decode cL_build 164 = .ok (.iaload, 1) := by decide +kernel
theorem dL_build_165 : decode cL_build 165 = .ok (.iconst 2, 1) := by decide +kernel
theorem dL_build_166 : decode cL_build 166 = .ok (.if_icmp .le 21, 3) := by decide +kernel
theorem dL_build_169 : decode cL_build 169 = .ok (.iconst 3, 1) := by decide +kernel
theorem dL_build_170 : decode cL_build 170 = .ok (.newarray .int, 2) := by decide +kernel
theorem dL_build_172 : decode cL_build 172 = .ok (.dup, 1) := by decide +kernel
theorem dL_build_173 : decode cL_build 173 = .ok (.iconst 0, 1) := by decide +kernel
theorem dL_build_174 : decode cL_build 174 = .ok (.iconst 0, 1) := by decide +kernel
theorem dL_build_175 : decode cL_build 175 = .ok (.iastore, 1) := by decide +kernel
theorem dL_build_176 : decode cL_build 176 = .ok (.dup, 1) := by decide +kernel
theorem dL_build_177 : decode cL_build 177 = .ok (.iconst 1, 1) := by decide +kernel
theorem dL_build_178 : decode cL_build 178 = .ok (.iconst 0, 1) := by decide +kernel
theorem dL_build_179 : decode cL_build 179 = .ok (.iastore, 1) := by decide +kernel
theorem dL_build_180 : decode cL_build 180 = .ok (.dup, 1) := by decide +kernel
theorem dL_build_181 : decode cL_build 181 = .ok (.iconst 2, 1) := by decide +kernel
theorem dL_build_182 : decode cL_build 182 = .ok (.iconst 0, 1) := by decide +kernel
theorem dL_build_183 : decode cL_build 183 = .ok (.iastore, 1) := by decide +kernel
theorem dL_build_184 : decode cL_build 184 = .ok (.goto 12, 3) := by decide +kernel
theorem dL_build_187 : decode cL_build 187 = .ok (.iload 11, 2) := by decide +kernel
theorem dL_build_189 : decode cL_build 189 = .ok (.iconst 2, 1) := by decide +kernel
theorem dL_build_190 : decode cL_build 190 = .ok (.ishr, 1) := by decide +kernel
theorem dL_build_191 : decode cL_build 191 = .ok (.iload 4, 2) := by decide +kernel
theorem dL_build_193 : decode cL_build 193 = .ok (.invokestatic 26, 3) := by decide +kernel
theorem dL_build_196 : decode cL_build 196 = .ok (.aastore, 1) := by decide +kernel
theorem dL_build_197 : decode cL_build 197 = .ok (.aload 9, 2) := by decide +kernel
theorem dL_build_199 : decode cL_build 199 = .ok (.iload 10, 2) := by decide +kernel
theorem dL_build_201 : decode cL_build 201 = .ok (.aload 7, 2) := by decide +kernel
theorem dL_build_203 : decode cL_build 203 = .ok (.iload 10, 2) := by decide +kernel
theorem dL_build_205 : decode cL_build 205 = .ok (.iaload, 1) := by decide +kernel
theorem dL_build_206 : decode cL_build 206 = .ok (.iconst 2, 1) := by decide +kernel
theorem dL_build_207 : decode cL_build 207 = .ok (.if_icmp .le 21, 3) := by decide +kernel
theorem dL_build_210 : decode cL_build 210 = .ok (.iconst 3, 1) := by decide +kernel
theorem dL_build_211 : decode cL_build 211 = .ok (.newarray .int, 2) := by decide +kernel
theorem dL_build_213 : decode cL_build 213 = .ok (.dup, 1) := by decide +kernel
theorem dL_build_214 : decode cL_build 214 = .ok (.iconst 0, 1) := by decide +kernel
theorem dL_build_215 : decode cL_build 215 = .ok (.iconst 0, 1) := by decide +kernel
theorem dL_build_216 : decode cL_build 216 = .ok (.iastore, 1) := by decide +kernel
theorem dL_build_217 : decode cL_build 217 = .ok (.dup, 1) := by decide +kernel
theorem dL_build_218 : decode cL_build 218 = .ok (.iconst 1, 1) := by decide +kernel
theorem dL_build_219 : decode cL_build 219 = .ok (.iconst 0, 1) := by decide +kernel
theorem dL_build_220 : decode cL_build 220 = .ok (.iastore, 1) := by decide +kernel
theorem dL_build_221 : decode cL_build 221 = .ok (.dup, 1) := by decide +kernel
theorem dL_build_222 : decode cL_build 222 = .ok (.iconst 2, 1) := by decide +kernel
theorem dL_build_223 : decode cL_build 223 = .ok (.iconst 0, 1) := by decide +kernel
theorem dL_build_224 : decode cL_build 224 = .ok (.iastore, 1) := by decide +kernel
theorem dL_build_225 : decode cL_build 225 = .ok (.goto 12, 3) := by decide +kernel
theorem dL_build_228 : decode cL_build 228 = .ok (.iload 11, 2) := by decide +kernel
theorem dL_build_230 : decode cL_build 230 = .ok (.iconst 4, 1) := by decide +kernel
theorem dL_build_231 : decode cL_build 231 = .ok (.ishr, 1) := by decide +kernel
theorem dL_build_232 : decode cL_build 232 = .ok (.iload 4, 2) := by decide +kernel
theorem dL_build_234 : decode cL_build 234 = .ok (.invokestatic 26, 3) := by decide +kernel
theorem dL_build_237 : decode cL_build 237 = .ok (.aastore, 1) := by decide +kernel
theorem dL_build_238 : decode cL_build 238 = .ok (.aload 7, 2) := by decide +kernel
theorem dL_build_240 : decode cL_build 240 = .ok (.iload 10, 2) := by decide +kernel
theorem dL_build_242 : decode cL_build 242 = .ok (.iaload, 1) := by decide +kernel
theorem dL_build_243 : decode cL_build 243 = .ok (.iconst 2, 1) := by decide +kernel
theorem dL_build_244 : decode cL_build 244 = .ok (.if_icmp .le 6, 3) := by decide +kernel
theorem dL_build_247 : decode cL_build 247 = .ok (.goto 61, 3) := by decide +kernel
theorem dL_build_250 : decode cL_build 250 = .ok (.aload_n 0, 1) := by decide +kernel
theorem dL_build_251 : decode cL_build 251 = .ok (.iload 10, 2) := by decide +kernel
theorem dL_build_253 : decode cL_build 253 = .ok (.iconst 0, 1) := by decide +kernel
theorem dL_build_254 : decode cL_build 254 = .ok (.aload 8, 2) := by decide +kernel
theorem dL_build_256 : decode cL_build 256 = .ok (.iload 10, 2) := by decide +kernel
theorem dL_build_258 : decode cL_build 258 = .ok (.aaload, 1) := by decide +kernel
theorem dL_build_259 : decode cL_build 259 = .ok (.iconst 0, 1) := by decide +kernel
theorem dL_build_260 : decode cL_build 260 = .ok (.iaload, 1) := by decide +kernel
theorem dL_build_261 : decode cL_build 261 = .ok (.aload 8, 2) := by decide +kernel
theorem dL_build_263 : decode cL_build 263 = .ok (.iload 10, 2) := by decide +kernel
theorem dL_build_265 : decode cL_build 265 = .ok (.aaload, 1) := by decide +kernel
theorem dL_build_266 : decode cL_build 266 = .ok (.iconst 1, 1) := by decide +kernel
theorem dL_build_267 : decode cL_build 267 = .ok (.iaload, 1) := by decide +kernel
theorem dL_build_268 : decode cL_build 268 = .ok (.aload 8, 2) := by decide +kernel
theorem dL_build_270 : decode cL_build 270 = .ok (.iload 10, 2) := by decide +kernel
theorem dL_build_272 : decode cL_build 272 = .ok (.aaload, 1) := by decide +kernel
theorem dL_build_273 : decode cL_build 273 = .ok (.iconst 2, 1) := by decide +kernel
theorem dL_build_274 : decode cL_build 274 = .ok (.iaload, 1) := by decide +kernel
theorem dL_build_275 : decode cL_build 275 = .ok (.invokevirtual 30, 3) := by decide +kernel
theorem dL_build_278 : decode cL_build 278 = .ok (.pop, 1) := by decide +kernel
theorem dL_build_279 : decode cL_build 279 = .ok (.aload_n 0, 1) := by decide +kernel
theorem dL_build_280 : decode cL_build 280 = .ok (.iload 10, 2) := by decide +kernel
theorem dL_build_282 : decode cL_build 282 = .ok (.iconst 1, 1) := by decide +kernel
theorem dL_build_283 : decode cL_build 283 = .ok (.aload 9, 2) := by decide +kernel
theorem dL_build_285 : decode cL_build 285 = .ok (.iload 10, 2) := by decide +kernel
theorem dL_build_287 : decode cL_build 287 = .ok (.aaload, 1) := by decide +kernel
theorem dL_build_288 : decode cL_build 288 = .ok (.iconst 0, 1) := by decide +kernel
theorem dL_build_289 : decode cL_build 289 = .ok (.iaload, 1) := by decide +kernel
theorem dL_build_290 : decode cL_build 290 = .ok (.aload 9, 2) := by decide +kernel
theorem dL_build_292 : decode cL_build 292 = .ok (.iload 10, 2) := by decide +kernel
theorem dL_build_294 : decode cL_build 294 = .ok (.aaload, 1) := by decide +kernel
theorem dL_build_295 : decode cL_build 295 = .ok (.iconst 1, 1) := by decide +kernel
theorem dL_build_296 : decode cL_build 296 = .ok (.iaload, 1) := by decide +kernel
theorem dL_build_297 : decode cL_build 297 = .ok (.aload 9, 2) := by decide +kernel
theorem dL_build_299 : decode cL_build 299 = .ok (.iload 10, 2) := by decide +kernel
theorem dL_build_301 : decode cL_build 301 = .ok (.aaload, 1) := by decide +kernel
theorem dL_build_302 : decode cL_build 302 = .ok (.iconst 2, 1) := by decide +kernel
theorem dL_build_303 : decode cL_build 303 = .ok (.iaload, 1) := by decide +kernel
theorem dL_build_304 : decode cL_build 304 = .ok (.invokevirtual 30, 3) := by decide +kernel
theorem dL_build_307 : decode cL_build 307 = .ok (.pop, 1) := by decide +kernel
theorem dL_build_308 : decode cL_build 308 = .ok (.iinc 10 1, 3) := by decide +kernel
theorem dL_build_311 : decode cL_build 311 = .ok (.goto (-281), 3) := by decide +kernel
theorem dL_build_314 : decode cL_build 314 = .ok (.iload_n 2, 1) := by decide +kernel
theorem dL_build_315 : decode cL_build 315 = .ok (.iconst 4, 1) := by decide +kernel
theorem dL_build_316 : decode cL_build 316 = .ok (.iadd, 1) := by decide +kernel
theorem dL_build_317 : decode cL_build 317 = .ok (.anewarray 15, 3) := by decide +kernel
theorem dL_build_320 : decode cL_build 320 = .ok (.astore 10, 2) := by decide +kernel
theorem dL_build_322 : decode cL_build 322 = .ok (.iconst 0, 1) := by decide +kernel
theorem dL_build_323 : decode cL_build 323 = .ok (.istore 11, 2) := by decide +kernel
theorem dL_build_325 : decode cL_build 325 = .ok (.iconst 0, 1) := by decide +kernel
theorem dL_build_326 : decode cL_build 326 = .ok (.istore 12, 2) := by decide +kernel
theorem dL_build_328 : decode cL_build 328 = .ok (.iload 11, 2) := by decide +kernel
theorem dL_build_330 : decode cL_build 330 = .ok (.aload 10, 2) := by decide +kernel
theorem dL_build_332 : decode cL_build 332 = .ok (.arraylength, 1) := by decide +kernel
theorem dL_build_333 : decode cL_build 333 = .ok (.if_icmp .ge 333, 3) := by decide +kernel
theorem dL_build_336 : decode cL_build 336 = .ok (.aload_n 1, 1) := by decide +kernel
theorem dL_build_337 : decode cL_build 337 = .ok (.iload 12, 2) := by decide +kernel
theorem dL_build_339 : decode cL_build 339 = .ok (.iconst 5, 1) := by decide +kernel
theorem dL_build_340 : decode cL_build 340 = .ok (.iadd, 1) := by decide +kernel
theorem dL_build_341 : decode cL_build 341 = .ok (.bipush 16, 2) := by decide +kernel
theorem dL_build_343 : decode cL_build 343 = .ok (.irem, 1) := by decide +kernel
theorem dL_build_344 : decode cL_build 344 = .ok (.invokestatic 17, 3) := by decide +kernel
theorem dL_build_347 : decode cL_build 347 = .ok (.iload 12, 2) := by decide +kernel
theorem dL_build_349 : decode cL_build 349 = .ok (.bipush 16, 2) := by decide +kernel
theorem dL_build_351 : decode cL_build 351 = .ok (.idiv, 1) := by decide +kernel
theorem dL_build_352 : decode cL_build 352 = .ok (.iconst 4, 1) := by decide +kernel
theorem dL_build_353 : decode cL_build 353 = .ok (.irem, 1) := by decide +kernel
theorem dL_build_354 : decode cL_build 354 = .ok (.iconst 3, 1) := by decide +kernel
theorem dL_build_355 : decode cL_build 355 = .ok (.imul, 1) := by decide +kernel
theorem dL_build_356 : decode cL_build 356 = .ok (.ishr, 1) := by decide +kernel
theorem dL_build_357 : decode cL_build 357 = .ok (.bipush 7, 2) := by decide +kernel
theorem dL_build_359 : decode cL_build 359 = .ok (.iload 12, 2) := by decide +kernel
theorem dL_build_361 : decode cL_build 361 = .ok (.imul, 1) := by decide +kernel
theorem dL_build_362 : decode cL_build 362 = .ok (.iadd, 1) := by decide +kernel
theorem dL_build_363 : decode cL_build 363 = .ok (.istore 13, 2) := by decide +kernel
theorem dL_build_365 : decode cL_build 365 = .ok (.iload 13, 2) := by decide +kernel
theorem dL_build_367 : decode cL_build 367 = .ok (.iload_n 2, 1) := by decide +kernel
theorem dL_build_368 : decode cL_build 368 = .ok (.invokestatic 9, 3) := by decide +kernel
theorem dL_build_371 : decode cL_build 371 = .ok (.istore 14, 2) := by decide +kernel
theorem dL_build_373 : decode cL_build 373 = .ok (.iload 12, 2) := by decide +kernel
theorem dL_build_375 : decode cL_build 375 = .ok (.sipush 200, 3) := by decide +kernel
theorem dL_build_378 : decode cL_build 378 = .ok (.if_icmp .le 6, 3) := by decide +kernel
theorem dL_build_381 : decode cL_build 381 = .ok (.iconst 0, 1) := by decide +kernel
theorem dL_build_382 : decode cL_build 382 = .ok (.istore 14, 2) := by decide +kernel
theorem dL_build_384 : decode cL_build 384 = .ok (.iload 14, 2) := by decide +kernel
theorem dL_build_386 : decode cL_build 386 = .ok (.ifCond .eq 11, 3) := by decide +kernel
theorem dL_build_389 : decode cL_build 389 = .ok (.iload 12, 2) := by decide +kernel
theorem dL_build_391 : decode cL_build 391 = .ok (.sipush 200, 3) := by decide +kernel
theorem dL_build_394 : decode cL_build 394 = .ok (.if_icmp .le 7, 3) := by decide +kernel
theorem dL_build_397 : decode cL_build 397 = .ok (.iconst (-1), 1) := by decide +kernel
theorem dL_build_398 : decode cL_build 398 = .ok (.goto 30, 3) := by decide +kernel
theorem dL_build_401 : decode cL_build 401 = .ok (.iload 13, 2) := by decide +kernel
theorem dL_build_403 : decode cL_build 403 = .ok (.iconst 2, 1) := by decide +kernel
theorem dL_build_404 : decode cL_build 404 = .ok (.ishr, 1) := by decide +kernel
theorem dL_build_405 : decode cL_build 405 = .ok (.iconst 5, 1) := by decide +kernel
theorem dL_build_406 : decode cL_build 406 = .ok (.invokestatic 9, 3) := by decide +kernel
theorem dL_build_409 : decode cL_build 409 = .ok (.ifCond .ne 7, 3) := by decide +kernel
theorem dL_build_412 : decode cL_build 412 = .ok (.iconst (-1), 1) := by decide +kernel
theorem dL_build_413 : decode cL_build 413 = .ok (.goto 15, 3) := by decide +kernel
theorem dL_build_416 : decode cL_build 416 = .ok (.iconst 1, 1) := by decide +kernel
theorem dL_build_417 : decode cL_build 417 = .ok (.iload 13, 2) := by decide +kernel
theorem dL_build_419 : decode cL_build 419 = .ok (.iconst 1, 1) := by decide +kernel
theorem dL_build_420 : decode cL_build 420 = .ok (.ishr, 1) := by decide +kernel
theorem dL_build_421 : decode cL_build 421 = .ok (.iload_n 2, 1) := by decide +kernel
theorem dL_build_422 : decode cL_build 422 = .ok (.iconst 1, 1) := by decide +kernel
theorem dL_build_423 : decode cL_build 423 = .ok (.isub, 1) := by decide +kernel
theorem dL_build_424 : decode cL_build 424 = .ok (.invokestatic 9, 3) := by decide +kernel
theorem dL_build_427 : decode cL_build 427 = .ok (.iadd, 1) := by decide +kernel
theorem dL_build_428 : decode cL_build 428 = .ok (.istore 15, 2) := by decide +kernel
theorem dL_build_430 : decode cL_build 430 = .ok (.iload 12, 2) := by decide +kernel
theorem dL_build_432 : decode cL_build 432 = .ok (.sipush 200, 3) := by decide +kernel
theorem dL_build_435 : decode cL_build 435 = .ok (.if_icmp .le 7, 3) := by decide +kernel
theorem dL_build_438 : decode cL_build 438 = .ok (.iconst 0, 1) := by decide +kernel
theorem dL_build_439 : decode cL_build 439 = .ok (.goto 12, 3) := by decide +kernel
theorem dL_build_442 : decode cL_build 442 = .ok (.iload 13, 2) := by decide +kernel
theorem dL_build_444 : decode cL_build 444 = .ok (.iconst 3, 1) := by decide +kernel
theorem dL_build_445 : decode cL_build 445 = .ok (.ishr, 1) := by decide +kernel
theorem dL_build_446 : decode cL_build 446 = .ok (.iload 5, 2) := by decide +kernel
theorem dL_build_448 : decode cL_build 448 = .ok (.invokestatic 9, 3) := by decide +kernel
theorem dL_build_451 : decode cL_build 451 = .ok (.istore 16, 2) := by decide +kernel
theorem dL_build_453 : decode cL_build 453 = .ok (.aload 7, 2) := by decide +kernel
theorem dL_build_455 : decode cL_build 455 = .ok (.iload 14, 2) := by decide +kernel
theorem dL_build_457 : decode cL_build 457 = .ok (.iaload, 1) := by decide +kernel
theorem dL_build_458 : decode cL_build 458 = .ok (.iconst 1, 1) := by decide +kernel
theorem dL_build_459 : decode cL_build 459 = .ok (.if_icmp .le 6, 3) := by decide +kernel
theorem dL_build_462 : decode cL_build 462 = .ok (.goto 198, 3) := by decide +kernel
theorem dL_build_465 : decode cL_build 465 = .ok (.iload 13, 2) := by decide +kernel
theorem dL_build_467 : decode cL_build 467 = .ok (.iconst 4, 1) := by decide +kernel
theorem dL_build_468 : decode cL_build 468 = .ok (.ishr, 1) := by decide +kernel
theorem dL_build_469 : decode cL_build 469 = .ok (.iconst 5, 1) := by decide +kernel
theorem dL_build_470 : decode cL_build 470 = .ok (.invokestatic 9, 3) := by decide +kernel
theorem dL_build_473 : decode cL_build 473 = .ok (.iconst 3, 1) := by decide +kernel
theorem dL_build_474 : decode cL_build 474 = .ok (.if_icmp .ge 7, 3) := by decide +kernel
theorem dL_build_477 : decode cL_build 477 = .ok (.iconst 0, 1) := by decide +kernel
theorem dL_build_478 : decode cL_build 478 = .ok (.goto 13, 3) := by decide +kernel
theorem dL_build_481 : decode cL_build 481 = .ok (.iconst 1, 1) := by decide +kernel
theorem dL_build_482 : decode cL_build 482 = .ok (.iload 13, 2) := by decide +kernel
theorem dL_build_484 : decode cL_build 484 = .ok (.iconst 5, 1) := by decide +kernel
theorem dL_build_485 : decode cL_build 485 = .ok (.ishr, 1) := by decide +kernel
theorem dL_build_486 : decode cL_build 486 = .ok (.iconst 3, 1) := by decide +kernel
theorem dL_build_487 : decode cL_build 487 = .ok (.invokestatic 9, 3) := by decide +kernel
theorem dL_build_490 : decode cL_build 490 = .ok (.iadd, 1) := by decide +kernel
theorem dL_build_491 : decode cL_build 491 = .ok (.istore 17, 2) := by decide +kernel
theorem dL_build_493 : decode cL_build 493 = .ok (.iload 13, 2) := by decide +kernel
theorem dL_build_495 : decode cL_build 495 = .ok (.iconst 1, 1) := by decide +kernel
theorem dL_build_496 : decode cL_build 496 = .ok (.ishr, 1) := by decide +kernel
theorem dL_build_497 : decode cL_build 497 = .ok (.iload 4, 2) := by decide +kernel
theorem dL_build_499 : decode cL_build 499 = .ok (.invokestatic 26, 3) := by decide +kernel
theorem dL_build_502 : decode cL_build 502 = .ok (.astore 18, 2) := by decide +kernel
theorem dL_build_504 : decode cL_build 504 = .ok (.aload 10, 2) := by decide +kernel
theorem dL_build_506 : decode cL_build 506 = .ok (.iload 11, 2) := by decide +kernel
theorem dL_build_508 : decode cL_build 508 = .ok (.bipush 10, 2) := by decide +kernel
theorem dL_build_510 : decode cL_build 510 = .ok (.newarray .int, 2) := by decide +kernel
theorem dL_build_512 : decode cL_build 512 = .ok (.dup, 1) := by decide +kernel
theorem dL_build_513 : decode cL_build 513 = .ok (.iconst 0, 1) := by decide +kernel
theorem dL_build_514 : decode cL_build 514 = .ok (.iload 14, 2) := by decide +kernel
theorem dL_build_516 : decode cL_build 516 = .ok (.iastore, 1) := by decide +kernel
theorem dL_build_517 : decode cL_build 517 = .ok (.dup, 1) := by decide +kernel
theorem dL_build_518 : decode cL_build 518 = .ok (.iconst 1, 1) := by decide +kernel
theorem dL_build_519 : decode cL_build 519 = .ok (.iload 16, 2) := by decide +kernel
theorem dL_build_521 : decode cL_build 521 = .ok (.iastore, 1) := by decide +kernel
theorem dL_build_522 : decode cL_build 522 = .ok (.dup, 1) := by decide +kernel
theorem dL_build_523 : decode cL_build 523 = .ok (.iconst 2, 1) := by decide +kernel
theorem dL_build_524 : decode cL_build 524 = .ok (.iconst 1, 1) := by decide +kernel
theorem dL_build_525 : decode cL_build 525 = .ok (.iload 13, 2) := by decide +kernel
theorem dL_build_527 : decode cL_build 527 = .ok (.iconst 2, 1) := by decide +kernel
theorem dL_build_528 : decode cL_build 528 = .ok (.ishr, 1) := by decide +kernel
theorem dL_build_529 : decode cL_build 529 = .ok (.iconst 3, 1) := by decide +kernel
theorem dL_build_530 : decode cL_build 530 = .ok (.invokestatic 9, 3) := by decide +kernel
theorem dL_build_533 : decode cL_build 533 = .ok (.iadd, 1) := by decide +kernel
theorem dL_build_534 : decode cL_build 534 = .ok (.iastore, 1) := by decide +kernel
theorem dL_build_535 : decode cL_build 535 = .ok (.dup, 1) := by decide +kernel
theorem dL_build_536 : decode cL_build 536 = .ok (.iconst 3, 1) := by decide +kernel
theorem dL_build_537 : decode cL_build 537 = .ok (.iload 15, 2) := by decide +kernel
theorem dL_build_539 : decode cL_build 539 = .ok (.iastore, 1) := by decide +kernel
theorem dL_build_540 : decode cL_build 540 = .ok (.dup, 1) := by decide +kernel
theorem dL_build_541 : decode cL_build 541 = .ok (.iconst 4, 1) := by decide +kernel
theorem dL_build_542 : decode cL_build 542 = .ok (.iload 17, 2) := by decide +kernel
theorem dL_build_544 : decode cL_build 544 = .ok (.iastore, 1) := by decide +kernel
theorem dL_build_545 : decode cL_build 545 = .ok (.dup, 1) := by decide +kernel
theorem dL_build_546 : decode cL_build 546 = .ok (.iconst 5, 1) := by decide +kernel
theorem dL_build_547 : decode cL_build 547 = .ok (.iload 13, 2) := by decide +kernel
theorem dL_build_549 : decode cL_build 549 = .ok (.iconst 3, 1) := by decide +kernel
theorem dL_build_550 : decode cL_build 550 = .ok (.ishr, 1) := by decide +kernel
theorem dL_build_551 : decode cL_build 551 = .ok (.iconst 4, 1) := by decide +kernel
theorem dL_build_552 : decode cL_build 552 = .ok (.invokestatic 9, 3) := by decide +kernel
theorem dL_build_555 : decode cL_build 555 = .ok (.iastore, 1) := by decide +kernel
theorem dL_build_556 : decode cL_build 556 = .ok (.dup, 1) := by decide +kernel
theorem dL_build_557 : decode cL_build 557 = .ok (.bipush 6, 2) := by decide +kernel
theorem dL_build_559 : decode cL_build 559 = .ok (.iload 13, 2) := by decide +kernel
theorem dL_build_561 : decode cL_build 561 = .ok (.bipush 6, 2) := by decide +kernel
theorem dL_build_563 : decode cL_build 563 = .ok (.ishr, 1) := by decide +kernel
theorem dL_build_564 : decode cL_build 564 = .ok (.iconst 5, 1) := by decide +kernel
theorem dL_build_565 : decode cL_build 565 = .ok (.invokestatic 9, 3) := by decide +kernel
theorem dL_build_568 : decode cL_build 568 = .ok (.iconst 2, 1) := by decide +kernel
theorem dL_build_569 : decode cL_build 569 = .ok (.isub, 1) := by decide +kernel
theorem dL_build_570 : decode cL_build 570 = .ok (.iastore, 1) := by decide +kernel
theorem dL_build_571 : decode cL_build 571 = .ok (.dup, 1) := by decide +kernel
theorem dL_build_572 : decode cL_build 572 = .ok (.bipush 7, 2) := by decide +kernel
theorem dL_build_574 : decode cL_build 574 = .ok (.aload 18, 2) := by decide +kernel
theorem dL_build_576 : decode cL_build 576 = .ok (.iconst 0, 1) := by decide +kernel
theorem dL_build_577 : decode cL_build 577 = .ok (.iaload, 1) := by decide +kernel
theorem dL_build_578 : decode cL_build 578 = .ok (.iastore, 1) := by decide +kernel
theorem dL_build_579 : decode cL_build 579 = .ok (.dup, 1) := by decide +kernel
theorem dL_build_580 : decode cL_build 580 = .ok (.bipush 8, 2) := by decide +kernel
theorem dL_build_582 : decode cL_build 582 = .ok (.aload 18, 2) := by decide +kernel
theorem dL_build_584 : decode cL_build 584 = .ok (.iconst 1, 1) := by decide +kernel
theorem dL_build_585 : decode cL_build 585 = .ok (.iaload, 1) := by decide +kernel
theorem dL_build_586 : decode cL_build 586 = .ok (.iastore, 1) := by decide +kernel
theorem dL_build_587 : decode cL_build 587 = .ok (.dup, 1) := by decide +kernel
theorem dL_build_588 : decode cL_build 588 = .ok (.bipush 9, 2) := by decide +kernel
theorem dL_build_590 : decode cL_build 590 = .ok (.aload 18, 2) := by decide +kernel
theorem dL_build_592 : decode cL_build 592 = .ok (.iconst 2, 1) := by decide +kernel
theorem dL_build_593 : decode cL_build 593 = .ok (.iaload, 1) := by decide +kernel
theorem dL_build_594 : decode cL_build 594 = .ok (.iastore, 1) := by decide +kernel
theorem dL_build_595 : decode cL_build 595 = .ok (.aastore, 1) := by decide +kernel
theorem dL_build_596 : decode cL_build 596 = .ok (.aload_n 0, 1) := by decide +kernel
theorem dL_build_597 : decode cL_build 597 = .ok (.iload 14, 2) := by decide +kernel
theorem dL_build_599 : decode cL_build 599 = .ok (.iload 16, 2) := by decide +kernel
theorem dL_build_601 : decode cL_build 601 = .ok (.aload 10, 2) := by decide +kernel
theorem dL_build_603 : decode cL_build 603 = .ok (.iload 11, 2) := by decide +kernel
theorem dL_build_605 : decode cL_build 605 = .ok (.aaload, 1) := by decide +kernel
theorem dL_build_606 : decode cL_build 606 = .ok (.iconst 2, 1) := by decide +kernel
theorem dL_build_607 : decode cL_build 607 = .ok (.iaload, 1) := by decide +kernel
theorem dL_build_608 : decode cL_build 608 = .ok (.iload 15, 2) := by decide +kernel
theorem dL_build_610 : decode cL_build 610 = .ok (.invokevirtual 34, 3) := by decide +kernel
theorem dL_build_613 : decode cL_build 613 = .ok (.pop, 1) := by decide +kernel
theorem dL_build_614 : decode cL_build 614 = .ok (.aload_n 0, 1) := by decide +kernel
theorem dL_build_615 : decode cL_build 615 = .ok (.iload 11, 2) := by decide +kernel
theorem dL_build_617 : decode cL_build 617 = .ok (.iload 17, 2) := by decide +kernel
theorem dL_build_619 : decode cL_build 619 = .ok (.aload 10, 2) := by decide +kernel
theorem dL_build_621 : decode cL_build 621 = .ok (.iload 11, 2) := by decide +kernel
theorem dL_build_623 : decode cL_build 623 = .ok (.aaload, 1) := by decide +kernel
theorem dL_build_624 : decode cL_build 624 = .ok (.iconst 5, 1) := by decide +kernel
theorem dL_build_625 : decode cL_build 625 = .ok (.iaload, 1) := by decide +kernel
theorem dL_build_626 : decode cL_build 626 = .ok (.aload 10, 2) := by decide +kernel
theorem dL_build_628 : decode cL_build 628 = .ok (.iload 11, 2) := by decide +kernel
theorem dL_build_630 : decode cL_build 630 = .ok (.aaload, 1) := by decide +kernel
theorem dL_build_631 : decode cL_build 631 = .ok (.bipush 6, 2) := by decide +kernel
theorem dL_build_633 : decode cL_build 633 = .ok (.iaload, 1) := by decide +kernel
theorem dL_build_634 : decode cL_build 634 = .ok (.invokevirtual 38, 3) := by decide +kernel
theorem dL_build_637 : decode cL_build 637 = .ok (.pop, 1) := by decide +kernel
theorem dL_build_638 : decode cL_build 638 = .ok (.aload_n 0, 1) := by decide +kernel
theorem dL_build_639 : decode cL_build 639 = .ok (.iload 11, 2) := by decide +kernel
theorem dL_build_641 : decode cL_build 641 = .ok (.aload 18, 2) := by decide +kernel
theorem dL_build_643 : decode cL_build 643 = .ok (.iconst 0, 1) := by decide +kernel
theorem dL_build_644 : decode cL_build 644 = .ok (.iaload, 1) := by decide +kernel
theorem dL_build_645 : decode cL_build 645 = .ok (.aload 18, 2) := by decide +kernel
theorem dL_build_647 : decode cL_build 647 = .ok (.iconst 1, 1) := by decide +kernel
theorem dL_build_648 : decode cL_build 648 = .ok (.iaload, 1) := by decide +kernel
theorem dL_build_649 : decode cL_build 649 = .ok (.aload 18, 2) := by decide +kernel
theorem dL_build_651 : decode cL_build 651 = .ok (.iconst 2, 1) := by decide +kernel
theorem dL_build_652 : decode cL_build 652 = .ok (.iaload, 1) := by decide +kernel
theorem dL_build_653 : decode cL_build 653 = .ok (.invokevirtual 41, 3) := by decide +kernel
theorem dL_build_656 : decode cL_build 656 = .ok (.pop, 1) := by decide +kernel
theorem dL_build_657 : decode cL_build 657 = .ok (.iinc 11 1, 3) := by decide +kernel
theorem dL_build_660 : decode cL_build 660 = .ok (.iinc 12 1, 3) := by decide +kernel
theorem dL_build_663 : decode cL_build 663 = .ok (.goto (-335), 3) := by decide +kernel
theorem dL_build_666 : decode cL_build 666 = .ok (.aload 7, 2) := by decide +kernel
theorem dL_build_668 : decode cL_build 668 = .ok (.areturn, 1) := by decide +kernel
theorem dL_law_0 : decode cL_law 0 = .ok (.new 22, 3) := by decide +kernel
theorem dL_law_3 : decode cL_law 3 = .ok (.dup, 1) := by decide +kernel
theorem dL_law_4 : decode cL_law 4 = .ok (.invokespecial 67, 3) := by decide +kernel
theorem dL_law_7 : decode cL_law 7 = .ok (.astore_n 1, 1) := by decide +kernel
theorem dL_law_8 : decode cL_law 8 = .ok (.aload_n 1, 1) := by decide +kernel
theorem dL_law_9 : decode cL_law 9 = .ok (.aload_n 0, 1) := by decide +kernel
theorem dL_law_10 : decode cL_law 10 = .ok (.iconst 4, 1) := by decide +kernel
theorem dL_law_11 : decode cL_law 11 = .ok (.aload_n 0, 1) := by decide +kernel
theorem dL_law_12 : decode cL_law 12 = .ok (.iconst 0, 1) := by decide +kernel
theorem dL_law_13 : decode cL_law 13 = .ok (.invokestatic 17, 3) := by decide +kernel
theorem dL_law_16 : decode cL_law 16 = .ok (.bipush 12, 2) := by decide +kernel
theorem dL_law_18 : decode cL_law 18 = .ok (.invokestatic 9, 3) := by decide +kernel
theorem dL_law_21 : decode cL_law 21 = .ok (.iadd, 1) := by decide +kernel
theorem dL_law_22 : decode cL_law 22 = .ok (.iconst 5, 1) := by decide +kernel
theorem dL_law_23 : decode cL_law 23 = .ok (.iconst 4, 1) := by decide +kernel
theorem dL_law_24 : decode cL_law 24 = .ok (.iconst 4, 1) := by decide +kernel
theorem dL_law_25 : decode cL_law 25 = .ok (.invokestatic 68, 3) := by decide +kernel
theorem dL_law_28 : decode cL_law 28 = .ok (.astore_n 2, 1) := by decide +kernel
theorem dL_law_29 : decode cL_law 29 = .ok (.aload_n 1, 1) := by decide +kernel
theorem dL_law_30 : decode cL_law 30 = .ok (.invokevirtual 72, 3) := by decide +kernel
theorem dL_law_33 : decode cL_law 33 = .ok (.istore_n 3, 1) := by decide +kernel
theorem dL_law_34 : decode cL_law 34 = .ok (.iconst 0, 1) := by decide +kernel
theorem dL_law_35 : decode cL_law 35 = .ok (.istore 4, 2) := by decide +kernel
theorem dL_law_37 : decode cL_law 37 = .ok (.iload 4, 2) := by decide +kernel
theorem dL_law_39 : decode cL_law 39 = .ok (.bipush 16, 2) := by decide +kernel
theorem dL_law_41 : decode cL_law 41 = .ok (.if_icmp .ge 297, 3) := by decide +kernel
theorem dL_law_44 : decode cL_law 44 = .ok (.aload_n 0, 1) := by decide +kernel
theorem dL_law_45 : decode cL_law 45 = .ok (.iload 4, 2) := by decide +kernel
theorem dL_law_47 : decode cL_law 47 = .ok (.invokestatic 17, 3) := by decide +kernel
theorem dL_law_50 : decode cL_law 50 = .ok (.istore 5, 2) := by decide +kernel
theorem dL_law_52 : decode cL_law 52 = .ok (.aload_n 1, 1) := by decide +kernel
theorem dL_law_53 : decode cL_law 53 = .ok (.invokevirtual 75, 3) := by decide +kernel
theorem dL_law_56 : decode cL_law 56 = .ok (.lstore 6, 2) := by decide +kernel
theorem dL_law_58 : decode cL_law 58 = .ok (.iload 5, 2) := by decide +kernel
theorem dL_law_60 : decode cL_law 60 = .ok (.iconst 1, 1) := by decide +kernel
theorem dL_law_61 : decode cL_law 61 = .ok (.ishr, 1) := by decide +kernel
theorem dL_law_62 : decode cL_law 62 = .ok (.iconst 5, 1) := by decide +kernel
theorem dL_law_63 : decode cL_law 63 = .ok (.invokestatic 9, 3) := by decide +kernel
theorem dL_law_66 : decode cL_law 66 = .ok (.istore 8, 2) := by decide +kernel
theorem dL_law_68 : decode cL_law 68 = .ok (.aload_n 1, 1) := by decide +kernel
theorem dL_law_69 : decode cL_law 69 = .ok (.iload 8, 2) := by decide +kernel
theorem dL_law_71 : decode cL_law 71 = .ok (.invokevirtual 79, 3) := by decide +kernel
theorem dL_law_74 : decode cL_law 74 = .ok (.istore 9, 2) := by decide +kernel
theorem dL_law_76 : decode cL_law 76 = .ok (.aload_n 1, 1) := by decide +kernel
theorem dL_law_77 : decode cL_law 77 = .ok (.iload 8, 2) := by decide +kernel
theorem dL_law_79 : decode cL_law 79 = .ok (.invokevirtual 82, 3) := by decide +kernel
theorem dL_law_82 : decode cL_law 82 = .ok (.istore 10, 2) := by decide +kernel
theorem dL_law_84 : decode cL_law 84 = .ok (.aload_n 1, 1) := by decide +kernel
theorem dL_law_85 : decode cL_law 85 = .ok (.invokevirtual 85, 3) := by decide +kernel
theorem dL_law_88 : decode cL_law 88 = .ok (.istore 11, 2) := by decide +kernel
theorem dL_law_90 : decode cL_law 90 = .ok (.aload_n 1, 1) := by decide +kernel
theorem dL_law_91 : decode cL_law 91 = .ok (.invokevirtual 88, 3) := by decide +kernel
theorem dL_law_94 : decode cL_law 94 = .ok (.istore 12, 2) := by decide +kernel
theorem dL_law_96 : decode cL_law 96 = .ok (.aload_n 1, 1) := by decide +kernel
theorem dL_law_97 : decode cL_law 97 = .ok (.invokevirtual 75, 3) := by decide +kernel
theorem dL_law_100 : decode cL_law 100 = .ok (.lload 6, 2) := by decide +kernel
theorem dL_law_102 : decode cL_law 102 = .ok (.lcmp, 1) := by decide +kernel
theorem dL_law_103 : decode cL_law 103 = .ok (.ifCond .ne 44, 3) := by decide +kernel
theorem dL_law_106 : decode cL_law 106 = .ok (.iload 12, 2) := by decide +kernel
theorem dL_law_108 : decode cL_law 108 = .ok (.ifCond .eq 17, 3) := by decide +kernel
theorem dL_law_111 : decode cL_law 111 = .ok (.iload 9, 2) := by decide +kernel
theorem dL_law_113 : decode cL_law 113 = .ok (.ifCond .ne 34, 3) := by decide +kernel
theorem dL_law_116 : decode cL_law 116 = .ok (.iload 10, 2) := by decide +kernel
theorem dL_law_118 : decode cL_law 118 = .ok (.aload_n 1, 1) := by decide +kernel
theorem dL_law_119 : decode cL_law 119 = .ok (.invokevirtual 44, 3) := by decide +kernel
theorem dL_law_122 : decode cL_law 122 = .ok (.if_icmp .ne 25, 3) := by decide +kernel
theorem dL_law_125 : decode cL_law 125 = .ok (.iload 11, 2) := by decide +kernel
theorem dL_law_127 : decode cL_law 127 = .ok (.iload 8, 2) := by decide +kernel
theorem dL_law_129 : decode cL_law 129 = .ok (.ishr, 1) := by decide +kernel
theorem dL_law_130 : decode cL_law 130 = .ok (.iconst 1, 1) := by decide +kernel
theorem dL_law_131 : decode cL_law 131 = .ok (.iand, 1) := by decide +kernel
theorem dL_law_132 : decode cL_law 132 = .ok (.ifCond .ne 17, 3) := by decide +kernel
theorem dL_law_135 : decode cL_law 135 = .ok (.aload_n 1, 1) := by decide +kernel
theorem dL_law_136 : decode cL_law 136 = .ok (.invokevirtual 92, 3) := by decide +kernel
theorem dL_law_139 : decode cL_law 139 = .ok (.ifCond .ne 10, 3) := by decide +kernel
theorem dL_law_142 : decode cL_law 142 = .ok (.iload 9, 2) := by decide +kernel
theorem dL_law_144 : decode cL_law 144 = .ok (.ifCond .eq 5, 3) := by decide +kernel
theorem dL_law_147 : decode cL_law 147 = .ok (.iconst 0, 1) := by decide +kernel
theorem dL_law_148 : decode cL_law 148 = .ok (.ireturn, 1) := by decide +kernel
theorem dL_law_149 : decode cL_law 149 = .ok (.iload 5, 2) := by decide +kernel
theorem dL_law_151 : decode cL_law 151 = .ok (.iconst 3, 1) := by decide +kernel
theorem dL_law_152 : decode cL_law 152 = .ok (.invokestatic 9, 3) := by decide +kernel
theorem dL_law_155 : decode cL_law 155 = .ok (.ifCond .le 33, 3) := by decide +kernel
theorem dL_law_158 : decode cL_law 158 = .ok (.aload_n 1, 1) := by decide +kernel
theorem dL_law_159 : decode cL_law 159 = .ok (.iload 8, 2) := by decide +kernel
theorem dL_law_161 : decode cL_law 161 = .ok (.invokevirtual 95, 3) := by decide +kernel
theorem dL_law_164 : decode cL_law 164 = .ok (.iload 9, 2) := by decide +kernel
theorem dL_law_166 : decode cL_law 166 = .ok (.if_icmp .ne 12, 3) := by decide +kernel
theorem dL_law_169 : decode cL_law 169 = .ok (.aload_n 1, 1) := by decide +kernel
theorem dL_law_170 : decode cL_law 170 = .ok (.invokevirtual 44, 3) := by decide +kernel
theorem dL_law_173 : decode cL_law 173 = .ok (.iload 10, 2) := by decide +kernel
theorem dL_law_175 : decode cL_law 175 = .ok (.if_icmp .eq 5, 3) := by decide +kernel
theorem dL_law_178 : decode cL_law 178 = .ok (.iconst 0, 1) := by decide +kernel
theorem dL_law_179 : decode cL_law 179 = .ok (.ireturn, 1) := by decide +kernel
theorem dL_law_180 : decode cL_law 180 = .ok (.iload_n 3, 1) := by decide +kernel
theorem dL_law_181 : decode cL_law 181 = .ok (.iload 9, 2) := by decide +kernel
theorem dL_law_183 : decode cL_law 183 = .ok (.iadd, 1) := by decide +kernel
theorem dL_law_184 : decode cL_law 184 = .ok (.istore_n 3, 1) := by decide +kernel
theorem dL_law_185 : decode cL_law 185 = .ok (.goto 53, 3) := by decide +kernel
theorem dL_law_188 : decode cL_law 188 = .ok (.aload_n 1, 1) := by decide +kernel
theorem dL_law_189 : decode cL_law 189 = .ok (.invokevirtual 55, 3) := by decide +kernel
theorem dL_law_192 : decode cL_law 192 = .ok (.istore 13, 2) := by decide +kernel
theorem dL_law_194 : decode cL_law 194 = .ok (.aload_n 1, 1) := by decide +kernel
theorem dL_law_195 : decode cL_law 195 = .ok (.iconst 1, 1) := by decide +kernel
theorem dL_law_196 : decode cL_law 196 = .ok (.invokevirtual 98, 3) := by decide +kernel
theorem dL_law_199 : decode cL_law 199 = .ok (.istore 14, 2) := by decide +kernel
theorem dL_law_201 : decode cL_law 201 = .ok (.iload_n 3, 1) := by decide +kernel
theorem dL_law_202 : decode cL_law 202 = .ok (.iload 14, 2) := by decide +kernel
theorem dL_law_204 : decode cL_law 204 = .ok (.iadd, 1) := by decide +kernel
theorem dL_law_205 : decode cL_law 205 = .ok (.istore_n 3, 1) := by decide +kernel
theorem dL_law_206 : decode cL_law 206 = .ok (.aload_n 1, 1) := by decide +kernel
theorem dL_law_207 : decode cL_law 207 = .ok (.invokevirtual 55, 3) := by decide +kernel
theorem dL_law_210 : decode cL_law 210 = .ok (.iload 13, 2) := by decide +kernel
theorem dL_law_212 : decode cL_law 212 = .ok (.iload 12, 2) := by decide +kernel
theorem dL_law_214 : decode cL_law 214 = .ok (.ifCond .eq 7, 3) := by decide +kernel
theorem dL_law_217 : decode cL_law 217 = .ok (.iconst 0, 1) := by decide +kernel
theorem dL_law_218 : decode cL_law 218 = .ok (.goto 4, 3) := by decide +kernel
theorem dL_law_221 : decode cL_law 221 = .ok (.iconst 1, 1) := by decide +kernel
theorem dL_law_222 : decode cL_law 222 = .ok (.iadd, 1) := by decide +kernel
theorem dL_law_223 : decode cL_law 223 = .ok (.if_icmp .ne 13, 3) := by decide +kernel
theorem dL_law_226 : decode cL_law 226 = .ok (.iload 12, 2) := by decide +kernel
theorem dL_law_228 : decode cL_law 228 = .ok (.ifCond .eq 10, 3) := by decide +kernel
theorem dL_law_231 : decode cL_law 231 = .ok (.iload 14, 2) := by decide +kernel
theorem dL_law_233 : decode cL_law 233 = .ok (.ifCond .le 5, 3) := by decide +kernel
theorem dL_law_236 : decode cL_law 236 = .ok (.iconst 0, 1) := by decide +kernel
theorem dL_law_237 : decode cL_law 237 = .ok (.ireturn, 1) := by decide +kernel
theorem dL_law_238 : decode cL_law 238 = .ok (.iconst 0, 1) := by decide +kernel
theorem dL_law_239 : decode cL_law 239 = .ok (.istore 13, 2) := by decide +kernel
theorem dL_law_241 : decode cL_law 241 = .ok (.iconst 0, 1) := by decide +kernel
theorem dL_law_242 : decode cL_law 242 = .ok (.istore 14, 2) := by decide +kernel
theorem dL_law_244 : decode cL_law 244 = .ok (.iconst 0, 1) := by decide +kernel
theorem dL_law_245 : decode cL_law 245 = .ok (.istore 15, 2) := by decide +kernel
theorem dL_law_247 : decode cL_law 247 = .ok (.iload 15, 2) := by decide +kernel
theorem dL_law_249 : decode cL_law 249 = .ok (.aload_n 1, 1) := by decide +kernel
theorem dL_law_250 : decode cL_law 250 = .ok (.invokevirtual 101, 3) := by decide +kernel
theorem dL_law_253 : decode cL_law 253 = .ok (.if_icmp .ge 39, 3) := by decide +kernel
theorem dL_law_256 : decode cL_law 256 = .ok (.iload 13, 2) := by decide +kernel
theorem dL_law_258 : decode cL_law 258 = .ok (.aload_n 1, 1) := by decide +kernel
theorem dL_law_259 : decode cL_law 259 = .ok (.iload 15, 2) := by decide +kernel
theorem dL_law_261 : decode cL_law 261 = .ok (.invokevirtual 104, 3) := by decide +kernel
theorem dL_law_264 : decode cL_law 264 = .ok (.iadd, 1) := by decide +kernel
theorem dL_law_265 : decode cL_law 265 = .ok (.istore 13, 2) := by decide +kernel
theorem dL_law_267 : decode cL_law 267 = .ok (.iload 14, 2) := by decide +kernel
theorem dL_law_269 : decode cL_law 269 = .ok (.aload_n 1, 1) := by decide +kernel
theorem dL_law_270 : decode cL_law 270 = .ok (.iload 15, 2) := by decide +kernel
theorem dL_law_272 : decode cL_law 272 = .ok (.invokevirtual 104, 3) := by decide +kernel
theorem dL_law_275 : decode cL_law 275 = .ok (.ifCond .le 7, 3) := by decide +kernel
theorem dL_law_278 : decode cL_law 278 = .ok (.iconst 1, 1) := by decide +kernel
theorem dL_law_279 : decode cL_law 279 = .ok (.goto 4, 3) := by decide +kernel
theorem dL_law_282 : decode cL_law 282 = .ok (.iconst 0, 1) := by decide +kernel
theorem dL_law_283 : decode cL_law 283 = .ok (.iadd, 1) := by decide +kernel
theorem dL_law_284 : decode cL_law 284 = .ok (.istore 14, 2) := by decide +kernel
theorem dL_law_286 : decode cL_law 286 = .ok (.iinc 15 1, 3) := by decide +kernel
theorem dL_law_289 : decode cL_law 289 = .ok (.goto (-42), 3) := by decide +kernel
theorem dL_law_292 : decode cL_law 292 = .ok (.iload 13, 2) := by decide +kernel
theorem dL_law_294 : decode cL_law 294 = .ok (.iload_n 3, 1) := by decide +kernel
theorem dL_law_295 : decode cL_law 295 = .ok (.if_icmp .ne 35, 3) := by decide +kernel
theorem dL_law_298 : decode cL_law 298 = .ok (.iload 14, 2) := by decide +kernel
theorem dL_law_300 : decode cL_law 300 = .ok (.aload_n 1, 1) := by decide +kernel
theorem dL_law_301 : decode cL_law 301 = .ok (.invokevirtual 107, 3) := by decide +kernel
theorem dL_law_304 : decode cL_law 304 = .ok (.if_icmp .ne 26, 3) := by decide +kernel
theorem dL_law_307 : decode cL_law 307 = .ok (.aload_n 1, 1) := by decide +kernel
theorem dL_law_308 : decode cL_law 308 = .ok (.invokevirtual 88, 3) := by decide +kernel
theorem dL_law_311 : decode cL_law 311 = .ok (.ifCond .eq 11, 3) := by decide +kernel
theorem dL_law_314 : decode cL_law 314 = .ok (.aload_n 1, 1) := by decide +kernel
theorem dL_law_315 : decode cL_law 315 = .ok (.iconst 0, 1) := by decide +kernel
theorem dL_law_316 : decode cL_law 316 = .ok (.invokevirtual 110, 3) := by decide +kernel
theorem dL_law_319 : decode cL_law 319 = .ok (.ifCond .eq 11, 3) := by decide +kernel
theorem dL_law_322 : decode cL_law 322 = .ok (.aload_n 1, 1) := by decide +kernel
theorem dL_law_323 : decode cL_law 323 = .ok (.aload_n 2, 1) := by decide +kernel
theorem dL_law_324 : decode cL_law 324 = .ok (.invokestatic 114, 3) := by decide +kernel
theorem dL_law_327 : decode cL_law 327 = .ok (.ifCond .ne 5, 3) := by decide +kernel
theorem dL_law_330 : decode cL_law 330 = .ok (.iconst 0, 1) := by decide +kernel
theorem dL_law_331 : decode cL_law 331 = .ok (.ireturn, 1) := by decide +kernel
theorem dL_law_332 : decode cL_law 332 = .ok (.iinc 4 1, 3) := by decide +kernel
theorem dL_law_335 : decode cL_law 335 = .ok (.goto (-298), 3) := by decide +kernel
theorem dL_law_338 : decode cL_law 338 = .ok (.aload_n 0, 1) := by decide +kernel
theorem dL_law_339 : decode cL_law 339 = .ok (.bipush 15, 2) := by decide +kernel
theorem dL_law_341 : decode cL_law 341 = .ok (.invokestatic 17, 3) := by decide +kernel
theorem dL_law_344 : decode cL_law 344 = .ok (.aload_n 2, 1) := by decide +kernel
theorem dL_law_345 : decode cL_law 345 = .ok (.arraylength, 1) := by decide +kernel
theorem dL_law_346 : decode cL_law 346 = .ok (.invokestatic 9, 3) := by decide +kernel
theorem dL_law_349 : decode cL_law 349 = .ok (.istore 4, 2) := by decide +kernel
theorem dL_law_351 : decode cL_law 351 = .ok (.aload_n 1, 1) := by decide +kernel
theorem dL_law_352 : decode cL_law 352 = .ok (.invokevirtual 44, 3) := by decide +kernel
theorem dL_law_355 : decode cL_law 355 = .ok (.istore 5, 2) := by decide +kernel
theorem dL_law_357 : decode cL_law 357 = .ok (.aload_n 1, 1) := by decide +kernel
theorem dL_law_358 : decode cL_law 358 = .ok (.iload 4, 2) := by decide +kernel
theorem dL_law_360 : decode cL_law 360 = .ok (.iconst 2, 1) := by decide +kernel
theorem dL_law_361 : decode cL_law 361 = .ok (.invokevirtual 118, 3) := by decide +kernel
theorem dL_law_364 : decode cL_law 364 = .ok (.istore 6, 2) := by decide +kernel
theorem dL_law_366 : decode cL_law 366 = .ok (.aload_n 1, 1) := by decide +kernel
theorem dL_law_367 : decode cL_law 367 = .ok (.invokevirtual 44, 3) := by decide +kernel
theorem dL_law_370 : decode cL_law 370 = .ok (.iload 5, 2) := by decide +kernel
theorem dL_law_372 : decode cL_law 372 = .ok (.if_icmp .ne 52, 3) := by decide +kernel
theorem dL_law_375 : decode cL_law 375 = .ok (.iload 6, 2) := by decide +kernel
theorem dL_law_377 : decode cL_law 377 = .ok (.ifCond .ne 7, 3) := by decide +kernel
theorem dL_law_380 : decode cL_law 380 = .ok (.iconst 1, 1) := by decide +kernel
theorem dL_law_381 : decode cL_law 381 = .ok (.goto 4, 3) := by decide +kernel
theorem dL_law_384 : decode cL_law 384 = .ok (.iconst 0, 1) := by decide +kernel
theorem dL_law_385 : decode cL_law 385 = .ok (.iload 5, 2) := by decide +kernel
theorem dL_law_387 : decode cL_law 387 = .ok (.iload 4, 2) := by decide +kernel
theorem dL_law_389 : decode cL_law 389 = .ok (.ishr, 1) := by decide +kernel
theorem dL_law_390 : decode cL_law 390 = .ok (.iconst 1, 1) := by decide +kernel
theorem dL_law_391 : decode cL_law 391 = .ok (.iand, 1) := by decide +kernel
theorem dL_law_392 : decode cL_law 392 = .ok (.iconst 1, 1) := by decide +kernel
theorem dL_law_393 : decode cL_law 393 = .ok (.if_icmp .ne 7, 3) := by decide +kernel
theorem dL_law_396 : decode cL_law 396 = .ok (.iconst 1, 1) := by decide +kernel
theorem dL_law_397 : decode cL_law 397 = .ok (.goto 4, 3) := by decide +kernel
theorem dL_law_400 : decode cL_law 400 = .ok (.iconst 0, 1) := by decide +kernel
theorem dL_law_401 : decode cL_law 401 = .ok (.if_icmp .ne 23, 3) := by decide +kernel
theorem dL_law_404 : decode cL_law 404 = .ok (.iload 6, 2) := by decide +kernel
theorem dL_law_406 : decode cL_law 406 = .ok (.iconst 2, 1) := by decide +kernel
theorem dL_law_407 : decode cL_law 407 = .ok (.if_icmp .gt 17, 3) := by decide +kernel
theorem dL_law_410 : decode cL_law 410 = .ok (.aload_n 2, 1) := by decide +kernel
theorem dL_law_411 : decode cL_law 411 = .ok (.iload 4, 2) := by decide +kernel
theorem dL_law_413 : decode cL_law 413 = .ok (.iaload, 1) := by decide +kernel
theorem dL_law_414 : decode cL_law 414 = .ok (.iconst 2, 1) := by decide +kernel
theorem dL_law_415 : decode cL_law 415 = .ok (.if_icmp .le 11, 3) := by decide +kernel
theorem dL_law_418 : decode cL_law 418 = .ok (.iload 6, 2) := by decide +kernel
theorem dL_law_420 : decode cL_law 420 = .ok (.iconst (-1), 1) := by decide +kernel
theorem dL_law_421 : decode cL_law 421 = .ok (.if_icmp .eq 5, 3) := by decide +kernel
theorem dL_law_424 : decode cL_law 424 = .ok (.iconst 0, 1) := by decide +kernel
theorem dL_law_425 : decode cL_law 425 = .ok (.ireturn, 1) := by decide +kernel
theorem dL_law_426 : decode cL_law 426 = .ok (.iconst 2, 1) := by decide +kernel
theorem dL_law_427 : decode cL_law 427 = .ok (.newarray .int, 2) := by decide +kernel
theorem dL_law_429 : decode cL_law 429 = .ok (.dup, 1) := by decide +kernel
theorem dL_law_430 : decode cL_law 430 = .ok (.iconst 0, 1) := by decide +kernel
theorem dL_law_431 : decode cL_law 431 = .ok (.aload_n 1, 1) := by decide +kernel
theorem dL_law_432 : decode cL_law 432 = .ok (.iconst 0, 1) := by decide +kernel
theorem dL_law_433 : decode cL_law 433 = .ok (.invokevirtual 121, 3) := by decide +kernel
theorem dL_law_436 : decode cL_law 436 = .ok (.iastore, 1) := by decide +kernel
theorem dL_law_437 : decode cL_law 437 = .ok (.dup, 1) := by decide +kernel
theorem dL_law_438 : decode cL_law 438 = .ok (.iconst 1, 1) := by decide +kernel
theorem dL_law_439 : decode cL_law 439 = .ok (.aload_n 1, 1) := by decide +kernel
theorem dL_law_440 : decode cL_law 440 = .ok (.iconst 1, 1) := by decide +kernel
theorem dL_law_441 : decode cL_law 441 = .ok (.invokevirtual 121, 3) := by decide +kernel
theorem dL_law_444 : decode cL_law 444 = .ok (.iastore, 1) := by decide +kernel
theorem dL_law_445 : decode cL_law 445 = .ok (.astore 7, 2) := by decide +kernel
theorem dL_law_447 : decode cL_law 447 = .ok (.iconst 0, 1) := by decide +kernel
theorem dL_law_448 : decode cL_law 448 = .ok (.istore 8, 2) := by decide +kernel
theorem dL_law_450 : decode cL_law 450 = .ok (.iload 8, 2) := by decide +kernel
theorem dL_law_452 : decode cL_law 452 = .ok (.iconst 2, 1) := by decide +kernel
theorem dL_law_453 : decode cL_law 453 = .ok (.if_icmp .ge 49, 3) := by decide +kernel
theorem dL_law_456 : decode cL_law 456 = .ok (.aload 7, 2) := by decide +kernel
theorem dL_law_458 : decode cL_law 458 = .ok (.iload 8, 2) := by decide +kernel
theorem dL_law_460 : decode cL_law 460 = .ok (.iaload, 1) := by decide +kernel
theorem dL_law_461 : decode cL_law 461 = .ok (.ifCond .lt 7, 3) := by decide +kernel
theorem dL_law_464 : decode cL_law 464 = .ok (.iconst 1, 1) := by decide +kernel
theorem dL_law_465 : decode cL_law 465 = .ok (.goto 4, 3) := by decide +kernel
theorem dL_law_468 : decode cL_law 468 = .ok (.iconst 0, 1) := by decide +kernel
theorem dL_law_469 : decode cL_law 469 = .ok (.iload 8, 2) := by decide +kernel
theorem dL_law_471 : decode cL_law 471 = .ok (.iload 6, 2) := by decide +kernel
theorem dL_law_473 : decode cL_law 473 = .ok (.if_icmp .ge 7, 3) := by decide +kernel
theorem dL_law_476 : decode cL_law 476 = .ok (.iconst 1, 1) := by decide +kernel
theorem dL_law_477 : decode cL_law 477 = .ok (.goto 4, 3) := by decide +kernel
theorem dL_law_480 : decode cL_law 480 = .ok (.iconst 0, 1) := by decide +kernel
theorem dL_law_481 : decode cL_law 481 = .ok (.if_icmp .ne 13, 3) := by decide +kernel
theorem dL_law_484 : decode cL_law 484 = .ok (.aload 7, 2) := by decide +kernel
theorem dL_law_486 : decode cL_law 486 = .ok (.iload 8, 2) := by decide +kernel
theorem dL_law_488 : decode cL_law 488 = .ok (.iaload, 1) := by decide +kernel
theorem dL_law_489 : decode cL_law 489 = .ok (.bipush 10, 2) := by decide +kernel
theorem dL_law_491 : decode cL_law 491 = .ok (.if_icmp .le 5, 3) := by decide +kernel
theorem dL_law_494 : decode cL_law 494 = .ok (.iconst 0, 1) := by decide +kernel
theorem dL_law_495 : decode cL_law 495 = .ok (.ireturn, 1) := by decide +kernel
theorem dL_law_496 : decode cL_law 496 = .ok (.iinc 8 1, 3) := by decide +kernel
theorem dL_law_499 : decode cL_law 499 = .ok (.goto (-49), 3) := by decide +kernel
theorem dL_law_502 : decode cL_law 502 = .ok (.iconst 0, 1) := by decide +kernel
theorem dL_law_503 : decode cL_law 503 = .ok (.istore 8, 2) := by decide +kernel
theorem dL_law_505 : decode cL_law 505 = .ok (.iload 8, 2) := by decide +kernel
theorem dL_law_507 : decode cL_law 507 = .ok (.iload 6, 2) := by decide +kernel
theorem dL_law_509 : decode cL_law 509 = .ok (.if_icmp .ge 38, 3) := by decide +kernel
theorem dL_law_512 : decode cL_law 512 = .ok (.aload 7, 2) := by decide +kernel
theorem dL_law_514 : decode cL_law 514 = .ok (.iload 8, 2) := by decide +kernel
theorem dL_law_516 : decode cL_law 516 = .ok (.iaload, 1) := by decide +kernel
theorem dL_law_517 : decode cL_law 517 = .ok (.bipush 10, 2) := by decide +kernel
theorem dL_law_519 : decode cL_law 519 = .ok (.if_icmp .ge 16, 3) := by decide +kernel
theorem dL_law_522 : decode cL_law 522 = .ok (.aload_n 1, 1) := by decide +kernel
theorem dL_law_523 : decode cL_law 523 = .ok (.aload 7, 2) := by decide +kernel
theorem dL_law_525 : decode cL_law 525 = .ok (.iload 8, 2) := by decide +kernel
theorem dL_law_527 : decode cL_law 527 = .ok (.iaload, 1) := by decide +kernel
theorem dL_law_528 : decode cL_law 528 = .ok (.invokevirtual 95, 3) := by decide +kernel
theorem dL_law_531 : decode cL_law 531 = .ok (.pop, 1) := by decide +kernel
theorem dL_law_532 : decode cL_law 532 = .ok (.goto 9, 3) := by decide +kernel
theorem dL_law_535 : decode cL_law 535 = .ok (.aload_n 1, 1) := by decide +kernel
theorem dL_law_536 : decode cL_law 536 = .ok (.iconst 1, 1) := by decide +kernel
theorem dL_law_537 : decode cL_law 537 = .ok (.invokevirtual 98, 3) := by decide +kernel
theorem dL_law_540 : decode cL_law 540 = .ok (.pop, 1) := by decide +kernel
theorem dL_law_541 : decode cL_law 541 = .ok (.iinc 8 1, 3) := by decide +kernel
theorem dL_law_544 : decode cL_law 544 = .ok (.goto (-39), 3) := by decide +kernel
theorem dL_law_547 : decode cL_law 547 = .ok (.iload 6, 2) := by decide +kernel
theorem dL_law_549 : decode cL_law 549 = .ok (.ifCond .lt 16, 3) := by decide +kernel
theorem dL_law_552 : decode cL_law 552 = .ok (.aload_n 1, 1) := by decide +kernel
theorem dL_law_553 : decode cL_law 553 = .ok (.invokevirtual 44, 3) := by decide +kernel
theorem dL_law_556 : decode cL_law 556 = .ok (.iload 4, 2) := by decide +kernel
theorem dL_law_558 : decode cL_law 558 = .ok (.ishr, 1) := by decide +kernel
theorem dL_law_559 : decode cL_law 559 = .ok (.iconst 1, 1) := by decide +kernel
theorem dL_law_560 : decode cL_law 560 = .ok (.iand, 1) := by decide +kernel
theorem dL_law_561 : decode cL_law 561 = .ok (.iconst 1, 1) := by decide +kernel
theorem dL_law_562 : decode cL_law 562 = .ok (.if_icmp .ne 7, 3) := by decide +kernel
theorem dL_law_565 : decode cL_law 565 = .ok (.iconst 1, 1) := by decide +kernel
theorem dL_law_566 : decode cL_law 566 = .ok (.goto 4, 3) := by decide +kernel
theorem dL_law_569 : decode cL_law 569 = .ok (.iconst 0, 1) := by decide +kernel
theorem dL_law_570 : decode cL_law 570 = .ok (.ireturn, 1) := by decide +kernel
/-! below and cell over the machine; calls that make a cell -/
set_option maxHeartbeats 4000000 in
set_option maxRecDepth 100000 in
theorem mtL_below (l : Launch) (p1 p2 : Int32) (hz : ¬ p2 = 0) : Met l yL_below (Cond.code yL_below cL_below 2 (some .int) :: lw_all) ({ frames := 0, cells := 0, slots := 0, locals := 0 } : Room) (va_Pc [.int p1, .int p2] (fun _ => True)) (va_Qi (fun r (_ : Unit) => r = pf_below p1 p2) (fun _ _ => True) (fun _ => False)) 0 0 (fun _ => False) := by
  refine Met.ofW (cc := cL_below) (maxL := 2) (ret := (some .int)) (by decide) rfl ?_
  intro p e s m args below meth c s₁ B hml hv
  obtain ⟨rfl, -⟩ := hv
  have hx := B.exec
  have hb := B.bytes
  have hr := B.returns
  have hts0 := atoms_spec (ws := (Cond.code yL_below cL_below 2 (some .int) :: lw_all)) B.pre
  have hown : s.vm.findClass RL = some m.cls := findClass_of_methodNamed B.named
  have hlocks := B.notSynchronized
  have hl := lv_entry ([.int p1, .int p2]) (n := 2) (Nat.le_of_ble_eq_true rfl)
  rw [lg_entry_eq]
  generalize (lg_sl ([.int p1, .int p2]) ++ List.replicate (2 - (lg_sl ([.int p1, .int p2])).length) Slot.unset).toArray = ls at hl ⊢
  have hl : lv_has ls 2 [(0, .int p1), (1, .int p2)] := hl
  refine lv_iload_n hx hb dL_below_0 rfl (lv_at hl 0 rfl) ?_
  refine lv_ldc (v := 2147483647) hx hb hown (hts0 _ (List.mem_cons_of_mem _ kw_752)) dL_below_1 ?_
  refine lv_iand hx hb dL_below_3 ?_
  refine lv_iload_n hx hb dL_below_4 rfl (lv_at hl 1 rfl) ?_
  refine lv_irem hx hb dL_below_5 hz ?_
  have hS : va_S (fun _ => False) s.heap s.heap [] := va_S.rf
  exact W.iret (v := pf_below p1 p2) hx hb hr (fun t ht hW => ⟨⟨pf_below p1 p2, (), rfl, rfl, trivial⟩, hS.F ht⟩) (fun q hq => absurd hq List.not_mem_nil) dL_below_6
set_option maxHeartbeats 4000000 in
set_option maxRecDepth 100000 in
theorem mtL_cell (l : Launch) (b L : Nat) (xs : Nat → Int32) (p2 : Int32) (hz : ¬ p2 < 0) : Met l yL_cell (Cond.code yL_cell cL_cell 2 (some .int) :: lw_all) ({ frames := 0, cells := 0, slots := 0, locals := 0 } : Room) (va_Pc [.ref b, .int p2] (pf_ceP b L xs)) (va_Qi (fun r (_ : Unit) => r = pf_cell L xs p2) (fun _ _ => True) (fun _ => False)) 0 0 (fun _ => False) := by
  refine Met.ofW (cc := cL_cell) (maxL := 2) (ret := (some .int)) (by decide) rfl ?_
  intro p e s m args below meth c s₁ B hml hv
  obtain ⟨rfl, hX, hbl⟩ := hv
  have hx := B.exec
  have hb := B.bytes
  have hr := B.returns
  have hts0 := atoms_spec (ws := (Cond.code yL_cell cL_cell 2 (some .int) :: lw_all)) B.pre
  have hown : s.vm.findClass RL = some m.cls := findClass_of_methodNamed B.named
  have hlocks := B.notSynchronized
  have hS : va_S (fun _ => False) s.heap s.heap [] := va_S.rf
  have hl := lv_entry ([.ref b, .int p2]) (n := 2) (Nat.le_of_ble_eq_true rfl)
  rw [lg_entry_eq]
  generalize (lg_sl ([.ref b, .int p2]) ++ List.replicate (2 - (lg_sl ([.ref b, .int p2])).length) Slot.unset).toArray = ls at hl ⊢
  have hl : lv_has ls 2 [(0, .ref b), (1, .int p2)] := hl
  refine lv_iload_n hx hb dL_cell_0 rfl (lv_at hl 1 rfl) ?_
  refine lv_aload_n hx hb dL_cell_1 rfl (lv_at hl 0 rfl) ?_
  refine va_slen hx hb hX hbl (fun h => h) hS dL_cell_2 ?_
  refine lv_icmp_ge (tgt := 12) hx hb dL_cell_3 (by decide) (fun hc => ?_) (fun hc => ?_)
  · refine lv_ldc (v := 790386105) hx hb hown (hts0 _ (List.mem_cons_of_mem _ kw_756)) dL_cell_12 ?_
    refine lv_iload_n hx hb dL_cell_14 rfl (lv_at hl 1 rfl) ?_
    refine lv_iconst (v := 3) hx hb dL_cell_15 (by decide) ?_
    refine lv_iadd hx hb dL_cell_16 ?_
    refine lv_imul hx hb dL_cell_17 ?_
    exact W.iret (v := 790386105 * (p2 + 3)) hx hb hr (fun t ht hW => ⟨⟨_, (), rfl, by unfold pf_cell; rw [if_pos hc], trivial⟩, hS.F ht⟩) (fun q hq => absurd hq List.not_mem_nil) dL_cell_18
  · have hin : vp_in p2 L := by
      intro h
      rcases h with h | h
      · exact hz h
      · apply hc
        have h0 : (0 : Int) ≤ p2.toInt := by
          have := Int32.not_lt.mp hz
          simpa using Int32.le_iff_toInt_le.mp this
        have h2 : p2.toInt < 2147483648 := Int32.toInt_lt p2
        have h3 : (p2.toNatClampNeg : Int) = p2.toInt := by show ((p2.toInt.toNat : Nat) : Int) = p2.toInt; omega
        rw [Int32.le_iff_toInt_le, show (Int32.ofNat L).toInt = (L : Int) from nI_toInt (by omega)]
        omega
    refine lv_aload_n hx hb dL_cell_6 rfl (lv_at hl 0 rfl) ?_
    refine lv_iload_n hx hb dL_cell_7 rfl (lv_at hl 1 rfl) ?_
    refine va_sld hx hb hX hbl (fun h => h) hS hin dL_cell_8 ?_
    refine lv_goto (tgt := 18) hx hb dL_cell_9 (by decide) ?_
    exact W.iret (v := xs p2.toNatClampNeg) hx hb hr (fun t ht hW => ⟨⟨_, (), rfl, by unfold pf_cell; rw [if_neg hc], trivial⟩, hS.F ht⟩) (fun q hq => absurd hq List.not_mem_nil) dL_cell_18
section PTY
variable {p : Program} {l : Launch} {e : Env} {R : Room} {s : State} {m : MethodId} {args : Array Value} {below : List Frame} {meth : Method} {c : Code} {H : Heap} {locs : List Loc} {cells slots : Nat} {Q : State → Prop}
variable {cc : ByteArray} {pc nL : Nat} {ls : Array Slot} {rest st : List Value} {D : va_G} {A : Nat → Prop} {cA : Nat → ClassId} {B Y : va_W} {H0 : Heap} {own : String} {a : Array Value}
theorem pt_xlenA (F : pt_F p m c cc nL s args own D cA) (hAA : pt_AA cA s) (hP : va_P D pt_cl (B ++ Y) H) (i : Nat) {n : Nat} {a0 : Nat} {g : Nat → Option Nat} (hy : Y[i]? = some (a0, .inl (cA 4, n, .inr (.inr (.inr (.inr g)))))) (hdg : decode cc pc = .ok (.arraylength, 1))
    (kk : W p l e R s m args below meth c H locs cells slots Q (F0 m (pc + 1) ls (.int (Int32.ofNat n) :: rest))) : W p l e R s m args below meth c H locs cells slots Q (F0 m pc ls (.ref a0 :: rest)) := by
  have hc : H[a0]? = some (vp_cell (cA 4) (n, .inr (.inr (.inr (.inr g))))) := hP _ _ (pt_xat (B := B) hy)
  exact W.alen (n := Int32.ofNat n) F.1.1 F.1.2.1 hc (hAA.1 n (fun j => va_rf (g j))) (by rw [vp_cell_q, arrV_size] <;> rfl) rfl rfl hdg kk
/-- a new cell behind a call that left the old ones -/
theorem pt_xgrow {H1 : Heap} {x : Nat × va_E} (hP : va_P D pt_cl (B ++ Y) H) (hD : va_D A (B ++ Y)) (hP1 : va_P D pt_cl [x] H1) (ho : ∀ q : Nat, q < H.size → H1[q]? = H[q]?) (hx : H.size ≤ x.1) (hA : A x.1) : va_P D pt_cl (B ++ (Y ++ [x])) H1 ∧ va_D A (B ++ (Y ++ [x])) := by
  have g1 : va_P D pt_cl ((B ++ Y) ++ [x]) H1 := pt_xP.mpr ⟨pt_xkeep hP ho, hP1⟩
  have g2 : va_D A ((B ++ Y) ++ [x]) := by
    refine pt_xD.mpr ⟨hD, ⟨fun i j p q hi hj _ => ?_, fun k q hk => ?_⟩, fun i j p q hi hj e => ?_⟩
    · have h1 : i < 1 := (List.getElem?_eq_some_iff.mp hi).1
      have h2 : j < 1 := (List.getElem?_eq_some_iff.mp hj).1
      omega
    · have h1 : k < 1 := (List.getElem?_eq_some_iff.mp hk).1
      rw [show k = 0 by omega] at hk
      cases hk
      exact hA
    · have h1 : j < 1 := (List.getElem?_eq_some_iff.mp hj).1
      rw [show j = 0 by omega] at hj
      cases hj
      have := (hP i p hi).lt
      omega
  rw [List.append_assoc] at g1 g2
  exact ⟨g1, g2⟩
theorem pt_callq {mc ms : Nat} {Qi : (Nat → Int32) → Prop} (hr : va_Run p l e R s m args below meth c H locs cells slots mc ms (F0 m pc ls st) rest (va_Qr Qi (fun f a t => va_P D pt_cl [(a, .inl (cA 0, 3, .inl f))] t.heap ∧ H.size ≤ a) (fun q : Nat => H.size ≤ q) a) (fun q : Nat => H.size ≤ q)) (hP : va_P D pt_cl (B ++ Y) H) (hD : va_D A (B ++ Y)) (hS : va_S A H0 H locs) (hA : ∀ q, H0.size ≤ q → A q)
    (kk : ∀ (f : Nat → Int32) (q : Nat) (H1 : Heap) (locs1 : List Loc), Qi f → va_P D pt_cl (B ++ (Y ++ [(q, .inl (cA 0, 3, .inl f))])) H1 → va_D A (B ++ (Y ++ [(q, .inl (cA 0, 3, .inl f))])) → va_S A H0 H1 locs1 → W p l e R s m args below meth c H1 locs1 (cells + mc) (slots + ms) Q (F0 m (pc + 3) ls (.ref q :: rest))) : W p l e R s m args below meth c H locs cells slots Q (F0 m pc ls st) := by
  refine va_callr hr hS (fun q h1 h2 => absurd h2 (by omega)) (fun q h => hA q (Nat.le_trans hS.1 h)) (fun f q t H1 locs1 ht _ hq hB hz ho hS1 => ?_)
  rw [ht] at hB
  obtain ⟨g1, g2⟩ := pt_xgrow (A := A) hP hD hB.1 (fun q h => ho q h (by omega)) hB.2 (hA _ (Nat.le_trans hS.1 hB.2))
  exact kk f q H1 locs1 hq g1 g2 hS1
theorem pt_callb {mc ms N : Nat} {ad : Nat → Nat} {M : pt_M} {Qi : (Nat → Int32) → pt_M → Prop} (hr : va_Run p l e R s m args below meth c H locs cells slots mc ms (F0 m pc ls st) rest (va_Qr (fun u : (Nat → Int32) × pt_M => Qi u.1 u.2) (pf_buB D cA ad H.size N) (pt_fr ad H.size) a) (pt_fr ad H.size)) (hP : va_P D pt_cl (pt_W cA ad M ++ []) H) (hD : va_D A (pt_W cA ad M ++ [])) (hS : va_S A H0 H locs) (hA : ∀ q, pt_fr ad H0.size q → A q)
    (kk : ∀ (f : Nat → Int32) (M1 : pt_M) (q : Nat) (H1 : Heap) (locs1 : List Loc), Qi f M1 → va_P D pt_cl (pt_W cA ad M1 ++ [(q, .inl (cA 0, N, .inl f))]) H1 → va_D A (pt_W cA ad M1 ++ [(q, .inl (cA 0, N, .inl f))]) → va_S A H0 H1 locs1 → W p l e R s m args below meth c H1 locs1 (cells + mc) (slots + ms) Q (F0 m (pc + 3) ls (.ref q :: rest))) : W p l e R s m args below meth c H locs cells slots Q (F0 m pc ls st) := by
  refine va_callr hr hS (pt_frA hS hA).1 (pt_frA hS hA).2 (fun u q t H1 locs1 ht _ hq hB hz ho hS1 => ?_)
  rw [pf_buB, ht] at hB
  exact kk u.1 u.2 q H1 locs1 hq hB.1 (hB.2.weaken (fun k x _ h => (pt_frA hS hA).2 _ h)) hS1
end PTY
