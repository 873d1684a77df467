theorem d_X7_fits_71 : decode c_X7_fits 71 = .ok (.aload_n 0, 1) := by decide +kernel
theorem d_X7_fits_72 : decode c_X7_fits 72 = .ok (.iload_n 2, 1) := by decide +kernel
theorem d_X7_fits_73 : decode c_X7_fits 73 = .ok (.invokevirtual 84, 3) := by decide +kernel
theorem d_X7_fits_76 : decode c_X7_fits 76 = .ok (.ifCond .ne 16, 3) := by decide +kernel
theorem d_X7_fits_79 : decode c_X7_fits 79 = .ok (.iload_n 1, 1) := by decide +kernel
theorem d_X7_fits_80 : decode c_X7_fits 80 = .ok (.bipush 17, 2) := by decide +kernel
theorem d_X7_fits_82 : decode c_X7_fits 82 = .ok (.if_icmp .ne 8, 3) := by decide +kernel
theorem d_X7_fits_85 : decode c_X7_fits 85 = .ok (.iload_n 2, 1) := by decide +kernel
theorem d_X7_fits_86 : decode c_X7_fits 86 = .ok (.iconst (-1), 1) := by decide +kernel
theorem d_X7_fits_87 : decode c_X7_fits 87 = .ok (.if_icmp .eq 5, 3) := by decide +kernel
theorem d_X7_fits_90 : decode c_X7_fits 90 = .ok (.iconst 0, 1) := by decide +kernel
theorem d_X7_fits_91 : decode c_X7_fits 91 = .ok (.ireturn, 1) := by decide +kernel
theorem d_X7_fits_92 : decode c_X7_fits 92 = .ok (.iload 5, 2) := by decide +kernel
theorem d_X7_fits_94 : decode c_X7_fits 94 = .ok (.iconst 2, 1) := by decide +kernel
theorem d_X7_fits_95 : decode c_X7_fits 95 = .ok (.iand, 1) := by decide +kernel
theorem d_X7_fits_96 : decode c_X7_fits 96 = .ok (.ifCond .eq 11, 3) := by decide +kernel
theorem d_X7_fits_99 : decode c_X7_fits 99 = .ok (.aload_n 0, 1) := by decide +kernel
theorem d_X7_fits_100 : decode c_X7_fits 100 = .ok (.iload_n 3, 1) := by decide +kernel
theorem d_X7_fits_101 : decode c_X7_fits 101 = .ok (.invokevirtual 84, 3) := by decide +kernel
theorem d_X7_fits_104 : decode c_X7_fits 104 = .ok (.ifCond .eq 23, 3) := by decide +kernel
theorem d_X7_fits_107 : decode c_X7_fits 107 = .ok (.iload 5, 2) := by decide +kernel
theorem d_X7_fits_109 : decode c_X7_fits 109 = .ok (.iconst 4, 1) := by decide +kernel
theorem d_X7_fits_110 : decode c_X7_fits 110 = .ok (.iand, 1) := by decide +kernel
theorem d_X7_fits_111 : decode c_X7_fits 111 = .ok (.ifCond .eq 12, 3) := by decide +kernel
theorem d_X7_fits_114 : decode c_X7_fits 114 = .ok (.aload_n 0, 1) := by decide +kernel
theorem d_X7_fits_115 : decode c_X7_fits 115 = .ok (.iload 4, 2) := by decide +kernel
theorem d_X7_fits_117 : decode c_X7_fits 117 = .ok (.invokevirtual 84, 3) := by decide +kernel
theorem d_X7_fits_120 : decode c_X7_fits 120 = .ok (.ifCond .eq 7, 3) := by decide +kernel
theorem d_X7_fits_123 : decode c_X7_fits 123 = .ok (.iconst 1, 1) := by decide +kernel
theorem d_X7_fits_124 : decode c_X7_fits 124 = .ok (.goto 4, 3) := by decide +kernel
theorem d_X7_fits_127 : decode c_X7_fits 127 = .ok (.iconst 0, 1) := by decide +kernel
theorem d_X7_fits_128 : decode c_X7_fits 128 = .ok (.ireturn, 1) := by decide +kernel
theorem d_X7_high_0 : decode c_X7_high 0 = .ok (.iload_n 2, 1) := by decide +kernel
theorem d_X7_high_1 : decode c_X7_high 1 = .ok (.ifCond .eq 12, 3) := by decide +kernel
theorem d_X7_high_4 : decode c_X7_high 4 = .ok (.iload_n 3, 1) := by decide +kernel
theorem d_X7_high_5 : decode c_X7_high 5 = .ok (.iload_n 1, 1) := by decide +kernel
theorem d_X7_high_6 : decode c_X7_high 6 = .ok (.if_icmp .le 7, 3) := by decide +kernel
theorem d_X7_high_9 : decode c_X7_high 9 = .ok (.iload_n 3, 1) := by decide +kernel
theorem d_X7_high_10 : decode c_X7_high 10 = .ok (.goto 4, 3) := by decide +kernel
theorem d_X7_high_13 : decode c_X7_high 13 = .ok (.iload_n 1, 1) := by decide +kernel
theorem d_X7_high_14 : decode c_X7_high 14 = .ok (.ireturn, 1) := by decide +kernel
theorem d_X7_node_0 : decode c_X7_node 0 = .ok (.aload_n 0, 1) := by decide +kernel
theorem d_X7_node_1 : decode c_X7_node 1 = .ok (.iload_n 1, 1) := by decide +kernel
theorem d_X7_node_2 : decode c_X7_node 2 = .ok (.iload_n 2, 1) := by decide +kernel
theorem d_X7_node_3 : decode c_X7_node 3 = .ok (.iload_n 3, 1) := by decide +kernel
theorem d_X7_node_4 : decode c_X7_node 4 = .ok (.iload 4, 2) := by decide +kernel
theorem d_X7_node_6 : decode c_X7_node 6 = .ok (.invokevirtual 88, 3) := by decide +kernel
theorem d_X7_node_9 : decode c_X7_node 9 = .ok (.ifCond .ne 5, 3) := by decide +kernel
theorem d_X7_node_12 : decode c_X7_node 12 = .ok (.iconst (-1), 1) := by decide +kernel
theorem d_X7_node_13 : decode c_X7_node 13 = .ok (.ireturn, 1) := by decide +kernel
theorem d_X7_node_14 : decode c_X7_node 14 = .ok (.aload_n 0, 1) := by decide +kernel
theorem d_X7_node_15 : decode c_X7_node 15 = .ok (.iload_n 1, 1) := by decide +kernel
theorem d_X7_node_16 : decode c_X7_node 16 = .ok (.invokevirtual 80, 3) := by decide +kernel
theorem d_X7_node_19 : decode c_X7_node 19 = .ok (.istore 5, 2) := by decide +kernel
theorem d_X7_node_21 : decode c_X7_node 21 = .ok (.iconst 0, 1) := by decide +kernel
theorem d_X7_node_22 : decode c_X7_node 22 = .ok (.istore 6, 2) := by decide +kernel
theorem d_X7_node_24 : decode c_X7_node 24 = .ok (.iload_n 1, 1) := by decide +kernel
theorem d_X7_node_25 : decode c_X7_node 25 = .ok (.iconst 2, 1) := by decide +kernel
theorem d_X7_node_26 : decode c_X7_node 26 = .ok (.if_icmp .ne 9, 3) := by decide +kernel
theorem d_X7_node_29 : decode c_X7_node 29 = .ok (.iload_n 2, 1) := by decide +kernel
theorem d_X7_node_30 : decode c_X7_node 30 = .ok (.iconst 1, 1) := by decide +kernel
theorem d_X7_node_31 : decode c_X7_node 31 = .ok (.iadd, 1) := by decide +kernel
theorem d_X7_node_32 : decode c_X7_node 32 = .ok (.goto 4, 3) := by decide +kernel
theorem d_X7_node_35 : decode c_X7_node 35 = .ok (.iconst 0, 1) := by decide +kernel
theorem d_X7_node_36 : decode c_X7_node 36 = .ok (.istore 7, 2) := by decide +kernel
theorem d_X7_node_38 : decode c_X7_node 38 = .ok (.iload 5, 2) := by decide +kernel
theorem d_X7_node_40 : decode c_X7_node 40 = .ok (.iconst 1, 1) := by decide +kernel
theorem d_X7_node_41 : decode c_X7_node 41 = .ok (.iand, 1) := by decide +kernel
theorem d_X7_node_42 : decode c_X7_node 42 = .ok (.ifCond .eq 11, 3) := by decide +kernel
theorem d_X7_node_45 : decode c_X7_node 45 = .ok (.iload_n 2, 1) := by decide +kernel
theorem d_X7_node_46 : decode c_X7_node 46 = .ok (.ifCond .lt 7, 3) := by decide +kernel
theorem d_X7_node_49 : decode c_X7_node 49 = .ok (.iconst 1, 1) := by decide +kernel
theorem d_X7_node_50 : decode c_X7_node 50 = .ok (.goto 4, 3) := by decide +kernel
theorem d_X7_node_53 : decode c_X7_node 53 = .ok (.iconst 0, 1) := by decide +kernel
theorem d_X7_node_54 : decode c_X7_node 54 = .ok (.istore 8, 2) := by decide +kernel
theorem d_X7_node_56 : decode c_X7_node 56 = .ok (.iload 5, 2) := by decide +kernel
theorem d_X7_node_58 : decode c_X7_node 58 = .ok (.iconst 2, 1) := by decide +kernel
theorem d_X7_node_59 : decode c_X7_node 59 = .ok (.iand, 1) := by decide +kernel
theorem d_X7_node_60 : decode c_X7_node 60 = .ok (.ifCond .eq 7, 3) := by decide +kernel
theorem d_X7_node_63 : decode c_X7_node 63 = .ok (.iconst 1, 1) := by decide +kernel
theorem d_X7_node_64 : decode c_X7_node 64 = .ok (.goto 4, 3) := by decide +kernel
theorem d_X7_node_67 : decode c_X7_node 67 = .ok (.iconst 0, 1) := by decide +kernel
theorem d_X7_node_68 : decode c_X7_node 68 = .ok (.istore 9, 2) := by decide +kernel
theorem d_X7_node_70 : decode c_X7_node 70 = .ok (.iload 5, 2) := by decide +kernel
theorem d_X7_node_72 : decode c_X7_node 72 = .ok (.iconst 4, 1) := by decide +kernel
theorem d_X7_node_73 : decode c_X7_node 73 = .ok (.iand, 1) := by decide +kernel
theorem d_X7_node_74 : decode c_X7_node 74 = .ok (.ifCond .eq 7, 3) := by decide +kernel
theorem d_X7_node_77 : decode c_X7_node 77 = .ok (.iconst 1, 1) := by decide +kernel
theorem d_X7_node_78 : decode c_X7_node 78 = .ok (.goto 4, 3) := by decide +kernel
theorem d_X7_node_81 : decode c_X7_node 81 = .ok (.iconst 0, 1) := by decide +kernel
theorem d_X7_node_82 : decode c_X7_node 82 = .ok (.istore 10, 2) := by decide +kernel
theorem d_X7_node_84 : decode c_X7_node 84 = .ok (.aload_n 0, 1) := by decide +kernel
theorem d_X7_node_85 : decode c_X7_node 85 = .ok (.iload 6, 2) := by decide +kernel
theorem d_X7_node_87 : decode c_X7_node 87 = .ok (.iload 8, 2) := by decide +kernel
theorem d_X7_node_89 : decode c_X7_node 89 = .ok (.iload 8, 2) := by decide +kernel
theorem d_X7_node_91 : decode c_X7_node 91 = .ok (.ifCond .eq 12, 3) := by decide +kernel
theorem d_X7_node_94 : decode c_X7_node 94 = .ok (.aload_n 0, 1) := by decide +kernel
theorem d_X7_node_95 : decode c_X7_node 95 = .ok (.getfield 29, 3) := by decide +kernel
theorem d_X7_node_98 : decode c_X7_node 98 = .ok (.iload_n 2, 1) := by decide +kernel
theorem d_X7_node_99 : decode c_X7_node 99 = .ok (.iaload, 1) := by decide +kernel
theorem d_X7_node_100 : decode c_X7_node 100 = .ok (.goto 4, 3) := by decide +kernel
theorem d_X7_node_103 : decode c_X7_node 103 = .ok (.iconst 0, 1) := by decide +kernel
theorem d_X7_node_104 : decode c_X7_node 104 = .ok (.invokevirtual 92, 3) := by decide +kernel
theorem d_X7_node_107 : decode c_X7_node 107 = .ok (.istore 6, 2) := by decide +kernel
theorem d_X7_node_109 : decode c_X7_node 109 = .ok (.aload_n 0, 1) := by decide +kernel
theorem d_X7_node_110 : decode c_X7_node 110 = .ok (.iload 6, 2) := by decide +kernel
theorem d_X7_node_112 : decode c_X7_node 112 = .ok (.iload 9, 2) := by decide +kernel
theorem d_X7_node_114 : decode c_X7_node 114 = .ok (.iload 9, 2) := by decide +kernel
theorem d_X7_node_116 : decode c_X7_node 116 = .ok (.ifCond .eq 12, 3) := by decide +kernel
theorem d_X7_node_119 : decode c_X7_node 119 = .ok (.aload_n 0, 1) := by decide +kernel
theorem d_X7_node_120 : decode c_X7_node 120 = .ok (.getfield 29, 3) := by decide +kernel
theorem d_X7_node_123 : decode c_X7_node 123 = .ok (.iload_n 3, 1) := by decide +kernel
theorem d_X7_node_124 : decode c_X7_node 124 = .ok (.iaload, 1) := by decide +kernel
theorem d_X7_node_125 : decode c_X7_node 125 = .ok (.goto 4, 3) := by decide +kernel
theorem d_X7_node_128 : decode c_X7_node 128 = .ok (.iconst 0, 1) := by decide +kernel
theorem d_X7_node_129 : decode c_X7_node 129 = .ok (.invokevirtual 92, 3) := by decide +kernel
theorem d_X7_node_132 : decode c_X7_node 132 = .ok (.istore 6, 2) := by decide +kernel
theorem d_X7_node_134 : decode c_X7_node 134 = .ok (.aload_n 0, 1) := by decide +kernel
theorem d_X7_node_135 : decode c_X7_node 135 = .ok (.iload 6, 2) := by decide +kernel
theorem d_X7_node_137 : decode c_X7_node 137 = .ok (.iload 10, 2) := by decide +kernel
theorem d_X7_node_139 : decode c_X7_node 139 = .ok (.iload 10, 2) := by decide +kernel
theorem d_X7_node_141 : decode c_X7_node 141 = .ok (.ifCond .eq 13, 3) := by decide +kernel
theorem d_X7_node_144 : decode c_X7_node 144 = .ok (.aload_n 0, 1) := by decide +kernel
theorem d_X7_node_145 : decode c_X7_node 145 = .ok (.getfield 29, 3) := by decide +kernel
theorem d_X7_node_148 : decode c_X7_node 148 = .ok (.iload 4, 2) := by decide +kernel
theorem d_X7_node_150 : decode c_X7_node 150 = .ok (.iaload, 1) := by decide +kernel
theorem d_X7_node_151 : decode c_X7_node 151 = .ok (.goto 4, 3) := by decide +kernel
theorem d_X7_node_154 : decode c_X7_node 154 = .ok (.iconst 0, 1) := by decide +kernel
theorem d_X7_node_155 : decode c_X7_node 155 = .ok (.invokevirtual 92, 3) := by decide +kernel
theorem d_X7_node_158 : decode c_X7_node 158 = .ok (.istore 6, 2) := by decide +kernel
theorem d_X7_node_160 : decode c_X7_node 160 = .ok (.aload_n 0, 1) := by decide +kernel
theorem d_X7_node_161 : decode c_X7_node 161 = .ok (.iload 7, 2) := by decide +kernel
theorem d_X7_node_163 : decode c_X7_node 163 = .ok (.iload 8, 2) := by decide +kernel
theorem d_X7_node_165 : decode c_X7_node 165 = .ok (.iload 8, 2) := by decide +kernel
theorem d_X7_node_167 : decode c_X7_node 167 = .ok (.ifCond .eq 12, 3) := by decide +kernel
theorem d_X7_node_170 : decode c_X7_node 170 = .ok (.aload_n 0, 1) := by decide +kernel
theorem d_X7_node_171 : decode c_X7_node 171 = .ok (.getfield 32, 3) := by decide +kernel
theorem d_X7_node_174 : decode c_X7_node 174 = .ok (.iload_n 2, 1) := by decide +kernel
theorem d_X7_node_175 : decode c_X7_node 175 = .ok (.iaload, 1) := by decide +kernel
theorem d_X7_node_176 : decode c_X7_node 176 = .ok (.goto 4, 3) := by decide +kernel
theorem d_X7_node_179 : decode c_X7_node 179 = .ok (.iconst 0, 1) := by decide +kernel
theorem d_X7_node_180 : decode c_X7_node 180 = .ok (.invokevirtual 92, 3) := by decide +kernel
theorem d_X7_node_183 : decode c_X7_node 183 = .ok (.istore 7, 2) := by decide +kernel
theorem d_X7_node_185 : decode c_X7_node 185 = .ok (.aload_n 0, 1) := by decide +kernel
theorem d_X7_node_186 : decode c_X7_node 186 = .ok (.iload 7, 2) := by decide +kernel
theorem d_X7_node_188 : decode c_X7_node 188 = .ok (.iload 9, 2) := by decide +kernel
theorem d_X7_node_190 : decode c_X7_node 190 = .ok (.iload 9, 2) := by decide +kernel
theorem d_X7_node_192 : decode c_X7_node 192 = .ok (.ifCond .eq 12, 3) := by decide +kernel
theorem d_X7_node_195 : decode c_X7_node 195 = .ok (.aload_n 0, 1) := by decide +kernel
theorem d_X7_node_196 : decode c_X7_node 196 = .ok (.getfield 32, 3) := by decide +kernel
theorem d_X7_node_199 : decode c_X7_node 199 = .ok (.iload_n 3, 1) := by decide +kernel
theorem d_X7_node_200 : decode c_X7_node 200 = .ok (.iaload, 1) := by decide +kernel
theorem d_X7_node_201 : decode c_X7_node 201 = .ok (.goto 4, 3) := by decide +kernel
theorem d_X7_node_204 : decode c_X7_node 204 = .ok (.iconst 0, 1) := by decide +kernel
theorem d_X7_node_205 : decode c_X7_node 205 = .ok (.invokevirtual 92, 3) := by decide +kernel
theorem d_X7_node_208 : decode c_X7_node 208 = .ok (.istore 7, 2) := by decide +kernel
theorem d_X7_node_210 : decode c_X7_node 210 = .ok (.aload_n 0, 1) := by decide +kernel
theorem d_X7_node_211 : decode c_X7_node 211 = .ok (.iload 7, 2) := by decide +kernel
theorem d_X7_node_213 : decode c_X7_node 213 = .ok (.iload 10, 2) := by decide +kernel
theorem d_X7_node_215 : decode c_X7_node 215 = .ok (.iload 10, 2) := by decide +kernel
theorem d_X7_node_217 : decode c_X7_node 217 = .ok (.ifCond .eq 13, 3) := by decide +kernel
theorem d_X7_node_220 : decode c_X7_node 220 = .ok (.aload_n 0, 1) := by decide +kernel
theorem d_X7_node_221 : decode c_X7_node 221 = .ok (.getfield 32, 3) := by decide +kernel
theorem d_X7_node_224 : decode c_X7_node 224 = .ok (.iload 4, 2) := by decide +kernel
theorem d_X7_node_226 : decode c_X7_node 226 = .ok (.iaload, 1) := by decide +kernel
theorem d_X7_node_227 : decode c_X7_node 227 = .ok (.goto 4, 3) := by decide +kernel
theorem d_X7_node_230 : decode c_X7_node 230 = .ok (.iconst 0, 1) := by decide +kernel
theorem d_X7_node_231 : decode c_X7_node 231 = .ok (.invokevirtual 92, 3) := by decide +kernel
theorem d_X7_node_234 : decode c_X7_node 234 = .ok (.istore 7, 2) := by decide +kernel
theorem d_X7_node_236 : decode c_X7_node 236 = .ok (.iload 6, 2) := by decide +kernel
theorem d_X7_node_238 : decode c_X7_node 238 = .ok (.bipush 10, 2) := by decide +kernel
theorem d_X7_node_240 : decode c_X7_node 240 = .ok (.if_icmp .ne 5, 3) := by decide +kernel
theorem d_X7_node_243 : decode c_X7_node 243 = .ok (.iconst (-1), 1) := by decide +kernel
theorem d_X7_node_244 : decode c_X7_node 244 = .ok (.ireturn, 1) := by decide +kernel
theorem d_X7_node_245 : decode c_X7_node 245 = .ok (.aload_n 0, 1) := by decide +kernel
theorem d_X7_node_246 : decode c_X7_node 246 = .ok (.getfield 7, 3) := by decide +kernel
theorem d_X7_node_249 : decode c_X7_node 249 = .ok (.bipush 70, 2) := by decide +kernel
theorem d_X7_node_251 : decode c_X7_node 251 = .ok (.if_icmp .ne 6, 3) := by decide +kernel
theorem d_X7_node_254 : decode c_X7_node 254 = .ok (.bipush (-2), 2) := by decide +kernel
theorem d_X7_node_256 : decode c_X7_node 256 = .ok (.ireturn, 1) := by decide +kernel
theorem d_X7_node_257 : decode c_X7_node 257 = .ok (.aload_n 0, 1) := by decide +kernel
theorem d_X7_node_258 : decode c_X7_node 258 = .ok (.getfield 16, 3) := by decide +kernel
theorem d_X7_node_261 : decode c_X7_node 261 = .ok (.aload_n 0, 1) := by decide +kernel
theorem d_X7_node_262 : decode c_X7_node 262 = .ok (.getfield 7, 3) := by decide +kernel
theorem d_X7_node_265 : decode c_X7_node 265 = .ok (.iload_n 1, 1) := by decide +kernel
theorem d_X7_node_266 : decode c_X7_node 266 = .ok (.iastore, 1) := by decide +kernel
theorem d_X7_node_267 : decode c_X7_node 267 = .ok (.aload_n 0, 1) := by decide +kernel
theorem d_X7_node_268 : decode c_X7_node 268 = .ok (.getfield 20, 3) := by decide +kernel
theorem d_X7_node_271 : decode c_X7_node 271 = .ok (.aload_n 0, 1) := by decide +kernel
theorem d_X7_node_272 : decode c_X7_node 272 = .ok (.getfield 7, 3) := by decide +kernel
theorem d_X7_node_275 : decode c_X7_node 275 = .ok (.iload_n 2, 1) := by decide +kernel
theorem d_X7_node_276 : decode c_X7_node 276 = .ok (.iastore, 1) := by decide +kernel
theorem d_X7_node_277 : decode c_X7_node 277 = .ok (.aload_n 0, 1) := by decide +kernel
theorem d_X7_node_278 : decode c_X7_node 278 = .ok (.getfield 23, 3) := by decide +kernel
theorem d_X7_node_281 : decode c_X7_node 281 = .ok (.aload_n 0, 1) := by decide +kernel
theorem d_X7_node_282 : decode c_X7_node 282 = .ok (.getfield 7, 3) := by decide +kernel
theorem d_X7_node_285 : decode c_X7_node 285 = .ok (.iload_n 3, 1) := by decide +kernel
theorem d_X7_node_286 : decode c_X7_node 286 = .ok (.iastore, 1) := by decide +kernel
theorem d_X7_node_287 : decode c_X7_node 287 = .ok (.aload_n 0, 1) := by decide +kernel
theorem d_X7_node_288 : decode c_X7_node 288 = .ok (.getfield 26, 3) := by decide +kernel
theorem d_X7_node_291 : decode c_X7_node 291 = .ok (.aload_n 0, 1) := by decide +kernel
theorem d_X7_node_292 : decode c_X7_node 292 = .ok (.getfield 7, 3) := by decide +kernel
theorem d_X7_node_295 : decode c_X7_node 295 = .ok (.iload 4, 2) := by decide +kernel
theorem d_X7_node_297 : decode c_X7_node 297 = .ok (.iastore, 1) := by decide +kernel
theorem d_X7_node_298 : decode c_X7_node 298 = .ok (.aload_n 0, 1) := by decide +kernel
theorem d_X7_node_299 : decode c_X7_node 299 = .ok (.getfield 29, 3) := by decide +kernel
theorem d_X7_node_302 : decode c_X7_node 302 = .ok (.aload_n 0, 1) := by decide +kernel
theorem d_X7_node_303 : decode c_X7_node 303 = .ok (.getfield 7, 3) := by decide +kernel
theorem d_X7_node_306 : decode c_X7_node 306 = .ok (.iload 6, 2) := by decide +kernel
theorem d_X7_node_308 : decode c_X7_node 308 = .ok (.iconst 1, 1) := by decide +kernel
theorem d_X7_node_309 : decode c_X7_node 309 = .ok (.iadd, 1) := by decide +kernel
theorem d_X7_node_310 : decode c_X7_node 310 = .ok (.iastore, 1) := by decide +kernel
theorem d_X7_node_311 : decode c_X7_node 311 = .ok (.aload_n 0, 1) := by decide +kernel
theorem d_X7_node_312 : decode c_X7_node 312 = .ok (.getfield 32, 3) := by decide +kernel
theorem d_X7_node_315 : decode c_X7_node 315 = .ok (.aload_n 0, 1) := by decide +kernel
theorem d_X7_node_316 : decode c_X7_node 316 = .ok (.getfield 7, 3) := by decide +kernel
theorem d_X7_node_319 : decode c_X7_node 319 = .ok (.iload 7, 2) := by decide +kernel
theorem d_X7_node_321 : decode c_X7_node 321 = .ok (.iastore, 1) := by decide +kernel
theorem d_X7_node_322 : decode c_X7_node 322 = .ok (.aload_n 0, 1) := by decide +kernel
theorem d_X7_node_323 : decode c_X7_node 323 = .ok (.dup, 1) := by decide +kernel
theorem d_X7_node_324 : decode c_X7_node 324 = .ok (.getfield 7, 3) := by decide +kernel
theorem d_X7_node_327 : decode c_X7_node 327 = .ok (.iconst 1, 1) := by decide +kernel
theorem d_X7_node_328 : decode c_X7_node 328 = .ok (.iadd, 1) := by decide +kernel
theorem d_X7_node_329 : decode c_X7_node 329 = .ok (.putfield 7, 3) := by decide +kernel
theorem d_X7_node_332 : decode c_X7_node 332 = .ok (.aload_n 0, 1) := by decide +kernel
theorem d_X7_node_333 : decode c_X7_node 333 = .ok (.getfield 7, 3) := by decide +kernel
theorem d_X7_node_336 : decode c_X7_node 336 = .ok (.iconst 1, 1) := by decide +kernel
theorem d_X7_node_337 : decode c_X7_node 337 = .ok (.isub, 1) := by decide +kernel
theorem d_X7_node_338 : decode c_X7_node 338 = .ok (.ireturn, 1) := by decide +kernel
theorem d_X7_define_0 : decode c_X7_define 0 = .ok (.aload_n 0, 1) := by decide +kernel
theorem d_X7_define_1 : decode c_X7_define 1 = .ok (.iload_n 1, 1) := by decide +kernel
theorem d_X7_define_2 : decode c_X7_define 2 = .ok (.iconst 0, 1) := by decide +kernel
theorem d_X7_define_3 : decode c_X7_define 3 = .ok (.bipush 7, 2) := by decide +kernel
theorem d_X7_define_5 : decode c_X7_define 5 = .ok (.invokevirtual 76, 3) := by decide +kernel
theorem d_X7_define_8 : decode c_X7_define 8 = .ok (.ifCond .ne 21, 3) := by decide +kernel
theorem d_X7_define_11 : decode c_X7_define 11 = .ok (.aload_n 0, 1) := by decide +kernel
theorem d_X7_define_12 : decode c_X7_define 12 = .ok (.iload_n 2, 1) := by decide +kernel
theorem d_X7_define_13 : decode c_X7_define 13 = .ok (.invokevirtual 84, 3) := by decide +kernel
theorem d_X7_define_16 : decode c_X7_define 16 = .ok (.ifCond .eq 13, 3) := by decide +kernel
theorem d_X7_define_19 : decode c_X7_define 19 = .ok (.aload_n 0, 1) := by decide +kernel
theorem d_X7_define_20 : decode c_X7_define 20 = .ok (.getfield 32, 3) := by decide +kernel
theorem d_X7_define_23 : decode c_X7_define 23 = .ok (.iload_n 2, 1) := by decide +kernel
theorem d_X7_define_24 : decode c_X7_define 24 = .ok (.iaload, 1) := by decide +kernel
theorem d_X7_define_25 : decode c_X7_define 25 = .ok (.iload_n 1, 1) := by decide +kernel
theorem d_X7_define_26 : decode c_X7_define 26 = .ok (.if_icmp .le 5, 3) := by decide +kernel
theorem d_X7_define_29 : decode c_X7_define 29 = .ok (.iconst (-1), 1) := by decide +kernel
theorem d_X7_define_30 : decode c_X7_define 30 = .ok (.ireturn, 1) := by decide +kernel
theorem d_X7_define_31 : decode c_X7_define 31 = .ok (.aload_n 0, 1) := by decide +kernel
theorem d_X7_define_32 : decode c_X7_define 32 = .ok (.getfield 35, 3) := by decide +kernel
theorem d_X7_define_35 : decode c_X7_define 35 = .ok (.iload_n 1, 1) := by decide +kernel
theorem d_X7_define_36 : decode c_X7_define 36 = .ok (.iload_n 2, 1) := by decide +kernel
theorem d_X7_define_37 : decode c_X7_define 37 = .ok (.iastore, 1) := by decide +kernel
theorem d_X7_define_38 : decode c_X7_define 38 = .ok (.iconst 0, 1) := by decide +kernel
theorem d_X7_define_39 : decode c_X7_define 39 = .ok (.ireturn, 1) := by decide +kernel
theorem d_X7_undefine_0 : decode c_X7_undefine 0 = .ok (.aload_n 0, 1) := by decide +kernel
theorem d_X7_undefine_1 : decode c_X7_undefine 1 = .ok (.iload_n 1, 1) := by decide +kernel
theorem d_X7_undefine_2 : decode c_X7_undefine 2 = .ok (.iconst 0, 1) := by decide +kernel
theorem d_X7_undefine_3 : decode c_X7_undefine 3 = .ok (.bipush 7, 2) := by decide +kernel
theorem d_X7_undefine_5 : decode c_X7_undefine 5 = .ok (.invokevirtual 76, 3) := by decide +kernel
theorem d_X7_undefine_8 : decode c_X7_undefine 8 = .ok (.ifCond .eq 5, 3) := by decide +kernel
theorem d_X7_undefine_11 : decode c_X7_undefine 11 = .ok (.iconst (-1), 1) := by decide +kernel
theorem d_X7_undefine_12 : decode c_X7_undefine 12 = .ok (.ireturn, 1) := by decide +kernel
theorem d_X7_undefine_13 : decode c_X7_undefine 13 = .ok (.aload_n 0, 1) := by decide +kernel
theorem d_X7_undefine_14 : decode c_X7_undefine 14 = .ok (.getfield 35, 3) := by decide +kernel
theorem d_X7_undefine_17 : decode c_X7_undefine 17 = .ok (.iload_n 1, 1) := by decide +kernel
theorem d_X7_undefine_18 : decode c_X7_undefine 18 = .ok (.iconst (-1), 1) := by decide +kernel
theorem d_X7_undefine_19 : decode c_X7_undefine 19 = .ok (.iastore, 1) := by decide +kernel
theorem d_X7_undefine_20 : decode c_X7_undefine 20 = .ok (.iconst 0, 1) := by decide +kernel
theorem d_X7_undefine_21 : decode c_X7_undefine 21 = .ok (.ireturn, 1) := by decide +kernel
theorem d_X7_step_0 : decode c_X7_step 0 = .ok (.aload_n 0, 1) := by decide +kernel
theorem d_X7_step_1 : decode c_X7_step 1 = .ok (.iload_n 1, 1) := by decide +kernel
theorem d_X7_step_2 : decode c_X7_step 2 = .ok (.iconst 0, 1) := by decide +kernel
theorem d_X7_step_3 : decode c_X7_step 3 = .ok (.iconst 1, 1) := by decide +kernel
theorem d_X7_step_4 : decode c_X7_step 4 = .ok (.invokevirtual 76, 3) := by decide +kernel
theorem d_X7_step_7 : decode c_X7_step 7 = .ok (.ifCond .ne 50, 3) := by decide +kernel
theorem d_X7_step_10 : decode c_X7_step 10 = .ok (.iload_n 2, 1) := by decide +kernel
theorem d_X7_step_11 : decode c_X7_step 11 = .ok (.iconst 1, 1) := by decide +kernel
theorem d_X7_step_12 : decode c_X7_step 12 = .ok (.if_icmp .lt 45, 3) := by decide +kernel
theorem d_X7_step_15 : decode c_X7_step 15 = .ok (.aload_n 0, 1) := by decide +kernel
theorem d_X7_step_16 : decode c_X7_step 16 = .ok (.iload_n 3, 1) := by decide +kernel
theorem d_X7_step_17 : decode c_X7_step 17 = .ok (.iconst 0, 1) := by decide +kernel
theorem d_X7_step_18 : decode c_X7_step 18 = .ok (.sipush 1000, 3) := by decide +kernel
theorem d_X7_step_21 : decode c_X7_step 21 = .ok (.invokevirtual 76, 3) := by decide +kernel
theorem d_X7_step_24 : decode c_X7_step 24 = .ok (.ifCond .ne 33, 3) := by decide +kernel
theorem d_X7_step_27 : decode c_X7_step 27 = .ok (.aload_n 0, 1) := by decide +kernel
theorem d_X7_step_28 : decode c_X7_step 28 = .ok (.getfield 38, 3) := by decide +kernel
theorem d_X7_step_31 : decode c_X7_step 31 = .ok (.iload_n 1, 1) := by decide +kernel
theorem d_X7_step_32 : decode c_X7_step 32 = .ok (.iaload, 1) := by decide +kernel
theorem d_X7_step_33 : decode c_X7_step 33 = .ok (.ifCond .le 26, 3) := by decide +kernel
theorem d_X7_step_36 : decode c_X7_step 36 = .ok (.iload_n 2, 1) := by decide +kernel
theorem d_X7_step_37 : decode c_X7_step 37 = .ok (.aload_n 0, 1) := by decide +kernel
theorem d_X7_step_38 : decode c_X7_step 38 = .ok (.getfield 41, 3) := by decide +kernel
theorem d_X7_step_41 : decode c_X7_step 41 = .ok (.iload_n 1, 1) := by decide +kernel
theorem d_X7_step_42 : decode c_X7_step 42 = .ok (.iconst 5, 1) := by decide +kernel
theorem d_X7_step_43 : decode c_X7_step 43 = .ok (.imul, 1) := by decide +kernel
theorem d_X7_step_44 : decode c_X7_step 44 = .ok (.aload_n 0, 1) := by decide +kernel
theorem d_X7_step_45 : decode c_X7_step 45 = .ok (.getfield 38, 3) := by decide +kernel
theorem d_X7_step_48 : decode c_X7_step 48 = .ok (.iload_n 1, 1) := by decide +kernel
theorem d_X7_step_49 : decode c_X7_step 49 = .ok (.iaload, 1) := by decide +kernel
theorem d_X7_step_50 : decode c_X7_step 50 = .ok (.iadd, 1) := by decide +kernel
theorem d_X7_step_51 : decode c_X7_step 51 = .ok (.iconst 1, 1) := by decide +kernel
theorem d_X7_step_52 : decode c_X7_step 52 = .ok (.isub, 1) := by decide +kernel
theorem d_X7_step_53 : decode c_X7_step 53 = .ok (.iaload, 1) := by decide +kernel
theorem d_X7_step_54 : decode c_X7_step 54 = .ok (.if_icmp .gt 5, 3) := by decide +kernel
theorem d_X7_step_57 : decode c_X7_step 57 = .ok (.iconst (-1), 1) := by decide +kernel
theorem d_X7_step_58 : decode c_X7_step 58 = .ok (.ireturn, 1) := by decide +kernel
theorem d_X7_step_59 : decode c_X7_step 59 = .ok (.aload_n 0, 1) := by decide +kernel
theorem d_X7_step_60 : decode c_X7_step 60 = .ok (.getfield 38, 3) := by decide +kernel
theorem d_X7_step_63 : decode c_X7_step 63 = .ok (.iload_n 1, 1) := by decide +kernel
theorem d_X7_step_64 : decode c_X7_step 64 = .ok (.iaload, 1) := by decide +kernel
theorem d_X7_step_65 : decode c_X7_step 65 = .ok (.iconst 5, 1) := by decide +kernel
theorem d_X7_step_66 : decode c_X7_step 66 = .ok (.if_icmp .ne 6, 3) := by decide +kernel
theorem d_X7_step_69 : decode c_X7_step 69 = .ok (.bipush (-2), 2) := by decide +kernel
theorem d_X7_step_71 : decode c_X7_step 71 = .ok (.ireturn, 1) := by decide +kernel
theorem d_X7_step_72 : decode c_X7_step 72 = .ok (.aload_n 0, 1) := by decide +kernel
theorem d_X7_step_73 : decode c_X7_step 73 = .ok (.getfield 41, 3) := by decide +kernel
theorem d_X7_step_76 : decode c_X7_step 76 = .ok (.iload_n 1, 1) := by decide +kernel
theorem d_X7_step_77 : decode c_X7_step 77 = .ok (.iconst 5, 1) := by decide +kernel
theorem d_X7_step_78 : decode c_X7_step 78 = .ok (.imul, 1) := by decide +kernel
theorem d_X7_step_79 : decode c_X7_step 79 = .ok (.aload_n 0, 1) := by decide +kernel
theorem d_X7_step_80 : decode c_X7_step 80 = .ok (.getfield 38, 3) := by decide +kernel
theorem d_X7_step_83 : decode c_X7_step 83 = .ok (.iload_n 1, 1) := by decide +kernel
theorem d_X7_step_84 : decode c_X7_step 84 = .ok (.iaload, 1) := by decide +kernel
theorem d_X7_step_85 : decode c_X7_step 85 = .ok (.iadd, 1) := by decide +kernel
theorem d_X7_step_86 : decode c_X7_step 86 = .ok (.iload_n 2, 1) := by decide +kernel
theorem d_X7_step_87 : decode c_X7_step 87 = .ok (.iastore, 1) := by decide +kernel
theorem d_X7_step_88 : decode c_X7_step 88 = .ok (.aload_n 0, 1) := by decide +kernel
theorem d_X7_step_89 : decode c_X7_step 89 = .ok (.getfield 44, 3) := by decide +kernel
theorem d_X7_step_92 : decode c_X7_step 92 = .ok (.iload_n 1, 1) := by decide +kernel
theorem d_X7_step_93 : decode c_X7_step 93 = .ok (.iconst 5, 1) := by decide +kernel
theorem d_X7_step_94 : decode c_X7_step 94 = .ok (.imul, 1) := by decide +kernel
theorem d_X7_step_95 : decode c_X7_step 95 = .ok (.aload_n 0, 1) := by decide +kernel
theorem d_X7_step_96 : decode c_X7_step 96 = .ok (.getfield 38, 3) := by decide +kernel
theorem d_X7_step_99 : decode c_X7_step 99 = .ok (.iload_n 1, 1) := by decide +kernel
theorem d_X7_step_100 : decode c_X7_step 100 = .ok (.iaload, 1) := by decide +kernel
theorem d_X7_step_101 : decode c_X7_step 101 = .ok (.iadd, 1) := by decide +kernel
theorem d_X7_step_102 : decode c_X7_step 102 = .ok (.iload_n 3, 1) := by decide +kernel
theorem d_X7_step_103 : decode c_X7_step 103 = .ok (.iastore, 1) := by decide +kernel
theorem d_X7_step_104 : decode c_X7_step 104 = .ok (.aload_n 0, 1) := by decide +kernel
theorem d_X7_step_105 : decode c_X7_step 105 = .ok (.getfield 38, 3) := by decide +kernel
theorem d_X7_step_108 : decode c_X7_step 108 = .ok (.iload_n 1, 1) := by decide +kernel
theorem d_X7_step_109 : decode c_X7_step 109 = .ok (.dup2, 1) := by decide +kernel
theorem d_X7_step_110 : decode c_X7_step 110 = .ok (.iaload, 1) := by decide +kernel
theorem d_X7_step_111 : decode c_X7_step 111 = .ok (.iconst 1, 1) := by decide +kernel
theorem d_X7_step_112 : decode c_X7_step 112 = .ok (.iadd, 1) := by decide +kernel
theorem d_X7_step_113 : decode c_X7_step 113 = .ok (.iastore, 1) := by decide +kernel
theorem d_X7_step_114 : decode c_X7_step 114 = .ok (.aload_n 0, 1) := by decide +kernel
theorem d_X7_step_115 : decode c_X7_step 115 = .ok (.getfield 38, 3) := by decide +kernel
theorem d_X7_step_118 : decode c_X7_step 118 = .ok (.iload_n 1, 1) := by decide +kernel
theorem d_X7_step_119 : decode c_X7_step 119 = .ok (.iaload, 1) := by decide +kernel
theorem d_X7_step_120 : decode c_X7_step 120 = .ok (.ireturn, 1) := by decide +kernel
theorem d_X7_clear_0 : decode c_X7_clear 0 = .ok (.aload_n 0, 1) := by decide +kernel
theorem d_X7_clear_1 : decode c_X7_clear 1 = .ok (.iload_n 1, 1) := by decide +kernel
theorem d_X7_clear_2 : decode c_X7_clear 2 = .ok (.iconst 0, 1) := by decide +kernel
theorem d_X7_clear_3 : decode c_X7_clear 3 = .ok (.iconst 1, 1) := by decide +kernel
theorem d_X7_clear_4 : decode c_X7_clear 4 = .ok (.invokevirtual 76, 3) := by decide +kernel
theorem d_X7_clear_7 : decode c_X7_clear 7 = .ok (.ifCond .eq 5, 3) := by decide +kernel
theorem d_X7_clear_10 : decode c_X7_clear 10 = .ok (.iconst (-1), 1) := by decide +kernel
theorem d_X7_clear_11 : decode c_X7_clear 11 = .ok (.ireturn, 1) := by decide +kernel
theorem d_X7_clear_12 : decode c_X7_clear 12 = .ok (.aload_n 0, 1) := by decide +kernel
theorem d_X7_clear_13 : decode c_X7_clear 13 = .ok (.getfield 38, 3) := by decide +kernel
theorem d_X7_clear_16 : decode c_X7_clear 16 = .ok (.iload_n 1, 1) := by decide +kernel
theorem d_X7_clear_17 : decode c_X7_clear 17 = .ok (.iaload, 1) := by decide +kernel
theorem d_X7_clear_18 : decode c_X7_clear 18 = .ok (.istore_n 2, 1) := by decide +kernel
theorem d_X7_clear_19 : decode c_X7_clear 19 = .ok (.aload_n 0, 1) := by decide +kernel
theorem d_X7_clear_20 : decode c_X7_clear 20 = .ok (.getfield 38, 3) := by decide +kernel
theorem d_X7_clear_23 : decode c_X7_clear 23 = .ok (.iload_n 1, 1) := by decide +kernel
theorem d_X7_clear_24 : decode c_X7_clear 24 = .ok (.iconst 0, 1) := by decide +kernel
theorem d_X7_clear_25 : decode c_X7_clear 25 = .ok (.iastore, 1) := by decide +kernel
theorem d_X7_clear_26 : decode c_X7_clear 26 = .ok (.iload_n 2, 1) := by decide +kernel
theorem d_X7_clear_27 : decode c_X7_clear 27 = .ok (.ireturn, 1) := by decide +kernel
theorem d_X7_input_0 : decode c_X7_input 0 = .ok (.aload_n 0, 1) := by decide +kernel
theorem d_X7_input_1 : decode c_X7_input 1 = .ok (.iload_n 1, 1) := by decide +kernel
theorem d_X7_input_2 : decode c_X7_input 2 = .ok (.iconst 0, 1) := by decide +kernel
theorem d_X7_input_3 : decode c_X7_input 3 = .ok (.iconst 5, 1) := by decide +kernel
theorem d_X7_input_4 : decode c_X7_input 4 = .ok (.invokevirtual 76, 3) := by decide +kernel
theorem d_X7_input_7 : decode c_X7_input 7 = .ok (.ifCond .ne 14, 3) := by decide +kernel
theorem d_X7_input_10 : decode c_X7_input 10 = .ok (.aload_n 0, 1) := by decide +kernel
theorem d_X7_input_11 : decode c_X7_input 11 = .ok (.iload_n 2, 1) := by decide +kernel
theorem d_X7_input_12 : decode c_X7_input 12 = .ok (.iconst 0, 1) := by decide +kernel
theorem d_X7_input_13 : decode c_X7_input 13 = .ok (.bipush 7, 2) := by decide +kernel
theorem d_X7_input_15 : decode c_X7_input 15 = .ok (.invokevirtual 76, 3) := by decide +kernel
theorem d_X7_input_18 : decode c_X7_input 18 = .ok (.ifCond .eq 5, 3) := by decide +kernel
theorem d_X7_input_21 : decode c_X7_input 21 = .ok (.iconst (-1), 1) := by decide +kernel
theorem d_X7_input_22 : decode c_X7_input 22 = .ok (.ireturn, 1) := by decide +kernel
theorem d_X7_input_23 : decode c_X7_input 23 = .ok (.aload_n 0, 1) := by decide +kernel
theorem d_X7_input_24 : decode c_X7_input 24 = .ok (.getfield 47, 3) := by decide +kernel
theorem d_X7_input_27 : decode c_X7_input 27 = .ok (.iload_n 1, 1) := by decide +kernel
theorem d_X7_input_28 : decode c_X7_input 28 = .ok (.bipush 8, 2) := by decide +kernel
theorem d_X7_input_30 : decode c_X7_input 30 = .ok (.imul, 1) := by decide +kernel
theorem d_X7_input_31 : decode c_X7_input 31 = .ok (.iload_n 2, 1) := by decide +kernel
theorem d_X7_input_32 : decode c_X7_input 32 = .ok (.iadd, 1) := by decide +kernel
theorem d_X7_input_33 : decode c_X7_input 33 = .ok (.iload_n 3, 1) := by decide +kernel
theorem d_X7_input_34 : decode c_X7_input 34 = .ok (.iastore, 1) := by decide +kernel
theorem d_X7_input_35 : decode c_X7_input 35 = .ok (.iconst 0, 1) := by decide +kernel
theorem d_X7_input_36 : decode c_X7_input 36 = .ok (.ireturn, 1) := by decide +kernel
theorem d_X7_activate_0 : decode c_X7_activate 0 = .ok (.aload_n 0, 1) := by decide +kernel
theorem d_X7_activate_1 : decode c_X7_activate 1 = .ok (.iload_n 1, 1) := by decide +kernel
theorem d_X7_activate_2 : decode c_X7_activate 2 = .ok (.iconst 0, 1) := by decide +kernel
theorem d_X7_activate_3 : decode c_X7_activate 3 = .ok (.iconst 5, 1) := by decide +kernel
theorem d_X7_activate_4 : decode c_X7_activate 4 = .ok (.invokevirtual 76, 3) := by decide +kernel
theorem d_X7_activate_7 : decode c_X7_activate 7 = .ok (.ifCond .eq 5, 3) := by decide +kernel
theorem d_X7_activate_10 : decode c_X7_activate 10 = .ok (.iconst (-1), 1) := by decide +kernel
theorem d_X7_activate_11 : decode c_X7_activate 11 = .ok (.ireturn, 1) := by decide +kernel
theorem d_X7_activate_12 : decode c_X7_activate 12 = .ok (.aload_n 0, 1) := by decide +kernel
theorem d_X7_activate_13 : decode c_X7_activate 13 = .ok (.getfield 50, 3) := by decide +kernel
theorem d_X7_activate_16 : decode c_X7_activate 16 = .ok (.iload_n 1, 1) := by decide +kernel
theorem d_X7_activate_17 : decode c_X7_activate 17 = .ok (.iload_n 2, 1) := by decide +kernel
theorem d_X7_activate_18 : decode c_X7_activate 18 = .ok (.bastore, 1) := by decide +kernel
theorem d_X7_activate_19 : decode c_X7_activate 19 = .ok (.iconst 0, 1) := by decide +kernel
theorem d_X7_activate_20 : decode c_X7_activate 20 = .ok (.ireturn, 1) := by decide +kernel
theorem d_X7_whole_0 : decode c_X7_whole 0 = .ok (.lload_n 1, 1) := by decide +kernel
theorem d_X7_whole_1 : decode c_X7_whole 1 = .ok (.ldc2_w 96, 3) := by decide +kernel
theorem d_X7_whole_4 : decode c_X7_whole 4 = .ok (.lcmp, 1) := by decide +kernel
theorem d_X7_whole_5 : decode c_X7_whole 5 = .ok (.ifCond .lt 15, 3) := by decide +kernel
theorem d_X7_whole_8 : decode c_X7_whole 8 = .ok (.lload_n 1, 1) := by decide +kernel
theorem d_X7_whole_9 : decode c_X7_whole 9 = .ok (.ldc2_w 98, 3) := by decide +kernel
theorem d_X7_whole_12 : decode c_X7_whole 12 = .ok (.lcmp, 1) := by decide +kernel
theorem d_X7_whole_13 : decode c_X7_whole 13 = .ok (.ifCond .gt 7, 3) := by decide +kernel
theorem d_X7_whole_16 : decode c_X7_whole 16 = .ok (.iconst 1, 1) := by decide +kernel
theorem d_X7_whole_17 : decode c_X7_whole 17 = .ok (.goto 4, 3) := by decide +kernel
theorem d_X7_whole_20 : decode c_X7_whole 20 = .ok (.iconst 0, 1) := by decide +kernel
theorem d_X7_whole_21 : decode c_X7_whole 21 = .ok (.ireturn, 1) := by decide +kernel
theorem d_X7_ranged_0 : decode c_X7_ranged 0 = .ok (.aload_n 0, 1) := by decide +kernel
theorem d_X7_ranged_1 : decode c_X7_ranged 1 = .ok (.lload_n 1, 1) := by decide +kernel
theorem d_X7_ranged_2 : decode c_X7_ranged 2 = .ok (.invokevirtual 100, 3) := by decide +kernel
theorem d_X7_ranged_5 : decode c_X7_ranged 5 = .ok (.ifCond .eq 7, 3) := by decide +kernel
theorem d_X7_ranged_8 : decode c_X7_ranged 8 = .ok (.lload_n 1, 1) := by decide +kernel
theorem d_X7_ranged_9 : decode c_X7_ranged 9 = .ok (.goto 6, 3) := by decide +kernel
theorem d_X7_ranged_12 : decode c_X7_ranged 12 = .ok (.ldc2_w 104, 3) := by decide +kernel
theorem d_X7_ranged_15 : decode c_X7_ranged 15 = .ok (.lreturn, 1) := by decide +kernel
theorem d_X7_rounded_0 : decode c_X7_rounded 0 = .ok (.lload_n 1, 1) := by decide +kernel
theorem d_X7_rounded_1 : decode c_X7_rounded 1 = .ok (.lconst 0, 1) := by decide +kernel
theorem d_X7_rounded_2 : decode c_X7_rounded 2 = .ok (.lcmp, 1) := by decide +kernel
theorem d_X7_rounded_3 : decode c_X7_rounded 3 = .ok (.ifCond .ge 8, 3) := by decide +kernel
theorem d_X7_rounded_6 : decode c_X7_rounded 6 = .ok (.lload_n 1, 1) := by decide +kernel
theorem d_X7_rounded_7 : decode c_X7_rounded 7 = .ok (.lneg, 1) := by decide +kernel
theorem d_X7_rounded_8 : decode c_X7_rounded 8 = .ok (.goto 4, 3) := by decide +kernel
theorem d_X7_rounded_11 : decode c_X7_rounded 11 = .ok (.lload_n 1, 1) := by decide +kernel
theorem d_X7_rounded_12 : decode c_X7_rounded 12 = .ok (.lstore 5, 2) := by decide +kernel
theorem d_X7_rounded_14 : decode c_X7_rounded 14 = .ok (.lload_n 3, 1) := by decide +kernel
theorem d_X7_rounded_15 : decode c_X7_rounded 15 = .ok (.lconst 0, 1) := by decide +kernel
theorem d_X7_rounded_16 : decode c_X7_rounded 16 = .ok (.lcmp, 1) := by decide +kernel
theorem d_X7_rounded_17 : decode c_X7_rounded 17 = .ok (.ifCond .ge 8, 3) := by decide +kernel
theorem d_X7_rounded_20 : decode c_X7_rounded 20 = .ok (.lload_n 3, 1) := by decide +kernel
theorem d_X7_rounded_21 : decode c_X7_rounded 21 = .ok (.lneg, 1) := by decide +kernel
theorem d_X7_rounded_22 : decode c_X7_rounded 22 = .ok (.goto 4, 3) := by decide +kernel
theorem d_X7_rounded_25 : decode c_X7_rounded 25 = .ok (.lload_n 3, 1) := by decide +kernel
theorem d_X7_rounded_26 : decode c_X7_rounded 26 = .ok (.lstore 7, 2) := by decide +kernel
theorem d_X7_rounded_28 : decode c_X7_rounded 28 = .ok (.lload 5, 2) := by decide +kernel
theorem d_X7_rounded_30 : decode c_X7_rounded 30 = .ok (.lload 7, 2) := by decide +kernel
theorem d_X7_rounded_32 : decode c_X7_rounded 32 = .ok (.ldiv, 1) := by decide +kernel
theorem d_X7_rounded_33 : decode c_X7_rounded 33 = .ok (.lstore 9, 2) := by decide +kernel
theorem d_X7_rounded_35 : decode c_X7_rounded 35 = .ok (.lload 5, 2) := by decide +kernel
theorem d_X7_rounded_37 : decode c_X7_rounded 37 = .ok (.lload 7, 2) := by decide +kernel
theorem d_X7_rounded_39 : decode c_X7_rounded 39 = .ok (.lrem, 1) := by decide +kernel
theorem d_X7_rounded_40 : decode c_X7_rounded 40 = .ok (.lstore 11, 2) := by decide +kernel
theorem d_X7_rounded_42 : decode c_X7_rounded 42 = .ok (.lload 11, 2) := by decide +kernel
theorem d_X7_rounded_44 : decode c_X7_rounded 44 = .ok (.lload 7, 2) := by decide +kernel
theorem d_X7_rounded_46 : decode c_X7_rounded 46 = .ok (.lload 11, 2) := by decide +kernel
theorem d_X7_rounded_48 : decode c_X7_rounded 48 = .ok (.lsub, 1) := by decide +kernel
theorem d_X7_rounded_49 : decode c_X7_rounded 49 = .ok (.lcmp, 1) := by decide +kernel
theorem d_X7_rounded_50 : decode c_X7_rounded 50 = .ok (.ifCond .lt 9, 3) := by decide +kernel
theorem d_X7_rounded_53 : decode c_X7_rounded 53 = .ok (.lload 9, 2) := by decide +kernel
theorem d_X7_rounded_55 : decode c_X7_rounded 55 = .ok (.lconst 1, 1) := by decide +kernel
theorem d_X7_rounded_56 : decode c_X7_rounded 56 = .ok (.ladd, 1) := by decide +kernel
theorem d_X7_rounded_57 : decode c_X7_rounded 57 = .ok (.lstore 9, 2) := by decide +kernel
theorem d_X7_rounded_59 : decode c_X7_rounded 59 = .ok (.lload_n 1, 1) := by decide +kernel
theorem d_X7_rounded_60 : decode c_X7_rounded 60 = .ok (.lconst 0, 1) := by decide +kernel
theorem d_X7_rounded_61 : decode c_X7_rounded 61 = .ok (.lcmp, 1) := by decide +kernel
theorem d_X7_rounded_62 : decode c_X7_rounded 62 = .ok (.ifCond .ge 7, 3) := by decide +kernel
theorem d_X7_rounded_65 : decode c_X7_rounded 65 = .ok (.iconst 1, 1) := by decide +kernel
theorem d_X7_rounded_66 : decode c_X7_rounded 66 = .ok (.goto 4, 3) := by decide +kernel
theorem d_X7_rounded_69 : decode c_X7_rounded 69 = .ok (.iconst 0, 1) := by decide +kernel
theorem d_X7_rounded_70 : decode c_X7_rounded 70 = .ok (.lload_n 3, 1) := by decide +kernel
theorem d_X7_rounded_71 : decode c_X7_rounded 71 = .ok (.lconst 0, 1) := by decide +kernel
theorem d_X7_rounded_72 : decode c_X7_rounded 72 = .ok (.lcmp, 1) := by decide +kernel
theorem d_X7_rounded_73 : decode c_X7_rounded 73 = .ok (.ifCond .ge 7, 3) := by decide +kernel
theorem d_X7_rounded_76 : decode c_X7_rounded 76 = .ok (.iconst 1, 1) := by decide +kernel
theorem d_X7_rounded_77 : decode c_X7_rounded 77 = .ok (.goto 4, 3) := by decide +kernel
theorem d_X7_rounded_80 : decode c_X7_rounded 80 = .ok (.iconst 0, 1) := by decide +kernel
theorem d_X7_rounded_81 : decode c_X7_rounded 81 = .ok (.if_icmp .eq 9, 3) := by decide +kernel
theorem d_X7_rounded_84 : decode c_X7_rounded 84 = .ok (.lload 9, 2) := by decide +kernel
theorem d_X7_rounded_86 : decode c_X7_rounded 86 = .ok (.lneg, 1) := by decide +kernel
theorem d_X7_rounded_87 : decode c_X7_rounded 87 = .ok (.goto 5, 3) := by decide +kernel
theorem d_X7_rounded_90 : decode c_X7_rounded 90 = .ok (.lload 9, 2) := by decide +kernel
theorem d_X7_rounded_92 : decode c_X7_rounded 92 = .ok (.lreturn, 1) := by decide +kernel
theorem d_X7_stops_0 : decode c_X7_stops 0 = .ok (.lload_n 1, 1) := by decide +kernel
theorem d_X7_stops_1 : decode c_X7_stops 1 = .ok (.ldc2_w 106, 3) := by decide +kernel
theorem d_X7_stops_4 : decode c_X7_stops 4 = .ok (.lcmp, 1) := by decide +kernel
theorem d_X7_stops_5 : decode c_X7_stops 5 = .ok (.ifCond .ne 9, 3) := by decide +kernel
theorem d_X7_stops_8 : decode c_X7_stops 8 = .ok (.ldc2_w 108, 3) := by decide +kernel
theorem d_X7_stops_11 : decode c_X7_stops 11 = .ok (.goto 16, 3) := by decide +kernel
theorem d_X7_stops_14 : decode c_X7_stops 14 = .ok (.lload_n 1, 1) := by decide +kernel
theorem d_X7_stops_15 : decode c_X7_stops 15 = .ok (.ldc2_w 110, 3) := by decide +kernel
theorem d_X7_stops_18 : decode c_X7_stops 18 = .ok (.lcmp, 1) := by decide +kernel
theorem d_X7_stops_19 : decode c_X7_stops 19 = .ok (.ifCond .le 7, 3) := by decide +kernel
theorem d_X7_stops_22 : decode c_X7_stops 22 = .ok (.lload_n 1, 1) := by decide +kernel
theorem d_X7_stops_23 : decode c_X7_stops 23 = .ok (.goto 4, 3) := by decide +kernel
theorem d_X7_stops_26 : decode c_X7_stops 26 = .ok (.lconst 0, 1) := by decide +kernel
theorem d_X7_stops_27 : decode c_X7_stops 27 = .ok (.lreturn, 1) := by decide +kernel
theorem d_X7_scale_0 : decode c_X7_scale 0 = .ok (.lconst 0, 1) := by decide +kernel
theorem d_X7_scale_1 : decode c_X7_scale 1 = .ok (.lstore 4, 2) := by decide +kernel
theorem d_X7_scale_3 : decode c_X7_scale 3 = .ok (.lconst 0, 1) := by decide +kernel
theorem d_X7_scale_4 : decode c_X7_scale 4 = .ok (.lstore 6, 2) := by decide +kernel
theorem d_X7_scale_6 : decode c_X7_scale 6 = .ok (.iload_n 1, 1) := by decide +kernel
theorem d_X7_scale_7 : decode c_X7_scale 7 = .ok (.iconst 5, 1) := by decide +kernel
theorem d_X7_scale_8 : decode c_X7_scale 8 = .ok (.imul, 1) := by decide +kernel
theorem d_X7_scale_9 : decode c_X7_scale 9 = .ok (.istore 8, 2) := by decide +kernel
theorem d_X7_scale_11 : decode c_X7_scale 11 = .ok (.iload 8, 2) := by decide +kernel
theorem d_X7_scale_13 : decode c_X7_scale 13 = .ok (.iload_n 1, 1) := by decide +kernel
theorem d_X7_scale_14 : decode c_X7_scale 14 = .ok (.iconst 5, 1) := by decide +kernel
theorem d_X7_scale_15 : decode c_X7_scale 15 = .ok (.imul, 1) := by decide +kernel
theorem d_X7_scale_16 : decode c_X7_scale 16 = .ok (.aload_n 0, 1) := by decide +kernel
theorem d_X7_scale_17 : decode c_X7_scale 17 = .ok (.getfield 38, 3) := by decide +kernel
theorem d_X7_scale_20 : decode c_X7_scale 20 = .ok (.iload_n 1, 1) := by decide +kernel
theorem d_X7_scale_21 : decode c_X7_scale 21 = .ok (.iaload, 1) := by decide +kernel
theorem d_X7_scale_22 : decode c_X7_scale 22 = .ok (.iadd, 1) := by decide +kernel
theorem d_X7_scale_23 : decode c_X7_scale 23 = .ok (.if_icmp .ge 73, 3) := by decide +kernel
theorem d_X7_scale_26 : decode c_X7_scale 26 = .ok (.lload_n 2, 1) := by decide +kernel
theorem d_X7_scale_27 : decode c_X7_scale 27 = .ok (.aload_n 0, 1) := by decide +kernel
theorem d_X7_scale_28 : decode c_X7_scale 28 = .ok (.getfield 41, 3) := by decide +kernel
theorem d_X7_scale_31 : decode c_X7_scale 31 = .ok (.iload 8, 2) := by decide +kernel
theorem d_X7_scale_33 : decode c_X7_scale 33 = .ok (.iaload, 1) := by decide +kernel
theorem d_X7_scale_34 : decode c_X7_scale 34 = .ok (.i2l, 1) := by decide +kernel
theorem d_X7_scale_35 : decode c_X7_scale 35 = .ok (.lcmp, 1) := by decide +kernel
theorem d_X7_scale_36 : decode c_X7_scale 36 = .ok (.ifCond .ge 7, 3) := by decide +kernel
theorem d_X7_scale_39 : decode c_X7_scale 39 = .ok (.lload_n 2, 1) := by decide +kernel
theorem d_X7_scale_40 : decode c_X7_scale 40 = .ok (.goto 11, 3) := by decide +kernel
theorem d_X7_scale_43 : decode c_X7_scale 43 = .ok (.aload_n 0, 1) := by decide +kernel
theorem d_X7_scale_44 : decode c_X7_scale 44 = .ok (.getfield 41, 3) := by decide +kernel
theorem d_X7_scale_47 : decode c_X7_scale 47 = .ok (.iload 8, 2) := by decide +kernel
theorem d_X7_scale_49 : decode c_X7_scale 49 = .ok (.iaload, 1) := by decide +kernel
theorem d_X7_scale_50 : decode c_X7_scale 50 = .ok (.i2l, 1) := by decide +kernel
theorem d_X7_scale_51 : decode c_X7_scale 51 = .ok (.lstore 9, 2) := by decide +kernel
theorem d_X7_scale_53 : decode c_X7_scale 53 = .ok (.lload 9, 2) := by decide +kernel
theorem d_X7_scale_55 : decode c_X7_scale 55 = .ok (.lload 6, 2) := by decide +kernel
theorem d_X7_scale_57 : decode c_X7_scale 57 = .ok (.lcmp, 1) := by decide +kernel
theorem d_X7_scale_58 : decode c_X7_scale 58 = .ok (.ifCond .le 22, 3) := by decide +kernel
theorem d_X7_scale_61 : decode c_X7_scale 61 = .ok (.lload 4, 2) := by decide +kernel
theorem d_X7_scale_63 : decode c_X7_scale 63 = .ok (.lload 9, 2) := by decide +kernel
theorem d_X7_scale_65 : decode c_X7_scale 65 = .ok (.lload 6, 2) := by decide +kernel
theorem d_X7_scale_67 : decode c_X7_scale 67 = .ok (.lsub, 1) := by decide +kernel
theorem d_X7_scale_68 : decode c_X7_scale 68 = .ok (.aload_n 0, 1) := by decide +kernel
theorem d_X7_scale_69 : decode c_X7_scale 69 = .ok (.getfield 44, 3) := by decide +kernel
theorem d_X7_scale_72 : decode c_X7_scale 72 = .ok (.iload 8, 2) := by decide +kernel
theorem d_X7_scale_74 : decode c_X7_scale 74 = .ok (.iaload, 1) := by decide +kernel
theorem d_X7_scale_75 : decode c_X7_scale 75 = .ok (.i2l, 1) := by decide +kernel
theorem d_X7_scale_76 : decode c_X7_scale 76 = .ok (.lmul, 1) := by decide +kernel
theorem d_X7_scale_77 : decode c_X7_scale 77 = .ok (.ladd, 1) := by decide +kernel
theorem d_X7_scale_78 : decode c_X7_scale 78 = .ok (.lstore 4, 2) := by decide +kernel
theorem d_X7_scale_80 : decode c_X7_scale 80 = .ok (.aload_n 0, 1) := by decide +kernel
theorem d_X7_scale_81 : decode c_X7_scale 81 = .ok (.getfield 41, 3) := by decide +kernel
theorem d_X7_scale_84 : decode c_X7_scale 84 = .ok (.iload 8, 2) := by decide +kernel
theorem d_X7_scale_86 : decode c_X7_scale 86 = .ok (.iaload, 1) := by decide +kernel
theorem d_X7_scale_87 : decode c_X7_scale 87 = .ok (.i2l, 1) := by decide +kernel
theorem d_X7_scale_88 : decode c_X7_scale 88 = .ok (.lstore 6, 2) := by decide +kernel
theorem d_X7_scale_90 : decode c_X7_scale 90 = .ok (.iinc 8 1, 3) := by decide +kernel
theorem d_X7_scale_93 : decode c_X7_scale 93 = .ok (.goto (-82), 3) := by decide +kernel
theorem d_X7_scale_96 : decode c_X7_scale 96 = .ok (.lload_n 2, 1) := by decide +kernel
theorem d_X7_scale_97 : decode c_X7_scale 97 = .ok (.lconst 0, 1) := by decide +kernel
theorem d_X7_scale_98 : decode c_X7_scale 98 = .ok (.lcmp, 1) := by decide +kernel
theorem d_X7_scale_99 : decode c_X7_scale 99 = .ok (.ifCond .gt 7, 3) := by decide +kernel
theorem d_X7_scale_102 : decode c_X7_scale 102 = .ok (.lconst 0, 1) := by decide +kernel
theorem d_X7_scale_103 : decode c_X7_scale 103 = .ok (.goto 12, 3) := by decide +kernel
theorem d_X7_scale_106 : decode c_X7_scale 106 = .ok (.aload_n 0, 1) := by decide +kernel
theorem d_X7_scale_107 : decode c_X7_scale 107 = .ok (.lload 4, 2) := by decide +kernel
theorem d_X7_scale_109 : decode c_X7_scale 109 = .ok (.ldc2_w 112, 3) := by decide +kernel
theorem d_X7_scale_112 : decode c_X7_scale 112 = .ok (.invokevirtual 114, 3) := by decide +kernel
theorem d_X7_scale_115 : decode c_X7_scale 115 = .ok (.lreturn, 1) := by decide +kernel
theorem d_X7_plain_0 : decode c_X7_plain 0 = .ok (.iload_n 1, 1) := by decide +kernel
theorem d_X7_plain_1 : decode c_X7_plain 1 = .ok (.iconst 4, 1) := by decide +kernel
theorem d_X7_plain_2 : decode c_X7_plain 2 = .ok (.if_icmp .ne 12, 3) := by decide +kernel
theorem d_X7_plain_5 : decode c_X7_plain 5 = .ok (.aload_n 0, 1) := by decide +kernel
theorem d_X7_plain_6 : decode c_X7_plain 6 = .ok (.lload_n 2, 1) := by decide +kernel
theorem d_X7_plain_7 : decode c_X7_plain 7 = .ok (.lload 4, 2) := by decide +kernel
theorem d_X7_plain_9 : decode c_X7_plain 9 = .ok (.ladd, 1) := by decide +kernel
theorem d_X7_plain_10 : decode c_X7_plain 10 = .ok (.invokevirtual 118, 3) := by decide +kernel
theorem d_X7_plain_13 : decode c_X7_plain 13 = .ok (.lreturn, 1) := by decide +kernel
theorem d_X7_plain_14 : decode c_X7_plain 14 = .ok (.iload_n 1, 1) := by decide +kernel
theorem d_X7_plain_15 : decode c_X7_plain 15 = .ok (.iconst 5, 1) := by decide +kernel
theorem d_X7_plain_16 : decode c_X7_plain 16 = .ok (.if_icmp .ne 12, 3) := by decide +kernel
theorem d_X7_plain_19 : decode c_X7_plain 19 = .ok (.aload_n 0, 1) := by decide +kernel
theorem d_X7_plain_20 : decode c_X7_plain 20 = .ok (.lload_n 2, 1) := by decide +kernel
theorem d_X7_plain_21 : decode c_X7_plain 21 = .ok (.lload 4, 2) := by decide +kernel
theorem d_X7_plain_23 : decode c_X7_plain 23 = .ok (.lsub, 1) := by decide +kernel
theorem d_X7_plain_24 : decode c_X7_plain 24 = .ok (.invokevirtual 118, 3) := by decide +kernel
theorem d_X7_plain_27 : decode c_X7_plain 27 = .ok (.lreturn, 1) := by decide +kernel
theorem d_X7_plain_28 : decode c_X7_plain 28 = .ok (.iload_n 1, 1) := by decide +kernel
theorem d_X7_plain_29 : decode c_X7_plain 29 = .ok (.bipush 6, 2) := by decide +kernel
theorem d_X7_plain_31 : decode c_X7_plain 31 = .ok (.if_icmp .ne 12, 3) := by decide +kernel
theorem d_X7_plain_34 : decode c_X7_plain 34 = .ok (.aload_n 0, 1) := by decide +kernel
theorem d_X7_plain_35 : decode c_X7_plain 35 = .ok (.lload_n 2, 1) := by decide +kernel
theorem d_X7_plain_36 : decode c_X7_plain 36 = .ok (.lload 4, 2) := by decide +kernel
theorem d_X7_plain_38 : decode c_X7_plain 38 = .ok (.lmul, 1) := by decide +kernel
theorem d_X7_plain_39 : decode c_X7_plain 39 = .ok (.invokevirtual 118, 3) := by decide +kernel
theorem d_X7_plain_42 : decode c_X7_plain 42 = .ok (.lreturn, 1) := by decide +kernel
theorem d_X7_plain_43 : decode c_X7_plain 43 = .ok (.iload_n 1, 1) := by decide +kernel
theorem d_X7_plain_44 : decode c_X7_plain 44 = .ok (.bipush 7, 2) := by decide +kernel
theorem d_X7_plain_46 : decode c_X7_plain 46 = .ok (.if_icmp .ne 16, 3) := by decide +kernel
theorem d_X7_plain_49 : decode c_X7_plain 49 = .ok (.lload_n 2, 1) := by decide +kernel
theorem d_X7_plain_50 : decode c_X7_plain 50 = .ok (.lload 4, 2) := by decide +kernel
theorem d_X7_plain_52 : decode c_X7_plain 52 = .ok (.lcmp, 1) := by decide +kernel
theorem d_X7_plain_53 : decode c_X7_plain 53 = .ok (.ifCond .ge 7, 3) := by decide +kernel
theorem d_X7_plain_56 : decode c_X7_plain 56 = .ok (.lconst 1, 1) := by decide +kernel
theorem d_X7_plain_57 : decode c_X7_plain 57 = .ok (.goto 4, 3) := by decide +kernel
theorem d_X7_plain_60 : decode c_X7_plain 60 = .ok (.lconst 0, 1) := by decide +kernel
theorem d_X7_plain_61 : decode c_X7_plain 61 = .ok (.lreturn, 1) := by decide +kernel
theorem d_X7_plain_62 : decode c_X7_plain 62 = .ok (.iload_n 1, 1) := by decide +kernel
theorem d_X7_plain_63 : decode c_X7_plain 63 = .ok (.bipush 8, 2) := by decide +kernel
theorem d_X7_plain_65 : decode c_X7_plain 65 = .ok (.if_icmp .ne 16, 3) := by decide +kernel
theorem d_X7_plain_68 : decode c_X7_plain 68 = .ok (.lload_n 2, 1) := by decide +kernel
theorem d_X7_plain_69 : decode c_X7_plain 69 = .ok (.lload 4, 2) := by decide +kernel
theorem d_X7_plain_71 : decode c_X7_plain 71 = .ok (.lcmp, 1) := by decide +kernel
theorem d_X7_plain_72 : decode c_X7_plain 72 = .ok (.ifCond .ne 7, 3) := by decide +kernel
theorem d_X7_plain_75 : decode c_X7_plain 75 = .ok (.lconst 1, 1) := by decide +kernel
theorem d_X7_plain_76 : decode c_X7_plain 76 = .ok (.goto 4, 3) := by decide +kernel
theorem d_X7_plain_79 : decode c_X7_plain 79 = .ok (.lconst 0, 1) := by decide +kernel
theorem d_X7_plain_80 : decode c_X7_plain 80 = .ok (.lreturn, 1) := by decide +kernel
theorem d_X7_plain_81 : decode c_X7_plain 81 = .ok (.lload_n 2, 1) := by decide +kernel
theorem d_X7_plain_82 : decode c_X7_plain 82 = .ok (.lload 4, 2) := by decide +kernel
theorem d_X7_plain_84 : decode c_X7_plain 84 = .ok (.lcmp, 1) := by decide +kernel
theorem d_X7_plain_85 : decode c_X7_plain 85 = .ok (.ifCond .ge 7, 3) := by decide +kernel
theorem d_X7_plain_88 : decode c_X7_plain 88 = .ok (.iconst 1, 1) := by decide +kernel
theorem d_X7_plain_89 : decode c_X7_plain 89 = .ok (.goto 4, 3) := by decide +kernel
theorem d_X7_plain_92 : decode c_X7_plain 92 = .ok (.iconst 0, 1) := by decide +kernel
theorem d_X7_plain_93 : decode c_X7_plain 93 = .ok (.iload_n 1, 1) := by decide +kernel
theorem d_X7_plain_94 : decode c_X7_plain 94 = .ok (.bipush 9, 2) := by decide +kernel
theorem d_X7_plain_96 : decode c_X7_plain 96 = .ok (.if_icmp .ne 7, 3) := by decide +kernel
theorem d_X7_plain_99 : decode c_X7_plain 99 = .ok (.iconst 1, 1) := by decide +kernel
theorem d_X7_plain_100 : decode c_X7_plain 100 = .ok (.goto 4, 3) := by decide +kernel
theorem d_X7_plain_103 : decode c_X7_plain 103 = .ok (.iconst 0, 1) := by decide +kernel
theorem d_X7_plain_104 : decode c_X7_plain 104 = .ok (.if_icmp .ne 7, 3) := by decide +kernel
theorem d_X7_plain_107 : decode c_X7_plain 107 = .ok (.lload_n 2, 1) := by decide +kernel
theorem d_X7_plain_108 : decode c_X7_plain 108 = .ok (.goto 5, 3) := by decide +kernel
theorem d_X7_plain_111 : decode c_X7_plain 111 = .ok (.lload 4, 2) := by decide +kernel
theorem d_X7_plain_113 : decode c_X7_plain 113 = .ok (.lreturn, 1) := by decide +kernel
theorem d_X7_choose_0 : decode c_X7_choose 0 = .ok (.aload_n 0, 1) := by decide +kernel
theorem d_X7_choose_1 : decode c_X7_choose 1 = .ok (.getfield 20, 3) := by decide +kernel
theorem d_X7_choose_4 : decode c_X7_choose 4 = .ok (.iload_n 1, 1) := by decide +kernel
theorem d_X7_choose_5 : decode c_X7_choose 5 = .ok (.iaload, 1) := by decide +kernel
theorem d_X7_choose_6 : decode c_X7_choose 6 = .ok (.ifCond .ge 9, 3) := by decide +kernel
theorem d_X7_choose_9 : decode c_X7_choose 9 = .ok (.ldc2_w 106, 3) := by decide +kernel
theorem d_X7_choose_12 : decode c_X7_choose 12 = .ok (.goto 14, 3) := by decide +kernel
theorem d_X7_choose_15 : decode c_X7_choose 15 = .ok (.aload_n 0, 1) := by decide +kernel
theorem d_X7_choose_16 : decode c_X7_choose 16 = .ok (.getfield 70, 3) := by decide +kernel
theorem d_X7_choose_19 : decode c_X7_choose 19 = .ok (.aload_n 0, 1) := by decide +kernel
theorem d_X7_choose_20 : decode c_X7_choose 20 = .ok (.getfield 20, 3) := by decide +kernel
theorem d_X7_choose_23 : decode c_X7_choose 23 = .ok (.iload_n 1, 1) := by decide +kernel
theorem d_X7_choose_24 : decode c_X7_choose 24 = .ok (.iaload, 1) := by decide +kernel
theorem d_X7_choose_25 : decode c_X7_choose 25 = .ok (.laload, 1) := by decide +kernel
theorem d_X7_choose_26 : decode c_X7_choose 26 = .ok (.lstore_n 3, 1) := by decide +kernel
theorem d_X7_choose_27 : decode c_X7_choose 27 = .ok (.aload_n 0, 1) := by decide +kernel
theorem d_X7_choose_28 : decode c_X7_choose 28 = .ok (.getfield 70, 3) := by decide +kernel
theorem d_X7_choose_31 : decode c_X7_choose 31 = .ok (.aload_n 0, 1) := by decide +kernel
theorem d_X7_choose_32 : decode c_X7_choose 32 = .ok (.getfield 23, 3) := by decide +kernel
theorem d_X7_choose_35 : decode c_X7_choose 35 = .ok (.iload_n 1, 1) := by decide +kernel
theorem d_X7_choose_36 : decode c_X7_choose 36 = .ok (.iaload, 1) := by decide +kernel
theorem d_X7_choose_37 : decode c_X7_choose 37 = .ok (.laload, 1) := by decide +kernel
theorem d_X7_choose_38 : decode c_X7_choose 38 = .ok (.lstore 5, 2) := by decide +kernel
theorem d_X7_choose_40 : decode c_X7_choose 40 = .ok (.iload_n 2, 1) := by decide +kernel
theorem d_X7_choose_41 : decode c_X7_choose 41 = .ok (.bipush 17, 2) := by decide +kernel
theorem d_X7_choose_43 : decode c_X7_choose 43 = .ok (.if_icmp .ne 67, 3) := by decide +kernel
theorem d_X7_choose_46 : decode c_X7_choose 46 = .ok (.lload_n 3, 1) := by decide +kernel
theorem d_X7_choose_47 : decode c_X7_choose 47 = .ok (.ldc2_w 106, 3) := by decide +kernel
theorem d_X7_choose_50 : decode c_X7_choose 50 = .ok (.lcmp, 1) := by decide +kernel
theorem d_X7_choose_51 : decode c_X7_choose 51 = .ok (.ifCond .eq 5, 3) := by decide +kernel
theorem d_X7_choose_54 : decode c_X7_choose 54 = .ok (.lload_n 3, 1) := by decide +kernel
theorem d_X7_choose_55 : decode c_X7_choose 55 = .ok (.lreturn, 1) := by decide +kernel
theorem d_X7_choose_56 : decode c_X7_choose 56 = .ok (.lload 5, 2) := by decide +kernel
theorem d_X7_choose_58 : decode c_X7_choose 58 = .ok (.ldc2_w 110, 3) := by decide +kernel
theorem d_X7_choose_61 : decode c_X7_choose 61 = .ok (.lcmp, 1) := by decide +kernel
theorem d_X7_choose_62 : decode c_X7_choose 62 = .ok (.ifCond .le 8, 3) := by decide +kernel
theorem d_X7_choose_65 : decode c_X7_choose 65 = .ok (.lload 5, 2) := by decide +kernel
theorem d_X7_choose_67 : decode c_X7_choose 67 = .ok (.goto 42, 3) := by decide +kernel
theorem d_X7_choose_70 : decode c_X7_choose 70 = .ok (.lload 5, 2) := by decide +kernel
theorem d_X7_choose_72 : decode c_X7_choose 72 = .ok (.ldc2_w 106, 3) := by decide +kernel
theorem d_X7_choose_75 : decode c_X7_choose 75 = .ok (.lcmp, 1) := by decide +kernel
theorem d_X7_choose_76 : decode c_X7_choose 76 = .ok (.ifCond .ne 9, 3) := by decide +kernel
theorem d_X7_choose_79 : decode c_X7_choose 79 = .ok (.ldc2_w 108, 3) := by decide +kernel
theorem d_X7_choose_82 : decode c_X7_choose 82 = .ok (.goto 27, 3) := by decide +kernel
theorem d_X7_choose_85 : decode c_X7_choose 85 = .ok (.lload 5, 2) := by decide +kernel
theorem d_X7_choose_87 : decode c_X7_choose 87 = .ok (.lconst 0, 1) := by decide +kernel
theorem d_X7_choose_88 : decode c_X7_choose 88 = .ok (.lcmp, 1) := by decide +kernel
theorem d_X7_choose_89 : decode c_X7_choose 89 = .ok (.ifCond .ne 9, 3) := by decide +kernel
theorem d_X7_choose_92 : decode c_X7_choose 92 = .ok (.ldc2_w 106, 3) := by decide +kernel
theorem d_X7_choose_95 : decode c_X7_choose 95 = .ok (.goto 14, 3) := by decide +kernel
theorem d_X7_choose_98 : decode c_X7_choose 98 = .ok (.aload_n 0, 1) := by decide +kernel
theorem d_X7_choose_99 : decode c_X7_choose 99 = .ok (.getfield 70, 3) := by decide +kernel
theorem d_X7_choose_102 : decode c_X7_choose 102 = .ok (.aload_n 0, 1) := by decide +kernel
theorem d_X7_choose_103 : decode c_X7_choose 103 = .ok (.getfield 26, 3) := by decide +kernel
theorem d_X7_choose_106 : decode c_X7_choose 106 = .ok (.iload_n 1, 1) := by decide +kernel
theorem d_X7_choose_107 : decode c_X7_choose 107 = .ok (.iaload, 1) := by decide +kernel
theorem d_X7_choose_108 : decode c_X7_choose 108 = .ok (.laload, 1) := by decide +kernel
theorem d_X7_choose_109 : decode c_X7_choose 109 = .ok (.lreturn, 1) := by decide +kernel
theorem d_X7_choose_110 : decode c_X7_choose 110 = .ok (.iload_n 2, 1) := by decide +kernel
theorem d_X7_choose_111 : decode c_X7_choose 111 = .ok (.bipush 18, 2) := by decide +kernel
theorem d_X7_choose_113 : decode c_X7_choose 113 = .ok (.if_icmp .ne 55, 3) := by decide +kernel
theorem d_X7_choose_116 : decode c_X7_choose 116 = .ok (.lload_n 3, 1) := by decide +kernel
theorem d_X7_choose_117 : decode c_X7_choose 117 = .ok (.ldc2_w 110, 3) := by decide +kernel
