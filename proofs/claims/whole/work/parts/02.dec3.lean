theorem d_X7_choose_120 : decode c_X7_choose 120 = .ok (.lcmp, 1) := by decide +kernel
theorem d_X7_choose_121 : decode c_X7_choose 121 = .ok (.ifCond .le 5, 3) := by decide +kernel
theorem d_X7_choose_124 : decode c_X7_choose 124 = .ok (.lload_n 3, 1) := by decide +kernel
theorem d_X7_choose_125 : decode c_X7_choose 125 = .ok (.lreturn, 1) := by decide +kernel
theorem d_X7_choose_126 : decode c_X7_choose 126 = .ok (.lload 5, 2) := by decide +kernel
theorem d_X7_choose_128 : decode c_X7_choose 128 = .ok (.ldc2_w 110, 3) := by decide +kernel
theorem d_X7_choose_131 : decode c_X7_choose 131 = .ok (.lcmp, 1) := by decide +kernel
theorem d_X7_choose_132 : decode c_X7_choose 132 = .ok (.ifCond .le 6, 3) := by decide +kernel
theorem d_X7_choose_135 : decode c_X7_choose 135 = .ok (.lload 5, 2) := by decide +kernel
theorem d_X7_choose_137 : decode c_X7_choose 137 = .ok (.lreturn, 1) := by decide +kernel
theorem d_X7_choose_138 : decode c_X7_choose 138 = .ok (.lload_n 3, 1) := by decide +kernel
theorem d_X7_choose_139 : decode c_X7_choose 139 = .ok (.ldc2_w 106, 3) := by decide +kernel
theorem d_X7_choose_142 : decode c_X7_choose 142 = .ok (.lcmp, 1) := by decide +kernel
theorem d_X7_choose_143 : decode c_X7_choose 143 = .ok (.ifCond .ne 8, 3) := by decide +kernel
theorem d_X7_choose_146 : decode c_X7_choose 146 = .ok (.lload 5, 2) := by decide +kernel
theorem d_X7_choose_148 : decode c_X7_choose 148 = .ok (.goto 19, 3) := by decide +kernel
theorem d_X7_choose_151 : decode c_X7_choose 151 = .ok (.lload 5, 2) := by decide +kernel
theorem d_X7_choose_153 : decode c_X7_choose 153 = .ok (.ldc2_w 106, 3) := by decide +kernel
theorem d_X7_choose_156 : decode c_X7_choose 156 = .ok (.lcmp, 1) := by decide +kernel
theorem d_X7_choose_157 : decode c_X7_choose 157 = .ok (.ifCond .ne 7, 3) := by decide +kernel
theorem d_X7_choose_160 : decode c_X7_choose 160 = .ok (.lload_n 3, 1) := by decide +kernel
theorem d_X7_choose_161 : decode c_X7_choose 161 = .ok (.goto 6, 3) := by decide +kernel
theorem d_X7_choose_164 : decode c_X7_choose 164 = .ok (.ldc2_w 122, 3) := by decide +kernel
theorem d_X7_choose_167 : decode c_X7_choose 167 = .ok (.lreturn, 1) := by decide +kernel
theorem d_X7_choose_168 : decode c_X7_choose 168 = .ok (.aload_n 0, 1) := by decide +kernel
theorem d_X7_choose_169 : decode c_X7_choose 169 = .ok (.lload_n 3, 1) := by decide +kernel
theorem d_X7_choose_170 : decode c_X7_choose 170 = .ok (.invokevirtual 124, 3) := by decide +kernel
theorem d_X7_choose_173 : decode c_X7_choose 173 = .ok (.lconst 0, 1) := by decide +kernel
theorem d_X7_choose_174 : decode c_X7_choose 174 = .ok (.lcmp, 1) := by decide +kernel
theorem d_X7_choose_175 : decode c_X7_choose 175 = .ok (.ifCond .eq 9, 3) := by decide +kernel
theorem d_X7_choose_178 : decode c_X7_choose 178 = .ok (.aload_n 0, 1) := by decide +kernel
theorem d_X7_choose_179 : decode c_X7_choose 179 = .ok (.lload_n 3, 1) := by decide +kernel
theorem d_X7_choose_180 : decode c_X7_choose 180 = .ok (.invokevirtual 124, 3) := by decide +kernel
theorem d_X7_choose_183 : decode c_X7_choose 183 = .ok (.lreturn, 1) := by decide +kernel
theorem d_X7_choose_184 : decode c_X7_choose 184 = .ok (.iload_n 2, 1) := by decide +kernel
theorem d_X7_choose_185 : decode c_X7_choose 185 = .ok (.bipush 15, 2) := by decide +kernel
theorem d_X7_choose_187 : decode c_X7_choose 187 = .ok (.if_icmp .ne 26, 3) := by decide +kernel
theorem d_X7_choose_190 : decode c_X7_choose 190 = .ok (.lload_n 3, 1) := by decide +kernel
theorem d_X7_choose_191 : decode c_X7_choose 191 = .ok (.lconst 0, 1) := by decide +kernel
theorem d_X7_choose_192 : decode c_X7_choose 192 = .ok (.lcmp, 1) := by decide +kernel
theorem d_X7_choose_193 : decode c_X7_choose 193 = .ok (.ifCond .eq 8, 3) := by decide +kernel
theorem d_X7_choose_196 : decode c_X7_choose 196 = .ok (.lload 5, 2) := by decide +kernel
theorem d_X7_choose_198 : decode c_X7_choose 198 = .ok (.goto 14, 3) := by decide +kernel
theorem d_X7_choose_201 : decode c_X7_choose 201 = .ok (.aload_n 0, 1) := by decide +kernel
theorem d_X7_choose_202 : decode c_X7_choose 202 = .ok (.getfield 70, 3) := by decide +kernel
theorem d_X7_choose_205 : decode c_X7_choose 205 = .ok (.aload_n 0, 1) := by decide +kernel
theorem d_X7_choose_206 : decode c_X7_choose 206 = .ok (.getfield 26, 3) := by decide +kernel
theorem d_X7_choose_209 : decode c_X7_choose 209 = .ok (.iload_n 1, 1) := by decide +kernel
theorem d_X7_choose_210 : decode c_X7_choose 210 = .ok (.iaload, 1) := by decide +kernel
theorem d_X7_choose_211 : decode c_X7_choose 211 = .ok (.laload, 1) := by decide +kernel
theorem d_X7_choose_212 : decode c_X7_choose 212 = .ok (.lreturn, 1) := by decide +kernel
theorem d_X7_choose_213 : decode c_X7_choose 213 = .ok (.iload_n 2, 1) := by decide +kernel
theorem d_X7_choose_214 : decode c_X7_choose 214 = .ok (.bipush 13, 2) := by decide +kernel
theorem d_X7_choose_216 : decode c_X7_choose 216 = .ok (.if_icmp .ne 11, 3) := by decide +kernel
theorem d_X7_choose_219 : decode c_X7_choose 219 = .ok (.lload_n 3, 1) := by decide +kernel
theorem d_X7_choose_220 : decode c_X7_choose 220 = .ok (.lconst 0, 1) := by decide +kernel
theorem d_X7_choose_221 : decode c_X7_choose 221 = .ok (.lcmp, 1) := by decide +kernel
theorem d_X7_choose_222 : decode c_X7_choose 222 = .ok (.ifCond .ne 5, 3) := by decide +kernel
theorem d_X7_choose_225 : decode c_X7_choose 225 = .ok (.lconst 0, 1) := by decide +kernel
theorem d_X7_choose_226 : decode c_X7_choose 226 = .ok (.lreturn, 1) := by decide +kernel
theorem d_X7_choose_227 : decode c_X7_choose 227 = .ok (.iload_n 2, 1) := by decide +kernel
theorem d_X7_choose_228 : decode c_X7_choose 228 = .ok (.bipush 14, 2) := by decide +kernel
theorem d_X7_choose_230 : decode c_X7_choose 230 = .ok (.if_icmp .ne 11, 3) := by decide +kernel
theorem d_X7_choose_233 : decode c_X7_choose 233 = .ok (.lload_n 3, 1) := by decide +kernel
theorem d_X7_choose_234 : decode c_X7_choose 234 = .ok (.lconst 0, 1) := by decide +kernel
theorem d_X7_choose_235 : decode c_X7_choose 235 = .ok (.lcmp, 1) := by decide +kernel
theorem d_X7_choose_236 : decode c_X7_choose 236 = .ok (.ifCond .eq 5, 3) := by decide +kernel
theorem d_X7_choose_239 : decode c_X7_choose 239 = .ok (.lconst 1, 1) := by decide +kernel
theorem d_X7_choose_240 : decode c_X7_choose 240 = .ok (.lreturn, 1) := by decide +kernel
theorem d_X7_choose_241 : decode c_X7_choose 241 = .ok (.aload_n 0, 1) := by decide +kernel
theorem d_X7_choose_242 : decode c_X7_choose 242 = .ok (.lload 5, 2) := by decide +kernel
theorem d_X7_choose_244 : decode c_X7_choose 244 = .ok (.invokevirtual 124, 3) := by decide +kernel
theorem d_X7_choose_247 : decode c_X7_choose 247 = .ok (.lconst 0, 1) := by decide +kernel
theorem d_X7_choose_248 : decode c_X7_choose 248 = .ok (.lcmp, 1) := by decide +kernel
theorem d_X7_choose_249 : decode c_X7_choose 249 = .ok (.ifCond .eq 12, 3) := by decide +kernel
theorem d_X7_choose_252 : decode c_X7_choose 252 = .ok (.aload_n 0, 1) := by decide +kernel
theorem d_X7_choose_253 : decode c_X7_choose 253 = .ok (.lload 5, 2) := by decide +kernel
theorem d_X7_choose_255 : decode c_X7_choose 255 = .ok (.invokevirtual 124, 3) := by decide +kernel
theorem d_X7_choose_258 : decode c_X7_choose 258 = .ok (.goto 15, 3) := by decide +kernel
theorem d_X7_choose_261 : decode c_X7_choose 261 = .ok (.lload 5, 2) := by decide +kernel
theorem d_X7_choose_263 : decode c_X7_choose 263 = .ok (.lconst 0, 1) := by decide +kernel
theorem d_X7_choose_264 : decode c_X7_choose 264 = .ok (.lcmp, 1) := by decide +kernel
theorem d_X7_choose_265 : decode c_X7_choose 265 = .ok (.ifCond .eq 7, 3) := by decide +kernel
theorem d_X7_choose_268 : decode c_X7_choose 268 = .ok (.lconst 1, 1) := by decide +kernel
theorem d_X7_choose_269 : decode c_X7_choose 269 = .ok (.goto 4, 3) := by decide +kernel
theorem d_X7_choose_272 : decode c_X7_choose 272 = .ok (.lconst 0, 1) := by decide +kernel
theorem d_X7_choose_273 : decode c_X7_choose 273 = .ok (.lreturn, 1) := by decide +kernel
theorem d_X7_workOut_0 : decode c_X7_workOut 0 = .ok (.aload_n 0, 1) := by decide +kernel
theorem d_X7_workOut_1 : decode c_X7_workOut 1 = .ok (.getfield 16, 3) := by decide +kernel
theorem d_X7_workOut_4 : decode c_X7_workOut 4 = .ok (.iload_n 2, 1) := by decide +kernel
theorem d_X7_workOut_5 : decode c_X7_workOut 5 = .ok (.iaload, 1) := by decide +kernel
theorem d_X7_workOut_6 : decode c_X7_workOut 6 = .ok (.istore_n 3, 1) := by decide +kernel
theorem d_X7_workOut_7 : decode c_X7_workOut 7 = .ok (.aload_n 0, 1) := by decide +kernel
theorem d_X7_workOut_8 : decode c_X7_workOut 8 = .ok (.getfield 20, 3) := by decide +kernel
theorem d_X7_workOut_11 : decode c_X7_workOut 11 = .ok (.iload_n 2, 1) := by decide +kernel
theorem d_X7_workOut_12 : decode c_X7_workOut 12 = .ok (.iaload, 1) := by decide +kernel
theorem d_X7_workOut_13 : decode c_X7_workOut 13 = .ok (.istore 4, 2) := by decide +kernel
theorem d_X7_workOut_15 : decode c_X7_workOut 15 = .ok (.iload_n 3, 1) := by decide +kernel
theorem d_X7_workOut_16 : decode c_X7_workOut 16 = .ok (.ifCond .ne 7, 3) := by decide +kernel
theorem d_X7_workOut_19 : decode c_X7_workOut 19 = .ok (.iload 4, 2) := by decide +kernel
theorem d_X7_workOut_21 : decode c_X7_workOut 21 = .ok (.i2l, 1) := by decide +kernel
theorem d_X7_workOut_22 : decode c_X7_workOut 22 = .ok (.lreturn, 1) := by decide +kernel
theorem d_X7_workOut_23 : decode c_X7_workOut 23 = .ok (.iload_n 3, 1) := by decide +kernel
theorem d_X7_workOut_24 : decode c_X7_workOut 24 = .ok (.iconst 1, 1) := by decide +kernel
theorem d_X7_workOut_25 : decode c_X7_workOut 25 = .ok (.if_icmp .ne 17, 3) := by decide +kernel
theorem d_X7_workOut_28 : decode c_X7_workOut 28 = .ok (.aload_n 0, 1) := by decide +kernel
theorem d_X7_workOut_29 : decode c_X7_workOut 29 = .ok (.getfield 47, 3) := by decide +kernel
theorem d_X7_workOut_32 : decode c_X7_workOut 32 = .ok (.iload_n 1, 1) := by decide +kernel
theorem d_X7_workOut_33 : decode c_X7_workOut 33 = .ok (.bipush 8, 2) := by decide +kernel
theorem d_X7_workOut_35 : decode c_X7_workOut 35 = .ok (.imul, 1) := by decide +kernel
theorem d_X7_workOut_36 : decode c_X7_workOut 36 = .ok (.iload 4, 2) := by decide +kernel
theorem d_X7_workOut_38 : decode c_X7_workOut 38 = .ok (.iadd, 1) := by decide +kernel
theorem d_X7_workOut_39 : decode c_X7_workOut 39 = .ok (.iaload, 1) := by decide +kernel
theorem d_X7_workOut_40 : decode c_X7_workOut 40 = .ok (.i2l, 1) := by decide +kernel
theorem d_X7_workOut_41 : decode c_X7_workOut 41 = .ok (.lreturn, 1) := by decide +kernel
theorem d_X7_workOut_42 : decode c_X7_workOut 42 = .ok (.iload_n 3, 1) := by decide +kernel
theorem d_X7_workOut_43 : decode c_X7_workOut 43 = .ok (.iconst 2, 1) := by decide +kernel
theorem d_X7_workOut_44 : decode c_X7_workOut 44 = .ok (.if_icmp .ne 11, 3) := by decide +kernel
theorem d_X7_workOut_47 : decode c_X7_workOut 47 = .ok (.aload_n 0, 1) := by decide +kernel
theorem d_X7_workOut_48 : decode c_X7_workOut 48 = .ok (.getfield 73, 3) := by decide +kernel
theorem d_X7_workOut_51 : decode c_X7_workOut 51 = .ok (.iload 4, 2) := by decide +kernel
theorem d_X7_workOut_53 : decode c_X7_workOut 53 = .ok (.laload, 1) := by decide +kernel
theorem d_X7_workOut_54 : decode c_X7_workOut 54 = .ok (.lreturn, 1) := by decide +kernel
theorem d_X7_workOut_55 : decode c_X7_workOut 55 = .ok (.iload_n 3, 1) := by decide +kernel
theorem d_X7_workOut_56 : decode c_X7_workOut 56 = .ok (.iconst 3, 1) := by decide +kernel
theorem d_X7_workOut_57 : decode c_X7_workOut 57 = .ok (.if_icmp .ne 15, 3) := by decide +kernel
theorem d_X7_workOut_60 : decode c_X7_workOut 60 = .ok (.aload_n 0, 1) := by decide +kernel
theorem d_X7_workOut_61 : decode c_X7_workOut 61 = .ok (.getfield 67, 3) := by decide +kernel
theorem d_X7_workOut_64 : decode c_X7_workOut 64 = .ok (.iload_n 1, 1) := by decide +kernel
theorem d_X7_workOut_65 : decode c_X7_workOut 65 = .ok (.iconst 2, 1) := by decide +kernel
theorem d_X7_workOut_66 : decode c_X7_workOut 66 = .ok (.imul, 1) := by decide +kernel
theorem d_X7_workOut_67 : decode c_X7_workOut 67 = .ok (.iload 4, 2) := by decide +kernel
theorem d_X7_workOut_69 : decode c_X7_workOut 69 = .ok (.iadd, 1) := by decide +kernel
theorem d_X7_workOut_70 : decode c_X7_workOut 70 = .ok (.laload, 1) := by decide +kernel
theorem d_X7_workOut_71 : decode c_X7_workOut 71 = .ok (.lreturn, 1) := by decide +kernel
theorem d_X7_workOut_72 : decode c_X7_workOut 72 = .ok (.iload_n 3, 1) := by decide +kernel
theorem d_X7_workOut_73 : decode c_X7_workOut 73 = .ok (.bipush 16, 2) := by decide +kernel
theorem d_X7_workOut_75 : decode c_X7_workOut 75 = .ok (.if_icmp .ne 7, 3) := by decide +kernel
theorem d_X7_workOut_78 : decode c_X7_workOut 78 = .ok (.ldc2_w 106, 3) := by decide +kernel
theorem d_X7_workOut_81 : decode c_X7_workOut 81 = .ok (.lreturn, 1) := by decide +kernel
theorem d_X7_workOut_82 : decode c_X7_workOut 82 = .ok (.iload_n 3, 1) := by decide +kernel
theorem d_X7_workOut_83 : decode c_X7_workOut 83 = .ok (.bipush 13, 2) := by decide +kernel
theorem d_X7_workOut_85 : decode c_X7_workOut 85 = .ok (.if_icmp .eq 27, 3) := by decide +kernel
theorem d_X7_workOut_88 : decode c_X7_workOut 88 = .ok (.iload_n 3, 1) := by decide +kernel
theorem d_X7_workOut_89 : decode c_X7_workOut 89 = .ok (.bipush 14, 2) := by decide +kernel
theorem d_X7_workOut_91 : decode c_X7_workOut 91 = .ok (.if_icmp .eq 21, 3) := by decide +kernel
theorem d_X7_workOut_94 : decode c_X7_workOut 94 = .ok (.iload_n 3, 1) := by decide +kernel
theorem d_X7_workOut_95 : decode c_X7_workOut 95 = .ok (.bipush 15, 2) := by decide +kernel
theorem d_X7_workOut_97 : decode c_X7_workOut 97 = .ok (.if_icmp .eq 15, 3) := by decide +kernel
theorem d_X7_workOut_100 : decode c_X7_workOut 100 = .ok (.iload_n 3, 1) := by decide +kernel
theorem d_X7_workOut_101 : decode c_X7_workOut 101 = .ok (.bipush 17, 2) := by decide +kernel
theorem d_X7_workOut_103 : decode c_X7_workOut 103 = .ok (.if_icmp .eq 9, 3) := by decide +kernel
theorem d_X7_workOut_106 : decode c_X7_workOut 106 = .ok (.iload_n 3, 1) := by decide +kernel
theorem d_X7_workOut_107 : decode c_X7_workOut 107 = .ok (.bipush 18, 2) := by decide +kernel
theorem d_X7_workOut_109 : decode c_X7_workOut 109 = .ok (.if_icmp .ne 10, 3) := by decide +kernel
theorem d_X7_workOut_112 : decode c_X7_workOut 112 = .ok (.aload_n 0, 1) := by decide +kernel
theorem d_X7_workOut_113 : decode c_X7_workOut 113 = .ok (.iload_n 2, 1) := by decide +kernel
theorem d_X7_workOut_114 : decode c_X7_workOut 114 = .ok (.iload_n 3, 1) := by decide +kernel
theorem d_X7_workOut_115 : decode c_X7_workOut 115 = .ok (.invokevirtual 127, 3) := by decide +kernel
theorem d_X7_workOut_118 : decode c_X7_workOut 118 = .ok (.lreturn, 1) := by decide +kernel
theorem d_X7_workOut_119 : decode c_X7_workOut 119 = .ok (.iload_n 3, 1) := by decide +kernel
theorem d_X7_workOut_120 : decode c_X7_workOut 120 = .ok (.bipush 19, 2) := by decide +kernel
theorem d_X7_workOut_122 : decode c_X7_workOut 122 = .ok (.if_icmp .ne 59, 3) := by decide +kernel
theorem d_X7_workOut_125 : decode c_X7_workOut 125 = .ok (.aload_n 0, 1) := by decide +kernel
theorem d_X7_workOut_126 : decode c_X7_workOut 126 = .ok (.aload_n 0, 1) := by decide +kernel
theorem d_X7_workOut_127 : decode c_X7_workOut 127 = .ok (.getfield 70, 3) := by decide +kernel
theorem d_X7_workOut_130 : decode c_X7_workOut 130 = .ok (.aload_n 0, 1) := by decide +kernel
theorem d_X7_workOut_131 : decode c_X7_workOut 131 = .ok (.getfield 23, 3) := by decide +kernel
theorem d_X7_workOut_134 : decode c_X7_workOut 134 = .ok (.iload_n 2, 1) := by decide +kernel
theorem d_X7_workOut_135 : decode c_X7_workOut 135 = .ok (.iaload, 1) := by decide +kernel
theorem d_X7_workOut_136 : decode c_X7_workOut 136 = .ok (.laload, 1) := by decide +kernel
theorem d_X7_workOut_137 : decode c_X7_workOut 137 = .ok (.invokevirtual 124, 3) := by decide +kernel
theorem d_X7_workOut_140 : decode c_X7_workOut 140 = .ok (.lconst 0, 1) := by decide +kernel
theorem d_X7_workOut_141 : decode c_X7_workOut 141 = .ok (.lcmp, 1) := by decide +kernel
theorem d_X7_workOut_142 : decode c_X7_workOut 142 = .ok (.ifCond .eq 21, 3) := by decide +kernel
theorem d_X7_workOut_145 : decode c_X7_workOut 145 = .ok (.aload_n 0, 1) := by decide +kernel
theorem d_X7_workOut_146 : decode c_X7_workOut 146 = .ok (.aload_n 0, 1) := by decide +kernel
theorem d_X7_workOut_147 : decode c_X7_workOut 147 = .ok (.getfield 70, 3) := by decide +kernel
theorem d_X7_workOut_150 : decode c_X7_workOut 150 = .ok (.aload_n 0, 1) := by decide +kernel
theorem d_X7_workOut_151 : decode c_X7_workOut 151 = .ok (.getfield 23, 3) := by decide +kernel
theorem d_X7_workOut_154 : decode c_X7_workOut 154 = .ok (.iload_n 2, 1) := by decide +kernel
theorem d_X7_workOut_155 : decode c_X7_workOut 155 = .ok (.iaload, 1) := by decide +kernel
theorem d_X7_workOut_156 : decode c_X7_workOut 156 = .ok (.laload, 1) := by decide +kernel
theorem d_X7_workOut_157 : decode c_X7_workOut 157 = .ok (.invokevirtual 124, 3) := by decide +kernel
theorem d_X7_workOut_160 : decode c_X7_workOut 160 = .ok (.goto 20, 3) := by decide +kernel
theorem d_X7_workOut_163 : decode c_X7_workOut 163 = .ok (.aload_n 0, 1) := by decide +kernel
theorem d_X7_workOut_164 : decode c_X7_workOut 164 = .ok (.iload 4, 2) := by decide +kernel
theorem d_X7_workOut_166 : decode c_X7_workOut 166 = .ok (.aload_n 0, 1) := by decide +kernel
theorem d_X7_workOut_167 : decode c_X7_workOut 167 = .ok (.getfield 70, 3) := by decide +kernel
theorem d_X7_workOut_170 : decode c_X7_workOut 170 = .ok (.aload_n 0, 1) := by decide +kernel
theorem d_X7_workOut_171 : decode c_X7_workOut 171 = .ok (.getfield 23, 3) := by decide +kernel
theorem d_X7_workOut_174 : decode c_X7_workOut 174 = .ok (.iload_n 2, 1) := by decide +kernel
theorem d_X7_workOut_175 : decode c_X7_workOut 175 = .ok (.iaload, 1) := by decide +kernel
theorem d_X7_workOut_176 : decode c_X7_workOut 176 = .ok (.laload, 1) := by decide +kernel
theorem d_X7_workOut_177 : decode c_X7_workOut 177 = .ok (.invokevirtual 131, 3) := by decide +kernel
theorem d_X7_workOut_180 : decode c_X7_workOut 180 = .ok (.lreturn, 1) := by decide +kernel
theorem d_X7_workOut_181 : decode c_X7_workOut 181 = .ok (.aload_n 0, 1) := by decide +kernel
theorem d_X7_workOut_182 : decode c_X7_workOut 182 = .ok (.getfield 70, 3) := by decide +kernel
theorem d_X7_workOut_185 : decode c_X7_workOut 185 = .ok (.iload 4, 2) := by decide +kernel
theorem d_X7_workOut_187 : decode c_X7_workOut 187 = .ok (.laload, 1) := by decide +kernel
theorem d_X7_workOut_188 : decode c_X7_workOut 188 = .ok (.lstore 5, 2) := by decide +kernel
theorem d_X7_workOut_190 : decode c_X7_workOut 190 = .ok (.iload_n 3, 1) := by decide +kernel
theorem d_X7_workOut_191 : decode c_X7_workOut 191 = .ok (.bipush 12, 2) := by decide +kernel
theorem d_X7_workOut_193 : decode c_X7_workOut 193 = .ok (.if_icmp .ne 7, 3) := by decide +kernel
theorem d_X7_workOut_196 : decode c_X7_workOut 196 = .ok (.lconst 0, 1) := by decide +kernel
theorem d_X7_workOut_197 : decode c_X7_workOut 197 = .ok (.goto 14, 3) := by decide +kernel
theorem d_X7_workOut_200 : decode c_X7_workOut 200 = .ok (.aload_n 0, 1) := by decide +kernel
theorem d_X7_workOut_201 : decode c_X7_workOut 201 = .ok (.getfield 70, 3) := by decide +kernel
theorem d_X7_workOut_204 : decode c_X7_workOut 204 = .ok (.aload_n 0, 1) := by decide +kernel
theorem d_X7_workOut_205 : decode c_X7_workOut 205 = .ok (.getfield 23, 3) := by decide +kernel
theorem d_X7_workOut_208 : decode c_X7_workOut 208 = .ok (.iload_n 2, 1) := by decide +kernel
theorem d_X7_workOut_209 : decode c_X7_workOut 209 = .ok (.iaload, 1) := by decide +kernel
theorem d_X7_workOut_210 : decode c_X7_workOut 210 = .ok (.laload, 1) := by decide +kernel
theorem d_X7_workOut_211 : decode c_X7_workOut 211 = .ok (.lstore 7, 2) := by decide +kernel
theorem d_X7_workOut_213 : decode c_X7_workOut 213 = .ok (.iload_n 3, 1) := by decide +kernel
theorem d_X7_workOut_214 : decode c_X7_workOut 214 = .ok (.bipush 11, 2) := by decide +kernel
theorem d_X7_workOut_216 : decode c_X7_workOut 216 = .ok (.if_icmp .ne 17, 3) := by decide +kernel
theorem d_X7_workOut_219 : decode c_X7_workOut 219 = .ok (.aload_n 0, 1) := by decide +kernel
theorem d_X7_workOut_220 : decode c_X7_workOut 220 = .ok (.getfield 70, 3) := by decide +kernel
theorem d_X7_workOut_223 : decode c_X7_workOut 223 = .ok (.aload_n 0, 1) := by decide +kernel
theorem d_X7_workOut_224 : decode c_X7_workOut 224 = .ok (.getfield 26, 3) := by decide +kernel
theorem d_X7_workOut_227 : decode c_X7_workOut 227 = .ok (.iload_n 2, 1) := by decide +kernel
theorem d_X7_workOut_228 : decode c_X7_workOut 228 = .ok (.iaload, 1) := by decide +kernel
theorem d_X7_workOut_229 : decode c_X7_workOut 229 = .ok (.laload, 1) := by decide +kernel
theorem d_X7_workOut_230 : decode c_X7_workOut 230 = .ok (.goto 4, 3) := by decide +kernel
theorem d_X7_workOut_233 : decode c_X7_workOut 233 = .ok (.lconst 1, 1) := by decide +kernel
theorem d_X7_workOut_234 : decode c_X7_workOut 234 = .ok (.lstore 9, 2) := by decide +kernel
theorem d_X7_workOut_236 : decode c_X7_workOut 236 = .ok (.aload_n 0, 1) := by decide +kernel
theorem d_X7_workOut_237 : decode c_X7_workOut 237 = .ok (.lload 5, 2) := by decide +kernel
theorem d_X7_workOut_239 : decode c_X7_workOut 239 = .ok (.invokevirtual 124, 3) := by decide +kernel
theorem d_X7_workOut_242 : decode c_X7_workOut 242 = .ok (.lconst 0, 1) := by decide +kernel
theorem d_X7_workOut_243 : decode c_X7_workOut 243 = .ok (.lcmp, 1) := by decide +kernel
theorem d_X7_workOut_244 : decode c_X7_workOut 244 = .ok (.ifCond .eq 10, 3) := by decide +kernel
theorem d_X7_workOut_247 : decode c_X7_workOut 247 = .ok (.aload_n 0, 1) := by decide +kernel
theorem d_X7_workOut_248 : decode c_X7_workOut 248 = .ok (.lload 5, 2) := by decide +kernel
theorem d_X7_workOut_250 : decode c_X7_workOut 250 = .ok (.invokevirtual 124, 3) := by decide +kernel
theorem d_X7_workOut_253 : decode c_X7_workOut 253 = .ok (.lreturn, 1) := by decide +kernel
theorem d_X7_workOut_254 : decode c_X7_workOut 254 = .ok (.aload_n 0, 1) := by decide +kernel
theorem d_X7_workOut_255 : decode c_X7_workOut 255 = .ok (.lload 7, 2) := by decide +kernel
theorem d_X7_workOut_257 : decode c_X7_workOut 257 = .ok (.invokevirtual 124, 3) := by decide +kernel
theorem d_X7_workOut_260 : decode c_X7_workOut 260 = .ok (.lconst 0, 1) := by decide +kernel
theorem d_X7_workOut_261 : decode c_X7_workOut 261 = .ok (.lcmp, 1) := by decide +kernel
theorem d_X7_workOut_262 : decode c_X7_workOut 262 = .ok (.ifCond .eq 10, 3) := by decide +kernel
theorem d_X7_workOut_265 : decode c_X7_workOut 265 = .ok (.aload_n 0, 1) := by decide +kernel
theorem d_X7_workOut_266 : decode c_X7_workOut 266 = .ok (.lload 7, 2) := by decide +kernel
theorem d_X7_workOut_268 : decode c_X7_workOut 268 = .ok (.invokevirtual 124, 3) := by decide +kernel
theorem d_X7_workOut_271 : decode c_X7_workOut 271 = .ok (.lreturn, 1) := by decide +kernel
theorem d_X7_workOut_272 : decode c_X7_workOut 272 = .ok (.aload_n 0, 1) := by decide +kernel
theorem d_X7_workOut_273 : decode c_X7_workOut 273 = .ok (.lload 9, 2) := by decide +kernel
theorem d_X7_workOut_275 : decode c_X7_workOut 275 = .ok (.invokevirtual 124, 3) := by decide +kernel
theorem d_X7_workOut_278 : decode c_X7_workOut 278 = .ok (.lconst 0, 1) := by decide +kernel
theorem d_X7_workOut_279 : decode c_X7_workOut 279 = .ok (.lcmp, 1) := by decide +kernel
theorem d_X7_workOut_280 : decode c_X7_workOut 280 = .ok (.ifCond .eq 10, 3) := by decide +kernel
theorem d_X7_workOut_283 : decode c_X7_workOut 283 = .ok (.aload_n 0, 1) := by decide +kernel
theorem d_X7_workOut_284 : decode c_X7_workOut 284 = .ok (.lload 9, 2) := by decide +kernel
theorem d_X7_workOut_286 : decode c_X7_workOut 286 = .ok (.invokevirtual 124, 3) := by decide +kernel
theorem d_X7_workOut_289 : decode c_X7_workOut 289 = .ok (.lreturn, 1) := by decide +kernel
theorem d_X7_workOut_290 : decode c_X7_workOut 290 = .ok (.iload_n 3, 1) := by decide +kernel
theorem d_X7_workOut_291 : decode c_X7_workOut 291 = .ok (.bipush 12, 2) := by decide +kernel
theorem d_X7_workOut_293 : decode c_X7_workOut 293 = .ok (.if_icmp .ne 16, 3) := by decide +kernel
theorem d_X7_workOut_296 : decode c_X7_workOut 296 = .ok (.lload 5, 2) := by decide +kernel
theorem d_X7_workOut_298 : decode c_X7_workOut 298 = .ok (.lconst 0, 1) := by decide +kernel
theorem d_X7_workOut_299 : decode c_X7_workOut 299 = .ok (.lcmp, 1) := by decide +kernel
theorem d_X7_workOut_300 : decode c_X7_workOut 300 = .ok (.ifCond .ne 7, 3) := by decide +kernel
theorem d_X7_workOut_303 : decode c_X7_workOut 303 = .ok (.lconst 1, 1) := by decide +kernel
theorem d_X7_workOut_304 : decode c_X7_workOut 304 = .ok (.goto 4, 3) := by decide +kernel
theorem d_X7_workOut_307 : decode c_X7_workOut 307 = .ok (.lconst 0, 1) := by decide +kernel
theorem d_X7_workOut_308 : decode c_X7_workOut 308 = .ok (.lreturn, 1) := by decide +kernel
theorem d_X7_workOut_309 : decode c_X7_workOut 309 = .ok (.iload_n 3, 1) := by decide +kernel
theorem d_X7_workOut_310 : decode c_X7_workOut 310 = .ok (.bipush 11, 2) := by decide +kernel
theorem d_X7_workOut_312 : decode c_X7_workOut 312 = .ok (.if_icmp .ne 32, 3) := by decide +kernel
theorem d_X7_workOut_315 : decode c_X7_workOut 315 = .ok (.lload 9, 2) := by decide +kernel
theorem d_X7_workOut_317 : decode c_X7_workOut 317 = .ok (.lconst 0, 1) := by decide +kernel
theorem d_X7_workOut_318 : decode c_X7_workOut 318 = .ok (.lcmp, 1) := by decide +kernel
theorem d_X7_workOut_319 : decode c_X7_workOut 319 = .ok (.ifCond .ne 9, 3) := by decide +kernel
theorem d_X7_workOut_322 : decode c_X7_workOut 322 = .ok (.ldc2_w 135, 3) := by decide +kernel
theorem d_X7_workOut_325 : decode c_X7_workOut 325 = .ok (.goto 18, 3) := by decide +kernel
theorem d_X7_workOut_328 : decode c_X7_workOut 328 = .ok (.aload_n 0, 1) := by decide +kernel
theorem d_X7_workOut_329 : decode c_X7_workOut 329 = .ok (.aload_n 0, 1) := by decide +kernel
theorem d_X7_workOut_330 : decode c_X7_workOut 330 = .ok (.lload 5, 2) := by decide +kernel
theorem d_X7_workOut_332 : decode c_X7_workOut 332 = .ok (.lload 7, 2) := by decide +kernel
theorem d_X7_workOut_334 : decode c_X7_workOut 334 = .ok (.lmul, 1) := by decide +kernel
theorem d_X7_workOut_335 : decode c_X7_workOut 335 = .ok (.lload 9, 2) := by decide +kernel
theorem d_X7_workOut_337 : decode c_X7_workOut 337 = .ok (.invokevirtual 114, 3) := by decide +kernel
theorem d_X7_workOut_340 : decode c_X7_workOut 340 = .ok (.invokevirtual 118, 3) := by decide +kernel
theorem d_X7_workOut_343 : decode c_X7_workOut 343 = .ok (.lreturn, 1) := by decide +kernel
theorem d_X7_workOut_344 : decode c_X7_workOut 344 = .ok (.aload_n 0, 1) := by decide +kernel
theorem d_X7_workOut_345 : decode c_X7_workOut 345 = .ok (.iload_n 3, 1) := by decide +kernel
theorem d_X7_workOut_346 : decode c_X7_workOut 346 = .ok (.lload 5, 2) := by decide +kernel
theorem d_X7_workOut_348 : decode c_X7_workOut 348 = .ok (.lload 7, 2) := by decide +kernel
theorem d_X7_workOut_350 : decode c_X7_workOut 350 = .ok (.invokevirtual 137, 3) := by decide +kernel
theorem d_X7_workOut_353 : decode c_X7_workOut 353 = .ok (.lreturn, 1) := by decide +kernel
theorem d_X7_person_0 : decode c_X7_person 0 = .ok (.iconst 0, 1) := by decide +kernel
theorem d_X7_person_1 : decode c_X7_person 1 = .ok (.istore_n 2, 1) := by decide +kernel
theorem d_X7_person_2 : decode c_X7_person 2 = .ok (.iload_n 2, 1) := by decide +kernel
theorem d_X7_person_3 : decode c_X7_person 3 = .ok (.bipush 8, 2) := by decide +kernel
theorem d_X7_person_5 : decode c_X7_person 5 = .ok (.if_icmp .ge 18, 3) := by decide +kernel
theorem d_X7_person_8 : decode c_X7_person 8 = .ok (.aload_n 0, 1) := by decide +kernel
theorem d_X7_person_9 : decode c_X7_person 9 = .ok (.getfield 73, 3) := by decide +kernel
theorem d_X7_person_12 : decode c_X7_person 12 = .ok (.iload_n 2, 1) := by decide +kernel
theorem d_X7_person_13 : decode c_X7_person 13 = .ok (.ldc2_w 106, 3) := by decide +kernel
theorem d_X7_person_16 : decode c_X7_person 16 = .ok (.lastore, 1) := by decide +kernel
theorem d_X7_person_17 : decode c_X7_person 17 = .ok (.iinc 2 1, 3) := by decide +kernel
theorem d_X7_person_20 : decode c_X7_person 20 = .ok (.goto (-18), 3) := by decide +kernel
theorem d_X7_person_23 : decode c_X7_person 23 = .ok (.iconst 0, 1) := by decide +kernel
theorem d_X7_person_24 : decode c_X7_person 24 = .ok (.istore_n 2, 1) := by decide +kernel
theorem d_X7_person_25 : decode c_X7_person 25 = .ok (.iload_n 2, 1) := by decide +kernel
theorem d_X7_person_26 : decode c_X7_person 26 = .ok (.bipush 8, 2) := by decide +kernel
theorem d_X7_person_28 : decode c_X7_person 28 = .ok (.if_icmp .gt 69, 3) := by decide +kernel
theorem d_X7_person_31 : decode c_X7_person 31 = .ok (.iconst 0, 1) := by decide +kernel
theorem d_X7_person_32 : decode c_X7_person 32 = .ok (.istore_n 3, 1) := by decide +kernel
theorem d_X7_person_33 : decode c_X7_person 33 = .ok (.iload_n 3, 1) := by decide +kernel
theorem d_X7_person_34 : decode c_X7_person 34 = .ok (.aload_n 0, 1) := by decide +kernel
theorem d_X7_person_35 : decode c_X7_person 35 = .ok (.getfield 7, 3) := by decide +kernel
theorem d_X7_person_38 : decode c_X7_person 38 = .ok (.if_icmp .ge 21, 3) := by decide +kernel
theorem d_X7_person_41 : decode c_X7_person 41 = .ok (.aload_n 0, 1) := by decide +kernel
theorem d_X7_person_42 : decode c_X7_person 42 = .ok (.getfield 70, 3) := by decide +kernel
theorem d_X7_person_45 : decode c_X7_person 45 = .ok (.iload_n 3, 1) := by decide +kernel
theorem d_X7_person_46 : decode c_X7_person 46 = .ok (.aload_n 0, 1) := by decide +kernel
theorem d_X7_person_47 : decode c_X7_person 47 = .ok (.iload_n 1, 1) := by decide +kernel
theorem d_X7_person_48 : decode c_X7_person 48 = .ok (.iload_n 3, 1) := by decide +kernel
theorem d_X7_person_49 : decode c_X7_person 49 = .ok (.invokevirtual 141, 3) := by decide +kernel
theorem d_X7_person_52 : decode c_X7_person 52 = .ok (.lastore, 1) := by decide +kernel
theorem d_X7_person_53 : decode c_X7_person 53 = .ok (.iinc 3 1, 3) := by decide +kernel
theorem d_X7_person_56 : decode c_X7_person 56 = .ok (.goto (-23), 3) := by decide +kernel
theorem d_X7_person_59 : decode c_X7_person 59 = .ok (.iload_n 2, 1) := by decide +kernel
theorem d_X7_person_60 : decode c_X7_person 60 = .ok (.bipush 8, 2) := by decide +kernel
theorem d_X7_person_62 : decode c_X7_person 62 = .ok (.if_icmp .ge 29, 3) := by decide +kernel
theorem d_X7_person_65 : decode c_X7_person 65 = .ok (.aload_n 0, 1) := by decide +kernel
theorem d_X7_person_66 : decode c_X7_person 66 = .ok (.getfield 35, 3) := by decide +kernel
theorem d_X7_person_69 : decode c_X7_person 69 = .ok (.iload_n 2, 1) := by decide +kernel
theorem d_X7_person_70 : decode c_X7_person 70 = .ok (.iaload, 1) := by decide +kernel
theorem d_X7_person_71 : decode c_X7_person 71 = .ok (.ifCond .lt 20, 3) := by decide +kernel
theorem d_X7_person_74 : decode c_X7_person 74 = .ok (.aload_n 0, 1) := by decide +kernel
theorem d_X7_person_75 : decode c_X7_person 75 = .ok (.getfield 73, 3) := by decide +kernel
theorem d_X7_person_78 : decode c_X7_person 78 = .ok (.iload_n 2, 1) := by decide +kernel
theorem d_X7_person_79 : decode c_X7_person 79 = .ok (.aload_n 0, 1) := by decide +kernel
theorem d_X7_person_80 : decode c_X7_person 80 = .ok (.getfield 70, 3) := by decide +kernel
theorem d_X7_person_83 : decode c_X7_person 83 = .ok (.aload_n 0, 1) := by decide +kernel
theorem d_X7_person_84 : decode c_X7_person 84 = .ok (.getfield 35, 3) := by decide +kernel
theorem d_X7_person_87 : decode c_X7_person 87 = .ok (.iload_n 2, 1) := by decide +kernel
theorem d_X7_person_88 : decode c_X7_person 88 = .ok (.iaload, 1) := by decide +kernel
theorem d_X7_person_89 : decode c_X7_person 89 = .ok (.laload, 1) := by decide +kernel
theorem d_X7_person_90 : decode c_X7_person 90 = .ok (.lastore, 1) := by decide +kernel
theorem d_X7_person_91 : decode c_X7_person 91 = .ok (.iinc 2 1, 3) := by decide +kernel
theorem d_X7_person_94 : decode c_X7_person 94 = .ok (.goto (-69), 3) := by decide +kernel
theorem d_X7_person_97 : decode c_X7_person 97 = .ok (.return_, 1) := by decide +kernel
theorem d_X7_paidWhole_0 : decode c_X7_paidWhole 0 = .ok (.aload_n 0, 1) := by decide +kernel
theorem d_X7_paidWhole_1 : decode c_X7_paidWhole 1 = .ok (.aload_n 0, 1) := by decide +kernel
theorem d_X7_paidWhole_2 : decode c_X7_paidWhole 2 = .ok (.getfield 67, 3) := by decide +kernel
theorem d_X7_paidWhole_5 : decode c_X7_paidWhole 5 = .ok (.iload_n 1, 1) := by decide +kernel
theorem d_X7_paidWhole_6 : decode c_X7_paidWhole 6 = .ok (.iconst 2, 1) := by decide +kernel
theorem d_X7_paidWhole_7 : decode c_X7_paidWhole 7 = .ok (.imul, 1) := by decide +kernel
theorem d_X7_paidWhole_8 : decode c_X7_paidWhole 8 = .ok (.laload, 1) := by decide +kernel
theorem d_X7_paidWhole_9 : decode c_X7_paidWhole 9 = .ok (.invokevirtual 100, 3) := by decide +kernel
theorem d_X7_paidWhole_12 : decode c_X7_paidWhole 12 = .ok (.ifCond .eq 24, 3) := by decide +kernel
theorem d_X7_paidWhole_15 : decode c_X7_paidWhole 15 = .ok (.aload_n 0, 1) := by decide +kernel
theorem d_X7_paidWhole_16 : decode c_X7_paidWhole 16 = .ok (.aload_n 0, 1) := by decide +kernel
theorem d_X7_paidWhole_17 : decode c_X7_paidWhole 17 = .ok (.getfield 67, 3) := by decide +kernel
theorem d_X7_paidWhole_20 : decode c_X7_paidWhole 20 = .ok (.iload_n 1, 1) := by decide +kernel
theorem d_X7_paidWhole_21 : decode c_X7_paidWhole 21 = .ok (.iconst 2, 1) := by decide +kernel
theorem d_X7_paidWhole_22 : decode c_X7_paidWhole 22 = .ok (.imul, 1) := by decide +kernel
theorem d_X7_paidWhole_23 : decode c_X7_paidWhole 23 = .ok (.iconst 1, 1) := by decide +kernel
theorem d_X7_paidWhole_24 : decode c_X7_paidWhole 24 = .ok (.iadd, 1) := by decide +kernel
theorem d_X7_paidWhole_25 : decode c_X7_paidWhole 25 = .ok (.laload, 1) := by decide +kernel
theorem d_X7_paidWhole_26 : decode c_X7_paidWhole 26 = .ok (.invokevirtual 100, 3) := by decide +kernel
theorem d_X7_paidWhole_29 : decode c_X7_paidWhole 29 = .ok (.ifCond .eq 7, 3) := by decide +kernel
theorem d_X7_paidWhole_32 : decode c_X7_paidWhole 32 = .ok (.iconst 1, 1) := by decide +kernel
theorem d_X7_paidWhole_33 : decode c_X7_paidWhole 33 = .ok (.goto 4, 3) := by decide +kernel
theorem d_X7_paidWhole_36 : decode c_X7_paidWhole 36 = .ok (.iconst 0, 1) := by decide +kernel
theorem d_X7_paidWhole_37 : decode c_X7_paidWhole 37 = .ok (.ireturn, 1) := by decide +kernel
theorem d_X7_value_0 : decode c_X7_value 0 = .ok (.aload_n 0, 1) := by decide +kernel
theorem d_X7_value_1 : decode c_X7_value 1 = .ok (.iload_n 1, 1) := by decide +kernel
theorem d_X7_value_2 : decode c_X7_value 2 = .ok (.iconst 0, 1) := by decide +kernel
theorem d_X7_value_3 : decode c_X7_value 3 = .ok (.iconst 5, 1) := by decide +kernel
theorem d_X7_value_4 : decode c_X7_value 4 = .ok (.invokevirtual 76, 3) := by decide +kernel
theorem d_X7_value_7 : decode c_X7_value 7 = .ok (.ifCond .ne 19, 3) := by decide +kernel
theorem d_X7_value_10 : decode c_X7_value 10 = .ok (.aload_n 0, 1) := by decide +kernel
theorem d_X7_value_11 : decode c_X7_value 11 = .ok (.iload_n 2, 1) := by decide +kernel
theorem d_X7_value_12 : decode c_X7_value 12 = .ok (.invokevirtual 84, 3) := by decide +kernel
theorem d_X7_value_15 : decode c_X7_value 15 = .ok (.ifCond .eq 11, 3) := by decide +kernel
theorem d_X7_value_18 : decode c_X7_value 18 = .ok (.aload_n 0, 1) := by decide +kernel
theorem d_X7_value_19 : decode c_X7_value 19 = .ok (.iload_n 1, 1) := by decide +kernel
theorem d_X7_value_20 : decode c_X7_value 20 = .ok (.invokevirtual 144, 3) := by decide +kernel
theorem d_X7_value_23 : decode c_X7_value 23 = .ok (.ifCond .ne 7, 3) := by decide +kernel
theorem d_X7_value_26 : decode c_X7_value 26 = .ok (.ldc2_w 147, 3) := by decide +kernel
theorem d_X7_value_29 : decode c_X7_value 29 = .ok (.lreturn, 1) := by decide +kernel
theorem d_X7_value_30 : decode c_X7_value 30 = .ok (.aload_n 0, 1) := by decide +kernel
theorem d_X7_value_31 : decode c_X7_value 31 = .ok (.iload_n 1, 1) := by decide +kernel
theorem d_X7_value_32 : decode c_X7_value 32 = .ok (.invokevirtual 149, 3) := by decide +kernel
theorem d_X7_value_35 : decode c_X7_value 35 = .ok (.aload_n 0, 1) := by decide +kernel
theorem d_X7_value_36 : decode c_X7_value 36 = .ok (.getfield 70, 3) := by decide +kernel
theorem d_X7_value_39 : decode c_X7_value 39 = .ok (.iload_n 2, 1) := by decide +kernel
theorem d_X7_value_40 : decode c_X7_value 40 = .ok (.laload, 1) := by decide +kernel
theorem d_X7_value_41 : decode c_X7_value 41 = .ok (.lreturn, 1) := by decide +kernel
theorem d_X7_payOne_0 : decode c_X7_payOne 0 = .ok (.aload_n 0, 1) := by decide +kernel
theorem d_X7_payOne_1 : decode c_X7_payOne 1 = .ok (.iload_n 2, 1) := by decide +kernel
theorem d_X7_payOne_2 : decode c_X7_payOne 2 = .ok (.invokevirtual 144, 3) := by decide +kernel
theorem d_X7_payOne_5 : decode c_X7_payOne 5 = .ok (.ifCond .ne 6, 3) := by decide +kernel
theorem d_X7_payOne_8 : decode c_X7_payOne 8 = .ok (.bipush 6, 2) := by decide +kernel
theorem d_X7_payOne_10 : decode c_X7_payOne 10 = .ok (.ireturn, 1) := by decide +kernel
theorem d_X7_payOne_11 : decode c_X7_payOne 11 = .ok (.aload_n 0, 1) := by decide +kernel
theorem d_X7_payOne_12 : decode c_X7_payOne 12 = .ok (.iload_n 2, 1) := by decide +kernel
theorem d_X7_payOne_13 : decode c_X7_payOne 13 = .ok (.invokevirtual 149, 3) := by decide +kernel
theorem d_X7_payOne_16 : decode c_X7_payOne 16 = .ok (.iconst 0, 1) := by decide +kernel
theorem d_X7_payOne_17 : decode c_X7_payOne 17 = .ok (.istore_n 3, 1) := by decide +kernel
theorem d_X7_payOne_18 : decode c_X7_payOne 18 = .ok (.iload_n 3, 1) := by decide +kernel
theorem d_X7_payOne_19 : decode c_X7_payOne 19 = .ok (.iconst 3, 1) := by decide +kernel
theorem d_X7_payOne_20 : decode c_X7_payOne 20 = .ok (.if_icmp .ge 49, 3) := by decide +kernel
theorem d_X7_payOne_23 : decode c_X7_payOne 23 = .ok (.aload_n 0, 1) := by decide +kernel
theorem d_X7_payOne_24 : decode c_X7_payOne 24 = .ok (.getfield 73, 3) := by decide +kernel
theorem d_X7_payOne_27 : decode c_X7_payOne 27 = .ok (.iload_n 3, 1) := by decide +kernel
theorem d_X7_payOne_28 : decode c_X7_payOne 28 = .ok (.laload, 1) := by decide +kernel
theorem d_X7_payOne_29 : decode c_X7_payOne 29 = .ok (.ldc2_w 110, 3) := by decide +kernel
theorem d_X7_payOne_32 : decode c_X7_payOne 32 = .ok (.lcmp, 1) := by decide +kernel
theorem d_X7_payOne_33 : decode c_X7_payOne 33 = .ok (.ifCond .le 15, 3) := by decide +kernel
theorem d_X7_payOne_36 : decode c_X7_payOne 36 = .ok (.aload_n 0, 1) := by decide +kernel
theorem d_X7_payOne_37 : decode c_X7_payOne 37 = .ok (.getfield 73, 3) := by decide +kernel
theorem d_X7_payOne_40 : decode c_X7_payOne 40 = .ok (.iload_n 3, 1) := by decide +kernel
theorem d_X7_payOne_41 : decode c_X7_payOne 41 = .ok (.laload, 1) := by decide +kernel
theorem d_X7_payOne_42 : decode c_X7_payOne 42 = .ok (.ldc2_w 110, 3) := by decide +kernel
theorem d_X7_payOne_45 : decode c_X7_payOne 45 = .ok (.lsub, 1) := by decide +kernel
theorem d_X7_payOne_46 : decode c_X7_payOne 46 = .ok (.l2i, 1) := by decide +kernel
theorem d_X7_payOne_47 : decode c_X7_payOne 47 = .ok (.ireturn, 1) := by decide +kernel
theorem d_X7_payOne_48 : decode c_X7_payOne 48 = .ok (.aload_n 0, 1) := by decide +kernel
theorem d_X7_payOne_49 : decode c_X7_payOne 49 = .ok (.getfield 73, 3) := by decide +kernel
theorem d_X7_payOne_52 : decode c_X7_payOne 52 = .ok (.iload_n 3, 1) := by decide +kernel
theorem d_X7_payOne_53 : decode c_X7_payOne 53 = .ok (.laload, 1) := by decide +kernel
theorem d_X7_payOne_54 : decode c_X7_payOne 54 = .ok (.ldc2_w 106, 3) := by decide +kernel
theorem d_X7_payOne_57 : decode c_X7_payOne 57 = .ok (.lcmp, 1) := by decide +kernel
theorem d_X7_payOne_58 : decode c_X7_payOne 58 = .ok (.ifCond .ne 5, 3) := by decide +kernel
theorem d_X7_payOne_61 : decode c_X7_payOne 61 = .ok (.iconst 2, 1) := by decide +kernel
theorem d_X7_payOne_62 : decode c_X7_payOne 62 = .ok (.ireturn, 1) := by decide +kernel
theorem d_X7_payOne_63 : decode c_X7_payOne 63 = .ok (.iinc 3 1, 3) := by decide +kernel
theorem d_X7_payOne_66 : decode c_X7_payOne 66 = .ok (.goto (-48), 3) := by decide +kernel
theorem d_X7_payOne_69 : decode c_X7_payOne 69 = .ok (.aload_n 0, 1) := by decide +kernel
theorem d_X7_payOne_70 : decode c_X7_payOne 70 = .ok (.getfield 73, 3) := by decide +kernel
theorem d_X7_payOne_73 : decode c_X7_payOne 73 = .ok (.iconst 0, 1) := by decide +kernel
theorem d_X7_payOne_74 : decode c_X7_payOne 74 = .ok (.laload, 1) := by decide +kernel
theorem d_X7_payOne_75 : decode c_X7_payOne 75 = .ok (.aload_n 0, 1) := by decide +kernel
theorem d_X7_payOne_76 : decode c_X7_payOne 76 = .ok (.getfield 73, 3) := by decide +kernel
theorem d_X7_payOne_79 : decode c_X7_payOne 79 = .ok (.iconst 1, 1) := by decide +kernel
theorem d_X7_payOne_80 : decode c_X7_payOne 80 = .ok (.laload, 1) := by decide +kernel
theorem d_X7_payOne_81 : decode c_X7_payOne 81 = .ok (.lsub, 1) := by decide +kernel
theorem d_X7_payOne_82 : decode c_X7_payOne 82 = .ok (.aload_n 0, 1) := by decide +kernel
theorem d_X7_payOne_83 : decode c_X7_payOne 83 = .ok (.getfield 73, 3) := by decide +kernel
theorem d_X7_payOne_86 : decode c_X7_payOne 86 = .ok (.iconst 2, 1) := by decide +kernel
theorem d_X7_payOne_87 : decode c_X7_payOne 87 = .ok (.laload, 1) := by decide +kernel
theorem d_X7_payOne_88 : decode c_X7_payOne 88 = .ok (.lcmp, 1) := by decide +kernel
theorem d_X7_payOne_89 : decode c_X7_payOne 89 = .ok (.ifCond .eq 5, 3) := by decide +kernel
theorem d_X7_payOne_92 : decode c_X7_payOne 92 = .ok (.iconst 5, 1) := by decide +kernel
theorem d_X7_payOne_93 : decode c_X7_payOne 93 = .ok (.ireturn, 1) := by decide +kernel
theorem d_X7_payOne_94 : decode c_X7_payOne 94 = .ok (.aload_n 0, 1) := by decide +kernel
theorem d_X7_payOne_95 : decode c_X7_payOne 95 = .ok (.aload_n 0, 1) := by decide +kernel
theorem d_X7_payOne_96 : decode c_X7_payOne 96 = .ok (.getfield 67, 3) := by decide +kernel
theorem d_X7_payOne_99 : decode c_X7_payOne 99 = .ok (.iload_n 2, 1) := by decide +kernel
theorem d_X7_payOne_100 : decode c_X7_payOne 100 = .ok (.iconst 2, 1) := by decide +kernel
theorem d_X7_payOne_101 : decode c_X7_payOne 101 = .ok (.imul, 1) := by decide +kernel
theorem d_X7_payOne_102 : decode c_X7_payOne 102 = .ok (.laload, 1) := by decide +kernel
theorem d_X7_payOne_103 : decode c_X7_payOne 103 = .ok (.aload_n 0, 1) := by decide +kernel
theorem d_X7_payOne_104 : decode c_X7_payOne 104 = .ok (.getfield 73, 3) := by decide +kernel
theorem d_X7_payOne_107 : decode c_X7_payOne 107 = .ok (.iconst 0, 1) := by decide +kernel
theorem d_X7_payOne_108 : decode c_X7_payOne 108 = .ok (.laload, 1) := by decide +kernel
theorem d_X7_payOne_109 : decode c_X7_payOne 109 = .ok (.ladd, 1) := by decide +kernel
theorem d_X7_payOne_110 : decode c_X7_payOne 110 = .ok (.invokevirtual 100, 3) := by decide +kernel
theorem d_X7_payOne_113 : decode c_X7_payOne 113 = .ok (.ifCond .eq 27, 3) := by decide +kernel
theorem d_X7_payOne_116 : decode c_X7_payOne 116 = .ok (.aload_n 0, 1) := by decide +kernel
theorem d_X7_payOne_117 : decode c_X7_payOne 117 = .ok (.aload_n 0, 1) := by decide +kernel
theorem d_X7_payOne_118 : decode c_X7_payOne 118 = .ok (.getfield 67, 3) := by decide +kernel
theorem d_X7_payOne_121 : decode c_X7_payOne 121 = .ok (.iload_n 2, 1) := by decide +kernel
theorem d_X7_payOne_122 : decode c_X7_payOne 122 = .ok (.iconst 2, 1) := by decide +kernel
theorem d_X7_payOne_123 : decode c_X7_payOne 123 = .ok (.imul, 1) := by decide +kernel
theorem d_X7_payOne_124 : decode c_X7_payOne 124 = .ok (.iconst 1, 1) := by decide +kernel
theorem d_X7_payOne_125 : decode c_X7_payOne 125 = .ok (.iadd, 1) := by decide +kernel
theorem d_X7_payOne_126 : decode c_X7_payOne 126 = .ok (.laload, 1) := by decide +kernel
theorem d_X7_payOne_127 : decode c_X7_payOne 127 = .ok (.aload_n 0, 1) := by decide +kernel
theorem d_X7_payOne_128 : decode c_X7_payOne 128 = .ok (.getfield 73, 3) := by decide +kernel
theorem d_X7_payOne_131 : decode c_X7_payOne 131 = .ok (.iconst 1, 1) := by decide +kernel
theorem d_X7_payOne_132 : decode c_X7_payOne 132 = .ok (.laload, 1) := by decide +kernel
theorem d_X7_payOne_133 : decode c_X7_payOne 133 = .ok (.ladd, 1) := by decide +kernel
theorem d_X7_payOne_134 : decode c_X7_payOne 134 = .ok (.invokevirtual 100, 3) := by decide +kernel
theorem d_X7_payOne_137 : decode c_X7_payOne 137 = .ok (.ifCond .ne 6, 3) := by decide +kernel
theorem d_X7_payOne_140 : decode c_X7_payOne 140 = .ok (.bipush 6, 2) := by decide +kernel
theorem d_X7_payOne_142 : decode c_X7_payOne 142 = .ok (.ireturn, 1) := by decide +kernel
theorem d_X7_payOne_143 : decode c_X7_payOne 143 = .ok (.iconst 0, 1) := by decide +kernel
theorem d_X7_payOne_144 : decode c_X7_payOne 144 = .ok (.istore_n 3, 1) := by decide +kernel
theorem d_X7_payOne_145 : decode c_X7_payOne 145 = .ok (.iload_n 3, 1) := by decide +kernel
theorem d_X7_payOne_146 : decode c_X7_payOne 146 = .ok (.iconst 3, 1) := by decide +kernel
theorem d_X7_payOne_147 : decode c_X7_payOne 147 = .ok (.if_icmp .ge 30, 3) := by decide +kernel
theorem d_X7_payOne_150 : decode c_X7_payOne 150 = .ok (.aload_n 0, 1) := by decide +kernel
theorem d_X7_payOne_151 : decode c_X7_payOne 151 = .ok (.getfield 63, 3) := by decide +kernel
theorem d_X7_payOne_154 : decode c_X7_payOne 154 = .ok (.iload_n 1, 1) := by decide +kernel
theorem d_X7_payOne_155 : decode c_X7_payOne 155 = .ok (.bipush 6, 2) := by decide +kernel
theorem d_X7_payOne_157 : decode c_X7_payOne 157 = .ok (.imul, 1) := by decide +kernel
theorem d_X7_payOne_158 : decode c_X7_payOne 158 = .ok (.iload_n 2, 1) := by decide +kernel
theorem d_X7_payOne_159 : decode c_X7_payOne 159 = .ok (.iadd, 1) := by decide +kernel
theorem d_X7_payOne_160 : decode c_X7_payOne 160 = .ok (.iconst 3, 1) := by decide +kernel
theorem d_X7_payOne_161 : decode c_X7_payOne 161 = .ok (.imul, 1) := by decide +kernel
theorem d_X7_payOne_162 : decode c_X7_payOne 162 = .ok (.iload_n 3, 1) := by decide +kernel
theorem d_X7_payOne_163 : decode c_X7_payOne 163 = .ok (.iadd, 1) := by decide +kernel
theorem d_X7_payOne_164 : decode c_X7_payOne 164 = .ok (.aload_n 0, 1) := by decide +kernel
theorem d_X7_payOne_165 : decode c_X7_payOne 165 = .ok (.getfield 73, 3) := by decide +kernel
theorem d_X7_payOne_168 : decode c_X7_payOne 168 = .ok (.iload_n 3, 1) := by decide +kernel
theorem d_X7_payOne_169 : decode c_X7_payOne 169 = .ok (.laload, 1) := by decide +kernel
theorem d_X7_payOne_170 : decode c_X7_payOne 170 = .ok (.lastore, 1) := by decide +kernel
theorem d_X7_payOne_171 : decode c_X7_payOne 171 = .ok (.iinc 3 1, 3) := by decide +kernel
theorem d_X7_payOne_174 : decode c_X7_payOne 174 = .ok (.goto (-29), 3) := by decide +kernel
theorem d_X7_payOne_177 : decode c_X7_payOne 177 = .ok (.aload_n 0, 1) := by decide +kernel
theorem d_X7_payOne_178 : decode c_X7_payOne 178 = .ok (.getfield 57, 3) := by decide +kernel
theorem d_X7_payOne_181 : decode c_X7_payOne 181 = .ok (.iload_n 1, 1) := by decide +kernel
theorem d_X7_payOne_182 : decode c_X7_payOne 182 = .ok (.bipush 6, 2) := by decide +kernel
theorem d_X7_payOne_184 : decode c_X7_payOne 184 = .ok (.imul, 1) := by decide +kernel
theorem d_X7_payOne_185 : decode c_X7_payOne 185 = .ok (.iload_n 2, 1) := by decide +kernel
theorem d_X7_payOne_186 : decode c_X7_payOne 186 = .ok (.iadd, 1) := by decide +kernel
theorem d_X7_payOne_187 : decode c_X7_payOne 187 = .ok (.iconst 1, 1) := by decide +kernel
theorem d_X7_payOne_188 : decode c_X7_payOne 188 = .ok (.bastore, 1) := by decide +kernel
theorem d_X7_payOne_189 : decode c_X7_payOne 189 = .ok (.aload_n 0, 1) := by decide +kernel
theorem d_X7_payOne_190 : decode c_X7_payOne 190 = .ok (.getfield 67, 3) := by decide +kernel
theorem d_X7_payOne_193 : decode c_X7_payOne 193 = .ok (.iload_n 2, 1) := by decide +kernel
theorem d_X7_payOne_194 : decode c_X7_payOne 194 = .ok (.iconst 2, 1) := by decide +kernel
theorem d_X7_payOne_195 : decode c_X7_payOne 195 = .ok (.imul, 1) := by decide +kernel
theorem d_X7_payOne_196 : decode c_X7_payOne 196 = .ok (.dup2, 1) := by decide +kernel
theorem d_X7_payOne_197 : decode c_X7_payOne 197 = .ok (.laload, 1) := by decide +kernel
theorem d_X7_payOne_198 : decode c_X7_payOne 198 = .ok (.aload_n 0, 1) := by decide +kernel
theorem d_X7_payOne_199 : decode c_X7_payOne 199 = .ok (.getfield 73, 3) := by decide +kernel
theorem d_X7_payOne_202 : decode c_X7_payOne 202 = .ok (.iconst 0, 1) := by decide +kernel
theorem d_X7_payOne_203 : decode c_X7_payOne 203 = .ok (.laload, 1) := by decide +kernel
theorem d_X7_payOne_204 : decode c_X7_payOne 204 = .ok (.ladd, 1) := by decide +kernel
theorem d_X7_payOne_205 : decode c_X7_payOne 205 = .ok (.lastore, 1) := by decide +kernel
theorem d_X7_payOne_206 : decode c_X7_payOne 206 = .ok (.aload_n 0, 1) := by decide +kernel
theorem d_X7_payOne_207 : decode c_X7_payOne 207 = .ok (.getfield 67, 3) := by decide +kernel
theorem d_X7_payOne_210 : decode c_X7_payOne 210 = .ok (.iload_n 2, 1) := by decide +kernel
theorem d_X7_payOne_211 : decode c_X7_payOne 211 = .ok (.iconst 2, 1) := by decide +kernel
theorem d_X7_payOne_212 : decode c_X7_payOne 212 = .ok (.imul, 1) := by decide +kernel
theorem d_X7_payOne_213 : decode c_X7_payOne 213 = .ok (.iconst 1, 1) := by decide +kernel
theorem d_X7_payOne_214 : decode c_X7_payOne 214 = .ok (.iadd, 1) := by decide +kernel
theorem d_X7_payOne_215 : decode c_X7_payOne 215 = .ok (.dup2, 1) := by decide +kernel
theorem d_X7_payOne_216 : decode c_X7_payOne 216 = .ok (.laload, 1) := by decide +kernel
theorem d_X7_payOne_217 : decode c_X7_payOne 217 = .ok (.aload_n 0, 1) := by decide +kernel
theorem d_X7_payOne_218 : decode c_X7_payOne 218 = .ok (.getfield 73, 3) := by decide +kernel
theorem d_X7_payOne_221 : decode c_X7_payOne 221 = .ok (.iconst 1, 1) := by decide +kernel
theorem d_X7_payOne_222 : decode c_X7_payOne 222 = .ok (.laload, 1) := by decide +kernel
theorem d_X7_payOne_223 : decode c_X7_payOne 223 = .ok (.ladd, 1) := by decide +kernel
theorem d_X7_payOne_224 : decode c_X7_payOne 224 = .ok (.lastore, 1) := by decide +kernel
theorem d_X7_payOne_225 : decode c_X7_payOne 225 = .ok (.iconst 0, 1) := by decide +kernel
theorem d_X7_payOne_226 : decode c_X7_payOne 226 = .ok (.ireturn, 1) := by decide +kernel
theorem d_X7_payAll_0 : decode c_X7_payAll 0 = .ok (.aload_n 0, 1) := by decide +kernel
theorem d_X7_payAll_1 : decode c_X7_payAll 1 = .ok (.getfield 54, 3) := by decide +kernel
theorem d_X7_payAll_4 : decode c_X7_payAll 4 = .ok (.iload_n 1, 1) := by decide +kernel
theorem d_X7_payAll_5 : decode c_X7_payAll 5 = .ok (.iconst 0, 1) := by decide +kernel
theorem d_X7_payAll_6 : decode c_X7_payAll 6 = .ok (.bastore, 1) := by decide +kernel
theorem d_X7_payAll_7 : decode c_X7_payAll 7 = .ok (.iconst 0, 1) := by decide +kernel
theorem d_X7_payAll_8 : decode c_X7_payAll 8 = .ok (.istore_n 2, 1) := by decide +kernel
theorem d_X7_payAll_9 : decode c_X7_payAll 9 = .ok (.iload_n 2, 1) := by decide +kernel
theorem d_X7_payAll_10 : decode c_X7_payAll 10 = .ok (.bipush 6, 2) := by decide +kernel
theorem d_X7_payAll_12 : decode c_X7_payAll 12 = .ok (.if_icmp .ge 51, 3) := by decide +kernel
theorem d_X7_payAll_15 : decode c_X7_payAll 15 = .ok (.aload_n 0, 1) := by decide +kernel
theorem d_X7_payAll_16 : decode c_X7_payAll 16 = .ok (.getfield 57, 3) := by decide +kernel
theorem d_X7_payAll_19 : decode c_X7_payAll 19 = .ok (.iload_n 1, 1) := by decide +kernel
theorem d_X7_payAll_20 : decode c_X7_payAll 20 = .ok (.bipush 6, 2) := by decide +kernel
theorem d_X7_payAll_22 : decode c_X7_payAll 22 = .ok (.imul, 1) := by decide +kernel
theorem d_X7_payAll_23 : decode c_X7_payAll 23 = .ok (.iload_n 2, 1) := by decide +kernel
theorem d_X7_payAll_24 : decode c_X7_payAll 24 = .ok (.iadd, 1) := by decide +kernel
theorem d_X7_payAll_25 : decode c_X7_payAll 25 = .ok (.iconst 0, 1) := by decide +kernel
theorem d_X7_payAll_26 : decode c_X7_payAll 26 = .ok (.bastore, 1) := by decide +kernel
theorem d_X7_payAll_27 : decode c_X7_payAll 27 = .ok (.aload_n 0, 1) := by decide +kernel
theorem d_X7_payAll_28 : decode c_X7_payAll 28 = .ok (.getfield 60, 3) := by decide +kernel
theorem d_X7_payAll_31 : decode c_X7_payAll 31 = .ok (.iload_n 1, 1) := by decide +kernel
theorem d_X7_payAll_32 : decode c_X7_payAll 32 = .ok (.bipush 6, 2) := by decide +kernel
theorem d_X7_payAll_34 : decode c_X7_payAll 34 = .ok (.imul, 1) := by decide +kernel
theorem d_X7_payAll_35 : decode c_X7_payAll 35 = .ok (.iload_n 2, 1) := by decide +kernel
theorem d_X7_payAll_36 : decode c_X7_payAll 36 = .ok (.iadd, 1) := by decide +kernel
theorem d_X7_payAll_37 : decode c_X7_payAll 37 = .ok (.aload_n 0, 1) := by decide +kernel
theorem d_X7_payAll_38 : decode c_X7_payAll 38 = .ok (.getfield 50, 3) := by decide +kernel
theorem d_X7_payAll_41 : decode c_X7_payAll 41 = .ok (.iload_n 2, 1) := by decide +kernel
theorem d_X7_payAll_42 : decode c_X7_payAll 42 = .ok (.baload, 1) := by decide +kernel
theorem d_X7_payAll_43 : decode c_X7_payAll 43 = .ok (.ifCond .eq 12, 3) := by decide +kernel
theorem d_X7_payAll_46 : decode c_X7_payAll 46 = .ok (.aload_n 0, 1) := by decide +kernel
theorem d_X7_payAll_47 : decode c_X7_payAll 47 = .ok (.iload_n 1, 1) := by decide +kernel
theorem d_X7_payAll_48 : decode c_X7_payAll 48 = .ok (.iload_n 2, 1) := by decide +kernel
theorem d_X7_payAll_49 : decode c_X7_payAll 49 = .ok (.invokevirtual 153, 3) := by decide +kernel
theorem d_X7_payAll_52 : decode c_X7_payAll 52 = .ok (.goto 4, 3) := by decide +kernel
theorem d_X7_payAll_55 : decode c_X7_payAll 55 = .ok (.iconst 0, 1) := by decide +kernel
theorem d_X7_payAll_56 : decode c_X7_payAll 56 = .ok (.iastore, 1) := by decide +kernel
theorem d_X7_payAll_57 : decode c_X7_payAll 57 = .ok (.iinc 2 1, 3) := by decide +kernel
theorem d_X7_payAll_60 : decode c_X7_payAll 60 = .ok (.goto (-51), 3) := by decide +kernel
theorem d_X7_payAll_63 : decode c_X7_payAll 63 = .ok (.return_, 1) := by decide +kernel
theorem d_X7_pay_0 : decode c_X7_pay 0 = .ok (.aload_n 0, 1) := by decide +kernel
theorem d_X7_pay_1 : decode c_X7_pay 1 = .ok (.getfield 13, 3) := by decide +kernel
theorem d_X7_pay_4 : decode c_X7_pay 4 = .ok (.bipush 16, 2) := by decide +kernel
theorem d_X7_pay_6 : decode c_X7_pay 6 = .ok (.if_icmp .ne 6, 3) := by decide +kernel
theorem d_X7_pay_9 : decode c_X7_pay 9 = .ok (.bipush (-2), 2) := by decide +kernel
theorem d_X7_pay_11 : decode c_X7_pay 11 = .ok (.ireturn, 1) := by decide +kernel
theorem d_X7_pay_12 : decode c_X7_pay 12 = .ok (.aload_n 0, 1) := by decide +kernel
theorem d_X7_pay_13 : decode c_X7_pay 13 = .ok (.aload_n 0, 1) := by decide +kernel
theorem d_X7_pay_14 : decode c_X7_pay 14 = .ok (.getfield 13, 3) := by decide +kernel
theorem d_X7_pay_17 : decode c_X7_pay 17 = .ok (.invokevirtual 157, 3) := by decide +kernel
theorem d_X7_pay_20 : decode c_X7_pay 20 = .ok (.aload_n 0, 1) := by decide +kernel
theorem d_X7_pay_21 : decode c_X7_pay 21 = .ok (.dup, 1) := by decide +kernel
theorem d_X7_pay_22 : decode c_X7_pay 22 = .ok (.getfield 13, 3) := by decide +kernel
theorem d_X7_pay_25 : decode c_X7_pay 25 = .ok (.iconst 1, 1) := by decide +kernel
theorem d_X7_pay_26 : decode c_X7_pay 26 = .ok (.iadd, 1) := by decide +kernel
theorem d_X7_pay_27 : decode c_X7_pay 27 = .ok (.putfield 13, 3) := by decide +kernel
theorem d_X7_pay_30 : decode c_X7_pay 30 = .ok (.aload_n 0, 1) := by decide +kernel
theorem d_X7_pay_31 : decode c_X7_pay 31 = .ok (.getfield 13, 3) := by decide +kernel
theorem d_X7_pay_34 : decode c_X7_pay 34 = .ok (.iconst 1, 1) := by decide +kernel
theorem d_X7_pay_35 : decode c_X7_pay 35 = .ok (.isub, 1) := by decide +kernel
theorem d_X7_pay_36 : decode c_X7_pay 36 = .ok (.ireturn, 1) := by decide +kernel
theorem d_X7_takeBack_0 : decode c_X7_takeBack 0 = .ok (.aload_n 0, 1) := by decide +kernel
theorem d_X7_takeBack_1 : decode c_X7_takeBack 1 = .ok (.getfield 54, 3) := by decide +kernel
theorem d_X7_takeBack_4 : decode c_X7_takeBack 4 = .ok (.iload_n 1, 1) := by decide +kernel
theorem d_X7_takeBack_5 : decode c_X7_takeBack 5 = .ok (.iconst 1, 1) := by decide +kernel
theorem d_X7_takeBack_6 : decode c_X7_takeBack 6 = .ok (.bastore, 1) := by decide +kernel
theorem d_X7_takeBack_7 : decode c_X7_takeBack 7 = .ok (.iconst 0, 1) := by decide +kernel
theorem d_X7_takeBack_8 : decode c_X7_takeBack 8 = .ok (.istore_n 2, 1) := by decide +kernel
theorem d_X7_takeBack_9 : decode c_X7_takeBack 9 = .ok (.iload_n 2, 1) := by decide +kernel
theorem d_X7_takeBack_10 : decode c_X7_takeBack 10 = .ok (.bipush 6, 2) := by decide +kernel
theorem d_X7_takeBack_12 : decode c_X7_takeBack 12 = .ok (.if_icmp .ge 64, 3) := by decide +kernel
theorem d_X7_takeBack_15 : decode c_X7_takeBack 15 = .ok (.iconst 0, 1) := by decide +kernel
theorem d_X7_takeBack_16 : decode c_X7_takeBack 16 = .ok (.istore_n 3, 1) := by decide +kernel
theorem d_X7_takeBack_17 : decode c_X7_takeBack 17 = .ok (.iload_n 3, 1) := by decide +kernel
theorem d_X7_takeBack_18 : decode c_X7_takeBack 18 = .ok (.iconst 2, 1) := by decide +kernel
theorem d_X7_takeBack_19 : decode c_X7_takeBack 19 = .ok (.if_icmp .ge 51, 3) := by decide +kernel
theorem d_X7_takeBack_22 : decode c_X7_takeBack 22 = .ok (.aload_n 0, 1) := by decide +kernel
theorem d_X7_takeBack_23 : decode c_X7_takeBack 23 = .ok (.getfield 57, 3) := by decide +kernel
theorem d_X7_takeBack_26 : decode c_X7_takeBack 26 = .ok (.iload_n 1, 1) := by decide +kernel
theorem d_X7_takeBack_27 : decode c_X7_takeBack 27 = .ok (.bipush 6, 2) := by decide +kernel
theorem d_X7_takeBack_29 : decode c_X7_takeBack 29 = .ok (.imul, 1) := by decide +kernel
theorem d_X7_takeBack_30 : decode c_X7_takeBack 30 = .ok (.iload_n 2, 1) := by decide +kernel
theorem d_X7_takeBack_31 : decode c_X7_takeBack 31 = .ok (.iadd, 1) := by decide +kernel
theorem d_X7_takeBack_32 : decode c_X7_takeBack 32 = .ok (.baload, 1) := by decide +kernel
theorem d_X7_takeBack_33 : decode c_X7_takeBack 33 = .ok (.ifCond .eq 37, 3) := by decide +kernel
theorem d_X7_takeBack_36 : decode c_X7_takeBack 36 = .ok (.aload_n 0, 1) := by decide +kernel
theorem d_X7_takeBack_37 : decode c_X7_takeBack 37 = .ok (.getfield 67, 3) := by decide +kernel
theorem d_X7_takeBack_40 : decode c_X7_takeBack 40 = .ok (.iload_n 2, 1) := by decide +kernel
theorem d_X7_takeBack_41 : decode c_X7_takeBack 41 = .ok (.iconst 2, 1) := by decide +kernel
theorem d_X7_takeBack_42 : decode c_X7_takeBack 42 = .ok (.imul, 1) := by decide +kernel
theorem d_X7_takeBack_43 : decode c_X7_takeBack 43 = .ok (.iload_n 3, 1) := by decide +kernel
theorem d_X7_takeBack_44 : decode c_X7_takeBack 44 = .ok (.iadd, 1) := by decide +kernel
theorem d_X7_takeBack_45 : decode c_X7_takeBack 45 = .ok (.dup2, 1) := by decide +kernel
theorem d_X7_takeBack_46 : decode c_X7_takeBack 46 = .ok (.laload, 1) := by decide +kernel
theorem d_X7_takeBack_47 : decode c_X7_takeBack 47 = .ok (.aload_n 0, 1) := by decide +kernel
theorem d_X7_takeBack_48 : decode c_X7_takeBack 48 = .ok (.getfield 63, 3) := by decide +kernel
theorem d_X7_takeBack_51 : decode c_X7_takeBack 51 = .ok (.iload_n 1, 1) := by decide +kernel
theorem d_X7_takeBack_52 : decode c_X7_takeBack 52 = .ok (.bipush 6, 2) := by decide +kernel
theorem d_X7_takeBack_54 : decode c_X7_takeBack 54 = .ok (.imul, 1) := by decide +kernel
theorem d_X7_takeBack_55 : decode c_X7_takeBack 55 = .ok (.iload_n 2, 1) := by decide +kernel
theorem d_X7_takeBack_56 : decode c_X7_takeBack 56 = .ok (.iadd, 1) := by decide +kernel
theorem d_X7_takeBack_57 : decode c_X7_takeBack 57 = .ok (.iconst 3, 1) := by decide +kernel
theorem d_X7_takeBack_58 : decode c_X7_takeBack 58 = .ok (.imul, 1) := by decide +kernel
theorem d_X7_takeBack_59 : decode c_X7_takeBack 59 = .ok (.iload_n 3, 1) := by decide +kernel
theorem d_X7_takeBack_60 : decode c_X7_takeBack 60 = .ok (.iadd, 1) := by decide +kernel
theorem d_X7_takeBack_61 : decode c_X7_takeBack 61 = .ok (.laload, 1) := by decide +kernel
theorem d_X7_takeBack_62 : decode c_X7_takeBack 62 = .ok (.lsub, 1) := by decide +kernel
theorem d_X7_takeBack_63 : decode c_X7_takeBack 63 = .ok (.lastore, 1) := by decide +kernel
theorem d_X7_takeBack_64 : decode c_X7_takeBack 64 = .ok (.iinc 3 1, 3) := by decide +kernel
theorem d_X7_takeBack_67 : decode c_X7_takeBack 67 = .ok (.goto (-50), 3) := by decide +kernel
theorem d_X7_takeBack_70 : decode c_X7_takeBack 70 = .ok (.iinc 2 1, 3) := by decide +kernel
theorem d_X7_takeBack_73 : decode c_X7_takeBack 73 = .ok (.goto (-64), 3) := by decide +kernel
theorem d_X7_takeBack_76 : decode c_X7_takeBack 76 = .ok (.return_, 1) := by decide +kernel
theorem d_X7_back_0 : decode c_X7_back 0 = .ok (.iload_n 1, 1) := by decide +kernel
theorem d_X7_back_1 : decode c_X7_back 1 = .ok (.ifCond .lt 20, 3) := by decide +kernel
theorem d_X7_back_4 : decode c_X7_back 4 = .ok (.iload_n 1, 1) := by decide +kernel
theorem d_X7_back_5 : decode c_X7_back 5 = .ok (.aload_n 0, 1) := by decide +kernel
theorem d_X7_back_6 : decode c_X7_back 6 = .ok (.getfield 13, 3) := by decide +kernel
theorem d_X7_back_9 : decode c_X7_back 9 = .ok (.if_icmp .ge 12, 3) := by decide +kernel
theorem d_X7_back_12 : decode c_X7_back 12 = .ok (.aload_n 0, 1) := by decide +kernel
theorem d_X7_back_13 : decode c_X7_back 13 = .ok (.getfield 54, 3) := by decide +kernel
theorem d_X7_back_16 : decode c_X7_back 16 = .ok (.iload_n 1, 1) := by decide +kernel
theorem d_X7_back_17 : decode c_X7_back 17 = .ok (.baload, 1) := by decide +kernel
theorem d_X7_back_18 : decode c_X7_back 18 = .ok (.ifCond .eq 5, 3) := by decide +kernel
theorem d_X7_back_21 : decode c_X7_back 21 = .ok (.iconst (-1), 1) := by decide +kernel
theorem d_X7_back_22 : decode c_X7_back 22 = .ok (.ireturn, 1) := by decide +kernel
theorem d_X7_back_23 : decode c_X7_back 23 = .ok (.aload_n 0, 1) := by decide +kernel
theorem d_X7_back_24 : decode c_X7_back 24 = .ok (.iload_n 1, 1) := by decide +kernel
theorem d_X7_back_25 : decode c_X7_back 25 = .ok (.invokevirtual 160, 3) := by decide +kernel
theorem d_X7_back_28 : decode c_X7_back 28 = .ok (.iconst 0, 1) := by decide +kernel
theorem d_X7_back_29 : decode c_X7_back 29 = .ok (.ireturn, 1) := by decide +kernel
theorem d_X7_slips_0 : decode c_X7_slips 0 = .ok (.iconst 0, 1) := by decide +kernel
theorem d_X7_slips_1 : decode c_X7_slips 1 = .ok (.istore_n 2, 1) := by decide +kernel
theorem d_X7_slips_2 : decode c_X7_slips 2 = .ok (.iconst 0, 1) := by decide +kernel
theorem d_X7_slips_3 : decode c_X7_slips 3 = .ok (.istore_n 3, 1) := by decide +kernel
theorem d_X7_slips_4 : decode c_X7_slips 4 = .ok (.iload_n 3, 1) := by decide +kernel
theorem d_X7_slips_5 : decode c_X7_slips 5 = .ok (.bipush 6, 2) := by decide +kernel
theorem d_X7_slips_7 : decode c_X7_slips 7 = .ok (.if_icmp .ge 26, 3) := by decide +kernel
theorem d_X7_slips_10 : decode c_X7_slips 10 = .ok (.aload_n 0, 1) := by decide +kernel
theorem d_X7_slips_11 : decode c_X7_slips 11 = .ok (.getfield 57, 3) := by decide +kernel
theorem d_X7_slips_14 : decode c_X7_slips 14 = .ok (.iload_n 1, 1) := by decide +kernel
theorem d_X7_slips_15 : decode c_X7_slips 15 = .ok (.bipush 6, 2) := by decide +kernel
theorem d_X7_slips_17 : decode c_X7_slips 17 = .ok (.imul, 1) := by decide +kernel
theorem d_X7_slips_18 : decode c_X7_slips 18 = .ok (.iload_n 3, 1) := by decide +kernel
theorem d_X7_slips_19 : decode c_X7_slips 19 = .ok (.iadd, 1) := by decide +kernel
theorem d_X7_slips_20 : decode c_X7_slips 20 = .ok (.baload, 1) := by decide +kernel
theorem d_X7_slips_21 : decode c_X7_slips 21 = .ok (.ifCond .eq 6, 3) := by decide +kernel
theorem d_X7_slips_24 : decode c_X7_slips 24 = .ok (.iinc 2 1, 3) := by decide +kernel
theorem d_X7_slips_27 : decode c_X7_slips 27 = .ok (.iinc 3 1, 3) := by decide +kernel
theorem d_X7_slips_30 : decode c_X7_slips 30 = .ok (.goto (-26), 3) := by decide +kernel
theorem d_X7_slips_33 : decode c_X7_slips 33 = .ok (.iload_n 2, 1) := by decide +kernel
theorem d_X7_slips_34 : decode c_X7_slips 34 = .ok (.ireturn, 1) := by decide +kernel
theorem d_X7_again_0 : decode c_X7_again 0 = .ok (.iload_n 1, 1) := by decide +kernel
