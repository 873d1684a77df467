theorem d_X2_definitionBits_4 : decode c_X2_definitionBits 4 = .ok (.iload_n 2, 1) := by decide +kernel
theorem d_X2_definitionBits_5 : decode c_X2_definitionBits 5 = .ok (.bipush 8, 2) := by decide +kernel
theorem d_X2_definitionBits_7 : decode c_X2_definitionBits 7 = .ok (.if_icmp .ge 25, 3) := by decide +kernel
theorem d_X2_definitionBits_10 : decode c_X2_definitionBits 10 = .ok (.aload_n 0, 1) := by decide +kernel
theorem d_X2_definitionBits_11 : decode c_X2_definitionBits 11 = .ok (.getfield 18, 3) := by decide +kernel
theorem d_X2_definitionBits_14 : decode c_X2_definitionBits 14 = .ok (.iload_n 2, 1) := by decide +kernel
theorem d_X2_definitionBits_15 : decode c_X2_definitionBits 15 = .ok (.iaload, 1) := by decide +kernel
theorem d_X2_definitionBits_16 : decode c_X2_definitionBits 16 = .ok (.iconst (-1), 1) := by decide +kernel
theorem d_X2_definitionBits_17 : decode c_X2_definitionBits 17 = .ok (.if_icmp .eq 9, 3) := by decide +kernel
theorem d_X2_definitionBits_20 : decode c_X2_definitionBits 20 = .ok (.iload_n 1, 1) := by decide +kernel
theorem d_X2_definitionBits_21 : decode c_X2_definitionBits 21 = .ok (.iconst 1, 1) := by decide +kernel
theorem d_X2_definitionBits_22 : decode c_X2_definitionBits 22 = .ok (.iload_n 2, 1) := by decide +kernel
theorem d_X2_definitionBits_23 : decode c_X2_definitionBits 23 = .ok (.ishl, 1) := by decide +kernel
theorem d_X2_definitionBits_24 : decode c_X2_definitionBits 24 = .ok (.ior, 1) := by decide +kernel
theorem d_X2_definitionBits_25 : decode c_X2_definitionBits 25 = .ok (.istore_n 1, 1) := by decide +kernel
theorem d_X2_definitionBits_26 : decode c_X2_definitionBits 26 = .ok (.iinc 2 1, 3) := by decide +kernel
theorem d_X2_definitionBits_29 : decode c_X2_definitionBits 29 = .ok (.goto (-25), 3) := by decide +kernel
theorem d_X2_definitionBits_32 : decode c_X2_definitionBits 32 = .ok (.iload_n 1, 1) := by decide +kernel
theorem d_X2_definitionBits_33 : decode c_X2_definitionBits 33 = .ok (.ireturn, 1) := by decide +kernel
theorem d_X2_workOutFor_0 : decode c_X2_workOutFor 0 = .ok (.iconst 0, 1) := by decide +kernel
theorem d_X2_workOutFor_1 : decode c_X2_workOutFor 1 = .ok (.istore_n 2, 1) := by decide +kernel
theorem d_X2_workOutFor_2 : decode c_X2_workOutFor 2 = .ok (.iload_n 2, 1) := by decide +kernel
theorem d_X2_workOutFor_3 : decode c_X2_workOutFor 3 = .ok (.aload_n 0, 1) := by decide +kernel
theorem d_X2_workOutFor_4 : decode c_X2_workOutFor 4 = .ok (.getfield 12, 3) := by decide +kernel
theorem d_X2_workOutFor_7 : decode c_X2_workOutFor 7 = .ok (.getfield 39, 3) := by decide +kernel
theorem d_X2_workOutFor_10 : decode c_X2_workOutFor 10 = .ok (.if_icmp .ge 31, 3) := by decide +kernel
theorem d_X2_workOutFor_13 : decode c_X2_workOutFor 13 = .ok (.aload_n 0, 1) := by decide +kernel
theorem d_X2_workOutFor_14 : decode c_X2_workOutFor 14 = .ok (.getfield 12, 3) := by decide +kernel
theorem d_X2_workOutFor_17 : decode c_X2_workOutFor 17 = .ok (.getfield 43, 3) := by decide +kernel
theorem d_X2_workOutFor_20 : decode c_X2_workOutFor 20 = .ok (.iload_n 2, 1) := by decide +kernel
theorem d_X2_workOutFor_21 : decode c_X2_workOutFor 21 = .ok (.iaload, 1) := by decide +kernel
theorem d_X2_workOutFor_22 : decode c_X2_workOutFor 22 = .ok (.istore_n 3, 1) := by decide +kernel
theorem d_X2_workOutFor_23 : decode c_X2_workOutFor 23 = .ok (.aload_n 0, 1) := by decide +kernel
theorem d_X2_workOutFor_24 : decode c_X2_workOutFor 24 = .ok (.getfield 28, 3) := by decide +kernel
theorem d_X2_workOutFor_27 : decode c_X2_workOutFor 27 = .ok (.iload_n 3, 1) := by decide +kernel
theorem d_X2_workOutFor_28 : decode c_X2_workOutFor 28 = .ok (.aload_n 0, 1) := by decide +kernel
theorem d_X2_workOutFor_29 : decode c_X2_workOutFor 29 = .ok (.iload_n 3, 1) := by decide +kernel
theorem d_X2_workOutFor_30 : decode c_X2_workOutFor 30 = .ok (.aload_n 1, 1) := by decide +kernel
theorem d_X2_workOutFor_31 : decode c_X2_workOutFor 31 = .ok (.invokevirtual 46, 3) := by decide +kernel
theorem d_X2_workOutFor_34 : decode c_X2_workOutFor 34 = .ok (.lastore, 1) := by decide +kernel
theorem d_X2_workOutFor_35 : decode c_X2_workOutFor 35 = .ok (.iinc 2 1, 3) := by decide +kernel
theorem d_X2_workOutFor_38 : decode c_X2_workOutFor 38 = .ok (.goto (-36), 3) := by decide +kernel
theorem d_X2_workOutFor_41 : decode c_X2_workOutFor 41 = .ok (.return_, 1) := by decide +kernel
theorem d_X2_workedDefinition_0 : decode c_X2_workedDefinition 0 = .ok (.aload_n 0, 1) := by decide +kernel
theorem d_X2_workedDefinition_1 : decode c_X2_workedDefinition 1 = .ok (.aload_n 0, 1) := by decide +kernel
theorem d_X2_workedDefinition_2 : decode c_X2_workedDefinition 2 = .ok (.getfield 18, 3) := by decide +kernel
theorem d_X2_workedDefinition_5 : decode c_X2_workedDefinition 5 = .ok (.iload_n 1, 1) := by decide +kernel
theorem d_X2_workedDefinition_6 : decode c_X2_workedDefinition 6 = .ok (.iaload, 1) := by decide +kernel
theorem d_X2_workedDefinition_7 : decode c_X2_workedDefinition 7 = .ok (.invokevirtual 50, 3) := by decide +kernel
theorem d_X2_workedDefinition_10 : decode c_X2_workedDefinition 10 = .ok (.lreturn, 1) := by decide +kernel
theorem d_X2_workedOrEmpty_0 : decode c_X2_workedOrEmpty 0 = .ok (.iload_n 1, 1) := by decide +kernel
theorem d_X2_workedOrEmpty_1 : decode c_X2_workedOrEmpty 1 = .ok (.iconst (-1), 1) := by decide +kernel
theorem d_X2_workedOrEmpty_2 : decode c_X2_workedOrEmpty 2 = .ok (.if_icmp .ne 9, 3) := by decide +kernel
theorem d_X2_workedOrEmpty_5 : decode c_X2_workedOrEmpty 5 = .ok (.ldc2_w 54, 3) := by decide +kernel
theorem d_X2_workedOrEmpty_8 : decode c_X2_workedOrEmpty 8 = .ok (.goto 9, 3) := by decide +kernel
theorem d_X2_workedOrEmpty_11 : decode c_X2_workedOrEmpty 11 = .ok (.aload_n 0, 1) := by decide +kernel
theorem d_X2_workedOrEmpty_12 : decode c_X2_workedOrEmpty 12 = .ok (.getfield 28, 3) := by decide +kernel
theorem d_X2_workedOrEmpty_15 : decode c_X2_workedOrEmpty 15 = .ok (.iload_n 1, 1) := by decide +kernel
theorem d_X2_workedOrEmpty_16 : decode c_X2_workedOrEmpty 16 = .ok (.laload, 1) := by decide +kernel
theorem d_X2_workedOrEmpty_17 : decode c_X2_workedOrEmpty 17 = .ok (.lreturn, 1) := by decide +kernel
theorem d_X2_workedOut_0 : decode c_X2_workedOut 0 = .ok (.aload_n 0, 1) := by decide +kernel
theorem d_X2_workedOut_1 : decode c_X2_workedOut 1 = .ok (.getfield 12, 3) := by decide +kernel
theorem d_X2_workedOut_4 : decode c_X2_workedOut 4 = .ok (.getfield 56, 3) := by decide +kernel
theorem d_X2_workedOut_7 : decode c_X2_workedOut 7 = .ok (.iload_n 1, 1) := by decide +kernel
theorem d_X2_workedOut_8 : decode c_X2_workedOut 8 = .ok (.iaload, 1) := by decide +kernel
theorem d_X2_workedOut_9 : decode c_X2_workedOut 9 = .ok (.istore_n 3, 1) := by decide +kernel
theorem d_X2_workedOut_10 : decode c_X2_workedOut 10 = .ok (.aload_n 0, 1) := by decide +kernel
theorem d_X2_workedOut_11 : decode c_X2_workedOut 11 = .ok (.getfield 12, 3) := by decide +kernel
theorem d_X2_workedOut_14 : decode c_X2_workedOut 14 = .ok (.getfield 59, 3) := by decide +kernel
theorem d_X2_workedOut_17 : decode c_X2_workedOut 17 = .ok (.iload_n 1, 1) := by decide +kernel
theorem d_X2_workedOut_18 : decode c_X2_workedOut 18 = .ok (.iaload, 1) := by decide +kernel
theorem d_X2_workedOut_19 : decode c_X2_workedOut 19 = .ok (.istore 4, 2) := by decide +kernel
theorem d_X2_workedOut_21 : decode c_X2_workedOut 21 = .ok (.aload_n 0, 1) := by decide +kernel
theorem d_X2_workedOut_22 : decode c_X2_workedOut 22 = .ok (.getfield 12, 3) := by decide +kernel
theorem d_X2_workedOut_25 : decode c_X2_workedOut 25 = .ok (.getfield 62, 3) := by decide +kernel
theorem d_X2_workedOut_28 : decode c_X2_workedOut 28 = .ok (.iload_n 1, 1) := by decide +kernel
theorem d_X2_workedOut_29 : decode c_X2_workedOut 29 = .ok (.iaload, 1) := by decide +kernel
theorem d_X2_workedOut_30 : decode c_X2_workedOut 30 = .ok (.istore 5, 2) := by decide +kernel
theorem d_X2_workedOut_32 : decode c_X2_workedOut 32 = .ok (.aload_n 0, 1) := by decide +kernel
theorem d_X2_workedOut_33 : decode c_X2_workedOut 33 = .ok (.getfield 12, 3) := by decide +kernel
theorem d_X2_workedOut_36 : decode c_X2_workedOut 36 = .ok (.getfield 65, 3) := by decide +kernel
theorem d_X2_workedOut_39 : decode c_X2_workedOut 39 = .ok (.iload_n 1, 1) := by decide +kernel
theorem d_X2_workedOut_40 : decode c_X2_workedOut 40 = .ok (.iaload, 1) := by decide +kernel
theorem d_X2_workedOut_41 : decode c_X2_workedOut 41 = .ok (.istore 6, 2) := by decide +kernel
theorem d_X2_workedOut_43 : decode c_X2_workedOut 43 = .ok (.iload_n 3, 1) := by decide +kernel
theorem d_X2_workedOut_44 : decode c_X2_workedOut 44 = .ok (.tableswitch 284 0 19 #[96, 100, 109, 116, 284, 284, 284, 284, 284, 284, 284, 123, 148, 159, 177, 195, 220, 224, 248, 266], 96) := by decide +kernel
theorem d_X2_workedOut_140 : decode c_X2_workedOut 140 = .ok (.iload 4, 2) := by decide +kernel
theorem d_X2_workedOut_142 : decode c_X2_workedOut 142 = .ok (.i2l, 1) := by decide +kernel
theorem d_X2_workedOut_143 : decode c_X2_workedOut 143 = .ok (.lreturn, 1) := by decide +kernel
theorem d_X2_workedOut_144 : decode c_X2_workedOut 144 = .ok (.aload_n 2, 1) := by decide +kernel
theorem d_X2_workedOut_145 : decode c_X2_workedOut 145 = .ok (.getfield 68, 3) := by decide +kernel
theorem d_X2_workedOut_148 : decode c_X2_workedOut 148 = .ok (.iload 4, 2) := by decide +kernel
theorem d_X2_workedOut_150 : decode c_X2_workedOut 150 = .ok (.iaload, 1) := by decide +kernel
theorem d_X2_workedOut_151 : decode c_X2_workedOut 151 = .ok (.i2l, 1) := by decide +kernel
theorem d_X2_workedOut_152 : decode c_X2_workedOut 152 = .ok (.lreturn, 1) := by decide +kernel
theorem d_X2_workedOut_153 : decode c_X2_workedOut 153 = .ok (.aload_n 0, 1) := by decide +kernel
theorem d_X2_workedOut_154 : decode c_X2_workedOut 154 = .ok (.iload 4, 2) := by decide +kernel
theorem d_X2_workedOut_156 : decode c_X2_workedOut 156 = .ok (.invokevirtual 73, 3) := by decide +kernel
theorem d_X2_workedOut_159 : decode c_X2_workedOut 159 = .ok (.lreturn, 1) := by decide +kernel
theorem d_X2_workedOut_160 : decode c_X2_workedOut 160 = .ok (.aload_n 2, 1) := by decide +kernel
theorem d_X2_workedOut_161 : decode c_X2_workedOut 161 = .ok (.iload 4, 2) := by decide +kernel
theorem d_X2_workedOut_163 : decode c_X2_workedOut 163 = .ok (.invokevirtual 76, 3) := by decide +kernel
theorem d_X2_workedOut_166 : decode c_X2_workedOut 166 = .ok (.lreturn, 1) := by decide +kernel
theorem d_X2_workedOut_167 : decode c_X2_workedOut 167 = .ok (.aload_n 0, 1) := by decide +kernel
theorem d_X2_workedOut_168 : decode c_X2_workedOut 168 = .ok (.getfield 28, 3) := by decide +kernel
theorem d_X2_workedOut_171 : decode c_X2_workedOut 171 = .ok (.iload 4, 2) := by decide +kernel
theorem d_X2_workedOut_173 : decode c_X2_workedOut 173 = .ok (.laload, 1) := by decide +kernel
theorem d_X2_workedOut_174 : decode c_X2_workedOut 174 = .ok (.aload_n 0, 1) := by decide +kernel
theorem d_X2_workedOut_175 : decode c_X2_workedOut 175 = .ok (.getfield 28, 3) := by decide +kernel
theorem d_X2_workedOut_178 : decode c_X2_workedOut 178 = .ok (.iload 5, 2) := by decide +kernel
theorem d_X2_workedOut_180 : decode c_X2_workedOut 180 = .ok (.laload, 1) := by decide +kernel
theorem d_X2_workedOut_181 : decode c_X2_workedOut 181 = .ok (.aload_n 0, 1) := by decide +kernel
theorem d_X2_workedOut_182 : decode c_X2_workedOut 182 = .ok (.getfield 28, 3) := by decide +kernel
theorem d_X2_workedOut_185 : decode c_X2_workedOut 185 = .ok (.iload 6, 2) := by decide +kernel
theorem d_X2_workedOut_187 : decode c_X2_workedOut 187 = .ok (.laload, 1) := by decide +kernel
theorem d_X2_workedOut_188 : decode c_X2_workedOut 188 = .ok (.invokestatic 79, 3) := by decide +kernel
theorem d_X2_workedOut_191 : decode c_X2_workedOut 191 = .ok (.lreturn, 1) := by decide +kernel
theorem d_X2_workedOut_192 : decode c_X2_workedOut 192 = .ok (.aload_n 0, 1) := by decide +kernel
theorem d_X2_workedOut_193 : decode c_X2_workedOut 193 = .ok (.getfield 28, 3) := by decide +kernel
theorem d_X2_workedOut_196 : decode c_X2_workedOut 196 = .ok (.iload 4, 2) := by decide +kernel
theorem d_X2_workedOut_198 : decode c_X2_workedOut 198 = .ok (.laload, 1) := by decide +kernel
theorem d_X2_workedOut_199 : decode c_X2_workedOut 199 = .ok (.invokestatic 85, 3) := by decide +kernel
theorem d_X2_workedOut_202 : decode c_X2_workedOut 202 = .ok (.lreturn, 1) := by decide +kernel
theorem d_X2_workedOut_203 : decode c_X2_workedOut 203 = .ok (.aload_n 0, 1) := by decide +kernel
theorem d_X2_workedOut_204 : decode c_X2_workedOut 204 = .ok (.getfield 28, 3) := by decide +kernel
theorem d_X2_workedOut_207 : decode c_X2_workedOut 207 = .ok (.iload 4, 2) := by decide +kernel
theorem d_X2_workedOut_209 : decode c_X2_workedOut 209 = .ok (.laload, 1) := by decide +kernel
theorem d_X2_workedOut_210 : decode c_X2_workedOut 210 = .ok (.aload_n 0, 1) := by decide +kernel
theorem d_X2_workedOut_211 : decode c_X2_workedOut 211 = .ok (.getfield 28, 3) := by decide +kernel
theorem d_X2_workedOut_214 : decode c_X2_workedOut 214 = .ok (.iload 5, 2) := by decide +kernel
theorem d_X2_workedOut_216 : decode c_X2_workedOut 216 = .ok (.laload, 1) := by decide +kernel
theorem d_X2_workedOut_217 : decode c_X2_workedOut 217 = .ok (.invokestatic 89, 3) := by decide +kernel
theorem d_X2_workedOut_220 : decode c_X2_workedOut 220 = .ok (.lreturn, 1) := by decide +kernel
theorem d_X2_workedOut_221 : decode c_X2_workedOut 221 = .ok (.aload_n 0, 1) := by decide +kernel
theorem d_X2_workedOut_222 : decode c_X2_workedOut 222 = .ok (.getfield 28, 3) := by decide +kernel
theorem d_X2_workedOut_225 : decode c_X2_workedOut 225 = .ok (.iload 4, 2) := by decide +kernel
theorem d_X2_workedOut_227 : decode c_X2_workedOut 227 = .ok (.laload, 1) := by decide +kernel
theorem d_X2_workedOut_228 : decode c_X2_workedOut 228 = .ok (.aload_n 0, 1) := by decide +kernel
theorem d_X2_workedOut_229 : decode c_X2_workedOut 229 = .ok (.getfield 28, 3) := by decide +kernel
theorem d_X2_workedOut_232 : decode c_X2_workedOut 232 = .ok (.iload 5, 2) := by decide +kernel
theorem d_X2_workedOut_234 : decode c_X2_workedOut 234 = .ok (.laload, 1) := by decide +kernel
theorem d_X2_workedOut_235 : decode c_X2_workedOut 235 = .ok (.invokestatic 93, 3) := by decide +kernel
theorem d_X2_workedOut_238 : decode c_X2_workedOut 238 = .ok (.lreturn, 1) := by decide +kernel
theorem d_X2_workedOut_239 : decode c_X2_workedOut 239 = .ok (.aload_n 0, 1) := by decide +kernel
theorem d_X2_workedOut_240 : decode c_X2_workedOut 240 = .ok (.getfield 28, 3) := by decide +kernel
theorem d_X2_workedOut_243 : decode c_X2_workedOut 243 = .ok (.iload 4, 2) := by decide +kernel
theorem d_X2_workedOut_245 : decode c_X2_workedOut 245 = .ok (.laload, 1) := by decide +kernel
theorem d_X2_workedOut_246 : decode c_X2_workedOut 246 = .ok (.aload_n 0, 1) := by decide +kernel
theorem d_X2_workedOut_247 : decode c_X2_workedOut 247 = .ok (.getfield 28, 3) := by decide +kernel
theorem d_X2_workedOut_250 : decode c_X2_workedOut 250 = .ok (.iload 5, 2) := by decide +kernel
theorem d_X2_workedOut_252 : decode c_X2_workedOut 252 = .ok (.laload, 1) := by decide +kernel
theorem d_X2_workedOut_253 : decode c_X2_workedOut 253 = .ok (.aload_n 0, 1) := by decide +kernel
theorem d_X2_workedOut_254 : decode c_X2_workedOut 254 = .ok (.getfield 28, 3) := by decide +kernel
theorem d_X2_workedOut_257 : decode c_X2_workedOut 257 = .ok (.iload 6, 2) := by decide +kernel
theorem d_X2_workedOut_259 : decode c_X2_workedOut 259 = .ok (.laload, 1) := by decide +kernel
theorem d_X2_workedOut_260 : decode c_X2_workedOut 260 = .ok (.invokestatic 96, 3) := by decide +kernel
theorem d_X2_workedOut_263 : decode c_X2_workedOut 263 = .ok (.lreturn, 1) := by decide +kernel
theorem d_X2_workedOut_264 : decode c_X2_workedOut 264 = .ok (.ldc2_w 54, 3) := by decide +kernel
theorem d_X2_workedOut_267 : decode c_X2_workedOut 267 = .ok (.lreturn, 1) := by decide +kernel
theorem d_X2_workedOut_268 : decode c_X2_workedOut 268 = .ok (.aload_n 0, 1) := by decide +kernel
theorem d_X2_workedOut_269 : decode c_X2_workedOut 269 = .ok (.iload 4, 2) := by decide +kernel
theorem d_X2_workedOut_271 : decode c_X2_workedOut 271 = .ok (.invokevirtual 50, 3) := by decide +kernel
theorem d_X2_workedOut_274 : decode c_X2_workedOut 274 = .ok (.aload_n 0, 1) := by decide +kernel
theorem d_X2_workedOut_275 : decode c_X2_workedOut 275 = .ok (.getfield 28, 3) := by decide +kernel
theorem d_X2_workedOut_278 : decode c_X2_workedOut 278 = .ok (.iload 5, 2) := by decide +kernel
theorem d_X2_workedOut_280 : decode c_X2_workedOut 280 = .ok (.laload, 1) := by decide +kernel
theorem d_X2_workedOut_281 : decode c_X2_workedOut 281 = .ok (.aload_n 0, 1) := by decide +kernel
theorem d_X2_workedOut_282 : decode c_X2_workedOut 282 = .ok (.getfield 28, 3) := by decide +kernel
theorem d_X2_workedOut_285 : decode c_X2_workedOut 285 = .ok (.iload 6, 2) := by decide +kernel
theorem d_X2_workedOut_287 : decode c_X2_workedOut 287 = .ok (.laload, 1) := by decide +kernel
theorem d_X2_workedOut_288 : decode c_X2_workedOut 288 = .ok (.invokestatic 99, 3) := by decide +kernel
theorem d_X2_workedOut_291 : decode c_X2_workedOut 291 = .ok (.lreturn, 1) := by decide +kernel
theorem d_X2_workedOut_292 : decode c_X2_workedOut 292 = .ok (.aload_n 0, 1) := by decide +kernel
theorem d_X2_workedOut_293 : decode c_X2_workedOut 293 = .ok (.getfield 28, 3) := by decide +kernel
theorem d_X2_workedOut_296 : decode c_X2_workedOut 296 = .ok (.iload 4, 2) := by decide +kernel
theorem d_X2_workedOut_298 : decode c_X2_workedOut 298 = .ok (.laload, 1) := by decide +kernel
theorem d_X2_workedOut_299 : decode c_X2_workedOut 299 = .ok (.aload_n 0, 1) := by decide +kernel
theorem d_X2_workedOut_300 : decode c_X2_workedOut 300 = .ok (.getfield 28, 3) := by decide +kernel
theorem d_X2_workedOut_303 : decode c_X2_workedOut 303 = .ok (.iload 5, 2) := by decide +kernel
theorem d_X2_workedOut_305 : decode c_X2_workedOut 305 = .ok (.laload, 1) := by decide +kernel
theorem d_X2_workedOut_306 : decode c_X2_workedOut 306 = .ok (.invokestatic 102, 3) := by decide +kernel
theorem d_X2_workedOut_309 : decode c_X2_workedOut 309 = .ok (.lreturn, 1) := by decide +kernel
theorem d_X2_workedOut_310 : decode c_X2_workedOut 310 = .ok (.aload_n 0, 1) := by decide +kernel
theorem d_X2_workedOut_311 : decode c_X2_workedOut 311 = .ok (.getfield 24, 3) := by decide +kernel
theorem d_X2_workedOut_314 : decode c_X2_workedOut 314 = .ok (.iload 4, 2) := by decide +kernel
theorem d_X2_workedOut_316 : decode c_X2_workedOut 316 = .ok (.aaload, 1) := by decide +kernel
theorem d_X2_workedOut_317 : decode c_X2_workedOut 317 = .ok (.aload_n 0, 1) := by decide +kernel
theorem d_X2_workedOut_318 : decode c_X2_workedOut 318 = .ok (.getfield 28, 3) := by decide +kernel
theorem d_X2_workedOut_321 : decode c_X2_workedOut 321 = .ok (.iload 5, 2) := by decide +kernel
theorem d_X2_workedOut_323 : decode c_X2_workedOut 323 = .ok (.laload, 1) := by decide +kernel
theorem d_X2_workedOut_324 : decode c_X2_workedOut 324 = .ok (.invokevirtual 105, 3) := by decide +kernel
theorem d_X2_workedOut_327 : decode c_X2_workedOut 327 = .ok (.lreturn, 1) := by decide +kernel
theorem d_X2_workedOut_328 : decode c_X2_workedOut 328 = .ok (.iload_n 3, 1) := by decide +kernel
theorem d_X2_workedOut_329 : decode c_X2_workedOut 329 = .ok (.aload_n 0, 1) := by decide +kernel
theorem d_X2_workedOut_330 : decode c_X2_workedOut 330 = .ok (.getfield 28, 3) := by decide +kernel
theorem d_X2_workedOut_333 : decode c_X2_workedOut 333 = .ok (.iload 4, 2) := by decide +kernel
theorem d_X2_workedOut_335 : decode c_X2_workedOut 335 = .ok (.laload, 1) := by decide +kernel
theorem d_X2_workedOut_336 : decode c_X2_workedOut 336 = .ok (.aload_n 0, 1) := by decide +kernel
theorem d_X2_workedOut_337 : decode c_X2_workedOut 337 = .ok (.getfield 28, 3) := by decide +kernel
theorem d_X2_workedOut_340 : decode c_X2_workedOut 340 = .ok (.iload 5, 2) := by decide +kernel
theorem d_X2_workedOut_342 : decode c_X2_workedOut 342 = .ok (.laload, 1) := by decide +kernel
theorem d_X2_workedOut_343 : decode c_X2_workedOut 343 = .ok (.invokestatic 108, 3) := by decide +kernel
theorem d_X2_workedOut_346 : decode c_X2_workedOut 346 = .ok (.lreturn, 1) := by decide +kernel
theorem d_X3_init_0 : decode c_X3_init 0 = .ok (.aload_n 0, 1) := by decide +kernel
theorem d_X3_init_1 : decode c_X3_init 1 = .ok (.invokespecial 3, 3) := by decide +kernel
theorem d_X3_init_4 : decode c_X3_init 4 = .ok (.aload_n 0, 1) := by decide +kernel
theorem d_X3_init_5 : decode c_X3_init 5 = .ok (.sipush 288, 3) := by decide +kernel
theorem d_X3_init_8 : decode c_X3_init 8 = .ok (.newarray .long, 2) := by decide +kernel
theorem d_X3_init_10 : decode c_X3_init 10 = .ok (.putfield 9, 3) := by decide +kernel
theorem d_X3_init_13 : decode c_X3_init 13 = .ok (.aload_n 0, 1) := by decide +kernel
theorem d_X3_init_14 : decode c_X3_init 14 = .ok (.bipush 96, 2) := by decide +kernel
theorem d_X3_init_16 : decode c_X3_init 16 = .ok (.newarray .int, 2) := by decide +kernel
theorem d_X3_init_18 : decode c_X3_init 18 = .ok (.putfield 15, 3) := by decide +kernel
theorem d_X3_init_21 : decode c_X3_init 21 = .ok (.aload_n 0, 1) := by decide +kernel
theorem d_X3_init_22 : decode c_X3_init 22 = .ok (.bipush 16, 2) := by decide +kernel
theorem d_X3_init_24 : decode c_X3_init 24 = .ok (.newarray .boolean, 2) := by decide +kernel
theorem d_X3_init_26 : decode c_X3_init 26 = .ok (.putfield 19, 3) := by decide +kernel
theorem d_X3_init_29 : decode c_X3_init 29 = .ok (.return_, 1) := by decide +kernel
theorem d_X3_has_0 : decode c_X3_has 0 = .ok (.iload_n 1, 1) := by decide +kernel
theorem d_X3_has_1 : decode c_X3_has 1 = .ok (.aload_n 0, 1) := by decide +kernel
theorem d_X3_has_2 : decode c_X3_has 2 = .ok (.getfield 23, 3) := by decide +kernel
theorem d_X3_has_5 : decode c_X3_has 5 = .ok (.invokestatic 27, 3) := by decide +kernel
theorem d_X3_has_8 : decode c_X3_has 8 = .ok (.ireturn, 1) := by decide +kernel
theorem d_X3_stands_0 : decode c_X3_stands 0 = .ok (.aload_n 0, 1) := by decide +kernel
theorem d_X3_stands_1 : decode c_X3_stands 1 = .ok (.iload_n 1, 1) := by decide +kernel
theorem d_X3_stands_2 : decode c_X3_stands 2 = .ok (.invokevirtual 31, 3) := by decide +kernel
theorem d_X3_stands_5 : decode c_X3_stands 5 = .ok (.ifCond .eq 16, 3) := by decide +kernel
theorem d_X3_stands_8 : decode c_X3_stands 8 = .ok (.aload_n 0, 1) := by decide +kernel
theorem d_X3_stands_9 : decode c_X3_stands 9 = .ok (.getfield 19, 3) := by decide +kernel
theorem d_X3_stands_12 : decode c_X3_stands 12 = .ok (.iload_n 1, 1) := by decide +kernel
theorem d_X3_stands_13 : decode c_X3_stands 13 = .ok (.baload, 1) := by decide +kernel
theorem d_X3_stands_14 : decode c_X3_stands 14 = .ok (.ifCond .ne 7, 3) := by decide +kernel
theorem d_X3_stands_17 : decode c_X3_stands 17 = .ok (.iconst 1, 1) := by decide +kernel
theorem d_X3_stands_18 : decode c_X3_stands 18 = .ok (.goto 4, 3) := by decide +kernel
theorem d_X3_stands_21 : decode c_X3_stands 21 = .ok (.iconst 0, 1) := by decide +kernel
theorem d_X3_stands_22 : decode c_X3_stands 22 = .ok (.ireturn, 1) := by decide +kernel
theorem d_X3_amountOf_0 : decode c_X3_amountOf 0 = .ok (.aload_n 0, 1) := by decide +kernel
theorem d_X3_amountOf_1 : decode c_X3_amountOf 1 = .ok (.getfield 9, 3) := by decide +kernel
theorem d_X3_amountOf_4 : decode c_X3_amountOf 4 = .ok (.iload_n 1, 1) := by decide +kernel
theorem d_X3_amountOf_5 : decode c_X3_amountOf 5 = .ok (.iload_n 2, 1) := by decide +kernel
theorem d_X3_amountOf_6 : decode c_X3_amountOf 6 = .ok (.invokestatic 35, 3) := by decide +kernel
theorem d_X3_amountOf_9 : decode c_X3_amountOf 9 = .ok (.iload_n 3, 1) := by decide +kernel
theorem d_X3_amountOf_10 : decode c_X3_amountOf 10 = .ok (.iadd, 1) := by decide +kernel
theorem d_X3_amountOf_11 : decode c_X3_amountOf 11 = .ok (.laload, 1) := by decide +kernel
theorem d_X3_amountOf_12 : decode c_X3_amountOf 12 = .ok (.lreturn, 1) := by decide +kernel
theorem d_X3_hasSlip_0 : decode c_X3_hasSlip 0 = .ok (.aload_n 0, 1) := by decide +kernel
theorem d_X3_hasSlip_1 : decode c_X3_hasSlip 1 = .ok (.getfield 9, 3) := by decide +kernel
theorem d_X3_hasSlip_4 : decode c_X3_hasSlip 4 = .ok (.iload_n 1, 1) := by decide +kernel
theorem d_X3_hasSlip_5 : decode c_X3_hasSlip 5 = .ok (.iload_n 2, 1) := by decide +kernel
theorem d_X3_hasSlip_6 : decode c_X3_hasSlip 6 = .ok (.invokestatic 35, 3) := by decide +kernel
theorem d_X3_hasSlip_9 : decode c_X3_hasSlip 9 = .ok (.laload, 1) := by decide +kernel
theorem d_X3_hasSlip_10 : decode c_X3_hasSlip 10 = .ok (.ldc2_w 39, 3) := by decide +kernel
theorem d_X3_hasSlip_13 : decode c_X3_hasSlip 13 = .ok (.lcmp, 1) := by decide +kernel
theorem d_X3_hasSlip_14 : decode c_X3_hasSlip 14 = .ok (.ifCond .eq 7, 3) := by decide +kernel
theorem d_X3_hasSlip_17 : decode c_X3_hasSlip 17 = .ok (.iconst 1, 1) := by decide +kernel
theorem d_X3_hasSlip_18 : decode c_X3_hasSlip 18 = .ok (.goto 4, 3) := by decide +kernel
theorem d_X3_hasSlip_21 : decode c_X3_hasSlip 21 = .ok (.iconst 0, 1) := by decide +kernel
theorem d_X3_hasSlip_22 : decode c_X3_hasSlip 22 = .ok (.ireturn, 1) := by decide +kernel
theorem d_X3_placeOf_0 : decode c_X3_placeOf 0 = .ok (.iload_n 0, 1) := by decide +kernel
theorem d_X3_placeOf_1 : decode c_X3_placeOf 1 = .ok (.bipush 6, 2) := by decide +kernel
theorem d_X3_placeOf_3 : decode c_X3_placeOf 3 = .ok (.imul, 1) := by decide +kernel
theorem d_X3_placeOf_4 : decode c_X3_placeOf 4 = .ok (.iload_n 1, 1) := by decide +kernel
theorem d_X3_placeOf_5 : decode c_X3_placeOf 5 = .ok (.iadd, 1) := by decide +kernel
theorem d_X3_placeOf_6 : decode c_X3_placeOf 6 = .ok (.iconst 3, 1) := by decide +kernel
theorem d_X3_placeOf_7 : decode c_X3_placeOf 7 = .ok (.imul, 1) := by decide +kernel
theorem d_X3_placeOf_8 : decode c_X3_placeOf 8 = .ok (.ireturn, 1) := by decide +kernel
theorem d_X3_wipe_0 : decode c_X3_wipe 0 = .ok (.aload_n 0, 1) := by decide +kernel
theorem d_X3_wipe_1 : decode c_X3_wipe 1 = .ok (.iload_n 1, 1) := by decide +kernel
theorem d_X3_wipe_2 : decode c_X3_wipe 2 = .ok (.iload_n 2, 1) := by decide +kernel
theorem d_X3_wipe_3 : decode c_X3_wipe 3 = .ok (.ldc2_w 39, 3) := by decide +kernel
theorem d_X3_wipe_6 : decode c_X3_wipe 6 = .ok (.ldc2_w 39, 3) := by decide +kernel
theorem d_X3_wipe_9 : decode c_X3_wipe 9 = .ok (.ldc2_w 39, 3) := by decide +kernel
theorem d_X3_wipe_12 : decode c_X3_wipe 12 = .ok (.invokevirtual 41, 3) := by decide +kernel
theorem d_X3_wipe_15 : decode c_X3_wipe 15 = .ok (.aload_n 0, 1) := by decide +kernel
theorem d_X3_wipe_16 : decode c_X3_wipe 16 = .ok (.iload_n 1, 1) := by decide +kernel
theorem d_X3_wipe_17 : decode c_X3_wipe 17 = .ok (.iload_n 2, 1) := by decide +kernel
theorem d_X3_wipe_18 : decode c_X3_wipe 18 = .ok (.iconst 0, 1) := by decide +kernel
theorem d_X3_wipe_19 : decode c_X3_wipe 19 = .ok (.invokevirtual 45, 3) := by decide +kernel
theorem d_X3_wipe_22 : decode c_X3_wipe 22 = .ok (.return_, 1) := by decide +kernel
theorem d_X3_writeSlip_0 : decode c_X3_writeSlip 0 = .ok (.iload_n 1, 1) := by decide +kernel
theorem d_X3_writeSlip_1 : decode c_X3_writeSlip 1 = .ok (.iload_n 2, 1) := by decide +kernel
theorem d_X3_writeSlip_2 : decode c_X3_writeSlip 2 = .ok (.invokestatic 35, 3) := by decide +kernel
theorem d_X3_writeSlip_5 : decode c_X3_writeSlip 5 = .ok (.istore 9, 2) := by decide +kernel
theorem d_X3_writeSlip_7 : decode c_X3_writeSlip 7 = .ok (.aload_n 0, 1) := by decide +kernel
theorem d_X3_writeSlip_8 : decode c_X3_writeSlip 8 = .ok (.getfield 9, 3) := by decide +kernel
theorem d_X3_writeSlip_11 : decode c_X3_writeSlip 11 = .ok (.iload 9, 2) := by decide +kernel
theorem d_X3_writeSlip_13 : decode c_X3_writeSlip 13 = .ok (.iconst 0, 1) := by decide +kernel
theorem d_X3_writeSlip_14 : decode c_X3_writeSlip 14 = .ok (.iadd, 1) := by decide +kernel
theorem d_X3_writeSlip_15 : decode c_X3_writeSlip 15 = .ok (.lload_n 3, 1) := by decide +kernel
theorem d_X3_writeSlip_16 : decode c_X3_writeSlip 16 = .ok (.lastore, 1) := by decide +kernel
theorem d_X3_writeSlip_17 : decode c_X3_writeSlip 17 = .ok (.aload_n 0, 1) := by decide +kernel
theorem d_X3_writeSlip_18 : decode c_X3_writeSlip 18 = .ok (.getfield 9, 3) := by decide +kernel
theorem d_X3_writeSlip_21 : decode c_X3_writeSlip 21 = .ok (.iload 9, 2) := by decide +kernel
theorem d_X3_writeSlip_23 : decode c_X3_writeSlip 23 = .ok (.iconst 1, 1) := by decide +kernel
theorem d_X3_writeSlip_24 : decode c_X3_writeSlip 24 = .ok (.iadd, 1) := by decide +kernel
theorem d_X3_writeSlip_25 : decode c_X3_writeSlip 25 = .ok (.lload 5, 2) := by decide +kernel
theorem d_X3_writeSlip_27 : decode c_X3_writeSlip 27 = .ok (.lastore, 1) := by decide +kernel
theorem d_X3_writeSlip_28 : decode c_X3_writeSlip 28 = .ok (.aload_n 0, 1) := by decide +kernel
theorem d_X3_writeSlip_29 : decode c_X3_writeSlip 29 = .ok (.getfield 9, 3) := by decide +kernel
theorem d_X3_writeSlip_32 : decode c_X3_writeSlip 32 = .ok (.iload 9, 2) := by decide +kernel
theorem d_X3_writeSlip_34 : decode c_X3_writeSlip 34 = .ok (.iconst 2, 1) := by decide +kernel
theorem d_X3_writeSlip_35 : decode c_X3_writeSlip 35 = .ok (.iadd, 1) := by decide +kernel
theorem d_X3_writeSlip_36 : decode c_X3_writeSlip 36 = .ok (.lload 7, 2) := by decide +kernel
theorem d_X3_writeSlip_38 : decode c_X3_writeSlip 38 = .ok (.lastore, 1) := by decide +kernel
theorem d_X3_writeSlip_39 : decode c_X3_writeSlip 39 = .ok (.return_, 1) := by decide +kernel
theorem d_X3_hold_0 : decode c_X3_hold 0 = .ok (.aload_n 0, 1) := by decide +kernel
theorem d_X3_hold_1 : decode c_X3_hold 1 = .ok (.getfield 15, 3) := by decide +kernel
theorem d_X3_hold_4 : decode c_X3_hold 4 = .ok (.iload_n 1, 1) := by decide +kernel
theorem d_X3_hold_5 : decode c_X3_hold 5 = .ok (.bipush 6, 2) := by decide +kernel
theorem d_X3_hold_7 : decode c_X3_hold 7 = .ok (.imul, 1) := by decide +kernel
theorem d_X3_hold_8 : decode c_X3_hold 8 = .ok (.iload_n 2, 1) := by decide +kernel
theorem d_X3_hold_9 : decode c_X3_hold 9 = .ok (.iadd, 1) := by decide +kernel
theorem d_X3_hold_10 : decode c_X3_hold 10 = .ok (.iload_n 3, 1) := by decide +kernel
theorem d_X3_hold_11 : decode c_X3_hold 11 = .ok (.iastore, 1) := by decide +kernel
theorem d_X3_hold_12 : decode c_X3_hold 12 = .ok (.return_, 1) := by decide +kernel
theorem d_X3_slipsOf_0 : decode c_X3_slipsOf 0 = .ok (.iconst 0, 1) := by decide +kernel
theorem d_X3_slipsOf_1 : decode c_X3_slipsOf 1 = .ok (.istore_n 2, 1) := by decide +kernel
theorem d_X3_slipsOf_2 : decode c_X3_slipsOf 2 = .ok (.iconst 0, 1) := by decide +kernel
theorem d_X3_slipsOf_3 : decode c_X3_slipsOf 3 = .ok (.istore_n 3, 1) := by decide +kernel
theorem d_X3_slipsOf_4 : decode c_X3_slipsOf 4 = .ok (.iload_n 3, 1) := by decide +kernel
theorem d_X3_slipsOf_5 : decode c_X3_slipsOf 5 = .ok (.bipush 6, 2) := by decide +kernel
theorem d_X3_slipsOf_7 : decode c_X3_slipsOf 7 = .ok (.if_icmp .ge 21, 3) := by decide +kernel
theorem d_X3_slipsOf_10 : decode c_X3_slipsOf 10 = .ok (.aload_n 0, 1) := by decide +kernel
theorem d_X3_slipsOf_11 : decode c_X3_slipsOf 11 = .ok (.iload_n 1, 1) := by decide +kernel
theorem d_X3_slipsOf_12 : decode c_X3_slipsOf 12 = .ok (.iload_n 3, 1) := by decide +kernel
theorem d_X3_slipsOf_13 : decode c_X3_slipsOf 13 = .ok (.invokevirtual 49, 3) := by decide +kernel
theorem d_X3_slipsOf_16 : decode c_X3_slipsOf 16 = .ok (.ifCond .eq 6, 3) := by decide +kernel
theorem d_X3_slipsOf_19 : decode c_X3_slipsOf 19 = .ok (.iinc 2 1, 3) := by decide +kernel
theorem d_X3_slipsOf_22 : decode c_X3_slipsOf 22 = .ok (.iinc 3 1, 3) := by decide +kernel
theorem d_X3_slipsOf_25 : decode c_X3_slipsOf 25 = .ok (.goto (-21), 3) := by decide +kernel
theorem d_X3_slipsOf_28 : decode c_X3_slipsOf 28 = .ok (.iload_n 2, 1) := by decide +kernel
theorem d_X3_slipsOf_29 : decode c_X3_slipsOf 29 = .ok (.ireturn, 1) := by decide +kernel
theorem d_X3_slipsStanding_0 : decode c_X3_slipsStanding 0 = .ok (.iconst 0, 1) := by decide +kernel
theorem d_X3_slipsStanding_1 : decode c_X3_slipsStanding 1 = .ok (.istore_n 1, 1) := by decide +kernel
theorem d_X3_slipsStanding_2 : decode c_X3_slipsStanding 2 = .ok (.iconst 0, 1) := by decide +kernel
theorem d_X3_slipsStanding_3 : decode c_X3_slipsStanding 3 = .ok (.istore_n 2, 1) := by decide +kernel
theorem d_X3_slipsStanding_4 : decode c_X3_slipsStanding 4 = .ok (.iload_n 2, 1) := by decide +kernel
theorem d_X3_slipsStanding_5 : decode c_X3_slipsStanding 5 = .ok (.aload_n 0, 1) := by decide +kernel
theorem d_X3_slipsStanding_6 : decode c_X3_slipsStanding 6 = .ok (.getfield 23, 3) := by decide +kernel
theorem d_X3_slipsStanding_9 : decode c_X3_slipsStanding 9 = .ok (.if_icmp .ge 26, 3) := by decide +kernel
theorem d_X3_slipsStanding_12 : decode c_X3_slipsStanding 12 = .ok (.aload_n 0, 1) := by decide +kernel
theorem d_X3_slipsStanding_13 : decode c_X3_slipsStanding 13 = .ok (.getfield 19, 3) := by decide +kernel
theorem d_X3_slipsStanding_16 : decode c_X3_slipsStanding 16 = .ok (.iload_n 2, 1) := by decide +kernel
theorem d_X3_slipsStanding_17 : decode c_X3_slipsStanding 17 = .ok (.baload, 1) := by decide +kernel
theorem d_X3_slipsStanding_18 : decode c_X3_slipsStanding 18 = .ok (.ifCond .ne 11, 3) := by decide +kernel
theorem d_X3_slipsStanding_21 : decode c_X3_slipsStanding 21 = .ok (.iload_n 1, 1) := by decide +kernel
theorem d_X3_slipsStanding_22 : decode c_X3_slipsStanding 22 = .ok (.aload_n 0, 1) := by decide +kernel
theorem d_X3_slipsStanding_23 : decode c_X3_slipsStanding 23 = .ok (.iload_n 2, 1) := by decide +kernel
theorem d_X3_slipsStanding_24 : decode c_X3_slipsStanding 24 = .ok (.invokevirtual 52, 3) := by decide +kernel
theorem d_X3_slipsStanding_27 : decode c_X3_slipsStanding 27 = .ok (.iadd, 1) := by decide +kernel
theorem d_X3_slipsStanding_28 : decode c_X3_slipsStanding 28 = .ok (.istore_n 1, 1) := by decide +kernel
theorem d_X3_slipsStanding_29 : decode c_X3_slipsStanding 29 = .ok (.iinc 2 1, 3) := by decide +kernel
theorem d_X3_slipsStanding_32 : decode c_X3_slipsStanding 32 = .ok (.goto (-28), 3) := by decide +kernel
theorem d_X3_slipsStanding_35 : decode c_X3_slipsStanding 35 = .ok (.iload_n 1, 1) := by decide +kernel
theorem d_X3_slipsStanding_36 : decode c_X3_slipsStanding 36 = .ok (.ireturn, 1) := by decide +kernel
theorem d_X3_howManyTakenBack_0 : decode c_X3_howManyTakenBack 0 = .ok (.iconst 0, 1) := by decide +kernel
theorem d_X3_howManyTakenBack_1 : decode c_X3_howManyTakenBack 1 = .ok (.istore_n 1, 1) := by decide +kernel
theorem d_X3_howManyTakenBack_2 : decode c_X3_howManyTakenBack 2 = .ok (.iconst 0, 1) := by decide +kernel
theorem d_X3_howManyTakenBack_3 : decode c_X3_howManyTakenBack 3 = .ok (.istore_n 2, 1) := by decide +kernel
theorem d_X3_howManyTakenBack_4 : decode c_X3_howManyTakenBack 4 = .ok (.iload_n 2, 1) := by decide +kernel
theorem d_X3_howManyTakenBack_5 : decode c_X3_howManyTakenBack 5 = .ok (.aload_n 0, 1) := by decide +kernel
theorem d_X3_howManyTakenBack_6 : decode c_X3_howManyTakenBack 6 = .ok (.getfield 23, 3) := by decide +kernel
theorem d_X3_howManyTakenBack_9 : decode c_X3_howManyTakenBack 9 = .ok (.if_icmp .ge 21, 3) := by decide +kernel
theorem d_X3_howManyTakenBack_12 : decode c_X3_howManyTakenBack 12 = .ok (.aload_n 0, 1) := by decide +kernel
theorem d_X3_howManyTakenBack_13 : decode c_X3_howManyTakenBack 13 = .ok (.getfield 19, 3) := by decide +kernel
theorem d_X3_howManyTakenBack_16 : decode c_X3_howManyTakenBack 16 = .ok (.iload_n 2, 1) := by decide +kernel
theorem d_X3_howManyTakenBack_17 : decode c_X3_howManyTakenBack 17 = .ok (.baload, 1) := by decide +kernel
theorem d_X3_howManyTakenBack_18 : decode c_X3_howManyTakenBack 18 = .ok (.ifCond .eq 6, 3) := by decide +kernel
theorem d_X3_howManyTakenBack_21 : decode c_X3_howManyTakenBack 21 = .ok (.iinc 1 1, 3) := by decide +kernel
theorem d_X3_howManyTakenBack_24 : decode c_X3_howManyTakenBack 24 = .ok (.iinc 2 1, 3) := by decide +kernel
theorem d_X3_howManyTakenBack_27 : decode c_X3_howManyTakenBack 27 = .ok (.goto (-23), 3) := by decide +kernel
theorem d_X3_howManyTakenBack_30 : decode c_X3_howManyTakenBack 30 = .ok (.iload_n 1, 1) := by decide +kernel
theorem d_X3_howManyTakenBack_31 : decode c_X3_howManyTakenBack 31 = .ok (.ireturn, 1) := by decide +kernel
theorem d_X3_totalOf_0 : decode c_X3_totalOf 0 = .ok (.lconst 0, 1) := by decide +kernel
theorem d_X3_totalOf_1 : decode c_X3_totalOf 1 = .ok (.lstore_n 2, 1) := by decide +kernel
theorem d_X3_totalOf_2 : decode c_X3_totalOf 2 = .ok (.iconst 0, 1) := by decide +kernel
theorem d_X3_totalOf_3 : decode c_X3_totalOf 3 = .ok (.istore 4, 2) := by decide +kernel
theorem d_X3_totalOf_5 : decode c_X3_totalOf 5 = .ok (.iload 4, 2) := by decide +kernel
theorem d_X3_totalOf_7 : decode c_X3_totalOf 7 = .ok (.aload_n 0, 1) := by decide +kernel
theorem d_X3_totalOf_8 : decode c_X3_totalOf 8 = .ok (.getfield 23, 3) := by decide +kernel
theorem d_X3_totalOf_11 : decode c_X3_totalOf 11 = .ok (.if_icmp .ge 29, 3) := by decide +kernel
theorem d_X3_totalOf_14 : decode c_X3_totalOf 14 = .ok (.aload_n 0, 1) := by decide +kernel
theorem d_X3_totalOf_15 : decode c_X3_totalOf 15 = .ok (.getfield 19, 3) := by decide +kernel
theorem d_X3_totalOf_18 : decode c_X3_totalOf 18 = .ok (.iload 4, 2) := by decide +kernel
theorem d_X3_totalOf_20 : decode c_X3_totalOf 20 = .ok (.baload, 1) := by decide +kernel
theorem d_X3_totalOf_21 : decode c_X3_totalOf 21 = .ok (.ifCond .ne 13, 3) := by decide +kernel
theorem d_X3_totalOf_24 : decode c_X3_totalOf 24 = .ok (.lload_n 2, 1) := by decide +kernel
theorem d_X3_totalOf_25 : decode c_X3_totalOf 25 = .ok (.aload_n 0, 1) := by decide +kernel
theorem d_X3_totalOf_26 : decode c_X3_totalOf 26 = .ok (.iload 4, 2) := by decide +kernel
theorem d_X3_totalOf_28 : decode c_X3_totalOf 28 = .ok (.iload_n 1, 1) := by decide +kernel
theorem d_X3_totalOf_29 : decode c_X3_totalOf 29 = .ok (.invokevirtual 56, 3) := by decide +kernel
theorem d_X3_totalOf_32 : decode c_X3_totalOf 32 = .ok (.ladd, 1) := by decide +kernel
theorem d_X3_totalOf_33 : decode c_X3_totalOf 33 = .ok (.lstore_n 2, 1) := by decide +kernel
theorem d_X3_totalOf_34 : decode c_X3_totalOf 34 = .ok (.iinc 4 1, 3) := by decide +kernel
theorem d_X3_totalOf_37 : decode c_X3_totalOf 37 = .ok (.goto (-32), 3) := by decide +kernel
theorem d_X3_totalOf_40 : decode c_X3_totalOf 40 = .ok (.lload_n 2, 1) := by decide +kernel
theorem d_X3_totalOf_41 : decode c_X3_totalOf 41 = .ok (.lreturn, 1) := by decide +kernel
theorem d_X3_totalOfRun_0 : decode c_X3_totalOfRun 0 = .ok (.lconst 0, 1) := by decide +kernel
theorem d_X3_totalOfRun_1 : decode c_X3_totalOfRun 1 = .ok (.lstore_n 3, 1) := by decide +kernel
theorem d_X3_totalOfRun_2 : decode c_X3_totalOfRun 2 = .ok (.iconst 0, 1) := by decide +kernel
theorem d_X3_totalOfRun_3 : decode c_X3_totalOfRun 3 = .ok (.istore 5, 2) := by decide +kernel
theorem d_X3_totalOfRun_5 : decode c_X3_totalOfRun 5 = .ok (.iload 5, 2) := by decide +kernel
theorem d_X3_totalOfRun_7 : decode c_X3_totalOfRun 7 = .ok (.bipush 6, 2) := by decide +kernel
theorem d_X3_totalOfRun_9 : decode c_X3_totalOfRun 9 = .ok (.if_icmp .ge 30, 3) := by decide +kernel
theorem d_X3_totalOfRun_12 : decode c_X3_totalOfRun 12 = .ok (.aload_n 0, 1) := by decide +kernel
theorem d_X3_totalOfRun_13 : decode c_X3_totalOfRun 13 = .ok (.iload_n 1, 1) := by decide +kernel
theorem d_X3_totalOfRun_14 : decode c_X3_totalOfRun 14 = .ok (.iload 5, 2) := by decide +kernel
theorem d_X3_totalOfRun_16 : decode c_X3_totalOfRun 16 = .ok (.invokevirtual 49, 3) := by decide +kernel
theorem d_X3_totalOfRun_19 : decode c_X3_totalOfRun 19 = .ok (.ifCond .eq 14, 3) := by decide +kernel
theorem d_X3_totalOfRun_22 : decode c_X3_totalOfRun 22 = .ok (.lload_n 3, 1) := by decide +kernel
theorem d_X3_totalOfRun_23 : decode c_X3_totalOfRun 23 = .ok (.aload_n 0, 1) := by decide +kernel
theorem d_X3_totalOfRun_24 : decode c_X3_totalOfRun 24 = .ok (.iload_n 1, 1) := by decide +kernel
theorem d_X3_totalOfRun_25 : decode c_X3_totalOfRun 25 = .ok (.iload 5, 2) := by decide +kernel
theorem d_X3_totalOfRun_27 : decode c_X3_totalOfRun 27 = .ok (.iload_n 2, 1) := by decide +kernel
theorem d_X3_totalOfRun_28 : decode c_X3_totalOfRun 28 = .ok (.invokevirtual 60, 3) := by decide +kernel
theorem d_X3_totalOfRun_31 : decode c_X3_totalOfRun 31 = .ok (.ladd, 1) := by decide +kernel
theorem d_X3_totalOfRun_32 : decode c_X3_totalOfRun 32 = .ok (.lstore_n 3, 1) := by decide +kernel
theorem d_X3_totalOfRun_33 : decode c_X3_totalOfRun 33 = .ok (.iinc 5 1, 3) := by decide +kernel
theorem d_X3_totalOfRun_36 : decode c_X3_totalOfRun 36 = .ok (.goto (-31), 3) := by decide +kernel
theorem d_X3_totalOfRun_39 : decode c_X3_totalOfRun 39 = .ok (.lload_n 3, 1) := by decide +kernel
theorem d_X3_totalOfRun_40 : decode c_X3_totalOfRun 40 = .ok (.lreturn, 1) := by decide +kernel
theorem d_X4_init_0 : decode c_X4_init 0 = .ok (.aload_n 0, 1) := by decide +kernel
theorem d_X4_init_1 : decode c_X4_init 1 = .ok (.invokespecial 3, 3) := by decide +kernel
theorem d_X4_init_4 : decode c_X4_init 4 = .ok (.aload_n 0, 1) := by decide +kernel
theorem d_X4_init_5 : decode c_X4_init 5 = .ok (.iconst 5, 1) := by decide +kernel
theorem d_X4_init_6 : decode c_X4_init 6 = .ok (.newarray .int, 2) := by decide +kernel
theorem d_X4_init_8 : decode c_X4_init 8 = .ok (.putfield 9, 3) := by decide +kernel
theorem d_X4_init_11 : decode c_X4_init 11 = .ok (.aload_n 0, 1) := by decide +kernel
theorem d_X4_init_12 : decode c_X4_init 12 = .ok (.iconst 5, 1) := by decide +kernel
theorem d_X4_init_13 : decode c_X4_init 13 = .ok (.newarray .int, 2) := by decide +kernel
theorem d_X4_init_15 : decode c_X4_init 15 = .ok (.putfield 15, 3) := by decide +kernel
theorem d_X4_init_18 : decode c_X4_init 18 = .ok (.return_, 1) := by decide +kernel
theorem d_X4_addStep_0 : decode c_X4_addStep 0 = .ok (.aload_n 0, 1) := by decide +kernel
theorem d_X4_addStep_1 : decode c_X4_addStep 1 = .ok (.getfield 18, 3) := by decide +kernel
theorem d_X4_addStep_4 : decode c_X4_addStep 4 = .ok (.ifCond .le 17, 3) := by decide +kernel
theorem d_X4_addStep_7 : decode c_X4_addStep 7 = .ok (.aload_n 0, 1) := by decide +kernel
theorem d_X4_addStep_8 : decode c_X4_addStep 8 = .ok (.getfield 9, 3) := by decide +kernel
theorem d_X4_addStep_11 : decode c_X4_addStep 11 = .ok (.aload_n 0, 1) := by decide +kernel
theorem d_X4_addStep_12 : decode c_X4_addStep 12 = .ok (.getfield 18, 3) := by decide +kernel
theorem d_X4_addStep_15 : decode c_X4_addStep 15 = .ok (.iconst 1, 1) := by decide +kernel
theorem d_X4_addStep_16 : decode c_X4_addStep 16 = .ok (.isub, 1) := by decide +kernel
theorem d_X4_addStep_17 : decode c_X4_addStep 17 = .ok (.iaload, 1) := by decide +kernel
theorem d_X4_addStep_18 : decode c_X4_addStep 18 = .ok (.goto 4, 3) := by decide +kernel
theorem d_X4_addStep_21 : decode c_X4_addStep 21 = .ok (.iconst 0, 1) := by decide +kernel
theorem d_X4_addStep_22 : decode c_X4_addStep 22 = .ok (.istore_n 3, 1) := by decide +kernel
theorem d_X4_addStep_23 : decode c_X4_addStep 23 = .ok (.iload_n 1, 1) := by decide +kernel
theorem d_X4_addStep_24 : decode c_X4_addStep 24 = .ok (.iload_n 3, 1) := by decide +kernel
theorem d_X4_addStep_25 : decode c_X4_addStep 25 = .ok (.if_icmp .le 14, 3) := by decide +kernel
theorem d_X4_addStep_28 : decode c_X4_addStep 28 = .ok (.iload_n 2, 1) := by decide +kernel
theorem d_X4_addStep_29 : decode c_X4_addStep 29 = .ok (.ifCond .lt 10, 3) := by decide +kernel
theorem d_X4_addStep_32 : decode c_X4_addStep 32 = .ok (.iload_n 2, 1) := by decide +kernel
theorem d_X4_addStep_33 : decode c_X4_addStep 33 = .ok (.sipush 1000, 3) := by decide +kernel
theorem d_X4_addStep_36 : decode c_X4_addStep 36 = .ok (.if_icmp .le 5, 3) := by decide +kernel
theorem d_X4_addStep_39 : decode c_X4_addStep 39 = .ok (.iconst (-1), 1) := by decide +kernel
theorem d_X4_addStep_40 : decode c_X4_addStep 40 = .ok (.ireturn, 1) := by decide +kernel
theorem d_X4_addStep_41 : decode c_X4_addStep 41 = .ok (.aload_n 0, 1) := by decide +kernel
theorem d_X4_addStep_42 : decode c_X4_addStep 42 = .ok (.getfield 18, 3) := by decide +kernel
theorem d_X4_addStep_45 : decode c_X4_addStep 45 = .ok (.iconst 5, 1) := by decide +kernel
theorem d_X4_addStep_46 : decode c_X4_addStep 46 = .ok (.if_icmp .ne 6, 3) := by decide +kernel
theorem d_X4_addStep_49 : decode c_X4_addStep 49 = .ok (.bipush (-2), 2) := by decide +kernel
theorem d_X4_addStep_51 : decode c_X4_addStep 51 = .ok (.ireturn, 1) := by decide +kernel
theorem d_X4_addStep_52 : decode c_X4_addStep 52 = .ok (.aload_n 0, 1) := by decide +kernel
theorem d_X4_addStep_53 : decode c_X4_addStep 53 = .ok (.getfield 9, 3) := by decide +kernel
theorem d_X4_addStep_56 : decode c_X4_addStep 56 = .ok (.aload_n 0, 1) := by decide +kernel
theorem d_X4_addStep_57 : decode c_X4_addStep 57 = .ok (.getfield 18, 3) := by decide +kernel
theorem d_X4_addStep_60 : decode c_X4_addStep 60 = .ok (.iload_n 1, 1) := by decide +kernel
theorem d_X4_addStep_61 : decode c_X4_addStep 61 = .ok (.iastore, 1) := by decide +kernel
theorem d_X4_addStep_62 : decode c_X4_addStep 62 = .ok (.aload_n 0, 1) := by decide +kernel
theorem d_X4_addStep_63 : decode c_X4_addStep 63 = .ok (.getfield 15, 3) := by decide +kernel
theorem d_X4_addStep_66 : decode c_X4_addStep 66 = .ok (.aload_n 0, 1) := by decide +kernel
theorem d_X4_addStep_67 : decode c_X4_addStep 67 = .ok (.getfield 18, 3) := by decide +kernel
theorem d_X4_addStep_70 : decode c_X4_addStep 70 = .ok (.iload_n 2, 1) := by decide +kernel
theorem d_X4_addStep_71 : decode c_X4_addStep 71 = .ok (.iastore, 1) := by decide +kernel
theorem d_X4_addStep_72 : decode c_X4_addStep 72 = .ok (.aload_n 0, 1) := by decide +kernel
theorem d_X4_addStep_73 : decode c_X4_addStep 73 = .ok (.dup, 1) := by decide +kernel
theorem d_X4_addStep_74 : decode c_X4_addStep 74 = .ok (.getfield 18, 3) := by decide +kernel
theorem d_X4_addStep_77 : decode c_X4_addStep 77 = .ok (.iconst 1, 1) := by decide +kernel
theorem d_X4_addStep_78 : decode c_X4_addStep 78 = .ok (.iadd, 1) := by decide +kernel
theorem d_X4_addStep_79 : decode c_X4_addStep 79 = .ok (.putfield 18, 3) := by decide +kernel
theorem d_X4_addStep_82 : decode c_X4_addStep 82 = .ok (.aload_n 0, 1) := by decide +kernel
theorem d_X4_addStep_83 : decode c_X4_addStep 83 = .ok (.getfield 18, 3) := by decide +kernel
theorem d_X4_addStep_86 : decode c_X4_addStep 86 = .ok (.ireturn, 1) := by decide +kernel
theorem d_X4_loseSteps_0 : decode c_X4_loseSteps 0 = .ok (.aload_n 0, 1) := by decide +kernel
theorem d_X4_loseSteps_1 : decode c_X4_loseSteps 1 = .ok (.getfield 18, 3) := by decide +kernel
theorem d_X4_loseSteps_4 : decode c_X4_loseSteps 4 = .ok (.istore_n 1, 1) := by decide +kernel
theorem d_X4_loseSteps_5 : decode c_X4_loseSteps 5 = .ok (.aload_n 0, 1) := by decide +kernel
theorem d_X4_loseSteps_6 : decode c_X4_loseSteps 6 = .ok (.iconst 0, 1) := by decide +kernel
theorem d_X4_loseSteps_7 : decode c_X4_loseSteps 7 = .ok (.putfield 18, 3) := by decide +kernel
theorem d_X4_loseSteps_10 : decode c_X4_loseSteps 10 = .ok (.iload_n 1, 1) := by decide +kernel
theorem d_X4_loseSteps_11 : decode c_X4_loseSteps 11 = .ok (.ireturn, 1) := by decide +kernel
theorem d_X4_scaled_0 : decode c_X4_scaled 0 = .ok (.lload_n 1, 1) := by decide +kernel
theorem d_X4_scaled_1 : decode c_X4_scaled 1 = .ok (.invokestatic 22, 3) := by decide +kernel
theorem d_X4_scaled_4 : decode c_X4_scaled 4 = .ok (.ifCond .ne 8, 3) := by decide +kernel
theorem d_X4_scaled_7 : decode c_X4_scaled 7 = .ok (.lload_n 1, 1) := by decide +kernel
theorem d_X4_scaled_8 : decode c_X4_scaled 8 = .ok (.invokestatic 28, 3) := by decide +kernel
theorem d_X4_scaled_11 : decode c_X4_scaled 11 = .ok (.lreturn, 1) := by decide +kernel
theorem d_X4_scaled_12 : decode c_X4_scaled 12 = .ok (.lconst 0, 1) := by decide +kernel
theorem d_X4_scaled_13 : decode c_X4_scaled 13 = .ok (.lstore_n 3, 1) := by decide +kernel
theorem d_X4_scaled_14 : decode c_X4_scaled 14 = .ok (.lconst 0, 1) := by decide +kernel
theorem d_X4_scaled_15 : decode c_X4_scaled 15 = .ok (.lstore 5, 2) := by decide +kernel
theorem d_X4_scaled_17 : decode c_X4_scaled 17 = .ok (.iconst 0, 1) := by decide +kernel
theorem d_X4_scaled_18 : decode c_X4_scaled 18 = .ok (.istore 7, 2) := by decide +kernel
theorem d_X4_scaled_20 : decode c_X4_scaled 20 = .ok (.iload 7, 2) := by decide +kernel
theorem d_X4_scaled_22 : decode c_X4_scaled 22 = .ok (.aload_n 0, 1) := by decide +kernel
theorem d_X4_scaled_23 : decode c_X4_scaled 23 = .ok (.getfield 18, 3) := by decide +kernel
theorem d_X4_scaled_26 : decode c_X4_scaled 26 = .ok (.if_icmp .ge 70, 3) := by decide +kernel
theorem d_X4_scaled_29 : decode c_X4_scaled 29 = .ok (.lload 5, 2) := by decide +kernel
theorem d_X4_scaled_31 : decode c_X4_scaled 31 = .ok (.lload_n 1, 1) := by decide +kernel
theorem d_X4_scaled_32 : decode c_X4_scaled 32 = .ok (.lcmp, 1) := by decide +kernel
theorem d_X4_scaled_33 : decode c_X4_scaled 33 = .ok (.ifCond .ge 63, 3) := by decide +kernel
theorem d_X4_scaled_36 : decode c_X4_scaled 36 = .ok (.lload_n 1, 1) := by decide +kernel
theorem d_X4_scaled_37 : decode c_X4_scaled 37 = .ok (.aload_n 0, 1) := by decide +kernel
theorem d_X4_scaled_38 : decode c_X4_scaled 38 = .ok (.getfield 9, 3) := by decide +kernel
theorem d_X4_scaled_41 : decode c_X4_scaled 41 = .ok (.iload 7, 2) := by decide +kernel
theorem d_X4_scaled_43 : decode c_X4_scaled 43 = .ok (.iaload, 1) := by decide +kernel
theorem d_X4_scaled_44 : decode c_X4_scaled 44 = .ok (.i2l, 1) := by decide +kernel
theorem d_X4_scaled_45 : decode c_X4_scaled 45 = .ok (.lcmp, 1) := by decide +kernel
theorem d_X4_scaled_46 : decode c_X4_scaled 46 = .ok (.ifCond .ge 7, 3) := by decide +kernel
theorem d_X4_scaled_49 : decode c_X4_scaled 49 = .ok (.lload_n 1, 1) := by decide +kernel
theorem d_X4_scaled_50 : decode c_X4_scaled 50 = .ok (.goto 11, 3) := by decide +kernel
theorem d_X4_scaled_53 : decode c_X4_scaled 53 = .ok (.aload_n 0, 1) := by decide +kernel
theorem d_X4_scaled_54 : decode c_X4_scaled 54 = .ok (.getfield 9, 3) := by decide +kernel
theorem d_X4_scaled_57 : decode c_X4_scaled 57 = .ok (.iload 7, 2) := by decide +kernel
theorem d_X4_scaled_59 : decode c_X4_scaled 59 = .ok (.iaload, 1) := by decide +kernel
theorem d_X4_scaled_60 : decode c_X4_scaled 60 = .ok (.i2l, 1) := by decide +kernel
theorem d_X4_scaled_61 : decode c_X4_scaled 61 = .ok (.lstore 8, 2) := by decide +kernel
theorem d_X4_scaled_63 : decode c_X4_scaled 63 = .ok (.lload_n 3, 1) := by decide +kernel
theorem d_X4_scaled_64 : decode c_X4_scaled 64 = .ok (.lload 8, 2) := by decide +kernel
theorem d_X4_scaled_66 : decode c_X4_scaled 66 = .ok (.lload 5, 2) := by decide +kernel
theorem d_X4_scaled_68 : decode c_X4_scaled 68 = .ok (.lsub, 1) := by decide +kernel
theorem d_X4_scaled_69 : decode c_X4_scaled 69 = .ok (.aload_n 0, 1) := by decide +kernel
theorem d_X4_scaled_70 : decode c_X4_scaled 70 = .ok (.getfield 15, 3) := by decide +kernel
theorem d_X4_scaled_73 : decode c_X4_scaled 73 = .ok (.iload 7, 2) := by decide +kernel
theorem d_X4_scaled_75 : decode c_X4_scaled 75 = .ok (.iaload, 1) := by decide +kernel
theorem d_X4_scaled_76 : decode c_X4_scaled 76 = .ok (.i2l, 1) := by decide +kernel
theorem d_X4_scaled_77 : decode c_X4_scaled 77 = .ok (.lmul, 1) := by decide +kernel
theorem d_X4_scaled_78 : decode c_X4_scaled 78 = .ok (.ladd, 1) := by decide +kernel
theorem d_X4_scaled_79 : decode c_X4_scaled 79 = .ok (.lstore_n 3, 1) := by decide +kernel
theorem d_X4_scaled_80 : decode c_X4_scaled 80 = .ok (.aload_n 0, 1) := by decide +kernel
theorem d_X4_scaled_81 : decode c_X4_scaled 81 = .ok (.getfield 9, 3) := by decide +kernel
theorem d_X4_scaled_84 : decode c_X4_scaled 84 = .ok (.iload 7, 2) := by decide +kernel
theorem d_X4_scaled_86 : decode c_X4_scaled 86 = .ok (.iaload, 1) := by decide +kernel
theorem d_X4_scaled_87 : decode c_X4_scaled 87 = .ok (.i2l, 1) := by decide +kernel
theorem d_X4_scaled_88 : decode c_X4_scaled 88 = .ok (.lstore 5, 2) := by decide +kernel
theorem d_X4_scaled_90 : decode c_X4_scaled 90 = .ok (.iinc 7 1, 3) := by decide +kernel
theorem d_X4_scaled_93 : decode c_X4_scaled 93 = .ok (.goto (-73), 3) := by decide +kernel
theorem d_X4_scaled_96 : decode c_X4_scaled 96 = .ok (.lload_n 3, 1) := by decide +kernel
theorem d_X4_scaled_97 : decode c_X4_scaled 97 = .ok (.ldc2_w 32, 3) := by decide +kernel
theorem d_X4_scaled_100 : decode c_X4_scaled 100 = .ok (.invokestatic 34, 3) := by decide +kernel
theorem d_X4_scaled_103 : decode c_X4_scaled 103 = .ok (.lreturn, 1) := by decide +kernel
theorem d_X5_isInt_0 : decode c_X5_isInt 0 = .ok (.lload_n 0, 1) := by decide +kernel
theorem d_X5_isInt_1 : decode c_X5_isInt 1 = .ok (.ldc2_w 11, 3) := by decide +kernel
theorem d_X5_isInt_4 : decode c_X5_isInt 4 = .ok (.lcmp, 1) := by decide +kernel
theorem d_X5_isInt_5 : decode c_X5_isInt 5 = .ok (.ifCond .lt 15, 3) := by decide +kernel
theorem d_X5_isInt_8 : decode c_X5_isInt 8 = .ok (.lload_n 0, 1) := by decide +kernel
theorem d_X5_isInt_9 : decode c_X5_isInt 9 = .ok (.ldc2_w 13, 3) := by decide +kernel
theorem d_X5_isInt_12 : decode c_X5_isInt 12 = .ok (.lcmp, 1) := by decide +kernel
theorem d_X5_isInt_13 : decode c_X5_isInt 13 = .ok (.ifCond .gt 7, 3) := by decide +kernel
theorem d_X5_isInt_16 : decode c_X5_isInt 16 = .ok (.iconst 1, 1) := by decide +kernel
theorem d_X5_isInt_17 : decode c_X5_isInt 17 = .ok (.goto 4, 3) := by decide +kernel
theorem d_X5_isInt_20 : decode c_X5_isInt 20 = .ok (.iconst 0, 1) := by decide +kernel
theorem d_X5_isInt_21 : decode c_X5_isInt 21 = .ok (.ireturn, 1) := by decide +kernel
theorem d_X5_faultOf_0 : decode c_X5_faultOf 0 = .ok (.lload_n 0, 1) := by decide +kernel
theorem d_X5_faultOf_1 : decode c_X5_faultOf 1 = .ok (.ldc2_w 15, 3) := by decide +kernel
theorem d_X5_faultOf_4 : decode c_X5_faultOf 4 = .ok (.lcmp, 1) := by decide +kernel
theorem d_X5_faultOf_5 : decode c_X5_faultOf 5 = .ok (.ifCond .ne 9, 3) := by decide +kernel
theorem d_X5_faultOf_8 : decode c_X5_faultOf 8 = .ok (.ldc2_w 17, 3) := by decide +kernel
theorem d_X5_faultOf_11 : decode c_X5_faultOf 11 = .ok (.goto 4, 3) := by decide +kernel
theorem d_X5_faultOf_14 : decode c_X5_faultOf 14 = .ok (.lload_n 0, 1) := by decide +kernel
theorem d_X5_faultOf_15 : decode c_X5_faultOf 15 = .ok (.lreturn, 1) := by decide +kernel
theorem d_X5_truthOf_0 : decode c_X5_truthOf 0 = .ok (.lload_n 0, 1) := by decide +kernel
theorem d_X5_truthOf_1 : decode c_X5_truthOf 1 = .ok (.invokestatic 19, 3) := by decide +kernel
theorem d_X5_truthOf_4 : decode c_X5_truthOf 4 = .ok (.ifCond .ne 8, 3) := by decide +kernel
theorem d_X5_truthOf_7 : decode c_X5_truthOf 7 = .ok (.lload_n 0, 1) := by decide +kernel
theorem d_X5_truthOf_8 : decode c_X5_truthOf 8 = .ok (.invokestatic 25, 3) := by decide +kernel
theorem d_X5_truthOf_11 : decode c_X5_truthOf 11 = .ok (.lreturn, 1) := by decide +kernel
theorem d_X5_truthOf_12 : decode c_X5_truthOf 12 = .ok (.lload_n 0, 1) := by decide +kernel
theorem d_X5_truthOf_13 : decode c_X5_truthOf 13 = .ok (.lconst 0, 1) := by decide +kernel
theorem d_X5_truthOf_14 : decode c_X5_truthOf 14 = .ok (.lcmp, 1) := by decide +kernel
theorem d_X5_truthOf_15 : decode c_X5_truthOf 15 = .ok (.ifCond .eq 7, 3) := by decide +kernel
theorem d_X5_truthOf_18 : decode c_X5_truthOf 18 = .ok (.lconst 1, 1) := by decide +kernel
theorem d_X5_truthOf_19 : decode c_X5_truthOf 19 = .ok (.goto 4, 3) := by decide +kernel
theorem d_X5_truthOf_22 : decode c_X5_truthOf 22 = .ok (.lconst 0, 1) := by decide +kernel
theorem d_X5_truthOf_23 : decode c_X5_truthOf 23 = .ok (.lreturn, 1) := by decide +kernel
theorem d_X5_not_0 : decode c_X5_not 0 = .ok (.lload_n 0, 1) := by decide +kernel
theorem d_X5_not_1 : decode c_X5_not 1 = .ok (.invokestatic 19, 3) := by decide +kernel
theorem d_X5_not_4 : decode c_X5_not 4 = .ok (.ifCond .ne 8, 3) := by decide +kernel
theorem d_X5_not_7 : decode c_X5_not 7 = .ok (.lload_n 0, 1) := by decide +kernel
theorem d_X5_not_8 : decode c_X5_not 8 = .ok (.invokestatic 25, 3) := by decide +kernel
theorem d_X5_not_11 : decode c_X5_not 11 = .ok (.lreturn, 1) := by decide +kernel
theorem d_X5_not_12 : decode c_X5_not 12 = .ok (.lload_n 0, 1) := by decide +kernel
theorem d_X5_not_13 : decode c_X5_not 13 = .ok (.lconst 0, 1) := by decide +kernel
theorem d_X5_not_14 : decode c_X5_not 14 = .ok (.lcmp, 1) := by decide +kernel
theorem d_X5_not_15 : decode c_X5_not 15 = .ok (.ifCond .ne 7, 3) := by decide +kernel
theorem d_X5_not_18 : decode c_X5_not 18 = .ok (.lconst 1, 1) := by decide +kernel
theorem d_X5_not_19 : decode c_X5_not 19 = .ok (.goto 4, 3) := by decide +kernel
theorem d_X5_not_22 : decode c_X5_not 22 = .ok (.lconst 0, 1) := by decide +kernel
theorem d_X5_not_23 : decode c_X5_not 23 = .ok (.lreturn, 1) := by decide +kernel
theorem d_X5_both_0 : decode c_X5_both 0 = .ok (.lload_n 0, 1) := by decide +kernel
theorem d_X5_both_1 : decode c_X5_both 1 = .ok (.invokestatic 19, 3) := by decide +kernel
theorem d_X5_both_4 : decode c_X5_both 4 = .ok (.ifCond .ne 8, 3) := by decide +kernel
theorem d_X5_both_7 : decode c_X5_both 7 = .ok (.lload_n 0, 1) := by decide +kernel
theorem d_X5_both_8 : decode c_X5_both 8 = .ok (.invokestatic 25, 3) := by decide +kernel
theorem d_X5_both_11 : decode c_X5_both 11 = .ok (.lreturn, 1) := by decide +kernel
theorem d_X5_both_12 : decode c_X5_both 12 = .ok (.lload_n 0, 1) := by decide +kernel
theorem d_X5_both_13 : decode c_X5_both 13 = .ok (.lconst 0, 1) := by decide +kernel
theorem d_X5_both_14 : decode c_X5_both 14 = .ok (.lcmp, 1) := by decide +kernel
theorem d_X5_both_15 : decode c_X5_both 15 = .ok (.ifCond .ne 7, 3) := by decide +kernel
theorem d_X5_both_18 : decode c_X5_both 18 = .ok (.lconst 0, 1) := by decide +kernel
theorem d_X5_both_19 : decode c_X5_both 19 = .ok (.goto 7, 3) := by decide +kernel
theorem d_X5_both_22 : decode c_X5_both 22 = .ok (.lload_n 2, 1) := by decide +kernel
theorem d_X5_both_23 : decode c_X5_both 23 = .ok (.invokestatic 29, 3) := by decide +kernel
theorem d_X5_both_26 : decode c_X5_both 26 = .ok (.lreturn, 1) := by decide +kernel
theorem d_X5_any_0 : decode c_X5_any 0 = .ok (.lload_n 0, 1) := by decide +kernel
theorem d_X5_any_1 : decode c_X5_any 1 = .ok (.invokestatic 19, 3) := by decide +kernel
theorem d_X5_any_4 : decode c_X5_any 4 = .ok (.ifCond .ne 8, 3) := by decide +kernel
theorem d_X5_any_7 : decode c_X5_any 7 = .ok (.lload_n 0, 1) := by decide +kernel
theorem d_X5_any_8 : decode c_X5_any 8 = .ok (.invokestatic 25, 3) := by decide +kernel
theorem d_X5_any_11 : decode c_X5_any 11 = .ok (.lreturn, 1) := by decide +kernel
theorem d_X5_any_12 : decode c_X5_any 12 = .ok (.lload_n 0, 1) := by decide +kernel
theorem d_X5_any_13 : decode c_X5_any 13 = .ok (.lconst 0, 1) := by decide +kernel
theorem d_X5_any_14 : decode c_X5_any 14 = .ok (.lcmp, 1) := by decide +kernel
theorem d_X5_any_15 : decode c_X5_any 15 = .ok (.ifCond .eq 7, 3) := by decide +kernel
theorem d_X5_any_18 : decode c_X5_any 18 = .ok (.lconst 1, 1) := by decide +kernel
theorem d_X5_any_19 : decode c_X5_any 19 = .ok (.goto 7, 3) := by decide +kernel
theorem d_X5_any_22 : decode c_X5_any 22 = .ok (.lload_n 2, 1) := by decide +kernel
theorem d_X5_any_23 : decode c_X5_any 23 = .ok (.invokestatic 29, 3) := by decide +kernel
theorem d_X5_any_26 : decode c_X5_any 26 = .ok (.lreturn, 1) := by decide +kernel
theorem d_X5_choice_0 : decode c_X5_choice 0 = .ok (.lload_n 0, 1) := by decide +kernel
theorem d_X5_choice_1 : decode c_X5_choice 1 = .ok (.invokestatic 19, 3) := by decide +kernel
theorem d_X5_choice_4 : decode c_X5_choice 4 = .ok (.ifCond .ne 8, 3) := by decide +kernel
theorem d_X5_choice_7 : decode c_X5_choice 7 = .ok (.lload_n 0, 1) := by decide +kernel
theorem d_X5_choice_8 : decode c_X5_choice 8 = .ok (.invokestatic 25, 3) := by decide +kernel
theorem d_X5_choice_11 : decode c_X5_choice 11 = .ok (.lreturn, 1) := by decide +kernel
theorem d_X5_choice_12 : decode c_X5_choice 12 = .ok (.lload_n 0, 1) := by decide +kernel
theorem d_X5_choice_13 : decode c_X5_choice 13 = .ok (.lconst 0, 1) := by decide +kernel
theorem d_X5_choice_14 : decode c_X5_choice 14 = .ok (.lcmp, 1) := by decide +kernel
theorem d_X5_choice_15 : decode c_X5_choice 15 = .ok (.ifCond .eq 7, 3) := by decide +kernel
theorem d_X5_choice_18 : decode c_X5_choice 18 = .ok (.lload_n 2, 1) := by decide +kernel
theorem d_X5_choice_19 : decode c_X5_choice 19 = .ok (.goto 5, 3) := by decide +kernel
theorem d_X5_choice_22 : decode c_X5_choice 22 = .ok (.lload 4, 2) := by decide +kernel
theorem d_X5_choice_24 : decode c_X5_choice 24 = .ok (.lreturn, 1) := by decide +kernel
theorem d_X5_also_0 : decode c_X5_also 0 = .ok (.lload_n 0, 1) := by decide +kernel
theorem d_X5_also_1 : decode c_X5_also 1 = .ok (.ldc2_w 15, 3) := by decide +kernel
theorem d_X5_also_4 : decode c_X5_also 4 = .ok (.lcmp, 1) := by decide +kernel
theorem d_X5_also_5 : decode c_X5_also 5 = .ok (.ifCond .eq 12, 3) := by decide +kernel
theorem d_X5_also_8 : decode c_X5_also 8 = .ok (.lload_n 0, 1) := by decide +kernel
theorem d_X5_also_9 : decode c_X5_also 9 = .ok (.invokestatic 19, 3) := by decide +kernel
theorem d_X5_also_12 : decode c_X5_also 12 = .ok (.ifCond .ne 5, 3) := by decide +kernel
theorem d_X5_also_15 : decode c_X5_also 15 = .ok (.lload_n 0, 1) := by decide +kernel
theorem d_X5_also_16 : decode c_X5_also 16 = .ok (.lreturn, 1) := by decide +kernel
theorem d_X5_also_17 : decode c_X5_also 17 = .ok (.lload_n 2, 1) := by decide +kernel
theorem d_X5_also_18 : decode c_X5_also 18 = .ok (.ldc2_w 15, 3) := by decide +kernel
theorem d_X5_also_21 : decode c_X5_also 21 = .ok (.lcmp, 1) := by decide +kernel
theorem d_X5_also_22 : decode c_X5_also 22 = .ok (.ifCond .eq 12, 3) := by decide +kernel
theorem d_X5_also_25 : decode c_X5_also 25 = .ok (.lload_n 2, 1) := by decide +kernel
theorem d_X5_also_26 : decode c_X5_also 26 = .ok (.invokestatic 19, 3) := by decide +kernel
theorem d_X5_also_29 : decode c_X5_also 29 = .ok (.ifCond .ne 5, 3) := by decide +kernel
theorem d_X5_also_32 : decode c_X5_also 32 = .ok (.lload_n 2, 1) := by decide +kernel
theorem d_X5_also_33 : decode c_X5_also 33 = .ok (.lreturn, 1) := by decide +kernel
theorem d_X5_also_34 : decode c_X5_also 34 = .ok (.lload_n 0, 1) := by decide +kernel
theorem d_X5_also_35 : decode c_X5_also 35 = .ok (.ldc2_w 15, 3) := by decide +kernel
theorem d_X5_also_38 : decode c_X5_also 38 = .ok (.lcmp, 1) := by decide +kernel
theorem d_X5_also_39 : decode c_X5_also 39 = .ok (.ifCond .eq 15, 3) := by decide +kernel
theorem d_X5_also_42 : decode c_X5_also 42 = .ok (.lload_n 2, 1) := by decide +kernel
theorem d_X5_also_43 : decode c_X5_also 43 = .ok (.ldc2_w 15, 3) := by decide +kernel
theorem d_X5_also_46 : decode c_X5_also 46 = .ok (.lcmp, 1) := by decide +kernel
theorem d_X5_also_47 : decode c_X5_also 47 = .ok (.ifCond .eq 7, 3) := by decide +kernel
theorem d_X5_also_50 : decode c_X5_also 50 = .ok (.ldc2_w 32, 3) := by decide +kernel
theorem d_X5_also_53 : decode c_X5_also 53 = .ok (.lreturn, 1) := by decide +kernel
theorem d_X5_also_54 : decode c_X5_also 54 = .ok (.lload_n 0, 1) := by decide +kernel
theorem d_X5_also_55 : decode c_X5_also 55 = .ok (.ldc2_w 15, 3) := by decide +kernel
theorem d_X5_also_58 : decode c_X5_also 58 = .ok (.lcmp, 1) := by decide +kernel
theorem d_X5_also_59 : decode c_X5_also 59 = .ok (.ifCond .eq 7, 3) := by decide +kernel
theorem d_X5_also_62 : decode c_X5_also 62 = .ok (.lload_n 0, 1) := by decide +kernel
theorem d_X5_also_63 : decode c_X5_also 63 = .ok (.goto 4, 3) := by decide +kernel
theorem d_X5_also_66 : decode c_X5_also 66 = .ok (.lload_n 2, 1) := by decide +kernel
theorem d_X5_also_67 : decode c_X5_also 67 = .ok (.lreturn, 1) := by decide +kernel
theorem d_X5_byDefault_0 : decode c_X5_byDefault 0 = .ok (.lload_n 0, 1) := by decide +kernel
theorem d_X5_byDefault_1 : decode c_X5_byDefault 1 = .ok (.ldc2_w 15, 3) := by decide +kernel
theorem d_X5_byDefault_4 : decode c_X5_byDefault 4 = .ok (.lcmp, 1) := by decide +kernel
theorem d_X5_byDefault_5 : decode c_X5_byDefault 5 = .ok (.ifCond .eq 5, 3) := by decide +kernel
theorem d_X5_byDefault_8 : decode c_X5_byDefault 8 = .ok (.lload_n 0, 1) := by decide +kernel
theorem d_X5_byDefault_9 : decode c_X5_byDefault 9 = .ok (.lreturn, 1) := by decide +kernel
theorem d_X5_byDefault_10 : decode c_X5_byDefault 10 = .ok (.lload_n 2, 1) := by decide +kernel
theorem d_X5_byDefault_11 : decode c_X5_byDefault 11 = .ok (.invokestatic 19, 3) := by decide +kernel
theorem d_X5_byDefault_14 : decode c_X5_byDefault 14 = .ok (.ifCond .ne 8, 3) := by decide +kernel
theorem d_X5_byDefault_17 : decode c_X5_byDefault 17 = .ok (.lload_n 2, 1) := by decide +kernel
theorem d_X5_byDefault_18 : decode c_X5_byDefault 18 = .ok (.invokestatic 25, 3) := by decide +kernel
theorem d_X5_byDefault_21 : decode c_X5_byDefault 21 = .ok (.lreturn, 1) := by decide +kernel
theorem d_X5_byDefault_22 : decode c_X5_byDefault 22 = .ok (.lload_n 2, 1) := by decide +kernel
theorem d_X5_byDefault_23 : decode c_X5_byDefault 23 = .ok (.lconst 0, 1) := by decide +kernel
theorem d_X5_byDefault_24 : decode c_X5_byDefault 24 = .ok (.lcmp, 1) := by decide +kernel
theorem d_X5_byDefault_25 : decode c_X5_byDefault 25 = .ok (.ifCond .ne 9, 3) := by decide +kernel
theorem d_X5_byDefault_28 : decode c_X5_byDefault 28 = .ok (.ldc2_w 15, 3) := by decide +kernel
theorem d_X5_byDefault_31 : decode c_X5_byDefault 31 = .ok (.goto 5, 3) := by decide +kernel
theorem d_X5_byDefault_34 : decode c_X5_byDefault 34 = .ok (.lload 4, 2) := by decide +kernel
theorem d_X5_byDefault_36 : decode c_X5_byDefault 36 = .ok (.lreturn, 1) := by decide +kernel
theorem d_X5_ofTwo_0 : decode c_X5_ofTwo 0 = .ok (.lload_n 1, 1) := by decide +kernel
theorem d_X5_ofTwo_1 : decode c_X5_ofTwo 1 = .ok (.invokestatic 19, 3) := by decide +kernel
