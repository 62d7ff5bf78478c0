theorem dX4_init_0 : decode cX4_init 0 = .ok (.aload_n 0, 1) := by decide +kernel
theorem dX4_init_1 : decode cX4_init 1 = .ok (.invokespecial 1, 3) := by decide +kernel
theorem dX4_init_4 : decode cX4_init 4 = .ok (.aload_n 0, 1) := by decide +kernel
theorem dX4_init_5 : decode cX4_init 5 = .ok (.iconst 3, 1) := by decide +kernel
theorem dX4_init_6 : decode cX4_init 6 = .ok (.newarray .int, 2) := by decide +kernel
theorem dX4_init_8 : decode cX4_init 8 = .ok (.putfield 7, 3) := by decide +kernel
theorem dX4_init_11 : decode cX4_init 11 = .ok (.aload_n 0, 1) := by decide +kernel
theorem dX4_init_12 : decode cX4_init 12 = .ok (.iconst 3, 1) := by decide +kernel
theorem dX4_init_13 : decode cX4_init 13 = .ok (.newarray .int, 2) := by decide +kernel
theorem dX4_init_15 : decode cX4_init 15 = .ok (.putfield 13, 3) := by decide +kernel
theorem dX4_init_18 : decode cX4_init 18 = .ok (.aload_n 0, 1) := by decide +kernel
theorem dX4_init_19 : decode cX4_init 19 = .ok (.bipush 120, 2) := by decide +kernel
theorem dX4_init_21 : decode cX4_init 21 = .ok (.newarray .int, 2) := by decide +kernel
theorem dX4_init_23 : decode cX4_init 23 = .ok (.putfield 16, 3) := by decide +kernel
theorem dX4_init_26 : decode cX4_init 26 = .ok (.aload_n 0, 1) := by decide +kernel
theorem dX4_init_27 : decode cX4_init 27 = .ok (.sipush 360, 3) := by decide +kernel
theorem dX4_init_30 : decode cX4_init 30 = .ok (.newarray .int, 2) := by decide +kernel
theorem dX4_init_32 : decode cX4_init 32 = .ok (.putfield 19, 3) := by decide +kernel
theorem dX4_init_35 : decode cX4_init 35 = .ok (.aload_n 0, 1) := by decide +kernel
theorem dX4_init_36 : decode cX4_init 36 = .ok (.bipush 12, 2) := by decide +kernel
theorem dX4_init_38 : decode cX4_init 38 = .ok (.newarray .int, 2) := by decide +kernel
theorem dX4_init_40 : decode cX4_init 40 = .ok (.putfield 22, 3) := by decide +kernel
theorem dX4_init_43 : decode cX4_init 43 = .ok (.aload_n 0, 1) := by decide +kernel
theorem dX4_init_44 : decode cX4_init 44 = .ok (.bipush 40, 2) := by decide +kernel
theorem dX4_init_46 : decode cX4_init 46 = .ok (.newarray .boolean, 2) := by decide +kernel
theorem dX4_init_48 : decode cX4_init 48 = .ok (.putfield 25, 3) := by decide +kernel
theorem dX4_init_51 : decode cX4_init 51 = .ok (.aload_n 0, 1) := by decide +kernel
theorem dX4_init_52 : decode cX4_init 52 = .ok (.bipush 8, 2) := by decide +kernel
theorem dX4_init_54 : decode cX4_init 54 = .ok (.newarray .int, 2) := by decide +kernel
theorem dX4_init_56 : decode cX4_init 56 = .ok (.putfield 29, 3) := by decide +kernel
theorem dX4_init_59 : decode cX4_init 59 = .ok (.aload_n 0, 1) := by decide +kernel
theorem dX4_init_60 : decode cX4_init 60 = .ok (.bipush 8, 2) := by decide +kernel
theorem dX4_init_62 : decode cX4_init 62 = .ok (.newarray .int, 2) := by decide +kernel
theorem dX4_init_64 : decode cX4_init 64 = .ok (.putfield 32, 3) := by decide +kernel
theorem dX4_init_67 : decode cX4_init 67 = .ok (.aload_n 0, 1) := by decide +kernel
theorem dX4_init_68 : decode cX4_init 68 = .ok (.bipush 40, 2) := by decide +kernel
theorem dX4_init_70 : decode cX4_init 70 = .ok (.newarray .boolean, 2) := by decide +kernel
theorem dX4_init_72 : decode cX4_init 72 = .ok (.putfield 35, 3) := by decide +kernel
theorem dX4_init_75 : decode cX4_init 75 = .ok (.aload_n 0, 1) := by decide +kernel
theorem dX4_init_76 : decode cX4_init 76 = .ok (.bipush 41, 2) := by decide +kernel
theorem dX4_init_78 : decode cX4_init 78 = .ok (.newarray .int, 2) := by decide +kernel
theorem dX4_init_80 : decode cX4_init 80 = .ok (.putfield 38, 3) := by decide +kernel
theorem dX4_init_83 : decode cX4_init 83 = .ok (.aload_n 0, 1) := by decide +kernel
theorem dX4_init_84 : decode cX4_init 84 = .ok (.bipush 41, 2) := by decide +kernel
theorem dX4_init_86 : decode cX4_init 86 = .ok (.newarray .int, 2) := by decide +kernel
theorem dX4_init_88 : decode cX4_init 88 = .ok (.putfield 41, 3) := by decide +kernel
theorem dX4_init_91 : decode cX4_init 91 = .ok (.aload_n 0, 1) := by decide +kernel
theorem dX4_init_92 : decode cX4_init 92 = .ok (.bipush 56, 2) := by decide +kernel
theorem dX4_init_94 : decode cX4_init 94 = .ok (.newarray .boolean, 2) := by decide +kernel
theorem dX4_init_96 : decode cX4_init 96 = .ok (.putfield 44, 3) := by decide +kernel
theorem dX4_init_99 : decode cX4_init 99 = .ok (.aload_n 0, 1) := by decide +kernel
theorem dX4_init_100 : decode cX4_init 100 = .ok (.sipush 224, 3) := by decide +kernel
theorem dX4_init_103 : decode cX4_init 103 = .ok (.newarray .long, 2) := by decide +kernel
theorem dX4_init_105 : decode cX4_init 105 = .ok (.putfield 47, 3) := by decide +kernel
theorem dX4_init_108 : decode cX4_init 108 = .ok (.aload_n 0, 1) := by decide +kernel
theorem dX4_init_109 : decode cX4_init 109 = .ok (.bipush 56, 2) := by decide +kernel
theorem dX4_init_111 : decode cX4_init 111 = .ok (.newarray .int, 2) := by decide +kernel
theorem dX4_init_113 : decode cX4_init 113 = .ok (.putfield 51, 3) := by decide +kernel
theorem dX4_init_116 : decode cX4_init 116 = .ok (.aload_n 0, 1) := by decide +kernel
theorem dX4_init_117 : decode cX4_init 117 = .ok (.sipush 14280, 3) := by decide +kernel
theorem dX4_init_120 : decode cX4_init 120 = .ok (.newarray .int, 2) := by decide +kernel
theorem dX4_init_122 : decode cX4_init 122 = .ok (.putfield 54, 3) := by decide +kernel
theorem dX4_init_125 : decode cX4_init 125 = .ok (.aload_n 0, 1) := by decide +kernel
theorem dX4_init_126 : decode cX4_init 126 = .ok (.sipush 520, 3) := by decide +kernel
theorem dX4_init_129 : decode cX4_init 129 = .ok (.newarray .int, 2) := by decide +kernel
theorem dX4_init_131 : decode cX4_init 131 = .ok (.putfield 57, 3) := by decide +kernel
theorem dX4_init_134 : decode cX4_init 134 = .ok (.aload_n 0, 1) := by decide +kernel
theorem dX4_init_135 : decode cX4_init 135 = .ok (.sipush 2080, 3) := by decide +kernel
theorem dX4_init_138 : decode cX4_init 138 = .ok (.newarray .long, 2) := by decide +kernel
theorem dX4_init_140 : decode cX4_init 140 = .ok (.putfield 60, 3) := by decide +kernel
theorem dX4_init_143 : decode cX4_init 143 = .ok (.aload_n 0, 1) := by decide +kernel
theorem dX4_init_144 : decode cX4_init 144 = .ok (.sipush 520, 3) := by decide +kernel
theorem dX4_init_147 : decode cX4_init 147 = .ok (.newarray .int, 2) := by decide +kernel
theorem dX4_init_149 : decode cX4_init 149 = .ok (.putfield 63, 3) := by decide +kernel
theorem dX4_init_152 : decode cX4_init 152 = .ok (.aload_n 0, 1) := by decide +kernel
theorem dX4_init_153 : decode cX4_init 153 = .ok (.sipush 520, 3) := by decide +kernel
theorem dX4_init_156 : decode cX4_init 156 = .ok (.newarray .int, 2) := by decide +kernel
theorem dX4_init_158 : decode cX4_init 158 = .ok (.putfield 66, 3) := by decide +kernel
theorem dX4_init_161 : decode cX4_init 161 = .ok (.aload_n 0, 1) := by decide +kernel
theorem dX4_init_162 : decode cX4_init 162 = .ok (.sipush 512, 3) := by decide +kernel
theorem dX4_init_165 : decode cX4_init 165 = .ok (.newarray .int, 2) := by decide +kernel
theorem dX4_init_167 : decode cX4_init 167 = .ok (.putfield 69, 3) := by decide +kernel
theorem dX4_init_170 : decode cX4_init 170 = .ok (.aload_n 0, 1) := by decide +kernel
theorem dX4_init_171 : decode cX4_init 171 = .ok (.sipush 520, 3) := by decide +kernel
theorem dX4_init_174 : decode cX4_init 174 = .ok (.newarray .int, 2) := by decide +kernel
theorem dX4_init_176 : decode cX4_init 176 = .ok (.putfield 72, 3) := by decide +kernel
theorem dX4_init_179 : decode cX4_init 179 = .ok (.aload_n 0, 1) := by decide +kernel
theorem dX4_init_180 : decode cX4_init 180 = .ok (.iconst 4, 1) := by decide +kernel
theorem dX4_init_181 : decode cX4_init 181 = .ok (.newarray .long, 2) := by decide +kernel
theorem dX4_init_183 : decode cX4_init 183 = .ok (.putfield 75, 3) := by decide +kernel
theorem dX4_init_186 : decode cX4_init 186 = .ok (.aload_n 0, 1) := by decide +kernel
theorem dX4_init_187 : decode cX4_init 187 = .ok (.bipush 8, 2) := by decide +kernel
theorem dX4_init_189 : decode cX4_init 189 = .ok (.newarray .long, 2) := by decide +kernel
theorem dX4_init_191 : decode cX4_init 191 = .ok (.dup, 1) := by decide +kernel
theorem dX4_init_192 : decode cX4_init 192 = .ok (.iconst 0, 1) := by decide +kernel
theorem dX4_init_193 : decode cX4_init 193 = .ok (.lconst 0, 1) := by decide +kernel
theorem dX4_init_194 : decode cX4_init 194 = .ok (.lastore, 1) := by decide +kernel
theorem dX4_init_195 : decode cX4_init 195 = .ok (.dup, 1) := by decide +kernel
theorem dX4_init_196 : decode cX4_init 196 = .ok (.iconst 1, 1) := by decide +kernel
theorem dX4_init_197 : decode cX4_init 197 = .ok (.lconst 0, 1) := by decide +kernel
theorem dX4_init_198 : decode cX4_init 198 = .ok (.lastore, 1) := by decide +kernel
theorem dX4_init_199 : decode cX4_init 199 = .ok (.dup, 1) := by decide +kernel
theorem dX4_init_200 : decode cX4_init 200 = .ok (.iconst 2, 1) := by decide +kernel
theorem dX4_init_201 : decode cX4_init 201 = .ok (.ldc2_w 78, 3) := by decide +kernel
theorem dX4_init_204 : decode cX4_init 204 = .ok (.lastore, 1) := by decide +kernel
theorem dX4_init_205 : decode cX4_init 205 = .ok (.dup, 1) := by decide +kernel
theorem dX4_init_206 : decode cX4_init 206 = .ok (.iconst 3, 1) := by decide +kernel
theorem dX4_init_207 : decode cX4_init 207 = .ok (.ldc2_w 80, 3) := by decide +kernel
theorem dX4_init_210 : decode cX4_init 210 = .ok (.lastore, 1) := by decide +kernel
theorem dX4_init_211 : decode cX4_init 211 = .ok (.dup, 1) := by decide +kernel
theorem dX4_init_212 : decode cX4_init 212 = .ok (.iconst 4, 1) := by decide +kernel
theorem dX4_init_213 : decode cX4_init 213 = .ok (.ldc2_w 82, 3) := by decide +kernel
theorem dX4_init_216 : decode cX4_init 216 = .ok (.lastore, 1) := by decide +kernel
theorem dX4_init_217 : decode cX4_init 217 = .ok (.dup, 1) := by decide +kernel
theorem dX4_init_218 : decode cX4_init 218 = .ok (.iconst 5, 1) := by decide +kernel
theorem dX4_init_219 : decode cX4_init 219 = .ok (.ldc2_w 84, 3) := by decide +kernel
theorem dX4_init_222 : decode cX4_init 222 = .ok (.lastore, 1) := by decide +kernel
theorem dX4_init_223 : decode cX4_init 223 = .ok (.dup, 1) := by decide +kernel
theorem dX4_init_224 : decode cX4_init 224 = .ok (.bipush 6, 2) := by decide +kernel
theorem dX4_init_226 : decode cX4_init 226 = .ok (.ldc2_w 86, 3) := by decide +kernel
theorem dX4_init_229 : decode cX4_init 229 = .ok (.lastore, 1) := by decide +kernel
theorem dX4_init_230 : decode cX4_init 230 = .ok (.dup, 1) := by decide +kernel
theorem dX4_init_231 : decode cX4_init 231 = .ok (.bipush 7, 2) := by decide +kernel
theorem dX4_init_233 : decode cX4_init 233 = .ok (.ldc2_w 88, 3) := by decide +kernel
theorem dX4_init_236 : decode cX4_init 236 = .ok (.lastore, 1) := by decide +kernel
theorem dX4_init_237 : decode cX4_init 237 = .ok (.putfield 90, 3) := by decide +kernel
theorem dX4_init_240 : decode cX4_init 240 = .ok (.aload_n 0, 1) := by decide +kernel
theorem dX4_init_241 : decode cX4_init 241 = .ok (.bipush 40, 2) := by decide +kernel
theorem dX4_init_243 : decode cX4_init 243 = .ok (.newarray .boolean, 2) := by decide +kernel
theorem dX4_init_245 : decode cX4_init 245 = .ok (.putfield 93, 3) := by decide +kernel
theorem dX4_init_248 : decode cX4_init 248 = .ok (.aload_n 0, 1) := by decide +kernel
theorem dX4_init_249 : decode cX4_init 249 = .ok (.bipush 40, 2) := by decide +kernel
theorem dX4_init_251 : decode cX4_init 251 = .ok (.newarray .int, 2) := by decide +kernel
theorem dX4_init_253 : decode cX4_init 253 = .ok (.putfield 96, 3) := by decide +kernel
theorem dX4_init_256 : decode cX4_init 256 = .ok (.aload_n 0, 1) := by decide +kernel
theorem dX4_init_257 : decode cX4_init 257 = .ok (.sipush 256, 3) := by decide +kernel
theorem dX4_init_260 : decode cX4_init 260 = .ok (.newarray .int, 2) := by decide +kernel
theorem dX4_init_262 : decode cX4_init 262 = .ok (.putfield 99, 3) := by decide +kernel
theorem dX4_init_265 : decode cX4_init 265 = .ok (.iconst 0, 1) := by decide +kernel
theorem dX4_init_266 : decode cX4_init 266 = .ok (.istore_n 1, 1) := by decide +kernel
theorem dX4_init_267 : decode cX4_init 267 = .ok (.iload_n 1, 1) := by decide +kernel
theorem dX4_init_268 : decode cX4_init 268 = .ok (.bipush 8, 2) := by decide +kernel
theorem dX4_init_270 : decode cX4_init 270 = .ok (.if_icmp .ge 23, 3) := by decide +kernel
theorem dX4_init_273 : decode cX4_init 273 = .ok (.aload_n 0, 1) := by decide +kernel
theorem dX4_init_274 : decode cX4_init 274 = .ok (.getfield 29, 3) := by decide +kernel
theorem dX4_init_277 : decode cX4_init 277 = .ok (.iload_n 1, 1) := by decide +kernel
theorem dX4_init_278 : decode cX4_init 278 = .ok (.iload_n 1, 1) := by decide +kernel
theorem dX4_init_279 : decode cX4_init 279 = .ok (.iastore, 1) := by decide +kernel
theorem dX4_init_280 : decode cX4_init 280 = .ok (.aload_n 0, 1) := by decide +kernel
theorem dX4_init_281 : decode cX4_init 281 = .ok (.getfield 32, 3) := by decide +kernel
theorem dX4_init_284 : decode cX4_init 284 = .ok (.iload_n 1, 1) := by decide +kernel
theorem dX4_init_285 : decode cX4_init 285 = .ok (.iload_n 1, 1) := by decide +kernel
theorem dX4_init_286 : decode cX4_init 286 = .ok (.iastore, 1) := by decide +kernel
theorem dX4_init_287 : decode cX4_init 287 = .ok (.iinc 1 1, 3) := by decide +kernel
theorem dX4_init_290 : decode cX4_init 290 = .ok (.goto (-23), 3) := by decide +kernel
theorem dX4_init_293 : decode cX4_init 293 = .ok (.aload_n 0, 1) := by decide +kernel
theorem dX4_init_294 : decode cX4_init 294 = .ok (.sipush 250, 3) := by decide +kernel
theorem dX4_init_297 : decode cX4_init 297 = .ok (.putfield 102, 3) := by decide +kernel
theorem dX4_init_300 : decode cX4_init 300 = .ok (.iconst 0, 1) := by decide +kernel
theorem dX4_init_301 : decode cX4_init 301 = .ok (.istore_n 1, 1) := by decide +kernel
theorem dX4_init_302 : decode cX4_init 302 = .ok (.iload_n 1, 1) := by decide +kernel
theorem dX4_init_303 : decode cX4_init 303 = .ok (.sipush 520, 3) := by decide +kernel
theorem dX4_init_306 : decode cX4_init 306 = .ok (.if_icmp .ge 18, 3) := by decide +kernel
theorem dX4_init_309 : decode cX4_init 309 = .ok (.aload_n 0, 1) := by decide +kernel
theorem dX4_init_310 : decode cX4_init 310 = .ok (.getfield 66, 3) := by decide +kernel
theorem dX4_init_313 : decode cX4_init 313 = .ok (.iload_n 1, 1) := by decide +kernel
theorem dX4_init_314 : decode cX4_init 314 = .ok (.iload_n 1, 1) := by decide +kernel
theorem dX4_init_315 : decode cX4_init 315 = .ok (.iconst 1, 1) := by decide +kernel
theorem dX4_init_316 : decode cX4_init 316 = .ok (.iadd, 1) := by decide +kernel
theorem dX4_init_317 : decode cX4_init 317 = .ok (.iastore, 1) := by decide +kernel
theorem dX4_init_318 : decode cX4_init 318 = .ok (.iinc 1 1, 3) := by decide +kernel
theorem dX4_init_321 : decode cX4_init 321 = .ok (.goto (-19), 3) := by decide +kernel
theorem dX4_init_324 : decode cX4_init 324 = .ok (.aload_n 0, 1) := by decide +kernel
theorem dX4_init_325 : decode cX4_init 325 = .ok (.getfield 66, 3) := by decide +kernel
theorem dX4_init_328 : decode cX4_init 328 = .ok (.sipush 519, 3) := by decide +kernel
theorem dX4_init_331 : decode cX4_init 331 = .ok (.iconst (-1), 1) := by decide +kernel
theorem dX4_init_332 : decode cX4_init 332 = .ok (.iastore, 1) := by decide +kernel
theorem dX4_init_333 : decode cX4_init 333 = .ok (.iconst 0, 1) := by decide +kernel
theorem dX4_init_334 : decode cX4_init 334 = .ok (.istore_n 1, 1) := by decide +kernel
theorem dX4_init_335 : decode cX4_init 335 = .ok (.iload_n 1, 1) := by decide +kernel
theorem dX4_init_336 : decode cX4_init 336 = .ok (.sipush 512, 3) := by decide +kernel
theorem dX4_init_339 : decode cX4_init 339 = .ok (.if_icmp .ge 16, 3) := by decide +kernel
theorem dX4_init_342 : decode cX4_init 342 = .ok (.aload_n 0, 1) := by decide +kernel
theorem dX4_init_343 : decode cX4_init 343 = .ok (.getfield 69, 3) := by decide +kernel
theorem dX4_init_346 : decode cX4_init 346 = .ok (.iload_n 1, 1) := by decide +kernel
theorem dX4_init_347 : decode cX4_init 347 = .ok (.iconst (-1), 1) := by decide +kernel
theorem dX4_init_348 : decode cX4_init 348 = .ok (.iastore, 1) := by decide +kernel
theorem dX4_init_349 : decode cX4_init 349 = .ok (.iinc 1 1, 3) := by decide +kernel
theorem dX4_init_352 : decode cX4_init 352 = .ok (.goto (-17), 3) := by decide +kernel
theorem dX4_init_355 : decode cX4_init 355 = .ok (.aload_n 0, 1) := by decide +kernel
theorem dX4_init_356 : decode cX4_init 356 = .ok (.bipush (-9), 2) := by decide +kernel
theorem dX4_init_358 : decode cX4_init 358 = .ok (.putfield 106, 3) := by decide +kernel
theorem dX4_init_361 : decode cX4_init 361 = .ok (.aload_n 0, 1) := by decide +kernel
theorem dX4_init_362 : decode cX4_init 362 = .ok (.bipush (-9), 2) := by decide +kernel
theorem dX4_init_364 : decode cX4_init 364 = .ok (.putfield 109, 3) := by decide +kernel
theorem dX4_init_367 : decode cX4_init 367 = .ok (.return_, 1) := by decide +kernel
theorem dX4_in_0 : decode cX4_in 0 = .ok (.iload_n 0, 1) := by decide +kernel
theorem dX4_in_1 : decode cX4_in 1 = .ok (.iload_n 1, 1) := by decide +kernel
theorem dX4_in_2 : decode cX4_in 2 = .ok (.if_icmp .lt 12, 3) := by decide +kernel
theorem dX4_in_5 : decode cX4_in 5 = .ok (.iload_n 0, 1) := by decide +kernel
theorem dX4_in_6 : decode cX4_in 6 = .ok (.iload_n 2, 1) := by decide +kernel
theorem dX4_in_7 : decode cX4_in 7 = .ok (.if_icmp .gt 7, 3) := by decide +kernel
theorem dX4_in_10 : decode cX4_in 10 = .ok (.iconst 1, 1) := by decide +kernel
theorem dX4_in_11 : decode cX4_in 11 = .ok (.goto 4, 3) := by decide +kernel
theorem dX4_in_14 : decode cX4_in 14 = .ok (.iconst 0, 1) := by decide +kernel
theorem dX4_in_15 : decode cX4_in 15 = .ok (.ireturn, 1) := by decide +kernel
theorem dX4_isNet_0 : decode cX4_isNet 0 = .ok (.iload_n 0, 1) := by decide +kernel
theorem dX4_isNet_1 : decode cX4_isNet 1 = .ok (.iconst 0, 1) := by decide +kernel
theorem dX4_isNet_2 : decode cX4_isNet 2 = .ok (.iconst 2, 1) := by decide +kernel
theorem dX4_isNet_3 : decode cX4_isNet 3 = .ok (.invokestatic 112, 3) := by decide +kernel
theorem dX4_isNet_6 : decode cX4_isNet 6 = .ok (.ireturn, 1) := by decide +kernel
theorem dX4_isGate_0 : decode cX4_isGate 0 = .ok (.iload_n 2, 1) := by decide +kernel
theorem dX4_isGate_1 : decode cX4_isGate 1 = .ok (.iconst 0, 1) := by decide +kernel
theorem dX4_isGate_2 : decode cX4_isGate 2 = .ok (.aload_n 0, 1) := by decide +kernel
theorem dX4_isGate_3 : decode cX4_isGate 3 = .ok (.getfield 7, 3) := by decide +kernel
theorem dX4_isGate_6 : decode cX4_isGate 6 = .ok (.iload_n 1, 1) := by decide +kernel
theorem dX4_isGate_7 : decode cX4_isGate 7 = .ok (.iaload, 1) := by decide +kernel
theorem dX4_isGate_8 : decode cX4_isGate 8 = .ok (.iconst 1, 1) := by decide +kernel
theorem dX4_isGate_9 : decode cX4_isGate 9 = .ok (.isub, 1) := by decide +kernel
theorem dX4_isGate_10 : decode cX4_isGate 10 = .ok (.invokestatic 112, 3) := by decide +kernel
theorem dX4_isGate_13 : decode cX4_isGate 13 = .ok (.ireturn, 1) := by decide +kernel
theorem dX4_isOutput_0 : decode cX4_isOutput 0 = .ok (.iload_n 1, 1) := by decide +kernel
theorem dX4_isOutput_1 : decode cX4_isOutput 1 = .ok (.invokestatic 116, 3) := by decide +kernel
theorem dX4_isOutput_4 : decode cX4_isOutput 4 = .ok (.ifCond .eq 23, 3) := by decide +kernel
theorem dX4_isOutput_7 : decode cX4_isOutput 7 = .ok (.iload_n 2, 1) := by decide +kernel
theorem dX4_isOutput_8 : decode cX4_isOutput 8 = .ok (.iconst 0, 1) := by decide +kernel
theorem dX4_isOutput_9 : decode cX4_isOutput 9 = .ok (.aload_n 0, 1) := by decide +kernel
theorem dX4_isOutput_10 : decode cX4_isOutput 10 = .ok (.getfield 13, 3) := by decide +kernel
theorem dX4_isOutput_13 : decode cX4_isOutput 13 = .ok (.iload_n 1, 1) := by decide +kernel
theorem dX4_isOutput_14 : decode cX4_isOutput 14 = .ok (.iaload, 1) := by decide +kernel
theorem dX4_isOutput_15 : decode cX4_isOutput 15 = .ok (.iconst 1, 1) := by decide +kernel
theorem dX4_isOutput_16 : decode cX4_isOutput 16 = .ok (.isub, 1) := by decide +kernel
theorem dX4_isOutput_17 : decode cX4_isOutput 17 = .ok (.invokestatic 112, 3) := by decide +kernel
theorem dX4_isOutput_20 : decode cX4_isOutput 20 = .ok (.ifCond .eq 7, 3) := by decide +kernel
theorem dX4_isOutput_23 : decode cX4_isOutput 23 = .ok (.iconst 1, 1) := by decide +kernel
theorem dX4_isOutput_24 : decode cX4_isOutput 24 = .ok (.goto 4, 3) := by decide +kernel
theorem dX4_isOutput_27 : decode cX4_isOutput 27 = .ok (.iconst 0, 1) := by decide +kernel
theorem dX4_isOutput_28 : decode cX4_isOutput 28 = .ok (.ireturn, 1) := by decide +kernel
theorem dX4_wants_0 : decode cX4_wants 0 = .ok (.iload_n 0, 1) := by decide +kernel
theorem dX4_wants_1 : decode cX4_wants 1 = .ok (.iconst 3, 1) := by decide +kernel
theorem dX4_wants_2 : decode cX4_wants 2 = .ok (.if_icmp .ge 7, 3) := by decide +kernel
theorem dX4_wants_5 : decode cX4_wants 5 = .ok (.iconst 0, 1) := by decide +kernel
theorem dX4_wants_6 : decode cX4_wants 6 = .ok (.goto 23, 3) := by decide +kernel
theorem dX4_wants_9 : decode cX4_wants 9 = .ok (.iload_n 0, 1) := by decide +kernel
theorem dX4_wants_10 : decode cX4_wants 10 = .ok (.iconst 3, 1) := by decide +kernel
theorem dX4_wants_11 : decode cX4_wants 11 = .ok (.if_icmp .ne 7, 3) := by decide +kernel
theorem dX4_wants_14 : decode cX4_wants 14 = .ok (.iconst 1, 1) := by decide +kernel
theorem dX4_wants_15 : decode cX4_wants 15 = .ok (.goto 14, 3) := by decide +kernel
theorem dX4_wants_18 : decode cX4_wants 18 = .ok (.iload_n 0, 1) := by decide +kernel
theorem dX4_wants_19 : decode cX4_wants 19 = .ok (.bipush 10, 2) := by decide +kernel
theorem dX4_wants_21 : decode cX4_wants 21 = .ok (.if_icmp .ge 7, 3) := by decide +kernel
theorem dX4_wants_24 : decode cX4_wants 24 = .ok (.iconst 2, 1) := by decide +kernel
theorem dX4_wants_25 : decode cX4_wants 25 = .ok (.goto 4, 3) := by decide +kernel
theorem dX4_wants_28 : decode cX4_wants 28 = .ok (.iconst 3, 1) := by decide +kernel
theorem dX4_wants_29 : decode cX4_wants 29 = .ok (.ireturn, 1) := by decide +kernel
theorem dX4_gate_0 : decode cX4_gate 0 = .ok (.iload_n 1, 1) := by decide +kernel
theorem dX4_gate_1 : decode cX4_gate 1 = .ok (.invokestatic 116, 3) := by decide +kernel
theorem dX4_gate_4 : decode cX4_gate 4 = .ok (.ifCond .ne 5, 3) := by decide +kernel
theorem dX4_gate_7 : decode cX4_gate 7 = .ok (.iconst (-1), 1) := by decide +kernel
theorem dX4_gate_8 : decode cX4_gate 8 = .ok (.ireturn, 1) := by decide +kernel
theorem dX4_gate_9 : decode cX4_gate 9 = .ok (.iload_n 2, 1) := by decide +kernel
theorem dX4_gate_10 : decode cX4_gate 10 = .ok (.iconst 0, 1) := by decide +kernel
theorem dX4_gate_11 : decode cX4_gate 11 = .ok (.bipush 10, 2) := by decide +kernel
theorem dX4_gate_13 : decode cX4_gate 13 = .ok (.invokestatic 112, 3) := by decide +kernel
theorem dX4_gate_16 : decode cX4_gate 16 = .ok (.ifCond .eq 10, 3) := by decide +kernel
theorem dX4_gate_19 : decode cX4_gate 19 = .ok (.iload_n 2, 1) := by decide +kernel
theorem dX4_gate_20 : decode cX4_gate 20 = .ok (.invokestatic 120, 3) := by decide +kernel
theorem dX4_gate_23 : decode cX4_gate 23 = .ok (.goto 4, 3) := by decide +kernel
theorem dX4_gate_26 : decode cX4_gate 26 = .ok (.iconst 0, 1) := by decide +kernel
theorem dX4_gate_27 : decode cX4_gate 27 = .ok (.istore 6, 2) := by decide +kernel
theorem dX4_gate_29 : decode cX4_gate 29 = .ok (.iload 6, 2) := by decide +kernel
theorem dX4_gate_31 : decode cX4_gate 31 = .ok (.ifCond .le 12, 3) := by decide +kernel
theorem dX4_gate_34 : decode cX4_gate 34 = .ok (.aload_n 0, 1) := by decide +kernel
theorem dX4_gate_35 : decode cX4_gate 35 = .ok (.iload_n 1, 1) := by decide +kernel
theorem dX4_gate_36 : decode cX4_gate 36 = .ok (.iload_n 3, 1) := by decide +kernel
theorem dX4_gate_37 : decode cX4_gate 37 = .ok (.invokevirtual 124, 3) := by decide +kernel
theorem dX4_gate_40 : decode cX4_gate 40 = .ok (.ifCond .eq 35, 3) := by decide +kernel
theorem dX4_gate_43 : decode cX4_gate 43 = .ok (.iload 6, 2) := by decide +kernel
theorem dX4_gate_45 : decode cX4_gate 45 = .ok (.iconst 1, 1) := by decide +kernel
theorem dX4_gate_46 : decode cX4_gate 46 = .ok (.if_icmp .le 13, 3) := by decide +kernel
theorem dX4_gate_49 : decode cX4_gate 49 = .ok (.aload_n 0, 1) := by decide +kernel
theorem dX4_gate_50 : decode cX4_gate 50 = .ok (.iload_n 1, 1) := by decide +kernel
theorem dX4_gate_51 : decode cX4_gate 51 = .ok (.iload 4, 2) := by decide +kernel
theorem dX4_gate_53 : decode cX4_gate 53 = .ok (.invokevirtual 124, 3) := by decide +kernel
theorem dX4_gate_56 : decode cX4_gate 56 = .ok (.ifCond .eq 19, 3) := by decide +kernel
theorem dX4_gate_59 : decode cX4_gate 59 = .ok (.iload 6, 2) := by decide +kernel
theorem dX4_gate_61 : decode cX4_gate 61 = .ok (.iconst 2, 1) := by decide +kernel
theorem dX4_gate_62 : decode cX4_gate 62 = .ok (.if_icmp .le 15, 3) := by decide +kernel
theorem dX4_gate_65 : decode cX4_gate 65 = .ok (.aload_n 0, 1) := by decide +kernel
theorem dX4_gate_66 : decode cX4_gate 66 = .ok (.iload_n 1, 1) := by decide +kernel
theorem dX4_gate_67 : decode cX4_gate 67 = .ok (.iload 5, 2) := by decide +kernel
theorem dX4_gate_69 : decode cX4_gate 69 = .ok (.invokevirtual 124, 3) := by decide +kernel
theorem dX4_gate_72 : decode cX4_gate 72 = .ok (.ifCond .ne 5, 3) := by decide +kernel
theorem dX4_gate_75 : decode cX4_gate 75 = .ok (.iconst (-1), 1) := by decide +kernel
theorem dX4_gate_76 : decode cX4_gate 76 = .ok (.ireturn, 1) := by decide +kernel
theorem dX4_gate_77 : decode cX4_gate 77 = .ok (.iload_n 2, 1) := by decide +kernel
theorem dX4_gate_78 : decode cX4_gate 78 = .ok (.iconst 0, 1) := by decide +kernel
theorem dX4_gate_79 : decode cX4_gate 79 = .ok (.bipush 10, 2) := by decide +kernel
theorem dX4_gate_81 : decode cX4_gate 81 = .ok (.invokestatic 112, 3) := by decide +kernel
theorem dX4_gate_84 : decode cX4_gate 84 = .ok (.ifCond .eq 17, 3) := by decide +kernel
theorem dX4_gate_87 : decode cX4_gate 87 = .ok (.iload_n 2, 1) := by decide +kernel
theorem dX4_gate_88 : decode cX4_gate 88 = .ok (.ifCond .ne 16, 3) := by decide +kernel
theorem dX4_gate_91 : decode cX4_gate 91 = .ok (.iload_n 3, 1) := by decide +kernel
theorem dX4_gate_92 : decode cX4_gate 92 = .ok (.iconst 0, 1) := by decide +kernel
theorem dX4_gate_93 : decode cX4_gate 93 = .ok (.bipush 7, 2) := by decide +kernel
theorem dX4_gate_95 : decode cX4_gate 95 = .ok (.invokestatic 112, 3) := by decide +kernel
theorem dX4_gate_98 : decode cX4_gate 98 = .ok (.ifCond .ne 6, 3) := by decide +kernel
theorem dX4_gate_101 : decode cX4_gate 101 = .ok (.bipush (-2), 2) := by decide +kernel
theorem dX4_gate_103 : decode cX4_gate 103 = .ok (.ireturn, 1) := by decide +kernel
theorem dX4_gate_104 : decode cX4_gate 104 = .ok (.aload_n 0, 1) := by decide +kernel
theorem dX4_gate_105 : decode cX4_gate 105 = .ok (.getfield 7, 3) := by decide +kernel
theorem dX4_gate_108 : decode cX4_gate 108 = .ok (.iload_n 1, 1) := by decide +kernel
theorem dX4_gate_109 : decode cX4_gate 109 = .ok (.iaload, 1) := by decide +kernel
theorem dX4_gate_110 : decode cX4_gate 110 = .ok (.bipush 40, 2) := by decide +kernel
theorem dX4_gate_112 : decode cX4_gate 112 = .ok (.if_icmp .ne 6, 3) := by decide +kernel
theorem dX4_gate_115 : decode cX4_gate 115 = .ok (.bipush (-4), 2) := by decide +kernel
theorem dX4_gate_117 : decode cX4_gate 117 = .ok (.ireturn, 1) := by decide +kernel
theorem dX4_gate_118 : decode cX4_gate 118 = .ok (.bipush 40, 2) := by decide +kernel
theorem dX4_gate_120 : decode cX4_gate 120 = .ok (.iload_n 1, 1) := by decide +kernel
theorem dX4_gate_121 : decode cX4_gate 121 = .ok (.imul, 1) := by decide +kernel
theorem dX4_gate_122 : decode cX4_gate 122 = .ok (.aload_n 0, 1) := by decide +kernel
theorem dX4_gate_123 : decode cX4_gate 123 = .ok (.getfield 7, 3) := by decide +kernel
theorem dX4_gate_126 : decode cX4_gate 126 = .ok (.iload_n 1, 1) := by decide +kernel
theorem dX4_gate_127 : decode cX4_gate 127 = .ok (.iaload, 1) := by decide +kernel
theorem dX4_gate_128 : decode cX4_gate 128 = .ok (.iadd, 1) := by decide +kernel
theorem dX4_gate_129 : decode cX4_gate 129 = .ok (.istore 7, 2) := by decide +kernel
theorem dX4_gate_131 : decode cX4_gate 131 = .ok (.aload_n 0, 1) := by decide +kernel
theorem dX4_gate_132 : decode cX4_gate 132 = .ok (.getfield 16, 3) := by decide +kernel
theorem dX4_gate_135 : decode cX4_gate 135 = .ok (.iload 7, 2) := by decide +kernel
theorem dX4_gate_137 : decode cX4_gate 137 = .ok (.iload_n 2, 1) := by decide +kernel
theorem dX4_gate_138 : decode cX4_gate 138 = .ok (.iastore, 1) := by decide +kernel
theorem dX4_gate_139 : decode cX4_gate 139 = .ok (.aload_n 0, 1) := by decide +kernel
theorem dX4_gate_140 : decode cX4_gate 140 = .ok (.getfield 19, 3) := by decide +kernel
theorem dX4_gate_143 : decode cX4_gate 143 = .ok (.iconst 3, 1) := by decide +kernel
theorem dX4_gate_144 : decode cX4_gate 144 = .ok (.iload 7, 2) := by decide +kernel
theorem dX4_gate_146 : decode cX4_gate 146 = .ok (.imul, 1) := by decide +kernel
theorem dX4_gate_147 : decode cX4_gate 147 = .ok (.iload_n 3, 1) := by decide +kernel
theorem dX4_gate_148 : decode cX4_gate 148 = .ok (.iastore, 1) := by decide +kernel
theorem dX4_gate_149 : decode cX4_gate 149 = .ok (.aload_n 0, 1) := by decide +kernel
theorem dX4_gate_150 : decode cX4_gate 150 = .ok (.getfield 19, 3) := by decide +kernel
theorem dX4_gate_153 : decode cX4_gate 153 = .ok (.iconst 3, 1) := by decide +kernel
theorem dX4_gate_154 : decode cX4_gate 154 = .ok (.iload 7, 2) := by decide +kernel
theorem dX4_gate_156 : decode cX4_gate 156 = .ok (.imul, 1) := by decide +kernel
theorem dX4_gate_157 : decode cX4_gate 157 = .ok (.iconst 1, 1) := by decide +kernel
theorem dX4_gate_158 : decode cX4_gate 158 = .ok (.iadd, 1) := by decide +kernel
theorem dX4_gate_159 : decode cX4_gate 159 = .ok (.iload 4, 2) := by decide +kernel
theorem dX4_gate_161 : decode cX4_gate 161 = .ok (.iastore, 1) := by decide +kernel
theorem dX4_gate_162 : decode cX4_gate 162 = .ok (.aload_n 0, 1) := by decide +kernel
theorem dX4_gate_163 : decode cX4_gate 163 = .ok (.getfield 19, 3) := by decide +kernel
theorem dX4_gate_166 : decode cX4_gate 166 = .ok (.iconst 3, 1) := by decide +kernel
theorem dX4_gate_167 : decode cX4_gate 167 = .ok (.iload 7, 2) := by decide +kernel
theorem dX4_gate_169 : decode cX4_gate 169 = .ok (.imul, 1) := by decide +kernel
theorem dX4_gate_170 : decode cX4_gate 170 = .ok (.iconst 2, 1) := by decide +kernel
theorem dX4_gate_171 : decode cX4_gate 171 = .ok (.iadd, 1) := by decide +kernel
theorem dX4_gate_172 : decode cX4_gate 172 = .ok (.iload 5, 2) := by decide +kernel
theorem dX4_gate_174 : decode cX4_gate 174 = .ok (.iastore, 1) := by decide +kernel
theorem dX4_gate_175 : decode cX4_gate 175 = .ok (.aload_n 0, 1) := by decide +kernel
theorem dX4_gate_176 : decode cX4_gate 176 = .ok (.getfield 7, 3) := by decide +kernel
theorem dX4_gate_179 : decode cX4_gate 179 = .ok (.iload_n 1, 1) := by decide +kernel
theorem dX4_gate_180 : decode cX4_gate 180 = .ok (.dup2, 1) := by decide +kernel
theorem dX4_gate_181 : decode cX4_gate 181 = .ok (.iaload, 1) := by decide +kernel
theorem dX4_gate_182 : decode cX4_gate 182 = .ok (.iconst 1, 1) := by decide +kernel
theorem dX4_gate_183 : decode cX4_gate 183 = .ok (.iadd, 1) := by decide +kernel
theorem dX4_gate_184 : decode cX4_gate 184 = .ok (.iastore, 1) := by decide +kernel
theorem dX4_gate_185 : decode cX4_gate 185 = .ok (.aload_n 0, 1) := by decide +kernel
theorem dX4_gate_186 : decode cX4_gate 186 = .ok (.getfield 7, 3) := by decide +kernel
theorem dX4_gate_189 : decode cX4_gate 189 = .ok (.iload_n 1, 1) := by decide +kernel
theorem dX4_gate_190 : decode cX4_gate 190 = .ok (.iaload, 1) := by decide +kernel
theorem dX4_gate_191 : decode cX4_gate 191 = .ok (.iconst 1, 1) := by decide +kernel
theorem dX4_gate_192 : decode cX4_gate 192 = .ok (.isub, 1) := by decide +kernel
theorem dX4_gate_193 : decode cX4_gate 193 = .ok (.ireturn, 1) := by decide +kernel
theorem dX4_output_0 : decode cX4_output 0 = .ok (.iload_n 1, 1) := by decide +kernel
theorem dX4_output_1 : decode cX4_output 1 = .ok (.invokestatic 116, 3) := by decide +kernel
theorem dX4_output_4 : decode cX4_output 4 = .ok (.ifCond .eq 12, 3) := by decide +kernel
theorem dX4_output_7 : decode cX4_output 7 = .ok (.aload_n 0, 1) := by decide +kernel
theorem dX4_output_8 : decode cX4_output 8 = .ok (.iload_n 1, 1) := by decide +kernel
theorem dX4_output_9 : decode cX4_output 9 = .ok (.iload_n 2, 1) := by decide +kernel
theorem dX4_output_10 : decode cX4_output 10 = .ok (.invokevirtual 124, 3) := by decide +kernel
theorem dX4_output_13 : decode cX4_output 13 = .ok (.ifCond .ne 5, 3) := by decide +kernel
theorem dX4_output_16 : decode cX4_output 16 = .ok (.iconst (-1), 1) := by decide +kernel
theorem dX4_output_17 : decode cX4_output 17 = .ok (.ireturn, 1) := by decide +kernel
theorem dX4_output_18 : decode cX4_output 18 = .ok (.aload_n 0, 1) := by decide +kernel
theorem dX4_output_19 : decode cX4_output 19 = .ok (.getfield 13, 3) := by decide +kernel
theorem dX4_output_22 : decode cX4_output 22 = .ok (.iload_n 1, 1) := by decide +kernel
theorem dX4_output_23 : decode cX4_output 23 = .ok (.iaload, 1) := by decide +kernel
theorem dX4_output_24 : decode cX4_output 24 = .ok (.iconst 4, 1) := by decide +kernel
theorem dX4_output_25 : decode cX4_output 25 = .ok (.if_icmp .ne 6, 3) := by decide +kernel
theorem dX4_output_28 : decode cX4_output 28 = .ok (.bipush (-4), 2) := by decide +kernel
theorem dX4_output_30 : decode cX4_output 30 = .ok (.ireturn, 1) := by decide +kernel
theorem dX4_output_31 : decode cX4_output 31 = .ok (.aload_n 0, 1) := by decide +kernel
theorem dX4_output_32 : decode cX4_output 32 = .ok (.getfield 22, 3) := by decide +kernel
theorem dX4_output_35 : decode cX4_output 35 = .ok (.iconst 4, 1) := by decide +kernel
theorem dX4_output_36 : decode cX4_output 36 = .ok (.iload_n 1, 1) := by decide +kernel
theorem dX4_output_37 : decode cX4_output 37 = .ok (.imul, 1) := by decide +kernel
theorem dX4_output_38 : decode cX4_output 38 = .ok (.aload_n 0, 1) := by decide +kernel
theorem dX4_output_39 : decode cX4_output 39 = .ok (.getfield 13, 3) := by decide +kernel
theorem dX4_output_42 : decode cX4_output 42 = .ok (.iload_n 1, 1) := by decide +kernel
theorem dX4_output_43 : decode cX4_output 43 = .ok (.iaload, 1) := by decide +kernel
theorem dX4_output_44 : decode cX4_output 44 = .ok (.iadd, 1) := by decide +kernel
theorem dX4_output_45 : decode cX4_output 45 = .ok (.iload_n 2, 1) := by decide +kernel
theorem dX4_output_46 : decode cX4_output 46 = .ok (.iastore, 1) := by decide +kernel
theorem dX4_output_47 : decode cX4_output 47 = .ok (.aload_n 0, 1) := by decide +kernel
theorem dX4_output_48 : decode cX4_output 48 = .ok (.getfield 13, 3) := by decide +kernel
theorem dX4_output_51 : decode cX4_output 51 = .ok (.iload_n 1, 1) := by decide +kernel
theorem dX4_output_52 : decode cX4_output 52 = .ok (.dup2, 1) := by decide +kernel
theorem dX4_output_53 : decode cX4_output 53 = .ok (.iaload, 1) := by decide +kernel
theorem dX4_output_54 : decode cX4_output 54 = .ok (.iconst 1, 1) := by decide +kernel
theorem dX4_output_55 : decode cX4_output 55 = .ok (.iadd, 1) := by decide +kernel
theorem dX4_output_56 : decode cX4_output 56 = .ok (.iastore, 1) := by decide +kernel
theorem dX4_output_57 : decode cX4_output 57 = .ok (.aload_n 0, 1) := by decide +kernel
theorem dX4_output_58 : decode cX4_output 58 = .ok (.getfield 13, 3) := by decide +kernel
theorem dX4_output_61 : decode cX4_output 61 = .ok (.iload_n 1, 1) := by decide +kernel
theorem dX4_output_62 : decode cX4_output 62 = .ok (.iaload, 1) := by decide +kernel
theorem dX4_output_63 : decode cX4_output 63 = .ok (.iconst 1, 1) := by decide +kernel
theorem dX4_output_64 : decode cX4_output 64 = .ok (.isub, 1) := by decide +kernel
theorem dX4_output_65 : decode cX4_output 65 = .ok (.ireturn, 1) := by decide +kernel
theorem dX4_clear_0 : decode cX4_clear 0 = .ok (.iload_n 1, 1) := by decide +kernel
theorem dX4_clear_1 : decode cX4_clear 1 = .ok (.invokestatic 116, 3) := by decide +kernel
theorem dX4_clear_4 : decode cX4_clear 4 = .ok (.ifCond .ne 5, 3) := by decide +kernel
theorem dX4_clear_7 : decode cX4_clear 7 = .ok (.iconst (-1), 1) := by decide +kernel
theorem dX4_clear_8 : decode cX4_clear 8 = .ok (.ireturn, 1) := by decide +kernel
theorem dX4_clear_9 : decode cX4_clear 9 = .ok (.aload_n 0, 1) := by decide +kernel
theorem dX4_clear_10 : decode cX4_clear 10 = .ok (.getfield 7, 3) := by decide +kernel
theorem dX4_clear_13 : decode cX4_clear 13 = .ok (.iload_n 1, 1) := by decide +kernel
theorem dX4_clear_14 : decode cX4_clear 14 = .ok (.iaload, 1) := by decide +kernel
theorem dX4_clear_15 : decode cX4_clear 15 = .ok (.istore_n 2, 1) := by decide +kernel
theorem dX4_clear_16 : decode cX4_clear 16 = .ok (.aload_n 0, 1) := by decide +kernel
theorem dX4_clear_17 : decode cX4_clear 17 = .ok (.getfield 7, 3) := by decide +kernel
theorem dX4_clear_20 : decode cX4_clear 20 = .ok (.iload_n 1, 1) := by decide +kernel
theorem dX4_clear_21 : decode cX4_clear 21 = .ok (.iconst 0, 1) := by decide +kernel
theorem dX4_clear_22 : decode cX4_clear 22 = .ok (.iastore, 1) := by decide +kernel
theorem dX4_clear_23 : decode cX4_clear 23 = .ok (.aload_n 0, 1) := by decide +kernel
theorem dX4_clear_24 : decode cX4_clear 24 = .ok (.getfield 13, 3) := by decide +kernel
theorem dX4_clear_27 : decode cX4_clear 27 = .ok (.iload_n 1, 1) := by decide +kernel
theorem dX4_clear_28 : decode cX4_clear 28 = .ok (.iconst 0, 1) := by decide +kernel
theorem dX4_clear_29 : decode cX4_clear 29 = .ok (.iastore, 1) := by decide +kernel
theorem dX4_clear_30 : decode cX4_clear 30 = .ok (.iload_n 2, 1) := by decide +kernel
theorem dX4_clear_31 : decode cX4_clear 31 = .ok (.ireturn, 1) := by decide +kernel
theorem dX4_combined_0 : decode cX4_combined 0 = .ok (.iload_n 0, 1) := by decide +kernel
theorem dX4_combined_1 : decode cX4_combined 1 = .ok (.tableswitch 128 1 8 #[47, 49, 51, 61, 75, 89, 100, 114], 47) := by decide +kernel
theorem dX4_combined_48 : decode cX4_combined 48 = .ok (.iconst 0, 1) := by decide +kernel
theorem dX4_combined_49 : decode cX4_combined 49 = .ok (.ireturn, 1) := by decide +kernel
theorem dX4_combined_50 : decode cX4_combined 50 = .ok (.iconst 1, 1) := by decide +kernel
theorem dX4_combined_51 : decode cX4_combined 51 = .ok (.ireturn, 1) := by decide +kernel
theorem dX4_combined_52 : decode cX4_combined 52 = .ok (.iload_n 1, 1) := by decide +kernel
theorem dX4_combined_53 : decode cX4_combined 53 = .ok (.ifCond .ne 7, 3) := by decide +kernel
theorem dX4_combined_56 : decode cX4_combined 56 = .ok (.iconst 1, 1) := by decide +kernel
theorem dX4_combined_57 : decode cX4_combined 57 = .ok (.goto 4, 3) := by decide +kernel
theorem dX4_combined_60 : decode cX4_combined 60 = .ok (.iconst 0, 1) := by decide +kernel
theorem dX4_combined_61 : decode cX4_combined 61 = .ok (.ireturn, 1) := by decide +kernel
theorem dX4_combined_62 : decode cX4_combined 62 = .ok (.iload_n 1, 1) := by decide +kernel
theorem dX4_combined_63 : decode cX4_combined 63 = .ok (.ifCond .eq 11, 3) := by decide +kernel
theorem dX4_combined_66 : decode cX4_combined 66 = .ok (.iload_n 2, 1) := by decide +kernel
theorem dX4_combined_67 : decode cX4_combined 67 = .ok (.ifCond .eq 7, 3) := by decide +kernel
theorem dX4_combined_70 : decode cX4_combined 70 = .ok (.iconst 1, 1) := by decide +kernel
theorem dX4_combined_71 : decode cX4_combined 71 = .ok (.goto 4, 3) := by decide +kernel
theorem dX4_combined_74 : decode cX4_combined 74 = .ok (.iconst 0, 1) := by decide +kernel
theorem dX4_combined_75 : decode cX4_combined 75 = .ok (.ireturn, 1) := by decide +kernel
theorem dX4_combined_76 : decode cX4_combined 76 = .ok (.iload_n 1, 1) := by decide +kernel
theorem dX4_combined_77 : decode cX4_combined 77 = .ok (.ifCond .ne 7, 3) := by decide +kernel
theorem dX4_combined_80 : decode cX4_combined 80 = .ok (.iload_n 2, 1) := by decide +kernel
theorem dX4_combined_81 : decode cX4_combined 81 = .ok (.ifCond .eq 7, 3) := by decide +kernel
theorem dX4_combined_84 : decode cX4_combined 84 = .ok (.iconst 1, 1) := by decide +kernel
theorem dX4_combined_85 : decode cX4_combined 85 = .ok (.goto 4, 3) := by decide +kernel
theorem dX4_combined_88 : decode cX4_combined 88 = .ok (.iconst 0, 1) := by decide +kernel
theorem dX4_combined_89 : decode cX4_combined 89 = .ok (.ireturn, 1) := by decide +kernel
theorem dX4_combined_90 : decode cX4_combined 90 = .ok (.iload_n 1, 1) := by decide +kernel
theorem dX4_combined_91 : decode cX4_combined 91 = .ok (.iload_n 2, 1) := by decide +kernel
theorem dX4_combined_92 : decode cX4_combined 92 = .ok (.if_icmp .eq 7, 3) := by decide +kernel
theorem dX4_combined_95 : decode cX4_combined 95 = .ok (.iconst 1, 1) := by decide +kernel
theorem dX4_combined_96 : decode cX4_combined 96 = .ok (.goto 4, 3) := by decide +kernel
theorem dX4_combined_99 : decode cX4_combined 99 = .ok (.iconst 0, 1) := by decide +kernel
theorem dX4_combined_100 : decode cX4_combined 100 = .ok (.ireturn, 1) := by decide +kernel
theorem dX4_combined_101 : decode cX4_combined 101 = .ok (.iload_n 1, 1) := by decide +kernel
theorem dX4_combined_102 : decode cX4_combined 102 = .ok (.ifCond .eq 7, 3) := by decide +kernel
theorem dX4_combined_105 : decode cX4_combined 105 = .ok (.iload_n 2, 1) := by decide +kernel
theorem dX4_combined_106 : decode cX4_combined 106 = .ok (.ifCond .ne 7, 3) := by decide +kernel
theorem dX4_combined_109 : decode cX4_combined 109 = .ok (.iconst 1, 1) := by decide +kernel
theorem dX4_combined_110 : decode cX4_combined 110 = .ok (.goto 4, 3) := by decide +kernel
theorem dX4_combined_113 : decode cX4_combined 113 = .ok (.iconst 0, 1) := by decide +kernel
theorem dX4_combined_114 : decode cX4_combined 114 = .ok (.ireturn, 1) := by decide +kernel
theorem dX4_combined_115 : decode cX4_combined 115 = .ok (.iload_n 1, 1) := by decide +kernel
theorem dX4_combined_116 : decode cX4_combined 116 = .ok (.ifCond .ne 11, 3) := by decide +kernel
theorem dX4_combined_119 : decode cX4_combined 119 = .ok (.iload_n 2, 1) := by decide +kernel
theorem dX4_combined_120 : decode cX4_combined 120 = .ok (.ifCond .ne 7, 3) := by decide +kernel
theorem dX4_combined_123 : decode cX4_combined 123 = .ok (.iconst 1, 1) := by decide +kernel
theorem dX4_combined_124 : decode cX4_combined 124 = .ok (.goto 4, 3) := by decide +kernel
theorem dX4_combined_127 : decode cX4_combined 127 = .ok (.iconst 0, 1) := by decide +kernel
theorem dX4_combined_128 : decode cX4_combined 128 = .ok (.ireturn, 1) := by decide +kernel
theorem dX4_combined_129 : decode cX4_combined 129 = .ok (.iload_n 1, 1) := by decide +kernel
theorem dX4_combined_130 : decode cX4_combined 130 = .ok (.iload_n 2, 1) := by decide +kernel
theorem dX4_combined_131 : decode cX4_combined 131 = .ok (.if_icmp .ne 7, 3) := by decide +kernel
theorem dX4_combined_134 : decode cX4_combined 134 = .ok (.iconst 1, 1) := by decide +kernel
theorem dX4_combined_135 : decode cX4_combined 135 = .ok (.goto 4, 3) := by decide +kernel
theorem dX4_combined_138 : decode cX4_combined 138 = .ok (.iconst 0, 1) := by decide +kernel
theorem dX4_combined_139 : decode cX4_combined 139 = .ok (.ireturn, 1) := by decide +kernel
theorem dX4_gives_0 : decode cX4_gives 0 = .ok (.aload_n 0, 1) := by decide +kernel
theorem dX4_gives_1 : decode cX4_gives 1 = .ok (.iload_n 1, 1) := by decide +kernel
theorem dX4_gives_2 : decode cX4_gives 2 = .ok (.iload_n 2, 1) := by decide +kernel
theorem dX4_gives_3 : decode cX4_gives 3 = .ok (.invokevirtual 128, 3) := by decide +kernel
theorem dX4_gives_6 : decode cX4_gives 6 = .ok (.ifCond .ne 5, 3) := by decide +kernel
theorem dX4_gives_9 : decode cX4_gives 9 = .ok (.iconst (-1), 1) := by decide +kernel
theorem dX4_gives_10 : decode cX4_gives 10 = .ok (.ireturn, 1) := by decide +kernel
theorem dX4_gives_11 : decode cX4_gives 11 = .ok (.iload_n 3, 1) := by decide +kernel
theorem dX4_gives_12 : decode cX4_gives 12 = .ok (.iconst 0, 1) := by decide +kernel
theorem dX4_gives_13 : decode cX4_gives 13 = .ok (.sipush 255, 3) := by decide +kernel
theorem dX4_gives_16 : decode cX4_gives 16 = .ok (.invokestatic 112, 3) := by decide +kernel
theorem dX4_gives_19 : decode cX4_gives 19 = .ok (.ifCond .ne 6, 3) := by decide +kernel
theorem dX4_gives_22 : decode cX4_gives 22 = .ok (.bipush (-2), 2) := by decide +kernel
theorem dX4_gives_24 : decode cX4_gives 24 = .ok (.ireturn, 1) := by decide +kernel
theorem dX4_gives_25 : decode cX4_gives 25 = .ok (.iconst 0, 1) := by decide +kernel
theorem dX4_gives_26 : decode cX4_gives 26 = .ok (.istore 4, 2) := by decide +kernel
theorem dX4_gives_28 : decode cX4_gives 28 = .ok (.iload 4, 2) := by decide +kernel
theorem dX4_gives_30 : decode cX4_gives 30 = .ok (.aload_n 0, 1) := by decide +kernel
theorem dX4_gives_31 : decode cX4_gives 31 = .ok (.getfield 7, 3) := by decide +kernel
theorem dX4_gives_34 : decode cX4_gives 34 = .ok (.iload_n 1, 1) := by decide +kernel
theorem dX4_gives_35 : decode cX4_gives 35 = .ok (.iaload, 1) := by decide +kernel
theorem dX4_gives_36 : decode cX4_gives 36 = .ok (.if_icmp .ge 177, 3) := by decide +kernel
theorem dX4_gives_39 : decode cX4_gives 39 = .ok (.bipush 40, 2) := by decide +kernel
theorem dX4_gives_41 : decode cX4_gives 41 = .ok (.iload_n 1, 1) := by decide +kernel
theorem dX4_gives_42 : decode cX4_gives 42 = .ok (.imul, 1) := by decide +kernel
theorem dX4_gives_43 : decode cX4_gives 43 = .ok (.iload 4, 2) := by decide +kernel
theorem dX4_gives_45 : decode cX4_gives 45 = .ok (.iadd, 1) := by decide +kernel
theorem dX4_gives_46 : decode cX4_gives 46 = .ok (.istore 5, 2) := by decide +kernel
theorem dX4_gives_48 : decode cX4_gives 48 = .ok (.aload_n 0, 1) := by decide +kernel
theorem dX4_gives_49 : decode cX4_gives 49 = .ok (.getfield 16, 3) := by decide +kernel
theorem dX4_gives_52 : decode cX4_gives 52 = .ok (.iload 5, 2) := by decide +kernel
theorem dX4_gives_54 : decode cX4_gives 54 = .ok (.iaload, 1) := by decide +kernel
theorem dX4_gives_55 : decode cX4_gives 55 = .ok (.istore 6, 2) := by decide +kernel
theorem dX4_gives_57 : decode cX4_gives 57 = .ok (.iload 6, 2) := by decide +kernel
theorem dX4_gives_59 : decode cX4_gives 59 = .ok (.invokestatic 120, 3) := by decide +kernel
theorem dX4_gives_62 : decode cX4_gives 62 = .ok (.istore 7, 2) := by decide +kernel
theorem dX4_gives_64 : decode cX4_gives 64 = .ok (.iload 7, 2) := by decide +kernel
theorem dX4_gives_66 : decode cX4_gives 66 = .ok (.ifCond .le 24, 3) := by decide +kernel
theorem dX4_gives_69 : decode cX4_gives 69 = .ok (.aload_n 0, 1) := by decide +kernel
theorem dX4_gives_70 : decode cX4_gives 70 = .ok (.getfield 25, 3) := by decide +kernel
theorem dX4_gives_73 : decode cX4_gives 73 = .ok (.aload_n 0, 1) := by decide +kernel
theorem dX4_gives_74 : decode cX4_gives 74 = .ok (.getfield 19, 3) := by decide +kernel
theorem dX4_gives_77 : decode cX4_gives 77 = .ok (.iconst 3, 1) := by decide +kernel
theorem dX4_gives_78 : decode cX4_gives 78 = .ok (.iload 5, 2) := by decide +kernel
theorem dX4_gives_80 : decode cX4_gives 80 = .ok (.imul, 1) := by decide +kernel
theorem dX4_gives_81 : decode cX4_gives 81 = .ok (.iaload, 1) := by decide +kernel
theorem dX4_gives_82 : decode cX4_gives 82 = .ok (.baload, 1) := by decide +kernel
theorem dX4_gives_83 : decode cX4_gives 83 = .ok (.ifCond .eq 7, 3) := by decide +kernel
theorem dX4_gives_86 : decode cX4_gives 86 = .ok (.iconst 1, 1) := by decide +kernel
theorem dX4_gives_87 : decode cX4_gives 87 = .ok (.goto 4, 3) := by decide +kernel
theorem dX4_gives_90 : decode cX4_gives 90 = .ok (.iconst 0, 1) := by decide +kernel
theorem dX4_gives_91 : decode cX4_gives 91 = .ok (.istore 8, 2) := by decide +kernel
theorem dX4_gives_93 : decode cX4_gives 93 = .ok (.iload 7, 2) := by decide +kernel
theorem dX4_gives_95 : decode cX4_gives 95 = .ok (.iconst 1, 1) := by decide +kernel
theorem dX4_gives_96 : decode cX4_gives 96 = .ok (.if_icmp .le 26, 3) := by decide +kernel
theorem dX4_gives_99 : decode cX4_gives 99 = .ok (.aload_n 0, 1) := by decide +kernel
theorem dX4_gives_100 : decode cX4_gives 100 = .ok (.getfield 25, 3) := by decide +kernel
theorem dX4_gives_103 : decode cX4_gives 103 = .ok (.aload_n 0, 1) := by decide +kernel
theorem dX4_gives_104 : decode cX4_gives 104 = .ok (.getfield 19, 3) := by decide +kernel
theorem dX4_gives_107 : decode cX4_gives 107 = .ok (.iconst 3, 1) := by decide +kernel
theorem dX4_gives_108 : decode cX4_gives 108 = .ok (.iload 5, 2) := by decide +kernel
theorem dX4_gives_110 : decode cX4_gives 110 = .ok (.imul, 1) := by decide +kernel
theorem dX4_gives_111 : decode cX4_gives 111 = .ok (.iconst 1, 1) := by decide +kernel
theorem dX4_gives_112 : decode cX4_gives 112 = .ok (.iadd, 1) := by decide +kernel
theorem dX4_gives_113 : decode cX4_gives 113 = .ok (.iaload, 1) := by decide +kernel
theorem dX4_gives_114 : decode cX4_gives 114 = .ok (.baload, 1) := by decide +kernel
theorem dX4_gives_115 : decode cX4_gives 115 = .ok (.ifCond .eq 7, 3) := by decide +kernel
theorem dX4_gives_118 : decode cX4_gives 118 = .ok (.iconst 1, 1) := by decide +kernel
theorem dX4_gives_119 : decode cX4_gives 119 = .ok (.goto 4, 3) := by decide +kernel
theorem dX4_gives_122 : decode cX4_gives 122 = .ok (.iconst 0, 1) := by decide +kernel
theorem dX4_gives_123 : decode cX4_gives 123 = .ok (.istore 9, 2) := by decide +kernel
theorem dX4_gives_125 : decode cX4_gives 125 = .ok (.aload_n 0, 1) := by decide +kernel
theorem dX4_gives_126 : decode cX4_gives 126 = .ok (.getfield 25, 3) := by decide +kernel
theorem dX4_gives_129 : decode cX4_gives 129 = .ok (.iload 4, 2) := by decide +kernel
theorem dX4_gives_131 : decode cX4_gives 131 = .ok (.iload 6, 2) := by decide +kernel
theorem dX4_gives_133 : decode cX4_gives 133 = .ok (.ifCond .ne 28, 3) := by decide +kernel
theorem dX4_gives_136 : decode cX4_gives 136 = .ok (.iload_n 3, 1) := by decide +kernel
theorem dX4_gives_137 : decode cX4_gives 137 = .ok (.aload_n 0, 1) := by decide +kernel
theorem dX4_gives_138 : decode cX4_gives 138 = .ok (.getfield 19, 3) := by decide +kernel
theorem dX4_gives_141 : decode cX4_gives 141 = .ok (.iconst 3, 1) := by decide +kernel
theorem dX4_gives_142 : decode cX4_gives 142 = .ok (.iload 5, 2) := by decide +kernel
theorem dX4_gives_144 : decode cX4_gives 144 = .ok (.imul, 1) := by decide +kernel
theorem dX4_gives_145 : decode cX4_gives 145 = .ok (.iaload, 1) := by decide +kernel
theorem dX4_gives_146 : decode cX4_gives 146 = .ok (.ishr, 1) := by decide +kernel
theorem dX4_gives_147 : decode cX4_gives 147 = .ok (.iconst 1, 1) := by decide +kernel
theorem dX4_gives_148 : decode cX4_gives 148 = .ok (.iand, 1) := by decide +kernel
theorem dX4_gives_149 : decode cX4_gives 149 = .ok (.iconst 1, 1) := by decide +kernel
theorem dX4_gives_150 : decode cX4_gives 150 = .ok (.if_icmp .ne 7, 3) := by decide +kernel
theorem dX4_gives_153 : decode cX4_gives 153 = .ok (.iconst 1, 1) := by decide +kernel
theorem dX4_gives_154 : decode cX4_gives 154 = .ok (.goto 52, 3) := by decide +kernel
theorem dX4_gives_157 : decode cX4_gives 157 = .ok (.iconst 0, 1) := by decide +kernel
theorem dX4_gives_158 : decode cX4_gives 158 = .ok (.goto 48, 3) := by decide +kernel
theorem dX4_gives_161 : decode cX4_gives 161 = .ok (.iload 6, 2) := by decide +kernel
theorem dX4_gives_163 : decode cX4_gives 163 = .ok (.bipush 10, 2) := by decide +kernel
theorem dX4_gives_165 : decode cX4_gives 165 = .ok (.if_icmp .ne 32, 3) := by decide +kernel
theorem dX4_gives_168 : decode cX4_gives 168 = .ok (.iload 8, 2) := by decide +kernel
theorem dX4_gives_170 : decode cX4_gives 170 = .ok (.ifCond .eq 8, 3) := by decide +kernel
theorem dX4_gives_173 : decode cX4_gives 173 = .ok (.iload 9, 2) := by decide +kernel
theorem dX4_gives_175 : decode cX4_gives 175 = .ok (.goto 31, 3) := by decide +kernel
theorem dX4_gives_178 : decode cX4_gives 178 = .ok (.aload_n 0, 1) := by decide +kernel
theorem dX4_gives_179 : decode cX4_gives 179 = .ok (.getfield 25, 3) := by decide +kernel
theorem dX4_gives_182 : decode cX4_gives 182 = .ok (.aload_n 0, 1) := by decide +kernel
theorem dX4_gives_183 : decode cX4_gives 183 = .ok (.getfield 19, 3) := by decide +kernel
theorem dX4_gives_186 : decode cX4_gives 186 = .ok (.iconst 3, 1) := by decide +kernel
theorem dX4_gives_187 : decode cX4_gives 187 = .ok (.iload 5, 2) := by decide +kernel
theorem dX4_gives_189 : decode cX4_gives 189 = .ok (.imul, 1) := by decide +kernel
theorem dX4_gives_190 : decode cX4_gives 190 = .ok (.iconst 2, 1) := by decide +kernel
theorem dX4_gives_191 : decode cX4_gives 191 = .ok (.iadd, 1) := by decide +kernel
theorem dX4_gives_192 : decode cX4_gives 192 = .ok (.iaload, 1) := by decide +kernel
theorem dX4_gives_193 : decode cX4_gives 193 = .ok (.baload, 1) := by decide +kernel
theorem dX4_gives_194 : decode cX4_gives 194 = .ok (.goto 12, 3) := by decide +kernel
theorem dX4_gives_197 : decode cX4_gives 197 = .ok (.iload 6, 2) := by decide +kernel
theorem dX4_gives_199 : decode cX4_gives 199 = .ok (.iload 8, 2) := by decide +kernel
theorem dX4_gives_201 : decode cX4_gives 201 = .ok (.iload 9, 2) := by decide +kernel
theorem dX4_gives_203 : decode cX4_gives 203 = .ok (.invokestatic 131, 3) := by decide +kernel
theorem dX4_gives_206 : decode cX4_gives 206 = .ok (.bastore, 1) := by decide +kernel
theorem dX4_gives_207 : decode cX4_gives 207 = .ok (.iinc 4 1, 3) := by decide +kernel
theorem dX4_gives_210 : decode cX4_gives 210 = .ok (.goto (-182), 3) := by decide +kernel
theorem dX4_gives_213 : decode cX4_gives 213 = .ok (.aload_n 0, 1) := by decide +kernel
theorem dX4_gives_214 : decode cX4_gives 214 = .ok (.getfield 25, 3) := by decide +kernel
theorem dX4_gives_217 : decode cX4_gives 217 = .ok (.aload_n 0, 1) := by decide +kernel
theorem dX4_gives_218 : decode cX4_gives 218 = .ok (.getfield 22, 3) := by decide +kernel
theorem dX4_gives_221 : decode cX4_gives 221 = .ok (.iconst 4, 1) := by decide +kernel
theorem dX4_gives_222 : decode cX4_gives 222 = .ok (.iload_n 1, 1) := by decide +kernel
theorem dX4_gives_223 : decode cX4_gives 223 = .ok (.imul, 1) := by decide +kernel
theorem dX4_gives_224 : decode cX4_gives 224 = .ok (.iload_n 2, 1) := by decide +kernel
theorem dX4_gives_225 : decode cX4_gives 225 = .ok (.iadd, 1) := by decide +kernel
theorem dX4_gives_226 : decode cX4_gives 226 = .ok (.iaload, 1) := by decide +kernel
theorem dX4_gives_227 : decode cX4_gives 227 = .ok (.baload, 1) := by decide +kernel
theorem dX4_gives_228 : decode cX4_gives 228 = .ok (.ifCond .eq 7, 3) := by decide +kernel
theorem dX4_gives_231 : decode cX4_gives 231 = .ok (.iconst 1, 1) := by decide +kernel
theorem dX4_gives_232 : decode cX4_gives 232 = .ok (.goto 4, 3) := by decide +kernel
theorem dX4_gives_235 : decode cX4_gives 235 = .ok (.iconst 0, 1) := by decide +kernel
theorem dX4_gives_236 : decode cX4_gives 236 = .ok (.ireturn, 1) := by decide +kernel
theorem dX4_isEmpty_0 : decode cX4_isEmpty 0 = .ok (.iconst 1, 1) := by decide +kernel
theorem dX4_isEmpty_1 : decode cX4_isEmpty 1 = .ok (.istore_n 1, 1) := by decide +kernel
theorem dX4_isEmpty_2 : decode cX4_isEmpty 2 = .ok (.iconst 0, 1) := by decide +kernel
theorem dX4_isEmpty_3 : decode cX4_isEmpty 3 = .ok (.istore_n 2, 1) := by decide +kernel
theorem dX4_isEmpty_4 : decode cX4_isEmpty 4 = .ok (.iload_n 2, 1) := by decide +kernel
theorem dX4_isEmpty_5 : decode cX4_isEmpty 5 = .ok (.bipush 12, 2) := by decide +kernel
theorem dX4_isEmpty_7 : decode cX4_isEmpty 7 = .ok (.if_icmp .ge 28, 3) := by decide +kernel
theorem dX4_isEmpty_10 : decode cX4_isEmpty 10 = .ok (.iload_n 1, 1) := by decide +kernel
theorem dX4_isEmpty_11 : decode cX4_isEmpty 11 = .ok (.ifCond .eq 16, 3) := by decide +kernel
theorem dX4_isEmpty_14 : decode cX4_isEmpty 14 = .ok (.aload_n 0, 1) := by decide +kernel
theorem dX4_isEmpty_15 : decode cX4_isEmpty 15 = .ok (.getfield 44, 3) := by decide +kernel
theorem dX4_isEmpty_18 : decode cX4_isEmpty 18 = .ok (.iload_n 2, 1) := by decide +kernel
theorem dX4_isEmpty_19 : decode cX4_isEmpty 19 = .ok (.baload, 1) := by decide +kernel
theorem dX4_isEmpty_20 : decode cX4_isEmpty 20 = .ok (.ifCond .ne 7, 3) := by decide +kernel
theorem dX4_isEmpty_23 : decode cX4_isEmpty 23 = .ok (.iconst 1, 1) := by decide +kernel
theorem dX4_isEmpty_24 : decode cX4_isEmpty 24 = .ok (.goto 4, 3) := by decide +kernel
theorem dX4_isEmpty_27 : decode cX4_isEmpty 27 = .ok (.iconst 0, 1) := by decide +kernel
theorem dX4_isEmpty_28 : decode cX4_isEmpty 28 = .ok (.istore_n 1, 1) := by decide +kernel
theorem dX4_isEmpty_29 : decode cX4_isEmpty 29 = .ok (.iinc 2 1, 3) := by decide +kernel
theorem dX4_isEmpty_32 : decode cX4_isEmpty 32 = .ok (.goto (-28), 3) := by decide +kernel
theorem dX4_isEmpty_35 : decode cX4_isEmpty 35 = .ok (.iload_n 1, 1) := by decide +kernel
theorem dX4_isEmpty_36 : decode cX4_isEmpty 36 = .ok (.ireturn, 1) := by decide +kernel
theorem dX4_go_0 : decode cX4_go 0 = .ok (.aload_n 0, 1) := by decide +kernel
theorem dX4_go_1 : decode cX4_go 1 = .ok (.getfield 35, 3) := by decide +kernel
theorem dX4_go_4 : decode cX4_go 4 = .ok (.iload_n 2, 1) := by decide +kernel
theorem dX4_go_5 : decode cX4_go 5 = .ok (.baload, 1) := by decide +kernel
theorem dX4_go_6 : decode cX4_go 6 = .ok (.ifCond .ne 116, 3) := by decide +kernel
theorem dX4_go_9 : decode cX4_go 9 = .ok (.aload_n 0, 1) := by decide +kernel
theorem dX4_go_10 : decode cX4_go 10 = .ok (.getfield 35, 3) := by decide +kernel
theorem dX4_go_13 : decode cX4_go 13 = .ok (.iload_n 2, 1) := by decide +kernel
theorem dX4_go_14 : decode cX4_go 14 = .ok (.iconst 1, 1) := by decide +kernel
theorem dX4_go_15 : decode cX4_go 15 = .ok (.bastore, 1) := by decide +kernel
theorem dX4_go_16 : decode cX4_go 16 = .ok (.aload_n 0, 1) := by decide +kernel
theorem dX4_go_17 : decode cX4_go 17 = .ok (.getfield 38, 3) := by decide +kernel
theorem dX4_go_20 : decode cX4_go 20 = .ok (.aload_n 0, 1) := by decide +kernel
theorem dX4_go_21 : decode cX4_go 21 = .ok (.getfield 135, 3) := by decide +kernel
theorem dX4_go_24 : decode cX4_go 24 = .ok (.iload_n 2, 1) := by decide +kernel
theorem dX4_go_25 : decode cX4_go 25 = .ok (.iastore, 1) := by decide +kernel
theorem dX4_go_26 : decode cX4_go 26 = .ok (.aload_n 0, 1) := by decide +kernel
theorem dX4_go_27 : decode cX4_go 27 = .ok (.getfield 41, 3) := by decide +kernel
theorem dX4_go_30 : decode cX4_go 30 = .ok (.aload_n 0, 1) := by decide +kernel
theorem dX4_go_31 : decode cX4_go 31 = .ok (.getfield 135, 3) := by decide +kernel
theorem dX4_go_34 : decode cX4_go 34 = .ok (.iconst 0, 1) := by decide +kernel
theorem dX4_go_35 : decode cX4_go 35 = .ok (.iastore, 1) := by decide +kernel
theorem dX4_go_36 : decode cX4_go 36 = .ok (.aload_n 0, 1) := by decide +kernel
theorem dX4_go_37 : decode cX4_go 37 = .ok (.dup, 1) := by decide +kernel
theorem dX4_go_38 : decode cX4_go 38 = .ok (.getfield 135, 3) := by decide +kernel
theorem dX4_go_41 : decode cX4_go 41 = .ok (.iconst 1, 1) := by decide +kernel
theorem dX4_go_42 : decode cX4_go 42 = .ok (.iadd, 1) := by decide +kernel
theorem dX4_go_43 : decode cX4_go 43 = .ok (.putfield 135, 3) := by decide +kernel
theorem dX4_go_46 : decode cX4_go 46 = .ok (.bipush 40, 2) := by decide +kernel
theorem dX4_go_48 : decode cX4_go 48 = .ok (.iload_n 1, 1) := by decide +kernel
theorem dX4_go_49 : decode cX4_go 49 = .ok (.imul, 1) := by decide +kernel
theorem dX4_go_50 : decode cX4_go 50 = .ok (.iload_n 2, 1) := by decide +kernel
theorem dX4_go_51 : decode cX4_go 51 = .ok (.iadd, 1) := by decide +kernel
theorem dX4_go_52 : decode cX4_go 52 = .ok (.istore_n 3, 1) := by decide +kernel
theorem dX4_go_53 : decode cX4_go 53 = .ok (.aload_n 0, 1) := by decide +kernel
theorem dX4_go_54 : decode cX4_go 54 = .ok (.getfield 16, 3) := by decide +kernel
theorem dX4_go_57 : decode cX4_go 57 = .ok (.iload_n 3, 1) := by decide +kernel
theorem dX4_go_58 : decode cX4_go 58 = .ok (.iaload, 1) := by decide +kernel
theorem dX4_go_59 : decode cX4_go 59 = .ok (.ifCond .ne 63, 3) := by decide +kernel
theorem dX4_go_62 : decode cX4_go 62 = .ok (.aload_n 0, 1) := by decide +kernel
theorem dX4_go_63 : decode cX4_go 63 = .ok (.getfield 32, 3) := by decide +kernel
theorem dX4_go_66 : decode cX4_go 66 = .ok (.aload_n 0, 1) := by decide +kernel
theorem dX4_go_67 : decode cX4_go 67 = .ok (.getfield 19, 3) := by decide +kernel
theorem dX4_go_70 : decode cX4_go 70 = .ok (.iconst 3, 1) := by decide +kernel
theorem dX4_go_71 : decode cX4_go 71 = .ok (.iload_n 3, 1) := by decide +kernel
theorem dX4_go_72 : decode cX4_go 72 = .ok (.imul, 1) := by decide +kernel
theorem dX4_go_73 : decode cX4_go 73 = .ok (.iaload, 1) := by decide +kernel
theorem dX4_go_74 : decode cX4_go 74 = .ok (.iaload, 1) := by decide +kernel
theorem dX4_go_75 : decode cX4_go 75 = .ok (.ifCond .ge 47, 3) := by decide +kernel
theorem dX4_go_78 : decode cX4_go 78 = .ok (.aload_n 0, 1) := by decide +kernel
theorem dX4_go_79 : decode cX4_go 79 = .ok (.getfield 32, 3) := by decide +kernel
theorem dX4_go_82 : decode cX4_go 82 = .ok (.aload_n 0, 1) := by decide +kernel
theorem dX4_go_83 : decode cX4_go 83 = .ok (.getfield 19, 3) := by decide +kernel
theorem dX4_go_86 : decode cX4_go 86 = .ok (.iconst 3, 1) := by decide +kernel
theorem dX4_go_87 : decode cX4_go 87 = .ok (.iload_n 3, 1) := by decide +kernel
theorem dX4_go_88 : decode cX4_go 88 = .ok (.imul, 1) := by decide +kernel
theorem dX4_go_89 : decode cX4_go 89 = .ok (.iaload, 1) := by decide +kernel
theorem dX4_go_90 : decode cX4_go 90 = .ok (.aload_n 0, 1) := by decide +kernel
theorem dX4_go_91 : decode cX4_go 91 = .ok (.getfield 138, 3) := by decide +kernel
theorem dX4_go_94 : decode cX4_go 94 = .ok (.iastore, 1) := by decide +kernel
theorem dX4_go_95 : decode cX4_go 95 = .ok (.aload_n 0, 1) := by decide +kernel
theorem dX4_go_96 : decode cX4_go 96 = .ok (.getfield 29, 3) := by decide +kernel
theorem dX4_go_99 : decode cX4_go 99 = .ok (.aload_n 0, 1) := by decide +kernel
theorem dX4_go_100 : decode cX4_go 100 = .ok (.getfield 138, 3) := by decide +kernel
theorem dX4_go_103 : decode cX4_go 103 = .ok (.aload_n 0, 1) := by decide +kernel
theorem dX4_go_104 : decode cX4_go 104 = .ok (.getfield 19, 3) := by decide +kernel
theorem dX4_go_107 : decode cX4_go 107 = .ok (.iconst 3, 1) := by decide +kernel
theorem dX4_go_108 : decode cX4_go 108 = .ok (.iload_n 3, 1) := by decide +kernel
theorem dX4_go_109 : decode cX4_go 109 = .ok (.imul, 1) := by decide +kernel
theorem dX4_go_110 : decode cX4_go 110 = .ok (.iaload, 1) := by decide +kernel
theorem dX4_go_111 : decode cX4_go 111 = .ok (.iastore, 1) := by decide +kernel
theorem dX4_go_112 : decode cX4_go 112 = .ok (.aload_n 0, 1) := by decide +kernel
theorem dX4_go_113 : decode cX4_go 113 = .ok (.dup, 1) := by decide +kernel
theorem dX4_go_114 : decode cX4_go 114 = .ok (.getfield 138, 3) := by decide +kernel
theorem dX4_go_117 : decode cX4_go 117 = .ok (.iconst 1, 1) := by decide +kernel
theorem dX4_go_118 : decode cX4_go 118 = .ok (.iadd, 1) := by decide +kernel
theorem dX4_go_119 : decode cX4_go 119 = .ok (.putfield 138, 3) := by decide +kernel
theorem dX4_go_122 : decode cX4_go 122 = .ok (.return_, 1) := by decide +kernel
theorem dX4_order_0 : decode cX4_order 0 = .ok (.iload_n 1, 1) := by decide +kernel
theorem dX4_order_1 : decode cX4_order 1 = .ok (.invokestatic 116, 3) := by decide +kernel
theorem dX4_order_4 : decode cX4_order 4 = .ok (.ifCond .ne 5, 3) := by decide +kernel
theorem dX4_order_7 : decode cX4_order 7 = .ok (.iconst (-1), 1) := by decide +kernel
theorem dX4_order_8 : decode cX4_order 8 = .ok (.ireturn, 1) := by decide +kernel
theorem dX4_order_9 : decode cX4_order 9 = .ok (.aload_n 0, 1) := by decide +kernel
theorem dX4_order_10 : decode cX4_order 10 = .ok (.invokevirtual 141, 3) := by decide +kernel
theorem dX4_order_13 : decode cX4_order 13 = .ok (.ifCond .ne 6, 3) := by decide +kernel
theorem dX4_order_16 : decode cX4_order 16 = .ok (.bipush (-3), 2) := by decide +kernel
theorem dX4_order_18 : decode cX4_order 18 = .ok (.ireturn, 1) := by decide +kernel
theorem dX4_order_19 : decode cX4_order 19 = .ok (.aload_n 0, 1) := by decide +kernel
theorem dX4_order_20 : decode cX4_order 20 = .ok (.iconst 0, 1) := by decide +kernel
theorem dX4_order_21 : decode cX4_order 21 = .ok (.putfield 138, 3) := by decide +kernel
theorem dX4_order_24 : decode cX4_order 24 = .ok (.aload_n 0, 1) := by decide +kernel
theorem dX4_order_25 : decode cX4_order 25 = .ok (.iconst 0, 1) := by decide +kernel
theorem dX4_order_26 : decode cX4_order 26 = .ok (.putfield 135, 3) := by decide +kernel
theorem dX4_order_29 : decode cX4_order 29 = .ok (.iconst 0, 1) := by decide +kernel
theorem dX4_order_30 : decode cX4_order 30 = .ok (.istore_n 2, 1) := by decide +kernel
theorem dX4_order_31 : decode cX4_order 31 = .ok (.iload_n 2, 1) := by decide +kernel
theorem dX4_order_32 : decode cX4_order 32 = .ok (.bipush 40, 2) := by decide +kernel
theorem dX4_order_34 : decode cX4_order 34 = .ok (.if_icmp .ge 16, 3) := by decide +kernel
theorem dX4_order_37 : decode cX4_order 37 = .ok (.aload_n 0, 1) := by decide +kernel
theorem dX4_order_38 : decode cX4_order 38 = .ok (.getfield 35, 3) := by decide +kernel
theorem dX4_order_41 : decode cX4_order 41 = .ok (.iload_n 2, 1) := by decide +kernel
theorem dX4_order_42 : decode cX4_order 42 = .ok (.iconst 0, 1) := by decide +kernel
theorem dX4_order_43 : decode cX4_order 43 = .ok (.bastore, 1) := by decide +kernel
theorem dX4_order_44 : decode cX4_order 44 = .ok (.iinc 2 1, 3) := by decide +kernel
theorem dX4_order_47 : decode cX4_order 47 = .ok (.goto (-16), 3) := by decide +kernel
theorem dX4_order_50 : decode cX4_order 50 = .ok (.iconst 0, 1) := by decide +kernel
theorem dX4_order_51 : decode cX4_order 51 = .ok (.istore_n 2, 1) := by decide +kernel
theorem dX4_order_52 : decode cX4_order 52 = .ok (.iload_n 2, 1) := by decide +kernel
theorem dX4_order_53 : decode cX4_order 53 = .ok (.bipush 8, 2) := by decide +kernel
theorem dX4_order_55 : decode cX4_order 55 = .ok (.if_icmp .ge 16, 3) := by decide +kernel
theorem dX4_order_58 : decode cX4_order 58 = .ok (.aload_n 0, 1) := by decide +kernel
theorem dX4_order_59 : decode cX4_order 59 = .ok (.getfield 32, 3) := by decide +kernel
theorem dX4_order_62 : decode cX4_order 62 = .ok (.iload_n 2, 1) := by decide +kernel
theorem dX4_order_63 : decode cX4_order 63 = .ok (.iconst (-1), 1) := by decide +kernel
theorem dX4_order_64 : decode cX4_order 64 = .ok (.iastore, 1) := by decide +kernel
theorem dX4_order_65 : decode cX4_order 65 = .ok (.iinc 2 1, 3) := by decide +kernel
theorem dX4_order_68 : decode cX4_order 68 = .ok (.goto (-16), 3) := by decide +kernel
theorem dX4_order_71 : decode cX4_order 71 = .ok (.iconst 0, 1) := by decide +kernel
theorem dX4_order_72 : decode cX4_order 72 = .ok (.istore_n 2, 1) := by decide +kernel
theorem dX4_order_73 : decode cX4_order 73 = .ok (.iload_n 2, 1) := by decide +kernel
theorem dX4_order_74 : decode cX4_order 74 = .ok (.aload_n 0, 1) := by decide +kernel
theorem dX4_order_75 : decode cX4_order 75 = .ok (.getfield 13, 3) := by decide +kernel
theorem dX4_order_78 : decode cX4_order 78 = .ok (.iload_n 1, 1) := by decide +kernel
theorem dX4_order_79 : decode cX4_order 79 = .ok (.iaload, 1) := by decide +kernel
theorem dX4_order_80 : decode cX4_order 80 = .ok (.if_icmp .ge 122, 3) := by decide +kernel
theorem dX4_order_83 : decode cX4_order 83 = .ok (.aload_n 0, 1) := by decide +kernel
theorem dX4_order_84 : decode cX4_order 84 = .ok (.iload_n 1, 1) := by decide +kernel
theorem dX4_order_85 : decode cX4_order 85 = .ok (.aload_n 0, 1) := by decide +kernel
theorem dX4_order_86 : decode cX4_order 86 = .ok (.getfield 22, 3) := by decide +kernel
theorem dX4_order_89 : decode cX4_order 89 = .ok (.iconst 4, 1) := by decide +kernel
theorem dX4_order_90 : decode cX4_order 90 = .ok (.iload_n 1, 1) := by decide +kernel
theorem dX4_order_91 : decode cX4_order 91 = .ok (.imul, 1) := by decide +kernel
theorem dX4_order_92 : decode cX4_order 92 = .ok (.iload_n 2, 1) := by decide +kernel
theorem dX4_order_93 : decode cX4_order 93 = .ok (.iadd, 1) := by decide +kernel
theorem dX4_order_94 : decode cX4_order 94 = .ok (.iaload, 1) := by decide +kernel
theorem dX4_order_95 : decode cX4_order 95 = .ok (.invokevirtual 145, 3) := by decide +kernel
theorem dX4_order_98 : decode cX4_order 98 = .ok (.aload_n 0, 1) := by decide +kernel
theorem dX4_order_99 : decode cX4_order 99 = .ok (.getfield 135, 3) := by decide +kernel
theorem dX4_order_102 : decode cX4_order 102 = .ok (.ifCond .le 94, 3) := by decide +kernel
theorem dX4_order_105 : decode cX4_order 105 = .ok (.bipush 40, 2) := by decide +kernel
theorem dX4_order_107 : decode cX4_order 107 = .ok (.iload_n 1, 1) := by decide +kernel
theorem dX4_order_108 : decode cX4_order 108 = .ok (.imul, 1) := by decide +kernel
theorem dX4_order_109 : decode cX4_order 109 = .ok (.aload_n 0, 1) := by decide +kernel
theorem dX4_order_110 : decode cX4_order 110 = .ok (.getfield 38, 3) := by decide +kernel
theorem dX4_order_113 : decode cX4_order 113 = .ok (.aload_n 0, 1) := by decide +kernel
theorem dX4_order_114 : decode cX4_order 114 = .ok (.getfield 135, 3) := by decide +kernel
theorem dX4_order_117 : decode cX4_order 117 = .ok (.iconst 1, 1) := by decide +kernel
theorem dX4_order_118 : decode cX4_order 118 = .ok (.isub, 1) := by decide +kernel
theorem dX4_order_119 : decode cX4_order 119 = .ok (.iaload, 1) := by decide +kernel
theorem dX4_order_120 : decode cX4_order 120 = .ok (.iadd, 1) := by decide +kernel
theorem dX4_order_121 : decode cX4_order 121 = .ok (.istore_n 3, 1) := by decide +kernel
theorem dX4_order_122 : decode cX4_order 122 = .ok (.aload_n 0, 1) := by decide +kernel
theorem dX4_order_123 : decode cX4_order 123 = .ok (.getfield 41, 3) := by decide +kernel
theorem dX4_order_126 : decode cX4_order 126 = .ok (.aload_n 0, 1) := by decide +kernel
theorem dX4_order_127 : decode cX4_order 127 = .ok (.getfield 135, 3) := by decide +kernel
theorem dX4_order_130 : decode cX4_order 130 = .ok (.iconst 1, 1) := by decide +kernel
theorem dX4_order_131 : decode cX4_order 131 = .ok (.isub, 1) := by decide +kernel
theorem dX4_order_132 : decode cX4_order 132 = .ok (.iaload, 1) := by decide +kernel
theorem dX4_order_133 : decode cX4_order 133 = .ok (.istore 4, 2) := by decide +kernel
theorem dX4_order_135 : decode cX4_order 135 = .ok (.iload 4, 2) := by decide +kernel
theorem dX4_order_137 : decode cX4_order 137 = .ok (.aload_n 0, 1) := by decide +kernel
theorem dX4_order_138 : decode cX4_order 138 = .ok (.getfield 16, 3) := by decide +kernel
theorem dX4_order_141 : decode cX4_order 141 = .ok (.iload_n 3, 1) := by decide +kernel
theorem dX4_order_142 : decode cX4_order 142 = .ok (.iaload, 1) := by decide +kernel
theorem dX4_order_143 : decode cX4_order 143 = .ok (.invokestatic 120, 3) := by decide +kernel
theorem dX4_order_146 : decode cX4_order 146 = .ok (.if_icmp .ne 16, 3) := by decide +kernel
theorem dX4_order_149 : decode cX4_order 149 = .ok (.aload_n 0, 1) := by decide +kernel
theorem dX4_order_150 : decode cX4_order 150 = .ok (.dup, 1) := by decide +kernel
theorem dX4_order_151 : decode cX4_order 151 = .ok (.getfield 135, 3) := by decide +kernel
theorem dX4_order_154 : decode cX4_order 154 = .ok (.iconst 1, 1) := by decide +kernel
theorem dX4_order_155 : decode cX4_order 155 = .ok (.isub, 1) := by decide +kernel
theorem dX4_order_156 : decode cX4_order 156 = .ok (.putfield 135, 3) := by decide +kernel
theorem dX4_order_159 : decode cX4_order 159 = .ok (.goto 34, 3) := by decide +kernel
theorem dX4_order_162 : decode cX4_order 162 = .ok (.aload_n 0, 1) := by decide +kernel
theorem dX4_order_163 : decode cX4_order 163 = .ok (.getfield 41, 3) := by decide +kernel
theorem dX4_order_166 : decode cX4_order 166 = .ok (.aload_n 0, 1) := by decide +kernel
theorem dX4_order_167 : decode cX4_order 167 = .ok (.getfield 135, 3) := by decide +kernel
theorem dX4_order_170 : decode cX4_order 170 = .ok (.iconst 1, 1) := by decide +kernel
theorem dX4_order_171 : decode cX4_order 171 = .ok (.isub, 1) := by decide +kernel
theorem dX4_order_172 : decode cX4_order 172 = .ok (.dup2, 1) := by decide +kernel
theorem dX4_order_173 : decode cX4_order 173 = .ok (.iaload, 1) := by decide +kernel
theorem dX4_order_174 : decode cX4_order 174 = .ok (.iconst 1, 1) := by decide +kernel
theorem dX4_order_175 : decode cX4_order 175 = .ok (.iadd, 1) := by decide +kernel
theorem dX4_order_176 : decode cX4_order 176 = .ok (.iastore, 1) := by decide +kernel
theorem dX4_order_177 : decode cX4_order 177 = .ok (.aload_n 0, 1) := by decide +kernel
theorem dX4_order_178 : decode cX4_order 178 = .ok (.iload_n 1, 1) := by decide +kernel
theorem dX4_order_179 : decode cX4_order 179 = .ok (.aload_n 0, 1) := by decide +kernel
theorem dX4_order_180 : decode cX4_order 180 = .ok (.getfield 19, 3) := by decide +kernel
theorem dX4_order_183 : decode cX4_order 183 = .ok (.iconst 3, 1) := by decide +kernel
theorem dX4_order_184 : decode cX4_order 184 = .ok (.iload_n 3, 1) := by decide +kernel
theorem dX4_order_185 : decode cX4_order 185 = .ok (.imul, 1) := by decide +kernel
theorem dX4_order_186 : decode cX4_order 186 = .ok (.iload 4, 2) := by decide +kernel
theorem dX4_order_188 : decode cX4_order 188 = .ok (.iadd, 1) := by decide +kernel
theorem dX4_order_189 : decode cX4_order 189 = .ok (.iaload, 1) := by decide +kernel
theorem dX4_order_190 : decode cX4_order 190 = .ok (.invokevirtual 145, 3) := by decide +kernel
theorem dX4_order_193 : decode cX4_order 193 = .ok (.goto (-95), 3) := by decide +kernel
theorem dX4_order_196 : decode cX4_order 196 = .ok (.iinc 2 1, 3) := by decide +kernel
theorem dX4_order_199 : decode cX4_order 199 = .ok (.goto (-126), 3) := by decide +kernel
theorem dX4_order_202 : decode cX4_order 202 = .ok (.aload_n 0, 1) := by decide +kernel
theorem dX4_order_203 : decode cX4_order 203 = .ok (.getfield 138, 3) := by decide +kernel
theorem dX4_order_206 : decode cX4_order 206 = .ok (.istore_n 2, 1) := by decide +kernel
theorem dX4_order_207 : decode cX4_order 207 = .ok (.iconst 0, 1) := by decide +kernel
theorem dX4_order_208 : decode cX4_order 208 = .ok (.istore_n 3, 1) := by decide +kernel
theorem dX4_order_209 : decode cX4_order 209 = .ok (.iload_n 3, 1) := by decide +kernel
theorem dX4_order_210 : decode cX4_order 210 = .ok (.bipush 8, 2) := by decide +kernel
theorem dX4_order_212 : decode cX4_order 212 = .ok (.if_icmp .ge 48, 3) := by decide +kernel
theorem dX4_order_215 : decode cX4_order 215 = .ok (.aload_n 0, 1) := by decide +kernel
theorem dX4_order_216 : decode cX4_order 216 = .ok (.getfield 32, 3) := by decide +kernel
theorem dX4_order_219 : decode cX4_order 219 = .ok (.iload_n 3, 1) := by decide +kernel
theorem dX4_order_220 : decode cX4_order 220 = .ok (.iaload, 1) := by decide +kernel
theorem dX4_order_221 : decode cX4_order 221 = .ok (.ifCond .ge 33, 3) := by decide +kernel
theorem dX4_order_224 : decode cX4_order 224 = .ok (.aload_n 0, 1) := by decide +kernel
theorem dX4_order_225 : decode cX4_order 225 = .ok (.getfield 32, 3) := by decide +kernel
theorem dX4_order_228 : decode cX4_order 228 = .ok (.iload_n 3, 1) := by decide +kernel
theorem dX4_order_229 : decode cX4_order 229 = .ok (.aload_n 0, 1) := by decide +kernel
theorem dX4_order_230 : decode cX4_order 230 = .ok (.getfield 138, 3) := by decide +kernel
theorem dX4_order_233 : decode cX4_order 233 = .ok (.iastore, 1) := by decide +kernel
theorem dX4_order_234 : decode cX4_order 234 = .ok (.aload_n 0, 1) := by decide +kernel
theorem dX4_order_235 : decode cX4_order 235 = .ok (.getfield 29, 3) := by decide +kernel
theorem dX4_order_238 : decode cX4_order 238 = .ok (.aload_n 0, 1) := by decide +kernel
theorem dX4_order_239 : decode cX4_order 239 = .ok (.getfield 138, 3) := by decide +kernel
theorem dX4_order_242 : decode cX4_order 242 = .ok (.iload_n 3, 1) := by decide +kernel
theorem dX4_order_243 : decode cX4_order 243 = .ok (.iastore, 1) := by decide +kernel
theorem dX4_order_244 : decode cX4_order 244 = .ok (.aload_n 0, 1) := by decide +kernel
theorem dX4_order_245 : decode cX4_order 245 = .ok (.dup, 1) := by decide +kernel
theorem dX4_order_246 : decode cX4_order 246 = .ok (.getfield 138, 3) := by decide +kernel
theorem dX4_order_249 : decode cX4_order 249 = .ok (.iconst 1, 1) := by decide +kernel
theorem dX4_order_250 : decode cX4_order 250 = .ok (.iadd, 1) := by decide +kernel
theorem dX4_order_251 : decode cX4_order 251 = .ok (.putfield 138, 3) := by decide +kernel
theorem dX4_order_254 : decode cX4_order 254 = .ok (.iinc 3 1, 3) := by decide +kernel
theorem dX4_order_257 : decode cX4_order 257 = .ok (.goto (-48), 3) := by decide +kernel
theorem dX4_order_260 : decode cX4_order 260 = .ok (.iload_n 2, 1) := by decide +kernel
theorem dX4_order_261 : decode cX4_order 261 = .ok (.ireturn, 1) := by decide +kernel
theorem dX4_move_0 : decode cX4_move 0 = .ok (.iload_n 1, 1) := by decide +kernel
theorem dX4_move_1 : decode cX4_move 1 = .ok (.iconst 0, 1) := by decide +kernel
theorem dX4_move_2 : decode cX4_move 2 = .ok (.bipush 7, 2) := by decide +kernel
theorem dX4_move_4 : decode cX4_move 4 = .ok (.invokestatic 112, 3) := by decide +kernel
theorem dX4_move_7 : decode cX4_move 7 = .ok (.ifCond .eq 13, 3) := by decide +kernel
theorem dX4_move_10 : decode cX4_move 10 = .ok (.iload_n 2, 1) := by decide +kernel
theorem dX4_move_11 : decode cX4_move 11 = .ok (.iconst 0, 1) := by decide +kernel
theorem dX4_move_12 : decode cX4_move 12 = .ok (.bipush 7, 2) := by decide +kernel
theorem dX4_move_14 : decode cX4_move 14 = .ok (.invokestatic 112, 3) := by decide +kernel
theorem dX4_move_17 : decode cX4_move 17 = .ok (.ifCond .ne 6, 3) := by decide +kernel
theorem dX4_move_20 : decode cX4_move 20 = .ok (.bipush (-2), 2) := by decide +kernel
theorem dX4_move_22 : decode cX4_move 22 = .ok (.ireturn, 1) := by decide +kernel
theorem dX4_move_23 : decode cX4_move 23 = .ok (.aload_n 0, 1) := by decide +kernel
theorem dX4_move_24 : decode cX4_move 24 = .ok (.invokevirtual 141, 3) := by decide +kernel
theorem dX4_move_27 : decode cX4_move 27 = .ok (.ifCond .ne 6, 3) := by decide +kernel
theorem dX4_move_30 : decode cX4_move 30 = .ok (.bipush (-3), 2) := by decide +kernel
theorem dX4_move_32 : decode cX4_move 32 = .ok (.ireturn, 1) := by decide +kernel
theorem dX4_move_33 : decode cX4_move 33 = .ok (.aload_n 0, 1) := by decide +kernel
theorem dX4_move_34 : decode cX4_move 34 = .ok (.getfield 32, 3) := by decide +kernel
theorem dX4_move_37 : decode cX4_move 37 = .ok (.iload_n 1, 1) := by decide +kernel
theorem dX4_move_38 : decode cX4_move 38 = .ok (.iaload, 1) := by decide +kernel
theorem dX4_move_39 : decode cX4_move 39 = .ok (.istore_n 3, 1) := by decide +kernel
theorem dX4_move_40 : decode cX4_move 40 = .ok (.iload_n 2, 1) := by decide +kernel
theorem dX4_move_41 : decode cX4_move 41 = .ok (.iload_n 3, 1) := by decide +kernel
theorem dX4_move_42 : decode cX4_move 42 = .ok (.if_icmp .ge 7, 3) := by decide +kernel
theorem dX4_move_45 : decode cX4_move 45 = .ok (.iconst (-1), 1) := by decide +kernel
theorem dX4_move_46 : decode cX4_move 46 = .ok (.goto 4, 3) := by decide +kernel
theorem dX4_move_49 : decode cX4_move 49 = .ok (.iconst 1, 1) := by decide +kernel
theorem dX4_move_50 : decode cX4_move 50 = .ok (.istore 4, 2) := by decide +kernel
theorem dX4_move_52 : decode cX4_move 52 = .ok (.iload_n 3, 1) := by decide +kernel
theorem dX4_move_53 : decode cX4_move 53 = .ok (.istore 5, 2) := by decide +kernel
theorem dX4_move_55 : decode cX4_move 55 = .ok (.iload 5, 2) := by decide +kernel
theorem dX4_move_57 : decode cX4_move 57 = .ok (.iload_n 2, 1) := by decide +kernel
theorem dX4_move_58 : decode cX4_move 58 = .ok (.if_icmp .eq 30, 3) := by decide +kernel
theorem dX4_move_61 : decode cX4_move 61 = .ok (.aload_n 0, 1) := by decide +kernel
theorem dX4_move_62 : decode cX4_move 62 = .ok (.getfield 29, 3) := by decide +kernel
theorem dX4_move_65 : decode cX4_move 65 = .ok (.iload 5, 2) := by decide +kernel
theorem dX4_move_67 : decode cX4_move 67 = .ok (.aload_n 0, 1) := by decide +kernel
theorem dX4_move_68 : decode cX4_move 68 = .ok (.getfield 29, 3) := by decide +kernel
theorem dX4_move_71 : decode cX4_move 71 = .ok (.iload 5, 2) := by decide +kernel
theorem dX4_move_73 : decode cX4_move 73 = .ok (.iload 4, 2) := by decide +kernel
theorem dX4_move_75 : decode cX4_move 75 = .ok (.iadd, 1) := by decide +kernel
theorem dX4_move_76 : decode cX4_move 76 = .ok (.iaload, 1) := by decide +kernel
theorem dX4_move_77 : decode cX4_move 77 = .ok (.iastore, 1) := by decide +kernel
theorem dX4_move_78 : decode cX4_move 78 = .ok (.iload 5, 2) := by decide +kernel
theorem dX4_move_80 : decode cX4_move 80 = .ok (.iload 4, 2) := by decide +kernel
theorem dX4_move_82 : decode cX4_move 82 = .ok (.iadd, 1) := by decide +kernel
theorem dX4_move_83 : decode cX4_move 83 = .ok (.istore 5, 2) := by decide +kernel
theorem dX4_move_85 : decode cX4_move 85 = .ok (.goto (-30), 3) := by decide +kernel
theorem dX4_move_88 : decode cX4_move 88 = .ok (.aload_n 0, 1) := by decide +kernel
theorem dX4_move_89 : decode cX4_move 89 = .ok (.getfield 29, 3) := by decide +kernel
theorem dX4_move_92 : decode cX4_move 92 = .ok (.iload_n 2, 1) := by decide +kernel
theorem dX4_move_93 : decode cX4_move 93 = .ok (.iload_n 1, 1) := by decide +kernel
theorem dX4_move_94 : decode cX4_move 94 = .ok (.iastore, 1) := by decide +kernel
theorem dX4_move_95 : decode cX4_move 95 = .ok (.iconst 0, 1) := by decide +kernel
theorem dX4_move_96 : decode cX4_move 96 = .ok (.istore 5, 2) := by decide +kernel
theorem dX4_move_98 : decode cX4_move 98 = .ok (.iload 5, 2) := by decide +kernel
theorem dX4_move_100 : decode cX4_move 100 = .ok (.bipush 8, 2) := by decide +kernel
theorem dX4_move_102 : decode cX4_move 102 = .ok (.if_icmp .ge 23, 3) := by decide +kernel
theorem dX4_move_105 : decode cX4_move 105 = .ok (.aload_n 0, 1) := by decide +kernel
theorem dX4_move_106 : decode cX4_move 106 = .ok (.getfield 32, 3) := by decide +kernel
theorem dX4_move_109 : decode cX4_move 109 = .ok (.aload_n 0, 1) := by decide +kernel
theorem dX4_move_110 : decode cX4_move 110 = .ok (.getfield 29, 3) := by decide +kernel
theorem dX4_move_113 : decode cX4_move 113 = .ok (.iload 5, 2) := by decide +kernel
theorem dX4_move_115 : decode cX4_move 115 = .ok (.iaload, 1) := by decide +kernel
theorem dX4_move_116 : decode cX4_move 116 = .ok (.iload 5, 2) := by decide +kernel
theorem dX4_move_118 : decode cX4_move 118 = .ok (.iastore, 1) := by decide +kernel
theorem dX4_move_119 : decode cX4_move 119 = .ok (.iinc 5 1, 3) := by decide +kernel
theorem dX4_move_122 : decode cX4_move 122 = .ok (.goto (-24), 3) := by decide +kernel
theorem dX4_move_125 : decode cX4_move 125 = .ok (.iload_n 3, 1) := by decide +kernel
theorem dX4_move_126 : decode cX4_move 126 = .ok (.ireturn, 1) := by decide +kernel
theorem dX4_at_0 : decode cX4_at 0 = .ok (.iload_n 1, 1) := by decide +kernel
theorem dX4_at_1 : decode cX4_at 1 = .ok (.iconst 0, 1) := by decide +kernel
theorem dX4_at_2 : decode cX4_at 2 = .ok (.bipush 7, 2) := by decide +kernel
theorem dX4_at_4 : decode cX4_at 4 = .ok (.invokestatic 112, 3) := by decide +kernel
theorem dX4_at_7 : decode cX4_at 7 = .ok (.ifCond .eq 12, 3) := by decide +kernel
theorem dX4_at_10 : decode cX4_at 10 = .ok (.aload_n 0, 1) := by decide +kernel
theorem dX4_at_11 : decode cX4_at 11 = .ok (.getfield 29, 3) := by decide +kernel
theorem dX4_at_14 : decode cX4_at 14 = .ok (.iload_n 1, 1) := by decide +kernel
theorem dX4_at_15 : decode cX4_at 15 = .ok (.iaload, 1) := by decide +kernel
theorem dX4_at_16 : decode cX4_at 16 = .ok (.goto 5, 3) := by decide +kernel
theorem dX4_at_19 : decode cX4_at 19 = .ok (.bipush (-2), 2) := by decide +kernel
theorem dX4_at_21 : decode cX4_at 21 = .ok (.ireturn, 1) := by decide +kernel
theorem dX4_room_0 : decode cX4_room 0 = .ok (.iload_n 1, 1) := by decide +kernel
theorem dX4_room_1 : decode cX4_room 1 = .ok (.iconst 0, 1) := by decide +kernel
theorem dX4_room_2 : decode cX4_room 2 = .ok (.sipush 250, 3) := by decide +kernel
theorem dX4_room_5 : decode cX4_room 5 = .ok (.invokestatic 112, 3) := by decide +kernel
theorem dX4_room_8 : decode cX4_room 8 = .ok (.ifCond .ne 6, 3) := by decide +kernel
theorem dX4_room_11 : decode cX4_room 11 = .ok (.bipush (-2), 2) := by decide +kernel
theorem dX4_room_13 : decode cX4_room 13 = .ok (.ireturn, 1) := by decide +kernel
theorem dX4_room_14 : decode cX4_room 14 = .ok (.aload_n 0, 1) := by decide +kernel
theorem dX4_room_15 : decode cX4_room 15 = .ok (.getfield 149, 3) := by decide +kernel
theorem dX4_room_18 : decode cX4_room 18 = .ok (.iload_n 1, 1) := by decide +kernel
theorem dX4_room_19 : decode cX4_room 19 = .ok (.if_icmp .le 6, 3) := by decide +kernel
theorem dX4_room_22 : decode cX4_room 22 = .ok (.bipush (-3), 2) := by decide +kernel
theorem dX4_room_24 : decode cX4_room 24 = .ok (.ireturn, 1) := by decide +kernel
theorem dX4_room_25 : decode cX4_room 25 = .ok (.aload_n 0, 1) := by decide +kernel
theorem dX4_room_26 : decode cX4_room 26 = .ok (.getfield 102, 3) := by decide +kernel
theorem dX4_room_29 : decode cX4_room 29 = .ok (.istore_n 2, 1) := by decide +kernel
theorem dX4_room_30 : decode cX4_room 30 = .ok (.aload_n 0, 1) := by decide +kernel
theorem dX4_room_31 : decode cX4_room 31 = .ok (.iload_n 1, 1) := by decide +kernel
theorem dX4_room_32 : decode cX4_room 32 = .ok (.putfield 102, 3) := by decide +kernel
theorem dX4_room_35 : decode cX4_room 35 = .ok (.iload_n 2, 1) := by decide +kernel
theorem dX4_room_36 : decode cX4_room 36 = .ok (.ireturn, 1) := by decide +kernel
theorem dX4_bit_0 : decode cX4_bit 0 = .ok (.aload_n 0, 1) := by decide +kernel
theorem dX4_bit_1 : decode cX4_bit 1 = .ok (.getfield 47, 3) := by decide +kernel
theorem dX4_bit_4 : decode cX4_bit 4 = .ok (.iconst 4, 1) := by decide +kernel
theorem dX4_bit_5 : decode cX4_bit 5 = .ok (.iload_n 1, 1) := by decide +kernel
theorem dX4_bit_6 : decode cX4_bit 6 = .ok (.imul, 1) := by decide +kernel
theorem dX4_bit_7 : decode cX4_bit 7 = .ok (.iload_n 2, 1) := by decide +kernel
theorem dX4_bit_8 : decode cX4_bit 8 = .ok (.bipush 6, 2) := by decide +kernel
theorem dX4_bit_10 : decode cX4_bit 10 = .ok (.ishr, 1) := by decide +kernel
theorem dX4_bit_11 : decode cX4_bit 11 = .ok (.iadd, 1) := by decide +kernel
theorem dX4_bit_12 : decode cX4_bit 12 = .ok (.laload, 1) := by decide +kernel
theorem dX4_bit_13 : decode cX4_bit 13 = .ok (.iload_n 2, 1) := by decide +kernel
theorem dX4_bit_14 : decode cX4_bit 14 = .ok (.bipush 63, 2) := by decide +kernel
theorem dX4_bit_16 : decode cX4_bit 16 = .ok (.iand, 1) := by decide +kernel
theorem dX4_bit_17 : decode cX4_bit 17 = .ok (.lshr, 1) := by decide +kernel
theorem dX4_bit_18 : decode cX4_bit 18 = .ok (.lconst 1, 1) := by decide +kernel
theorem dX4_bit_19 : decode cX4_bit 19 = .ok (.land, 1) := by decide +kernel
theorem dX4_bit_20 : decode cX4_bit 20 = .ok (.lconst 1, 1) := by decide +kernel
theorem dX4_bit_21 : decode cX4_bit 21 = .ok (.lcmp, 1) := by decide +kernel
theorem dX4_bit_22 : decode cX4_bit 22 = .ok (.ifCond .ne 7, 3) := by decide +kernel
theorem dX4_bit_25 : decode cX4_bit 25 = .ok (.iconst 1, 1) := by decide +kernel
theorem dX4_bit_26 : decode cX4_bit 26 = .ok (.goto 4, 3) := by decide +kernel
theorem dX4_bit_29 : decode cX4_bit 29 = .ok (.iconst 0, 1) := by decide +kernel
theorem dX4_bit_30 : decode cX4_bit 30 = .ok (.ireturn, 1) := by decide +kernel
theorem dX4_lays_0 : decode cX4_lays 0 = .ok (.iload_n 2, 1) := by decide +kernel
theorem dX4_lays_1 : decode cX4_lays 1 = .ok (.iconst 1, 1) := by decide +kernel
theorem dX4_lays_2 : decode cX4_lays 2 = .ok (.if_icmp .le 118, 3) := by decide +kernel
theorem dX4_lays_5 : decode cX4_lays 5 = .ok (.sipush 256, 3) := by decide +kernel
theorem dX4_lays_8 : decode cX4_lays 8 = .ok (.iload_n 2, 1) := by decide +kernel
theorem dX4_lays_9 : decode cX4_lays 9 = .ok (.ishr, 1) := by decide +kernel
theorem dX4_lays_10 : decode cX4_lays 10 = .ok (.istore 4, 2) := by decide +kernel
theorem dX4_lays_12 : decode cX4_lays 12 = .ok (.iload_n 3, 1) := by decide +kernel
theorem dX4_lays_13 : decode cX4_lays 13 = .ok (.iload 4, 2) := by decide +kernel
theorem dX4_lays_15 : decode cX4_lays 15 = .ok (.imul, 1) := by decide +kernel
theorem dX4_lays_16 : decode cX4_lays 16 = .ok (.istore 5, 2) := by decide +kernel
theorem dX4_lays_18 : decode cX4_lays 18 = .ok (.aload_n 0, 1) := by decide +kernel
theorem dX4_lays_19 : decode cX4_lays 19 = .ok (.getfield 47, 3) := by decide +kernel
theorem dX4_lays_22 : decode cX4_lays 22 = .ok (.iconst 4, 1) := by decide +kernel
theorem dX4_lays_23 : decode cX4_lays 23 = .ok (.iload_n 1, 1) := by decide +kernel
theorem dX4_lays_24 : decode cX4_lays 24 = .ok (.imul, 1) := by decide +kernel
theorem dX4_lays_25 : decode cX4_lays 25 = .ok (.iload 5, 2) := by decide +kernel
theorem dX4_lays_27 : decode cX4_lays 27 = .ok (.bipush 6, 2) := by decide +kernel
theorem dX4_lays_29 : decode cX4_lays 29 = .ok (.ishr, 1) := by decide +kernel
theorem dX4_lays_30 : decode cX4_lays 30 = .ok (.iadd, 1) := by decide +kernel
theorem dX4_lays_31 : decode cX4_lays 31 = .ok (.laload, 1) := by decide +kernel
theorem dX4_lays_32 : decode cX4_lays 32 = .ok (.iload 5, 2) := by decide +kernel
theorem dX4_lays_34 : decode cX4_lays 34 = .ok (.bipush 63, 2) := by decide +kernel
theorem dX4_lays_36 : decode cX4_lays 36 = .ok (.iand, 1) := by decide +kernel
theorem dX4_lays_37 : decode cX4_lays 37 = .ok (.lushr, 1) := by decide +kernel
theorem dX4_lays_38 : decode cX4_lays 38 = .ok (.lstore 6, 2) := by decide +kernel
theorem dX4_lays_40 : decode cX4_lays 40 = .ok (.lconst 1, 1) := by decide +kernel
theorem dX4_lays_41 : decode cX4_lays 41 = .ok (.iload 4, 2) := by decide +kernel
theorem dX4_lays_43 : decode cX4_lays 43 = .ok (.iconst 2, 1) := by decide +kernel
theorem dX4_lays_44 : decode cX4_lays 44 = .ok (.idiv, 1) := by decide +kernel
theorem dX4_lays_45 : decode cX4_lays 45 = .ok (.lshl, 1) := by decide +kernel
theorem dX4_lays_46 : decode cX4_lays 46 = .ok (.lconst 1, 1) := by decide +kernel
theorem dX4_lays_47 : decode cX4_lays 47 = .ok (.lsub, 1) := by decide +kernel
theorem dX4_lays_48 : decode cX4_lays 48 = .ok (.lstore 8, 2) := by decide +kernel
theorem dX4_lays_50 : decode cX4_lays 50 = .ok (.lload 6, 2) := by decide +kernel
theorem dX4_lays_52 : decode cX4_lays 52 = .ok (.lload 6, 2) := by decide +kernel
theorem dX4_lays_54 : decode cX4_lays 54 = .ok (.iload 4, 2) := by decide +kernel
theorem dX4_lays_56 : decode cX4_lays 56 = .ok (.iconst 2, 1) := by decide +kernel
theorem dX4_lays_57 : decode cX4_lays 57 = .ok (.idiv, 1) := by decide +kernel
theorem dX4_lays_58 : decode cX4_lays 58 = .ok (.lushr, 1) := by decide +kernel
theorem dX4_lays_59 : decode cX4_lays 59 = .ok (.lxor, 1) := by decide +kernel
theorem dX4_lays_60 : decode cX4_lays 60 = .ok (.lload 8, 2) := by decide +kernel
theorem dX4_lays_62 : decode cX4_lays 62 = .ok (.land, 1) := by decide +kernel
theorem dX4_lays_63 : decode cX4_lays 63 = .ok (.lconst 0, 1) := by decide +kernel
theorem dX4_lays_64 : decode cX4_lays 64 = .ok (.lcmp, 1) := by decide +kernel
theorem dX4_lays_65 : decode cX4_lays 65 = .ok (.ifCond .ne 5, 3) := by decide +kernel
theorem dX4_lays_68 : decode cX4_lays 68 = .ok (.iconst 0, 1) := by decide +kernel
theorem dX4_lays_69 : decode cX4_lays 69 = .ok (.ireturn, 1) := by decide +kernel
theorem dX4_lays_70 : decode cX4_lays 70 = .ok (.aload_n 0, 1) := by decide +kernel
theorem dX4_lays_71 : decode cX4_lays 71 = .ok (.getfield 75, 3) := by decide +kernel
theorem dX4_lays_74 : decode cX4_lays 74 = .ok (.iconst 0, 1) := by decide +kernel
theorem dX4_lays_75 : decode cX4_lays 75 = .ok (.iload 4, 2) := by decide +kernel
theorem dX4_lays_77 : decode cX4_lays 77 = .ok (.bipush 64, 2) := by decide +kernel
theorem dX4_lays_79 : decode cX4_lays 79 = .ok (.if_icmp .ne 8, 3) := by decide +kernel
theorem dX4_lays_82 : decode cX4_lays 82 = .ok (.lload 6, 2) := by decide +kernel
theorem dX4_lays_84 : decode cX4_lays 84 = .ok (.goto 12, 3) := by decide +kernel
theorem dX4_lays_87 : decode cX4_lays 87 = .ok (.lload 6, 2) := by decide +kernel
theorem dX4_lays_89 : decode cX4_lays 89 = .ok (.lconst 1, 1) := by decide +kernel
theorem dX4_lays_90 : decode cX4_lays 90 = .ok (.iload 4, 2) := by decide +kernel
theorem dX4_lays_92 : decode cX4_lays 92 = .ok (.lshl, 1) := by decide +kernel
theorem dX4_lays_93 : decode cX4_lays 93 = .ok (.lconst 1, 1) := by decide +kernel
theorem dX4_lays_94 : decode cX4_lays 94 = .ok (.lsub, 1) := by decide +kernel
theorem dX4_lays_95 : decode cX4_lays 95 = .ok (.land, 1) := by decide +kernel
theorem dX4_lays_96 : decode cX4_lays 96 = .ok (.lastore, 1) := by decide +kernel
theorem dX4_lays_97 : decode cX4_lays 97 = .ok (.aload_n 0, 1) := by decide +kernel
theorem dX4_lays_98 : decode cX4_lays 98 = .ok (.getfield 75, 3) := by decide +kernel
theorem dX4_lays_101 : decode cX4_lays 101 = .ok (.iconst 1, 1) := by decide +kernel
theorem dX4_lays_102 : decode cX4_lays 102 = .ok (.lconst 0, 1) := by decide +kernel
theorem dX4_lays_103 : decode cX4_lays 103 = .ok (.lastore, 1) := by decide +kernel
theorem dX4_lays_104 : decode cX4_lays 104 = .ok (.aload_n 0, 1) := by decide +kernel
theorem dX4_lays_105 : decode cX4_lays 105 = .ok (.getfield 75, 3) := by decide +kernel
theorem dX4_lays_108 : decode cX4_lays 108 = .ok (.iconst 2, 1) := by decide +kernel
theorem dX4_lays_109 : decode cX4_lays 109 = .ok (.lconst 0, 1) := by decide +kernel
theorem dX4_lays_110 : decode cX4_lays 110 = .ok (.lastore, 1) := by decide +kernel
theorem dX4_lays_111 : decode cX4_lays 111 = .ok (.aload_n 0, 1) := by decide +kernel
theorem dX4_lays_112 : decode cX4_lays 112 = .ok (.getfield 75, 3) := by decide +kernel
theorem dX4_lays_115 : decode cX4_lays 115 = .ok (.iconst 3, 1) := by decide +kernel
theorem dX4_lays_116 : decode cX4_lays 116 = .ok (.lconst 0, 1) := by decide +kernel
theorem dX4_lays_117 : decode cX4_lays 117 = .ok (.lastore, 1) := by decide +kernel
theorem dX4_lays_118 : decode cX4_lays 118 = .ok (.iconst 1, 1) := by decide +kernel
theorem dX4_lays_119 : decode cX4_lays 119 = .ok (.ireturn, 1) := by decide +kernel
theorem dX4_lays_120 : decode cX4_lays 120 = .ok (.aload_n 0, 1) := by decide +kernel
theorem dX4_lays_121 : decode cX4_lays 121 = .ok (.getfield 75, 3) := by decide +kernel
theorem dX4_lays_124 : decode cX4_lays 124 = .ok (.iconst 2, 1) := by decide +kernel
theorem dX4_lays_125 : decode cX4_lays 125 = .ok (.lconst 0, 1) := by decide +kernel
theorem dX4_lays_126 : decode cX4_lays 126 = .ok (.lastore, 1) := by decide +kernel
theorem dX4_lays_127 : decode cX4_lays 127 = .ok (.aload_n 0, 1) := by decide +kernel
theorem dX4_lays_128 : decode cX4_lays 128 = .ok (.getfield 75, 3) := by decide +kernel
theorem dX4_lays_131 : decode cX4_lays 131 = .ok (.iconst 3, 1) := by decide +kernel
theorem dX4_lays_132 : decode cX4_lays 132 = .ok (.lconst 0, 1) := by decide +kernel
theorem dX4_lays_133 : decode cX4_lays 133 = .ok (.lastore, 1) := by decide +kernel
theorem dX4_lays_134 : decode cX4_lays 134 = .ok (.iload_n 2, 1) := by decide +kernel
theorem dX4_lays_135 : decode cX4_lays 135 = .ok (.ifCond .ne 74, 3) := by decide +kernel
theorem dX4_lays_138 : decode cX4_lays 138 = .ok (.iconst 0, 1) := by decide +kernel
theorem dX4_lays_139 : decode cX4_lays 139 = .ok (.istore 4, 2) := by decide +kernel
theorem dX4_lays_141 : decode cX4_lays 141 = .ok (.iload 4, 2) := by decide +kernel
theorem dX4_lays_143 : decode cX4_lays 143 = .ok (.iconst 4, 1) := by decide +kernel
theorem dX4_lays_144 : decode cX4_lays 144 = .ok (.if_icmp .ge 27, 3) := by decide +kernel
theorem dX4_lays_147 : decode cX4_lays 147 = .ok (.aload_n 0, 1) := by decide +kernel
theorem dX4_lays_148 : decode cX4_lays 148 = .ok (.getfield 75, 3) := by decide +kernel
theorem dX4_lays_151 : decode cX4_lays 151 = .ok (.iload 4, 2) := by decide +kernel
theorem dX4_lays_153 : decode cX4_lays 153 = .ok (.aload_n 0, 1) := by decide +kernel
theorem dX4_lays_154 : decode cX4_lays 154 = .ok (.getfield 47, 3) := by decide +kernel
theorem dX4_lays_157 : decode cX4_lays 157 = .ok (.iconst 4, 1) := by decide +kernel
theorem dX4_lays_158 : decode cX4_lays 158 = .ok (.iload_n 1, 1) := by decide +kernel
theorem dX4_lays_159 : decode cX4_lays 159 = .ok (.imul, 1) := by decide +kernel
theorem dX4_lays_160 : decode cX4_lays 160 = .ok (.iload 4, 2) := by decide +kernel
theorem dX4_lays_162 : decode cX4_lays 162 = .ok (.iadd, 1) := by decide +kernel
theorem dX4_lays_163 : decode cX4_lays 163 = .ok (.laload, 1) := by decide +kernel
theorem dX4_lays_164 : decode cX4_lays 164 = .ok (.lastore, 1) := by decide +kernel
theorem dX4_lays_165 : decode cX4_lays 165 = .ok (.iinc 4 1, 3) := by decide +kernel
theorem dX4_lays_168 : decode cX4_lays 168 = .ok (.goto (-27), 3) := by decide +kernel
theorem dX4_lays_171 : decode cX4_lays 171 = .ok (.aload_n 0, 1) := by decide +kernel
theorem dX4_lays_172 : decode cX4_lays 172 = .ok (.getfield 75, 3) := by decide +kernel
theorem dX4_lays_175 : decode cX4_lays 175 = .ok (.iconst 0, 1) := by decide +kernel
theorem dX4_lays_176 : decode cX4_lays 176 = .ok (.laload, 1) := by decide +kernel
theorem dX4_lays_177 : decode cX4_lays 177 = .ok (.aload_n 0, 1) := by decide +kernel
theorem dX4_lays_178 : decode cX4_lays 178 = .ok (.getfield 75, 3) := by decide +kernel
theorem dX4_lays_181 : decode cX4_lays 181 = .ok (.iconst 2, 1) := by decide +kernel
theorem dX4_lays_182 : decode cX4_lays 182 = .ok (.laload, 1) := by decide +kernel
theorem dX4_lays_183 : decode cX4_lays 183 = .ok (.lcmp, 1) := by decide +kernel
theorem dX4_lays_184 : decode cX4_lays 184 = .ok (.ifCond .ne 19, 3) := by decide +kernel
theorem dX4_lays_187 : decode cX4_lays 187 = .ok (.aload_n 0, 1) := by decide +kernel
theorem dX4_lays_188 : decode cX4_lays 188 = .ok (.getfield 75, 3) := by decide +kernel
theorem dX4_lays_191 : decode cX4_lays 191 = .ok (.iconst 1, 1) := by decide +kernel
theorem dX4_lays_192 : decode cX4_lays 192 = .ok (.laload, 1) := by decide +kernel
theorem dX4_lays_193 : decode cX4_lays 193 = .ok (.aload_n 0, 1) := by decide +kernel
theorem dX4_lays_194 : decode cX4_lays 194 = .ok (.getfield 75, 3) := by decide +kernel
theorem dX4_lays_197 : decode cX4_lays 197 = .ok (.iconst 3, 1) := by decide +kernel
theorem dX4_lays_198 : decode cX4_lays 198 = .ok (.laload, 1) := by decide +kernel
theorem dX4_lays_199 : decode cX4_lays 199 = .ok (.lcmp, 1) := by decide +kernel
theorem dX4_lays_200 : decode cX4_lays 200 = .ok (.ifCond .eq 7, 3) := by decide +kernel
theorem dX4_lays_203 : decode cX4_lays 203 = .ok (.iconst 1, 1) := by decide +kernel
theorem dX4_lays_204 : decode cX4_lays 204 = .ok (.goto 4, 3) := by decide +kernel
theorem dX4_lays_207 : decode cX4_lays 207 = .ok (.iconst 0, 1) := by decide +kernel
theorem dX4_lays_208 : decode cX4_lays 208 = .ok (.ireturn, 1) := by decide +kernel
theorem dX4_lays_209 : decode cX4_lays 209 = .ok (.aload_n 0, 1) := by decide +kernel
theorem dX4_lays_210 : decode cX4_lays 210 = .ok (.getfield 75, 3) := by decide +kernel
theorem dX4_lays_213 : decode cX4_lays 213 = .ok (.iconst 0, 1) := by decide +kernel
theorem dX4_lays_214 : decode cX4_lays 214 = .ok (.aload_n 0, 1) := by decide +kernel
theorem dX4_lays_215 : decode cX4_lays 215 = .ok (.getfield 47, 3) := by decide +kernel
theorem dX4_lays_218 : decode cX4_lays 218 = .ok (.iconst 4, 1) := by decide +kernel
theorem dX4_lays_219 : decode cX4_lays 219 = .ok (.iload_n 1, 1) := by decide +kernel
theorem dX4_lays_220 : decode cX4_lays 220 = .ok (.imul, 1) := by decide +kernel
theorem dX4_lays_221 : decode cX4_lays 221 = .ok (.iconst 2, 1) := by decide +kernel
theorem dX4_lays_222 : decode cX4_lays 222 = .ok (.iload_n 3, 1) := by decide +kernel
theorem dX4_lays_223 : decode cX4_lays 223 = .ok (.imul, 1) := by decide +kernel
theorem dX4_lays_224 : decode cX4_lays 224 = .ok (.iadd, 1) := by decide +kernel
theorem dX4_lays_225 : decode cX4_lays 225 = .ok (.laload, 1) := by decide +kernel
theorem dX4_lays_226 : decode cX4_lays 226 = .ok (.lastore, 1) := by decide +kernel
theorem dX4_lays_227 : decode cX4_lays 227 = .ok (.aload_n 0, 1) := by decide +kernel
theorem dX4_lays_228 : decode cX4_lays 228 = .ok (.getfield 75, 3) := by decide +kernel
theorem dX4_lays_231 : decode cX4_lays 231 = .ok (.iconst 1, 1) := by decide +kernel
theorem dX4_lays_232 : decode cX4_lays 232 = .ok (.aload_n 0, 1) := by decide +kernel
theorem dX4_lays_233 : decode cX4_lays 233 = .ok (.getfield 47, 3) := by decide +kernel
theorem dX4_lays_236 : decode cX4_lays 236 = .ok (.iconst 4, 1) := by decide +kernel
theorem dX4_lays_237 : decode cX4_lays 237 = .ok (.iload_n 1, 1) := by decide +kernel
theorem dX4_lays_238 : decode cX4_lays 238 = .ok (.imul, 1) := by decide +kernel
theorem dX4_lays_239 : decode cX4_lays 239 = .ok (.iconst 2, 1) := by decide +kernel
theorem dX4_lays_240 : decode cX4_lays 240 = .ok (.iload_n 3, 1) := by decide +kernel
theorem dX4_lays_241 : decode cX4_lays 241 = .ok (.imul, 1) := by decide +kernel
theorem dX4_lays_242 : decode cX4_lays 242 = .ok (.iadd, 1) := by decide +kernel
theorem dX4_lays_243 : decode cX4_lays 243 = .ok (.iconst 1, 1) := by decide +kernel
theorem dX4_lays_244 : decode cX4_lays 244 = .ok (.iadd, 1) := by decide +kernel
theorem dX4_lays_245 : decode cX4_lays 245 = .ok (.laload, 1) := by decide +kernel
theorem dX4_lays_246 : decode cX4_lays 246 = .ok (.lastore, 1) := by decide +kernel
theorem dX4_lays_247 : decode cX4_lays 247 = .ok (.aload_n 0, 1) := by decide +kernel
theorem dX4_lays_248 : decode cX4_lays 248 = .ok (.getfield 75, 3) := by decide +kernel
theorem dX4_lays_251 : decode cX4_lays 251 = .ok (.iconst 0, 1) := by decide +kernel
theorem dX4_lays_252 : decode cX4_lays 252 = .ok (.laload, 1) := by decide +kernel
theorem dX4_lays_253 : decode cX4_lays 253 = .ok (.aload_n 0, 1) := by decide +kernel
theorem dX4_lays_254 : decode cX4_lays 254 = .ok (.getfield 75, 3) := by decide +kernel
theorem dX4_lays_257 : decode cX4_lays 257 = .ok (.iconst 1, 1) := by decide +kernel
theorem dX4_lays_258 : decode cX4_lays 258 = .ok (.laload, 1) := by decide +kernel
theorem dX4_lays_259 : decode cX4_lays 259 = .ok (.lcmp, 1) := by decide +kernel
theorem dX4_lays_260 : decode cX4_lays 260 = .ok (.ifCond .eq 7, 3) := by decide +kernel
theorem dX4_lays_263 : decode cX4_lays 263 = .ok (.iconst 1, 1) := by decide +kernel
theorem dX4_lays_264 : decode cX4_lays 264 = .ok (.goto 4, 3) := by decide +kernel
theorem dX4_lays_267 : decode cX4_lays 267 = .ok (.iconst 0, 1) := by decide +kernel
theorem dX4_lays_268 : decode cX4_lays 268 = .ok (.ireturn, 1) := by decide +kernel
theorem dX4_bucket_0 : decode cX4_bucket 0 = .ok (.iload_n 1, 1) := by decide +kernel
theorem dX4_bucket_1 : decode cX4_bucket 1 = .ok (.i2l, 1) := by decide +kernel
theorem dX4_bucket_2 : decode cX4_bucket 2 = .ok (.lstore_n 2, 1) := by decide +kernel
theorem dX4_bucket_3 : decode cX4_bucket 3 = .ok (.iconst 0, 1) := by decide +kernel
theorem dX4_bucket_4 : decode cX4_bucket 4 = .ok (.istore 4, 2) := by decide +kernel
theorem dX4_bucket_6 : decode cX4_bucket 6 = .ok (.iload 4, 2) := by decide +kernel
theorem dX4_bucket_8 : decode cX4_bucket 8 = .ok (.iconst 4, 1) := by decide +kernel
theorem dX4_bucket_9 : decode cX4_bucket 9 = .ok (.if_icmp .ge 34, 3) := by decide +kernel
theorem dX4_bucket_12 : decode cX4_bucket 12 = .ok (.lload_n 2, 1) := by decide +kernel
theorem dX4_bucket_13 : decode cX4_bucket 13 = .ok (.ldc2_w 152, 3) := by decide +kernel
theorem dX4_bucket_16 : decode cX4_bucket 16 = .ok (.lmul, 1) := by decide +kernel
theorem dX4_bucket_17 : decode cX4_bucket 17 = .ok (.aload_n 0, 1) := by decide +kernel
theorem dX4_bucket_18 : decode cX4_bucket 18 = .ok (.getfield 75, 3) := by decide +kernel
theorem dX4_bucket_21 : decode cX4_bucket 21 = .ok (.iload 4, 2) := by decide +kernel
theorem dX4_bucket_23 : decode cX4_bucket 23 = .ok (.laload, 1) := by decide +kernel
theorem dX4_bucket_24 : decode cX4_bucket 24 = .ok (.aload_n 0, 1) := by decide +kernel
theorem dX4_bucket_25 : decode cX4_bucket 25 = .ok (.getfield 75, 3) := by decide +kernel
theorem dX4_bucket_28 : decode cX4_bucket 28 = .ok (.iload 4, 2) := by decide +kernel
theorem dX4_bucket_30 : decode cX4_bucket 30 = .ok (.laload, 1) := by decide +kernel
theorem dX4_bucket_31 : decode cX4_bucket 31 = .ok (.bipush 29, 2) := by decide +kernel
theorem dX4_bucket_33 : decode cX4_bucket 33 = .ok (.lushr, 1) := by decide +kernel
theorem dX4_bucket_34 : decode cX4_bucket 34 = .ok (.lxor, 1) := by decide +kernel
theorem dX4_bucket_35 : decode cX4_bucket 35 = .ok (.ladd, 1) := by decide +kernel
theorem dX4_bucket_36 : decode cX4_bucket 36 = .ok (.lstore_n 2, 1) := by decide +kernel
theorem dX4_bucket_37 : decode cX4_bucket 37 = .ok (.iinc 4 1, 3) := by decide +kernel
theorem dX4_bucket_40 : decode cX4_bucket 40 = .ok (.goto (-34), 3) := by decide +kernel
theorem dX4_bucket_43 : decode cX4_bucket 43 = .ok (.lload_n 2, 1) := by decide +kernel
theorem dX4_bucket_44 : decode cX4_bucket 44 = .ok (.bipush 7, 2) := by decide +kernel
theorem dX4_bucket_46 : decode cX4_bucket 46 = .ok (.lushr, 1) := by decide +kernel
theorem dX4_bucket_47 : decode cX4_bucket 47 = .ok (.lload_n 2, 1) := by decide +kernel
theorem dX4_bucket_48 : decode cX4_bucket 48 = .ok (.bipush 31, 2) := by decide +kernel
theorem dX4_bucket_50 : decode cX4_bucket 50 = .ok (.lushr, 1) := by decide +kernel
theorem dX4_bucket_51 : decode cX4_bucket 51 = .ok (.lxor, 1) := by decide +kernel
theorem dX4_bucket_52 : decode cX4_bucket 52 = .ok (.l2i, 1) := by decide +kernel
theorem dX4_bucket_53 : decode cX4_bucket 53 = .ok (.sipush 511, 3) := by decide +kernel
theorem dX4_bucket_56 : decode cX4_bucket 56 = .ok (.iand, 1) := by decide +kernel
theorem dX4_bucket_57 : decode cX4_bucket 57 = .ok (.ireturn, 1) := by decide +kernel
theorem dX4_nodeFor_0 : decode cX4_nodeFor 0 = .ok (.aload_n 0, 1) := by decide +kernel
theorem dX4_nodeFor_1 : decode cX4_nodeFor 1 = .ok (.iload_n 1, 1) := by decide +kernel
theorem dX4_nodeFor_2 : decode cX4_nodeFor 2 = .ok (.invokevirtual 154, 3) := by decide +kernel
theorem dX4_nodeFor_5 : decode cX4_nodeFor 5 = .ok (.istore_n 2, 1) := by decide +kernel
theorem dX4_nodeFor_6 : decode cX4_nodeFor 6 = .ok (.aload_n 0, 1) := by decide +kernel
theorem dX4_nodeFor_7 : decode cX4_nodeFor 7 = .ok (.getfield 69, 3) := by decide +kernel
theorem dX4_nodeFor_10 : decode cX4_nodeFor 10 = .ok (.iload_n 2, 1) := by decide +kernel
theorem dX4_nodeFor_11 : decode cX4_nodeFor 11 = .ok (.iaload, 1) := by decide +kernel
theorem dX4_nodeFor_12 : decode cX4_nodeFor 12 = .ok (.istore_n 3, 1) := by decide +kernel
theorem dX4_nodeFor_13 : decode cX4_nodeFor 13 = .ok (.iload_n 3, 1) := by decide +kernel
theorem dX4_nodeFor_14 : decode cX4_nodeFor 14 = .ok (.ifCond .lt 103, 3) := by decide +kernel
theorem dX4_nodeFor_17 : decode cX4_nodeFor 17 = .ok (.aload_n 0, 1) := by decide +kernel
theorem dX4_nodeFor_18 : decode cX4_nodeFor 18 = .ok (.getfield 57, 3) := by decide +kernel
theorem dX4_nodeFor_21 : decode cX4_nodeFor 21 = .ok (.iload_n 3, 1) := by decide +kernel
theorem dX4_nodeFor_22 : decode cX4_nodeFor 22 = .ok (.iaload, 1) := by decide +kernel
theorem dX4_nodeFor_23 : decode cX4_nodeFor 23 = .ok (.iload_n 1, 1) := by decide +kernel
theorem dX4_nodeFor_24 : decode cX4_nodeFor 24 = .ok (.if_icmp .ne 83, 3) := by decide +kernel
theorem dX4_nodeFor_27 : decode cX4_nodeFor 27 = .ok (.aload_n 0, 1) := by decide +kernel
theorem dX4_nodeFor_28 : decode cX4_nodeFor 28 = .ok (.getfield 60, 3) := by decide +kernel
theorem dX4_nodeFor_31 : decode cX4_nodeFor 31 = .ok (.iconst 4, 1) := by decide +kernel
theorem dX4_nodeFor_32 : decode cX4_nodeFor 32 = .ok (.iload_n 3, 1) := by decide +kernel
theorem dX4_nodeFor_33 : decode cX4_nodeFor 33 = .ok (.imul, 1) := by decide +kernel
theorem dX4_nodeFor_34 : decode cX4_nodeFor 34 = .ok (.laload, 1) := by decide +kernel
theorem dX4_nodeFor_35 : decode cX4_nodeFor 35 = .ok (.aload_n 0, 1) := by decide +kernel
theorem dX4_nodeFor_36 : decode cX4_nodeFor 36 = .ok (.getfield 75, 3) := by decide +kernel
theorem dX4_nodeFor_39 : decode cX4_nodeFor 39 = .ok (.iconst 0, 1) := by decide +kernel
theorem dX4_nodeFor_40 : decode cX4_nodeFor 40 = .ok (.laload, 1) := by decide +kernel
theorem dX4_nodeFor_41 : decode cX4_nodeFor 41 = .ok (.lcmp, 1) := by decide +kernel
theorem dX4_nodeFor_42 : decode cX4_nodeFor 42 = .ok (.ifCond .ne 65, 3) := by decide +kernel
theorem dX4_nodeFor_45 : decode cX4_nodeFor 45 = .ok (.aload_n 0, 1) := by decide +kernel
theorem dX4_nodeFor_46 : decode cX4_nodeFor 46 = .ok (.getfield 60, 3) := by decide +kernel
theorem dX4_nodeFor_49 : decode cX4_nodeFor 49 = .ok (.iconst 4, 1) := by decide +kernel
theorem dX4_nodeFor_50 : decode cX4_nodeFor 50 = .ok (.iload_n 3, 1) := by decide +kernel
theorem dX4_nodeFor_51 : decode cX4_nodeFor 51 = .ok (.imul, 1) := by decide +kernel
theorem dX4_nodeFor_52 : decode cX4_nodeFor 52 = .ok (.iconst 1, 1) := by decide +kernel
theorem dX4_nodeFor_53 : decode cX4_nodeFor 53 = .ok (.iadd, 1) := by decide +kernel
theorem dX4_nodeFor_54 : decode cX4_nodeFor 54 = .ok (.laload, 1) := by decide +kernel
theorem dX4_nodeFor_55 : decode cX4_nodeFor 55 = .ok (.aload_n 0, 1) := by decide +kernel
theorem dX4_nodeFor_56 : decode cX4_nodeFor 56 = .ok (.getfield 75, 3) := by decide +kernel
theorem dX4_nodeFor_59 : decode cX4_nodeFor 59 = .ok (.iconst 1, 1) := by decide +kernel
theorem dX4_nodeFor_60 : decode cX4_nodeFor 60 = .ok (.laload, 1) := by decide +kernel
theorem dX4_nodeFor_61 : decode cX4_nodeFor 61 = .ok (.lcmp, 1) := by decide +kernel
theorem dX4_nodeFor_62 : decode cX4_nodeFor 62 = .ok (.ifCond .ne 45, 3) := by decide +kernel
theorem dX4_nodeFor_65 : decode cX4_nodeFor 65 = .ok (.aload_n 0, 1) := by decide +kernel
theorem dX4_nodeFor_66 : decode cX4_nodeFor 66 = .ok (.getfield 60, 3) := by decide +kernel
theorem dX4_nodeFor_69 : decode cX4_nodeFor 69 = .ok (.iconst 4, 1) := by decide +kernel
theorem dX4_nodeFor_70 : decode cX4_nodeFor 70 = .ok (.iload_n 3, 1) := by decide +kernel
theorem dX4_nodeFor_71 : decode cX4_nodeFor 71 = .ok (.imul, 1) := by decide +kernel
theorem dX4_nodeFor_72 : decode cX4_nodeFor 72 = .ok (.iconst 2, 1) := by decide +kernel
theorem dX4_nodeFor_73 : decode cX4_nodeFor 73 = .ok (.iadd, 1) := by decide +kernel
theorem dX4_nodeFor_74 : decode cX4_nodeFor 74 = .ok (.laload, 1) := by decide +kernel
theorem dX4_nodeFor_75 : decode cX4_nodeFor 75 = .ok (.aload_n 0, 1) := by decide +kernel
theorem dX4_nodeFor_76 : decode cX4_nodeFor 76 = .ok (.getfield 75, 3) := by decide +kernel
theorem dX4_nodeFor_79 : decode cX4_nodeFor 79 = .ok (.iconst 2, 1) := by decide +kernel
theorem dX4_nodeFor_80 : decode cX4_nodeFor 80 = .ok (.laload, 1) := by decide +kernel
theorem dX4_nodeFor_81 : decode cX4_nodeFor 81 = .ok (.lcmp, 1) := by decide +kernel
theorem dX4_nodeFor_82 : decode cX4_nodeFor 82 = .ok (.ifCond .ne 25, 3) := by decide +kernel
theorem dX4_nodeFor_85 : decode cX4_nodeFor 85 = .ok (.aload_n 0, 1) := by decide +kernel
theorem dX4_nodeFor_86 : decode cX4_nodeFor 86 = .ok (.getfield 60, 3) := by decide +kernel
theorem dX4_nodeFor_89 : decode cX4_nodeFor 89 = .ok (.iconst 4, 1) := by decide +kernel
theorem dX4_nodeFor_90 : decode cX4_nodeFor 90 = .ok (.iload_n 3, 1) := by decide +kernel
theorem dX4_nodeFor_91 : decode cX4_nodeFor 91 = .ok (.imul, 1) := by decide +kernel
theorem dX4_nodeFor_92 : decode cX4_nodeFor 92 = .ok (.iconst 3, 1) := by decide +kernel
theorem dX4_nodeFor_93 : decode cX4_nodeFor 93 = .ok (.iadd, 1) := by decide +kernel
theorem dX4_nodeFor_94 : decode cX4_nodeFor 94 = .ok (.laload, 1) := by decide +kernel
theorem dX4_nodeFor_95 : decode cX4_nodeFor 95 = .ok (.aload_n 0, 1) := by decide +kernel
theorem dX4_nodeFor_96 : decode cX4_nodeFor 96 = .ok (.getfield 75, 3) := by decide +kernel
theorem dX4_nodeFor_99 : decode cX4_nodeFor 99 = .ok (.iconst 3, 1) := by decide +kernel
theorem dX4_nodeFor_100 : decode cX4_nodeFor 100 = .ok (.laload, 1) := by decide +kernel
theorem dX4_nodeFor_101 : decode cX4_nodeFor 101 = .ok (.lcmp, 1) := by decide +kernel
theorem dX4_nodeFor_102 : decode cX4_nodeFor 102 = .ok (.ifCond .ne 5, 3) := by decide +kernel
theorem dX4_nodeFor_105 : decode cX4_nodeFor 105 = .ok (.iload_n 3, 1) := by decide +kernel
theorem dX4_nodeFor_106 : decode cX4_nodeFor 106 = .ok (.ireturn, 1) := by decide +kernel
theorem dX4_nodeFor_107 : decode cX4_nodeFor 107 = .ok (.aload_n 0, 1) := by decide +kernel
theorem dX4_nodeFor_108 : decode cX4_nodeFor 108 = .ok (.getfield 66, 3) := by decide +kernel
theorem dX4_nodeFor_111 : decode cX4_nodeFor 111 = .ok (.iload_n 3, 1) := by decide +kernel
theorem dX4_nodeFor_112 : decode cX4_nodeFor 112 = .ok (.iaload, 1) := by decide +kernel
theorem dX4_nodeFor_113 : decode cX4_nodeFor 113 = .ok (.istore_n 3, 1) := by decide +kernel
theorem dX4_nodeFor_114 : decode cX4_nodeFor 114 = .ok (.goto (-101), 3) := by decide +kernel
theorem dX4_nodeFor_117 : decode cX4_nodeFor 117 = .ok (.aload_n 0, 1) := by decide +kernel
theorem dX4_nodeFor_118 : decode cX4_nodeFor 118 = .ok (.getfield 157, 3) := by decide +kernel
theorem dX4_nodeFor_121 : decode cX4_nodeFor 121 = .ok (.istore_n 3, 1) := by decide +kernel
theorem dX4_nodeFor_122 : decode cX4_nodeFor 122 = .ok (.aload_n 0, 1) := by decide +kernel
theorem dX4_nodeFor_123 : decode cX4_nodeFor 123 = .ok (.aload_n 0, 1) := by decide +kernel
theorem dX4_nodeFor_124 : decode cX4_nodeFor 124 = .ok (.getfield 66, 3) := by decide +kernel
theorem dX4_nodeFor_127 : decode cX4_nodeFor 127 = .ok (.iload_n 3, 1) := by decide +kernel
theorem dX4_nodeFor_128 : decode cX4_nodeFor 128 = .ok (.iaload, 1) := by decide +kernel
theorem dX4_nodeFor_129 : decode cX4_nodeFor 129 = .ok (.putfield 157, 3) := by decide +kernel
theorem dX4_nodeFor_132 : decode cX4_nodeFor 132 = .ok (.aload_n 0, 1) := by decide +kernel
theorem dX4_nodeFor_133 : decode cX4_nodeFor 133 = .ok (.getfield 57, 3) := by decide +kernel
theorem dX4_nodeFor_136 : decode cX4_nodeFor 136 = .ok (.iload_n 3, 1) := by decide +kernel
theorem dX4_nodeFor_137 : decode cX4_nodeFor 137 = .ok (.iload_n 1, 1) := by decide +kernel
theorem dX4_nodeFor_138 : decode cX4_nodeFor 138 = .ok (.iastore, 1) := by decide +kernel
theorem dX4_nodeFor_139 : decode cX4_nodeFor 139 = .ok (.iconst 0, 1) := by decide +kernel
theorem dX4_nodeFor_140 : decode cX4_nodeFor 140 = .ok (.istore 4, 2) := by decide +kernel
theorem dX4_nodeFor_142 : decode cX4_nodeFor 142 = .ok (.iload 4, 2) := by decide +kernel
theorem dX4_nodeFor_144 : decode cX4_nodeFor 144 = .ok (.iconst 4, 1) := by decide +kernel
theorem dX4_nodeFor_145 : decode cX4_nodeFor 145 = .ok (.if_icmp .ge 27, 3) := by decide +kernel
theorem dX4_nodeFor_148 : decode cX4_nodeFor 148 = .ok (.aload_n 0, 1) := by decide +kernel
theorem dX4_nodeFor_149 : decode cX4_nodeFor 149 = .ok (.getfield 60, 3) := by decide +kernel
theorem dX4_nodeFor_152 : decode cX4_nodeFor 152 = .ok (.iconst 4, 1) := by decide +kernel
theorem dX4_nodeFor_153 : decode cX4_nodeFor 153 = .ok (.iload_n 3, 1) := by decide +kernel
theorem dX4_nodeFor_154 : decode cX4_nodeFor 154 = .ok (.imul, 1) := by decide +kernel
theorem dX4_nodeFor_155 : decode cX4_nodeFor 155 = .ok (.iload 4, 2) := by decide +kernel
theorem dX4_nodeFor_157 : decode cX4_nodeFor 157 = .ok (.iadd, 1) := by decide +kernel
theorem dX4_nodeFor_158 : decode cX4_nodeFor 158 = .ok (.aload_n 0, 1) := by decide +kernel
theorem dX4_nodeFor_159 : decode cX4_nodeFor 159 = .ok (.getfield 75, 3) := by decide +kernel
theorem dX4_nodeFor_162 : decode cX4_nodeFor 162 = .ok (.iload 4, 2) := by decide +kernel
theorem dX4_nodeFor_164 : decode cX4_nodeFor 164 = .ok (.laload, 1) := by decide +kernel
theorem dX4_nodeFor_165 : decode cX4_nodeFor 165 = .ok (.lastore, 1) := by decide +kernel
theorem dX4_nodeFor_166 : decode cX4_nodeFor 166 = .ok (.iinc 4 1, 3) := by decide +kernel
theorem dX4_nodeFor_169 : decode cX4_nodeFor 169 = .ok (.goto (-27), 3) := by decide +kernel
theorem dX4_nodeFor_172 : decode cX4_nodeFor 172 = .ok (.aload_n 0, 1) := by decide +kernel
theorem dX4_nodeFor_173 : decode cX4_nodeFor 173 = .ok (.getfield 63, 3) := by decide +kernel
theorem dX4_nodeFor_176 : decode cX4_nodeFor 176 = .ok (.iload_n 3, 1) := by decide +kernel
theorem dX4_nodeFor_177 : decode cX4_nodeFor 177 = .ok (.iconst 0, 1) := by decide +kernel
theorem dX4_nodeFor_178 : decode cX4_nodeFor 178 = .ok (.iastore, 1) := by decide +kernel
theorem dX4_nodeFor_179 : decode cX4_nodeFor 179 = .ok (.aload_n 0, 1) := by decide +kernel
theorem dX4_nodeFor_180 : decode cX4_nodeFor 180 = .ok (.getfield 66, 3) := by decide +kernel
theorem dX4_nodeFor_183 : decode cX4_nodeFor 183 = .ok (.iload_n 3, 1) := by decide +kernel
theorem dX4_nodeFor_184 : decode cX4_nodeFor 184 = .ok (.aload_n 0, 1) := by decide +kernel
theorem dX4_nodeFor_185 : decode cX4_nodeFor 185 = .ok (.getfield 69, 3) := by decide +kernel
theorem dX4_nodeFor_188 : decode cX4_nodeFor 188 = .ok (.iload_n 2, 1) := by decide +kernel
theorem dX4_nodeFor_189 : decode cX4_nodeFor 189 = .ok (.iaload, 1) := by decide +kernel
theorem dX4_nodeFor_190 : decode cX4_nodeFor 190 = .ok (.iastore, 1) := by decide +kernel
theorem dX4_nodeFor_191 : decode cX4_nodeFor 191 = .ok (.aload_n 0, 1) := by decide +kernel
theorem dX4_nodeFor_192 : decode cX4_nodeFor 192 = .ok (.getfield 69, 3) := by decide +kernel
theorem dX4_nodeFor_195 : decode cX4_nodeFor 195 = .ok (.iload_n 2, 1) := by decide +kernel
theorem dX4_nodeFor_196 : decode cX4_nodeFor 196 = .ok (.iload_n 3, 1) := by decide +kernel
theorem dX4_nodeFor_197 : decode cX4_nodeFor 197 = .ok (.iastore, 1) := by decide +kernel
theorem dX4_nodeFor_198 : decode cX4_nodeFor 198 = .ok (.iload_n 3, 1) := by decide +kernel
theorem dX4_nodeFor_199 : decode cX4_nodeFor 199 = .ok (.ireturn, 1) := by decide +kernel
theorem dX4_unlink_0 : decode cX4_unlink 0 = .ok (.iconst 0, 1) := by decide +kernel
theorem dX4_unlink_1 : decode cX4_unlink 1 = .ok (.istore_n 2, 1) := by decide +kernel
theorem dX4_unlink_2 : decode cX4_unlink 2 = .ok (.iload_n 2, 1) := by decide +kernel
theorem dX4_unlink_3 : decode cX4_unlink 3 = .ok (.iconst 4, 1) := by decide +kernel
theorem dX4_unlink_4 : decode cX4_unlink 4 = .ok (.if_icmp .ge 25, 3) := by decide +kernel
theorem dX4_unlink_7 : decode cX4_unlink 7 = .ok (.aload_n 0, 1) := by decide +kernel
theorem dX4_unlink_8 : decode cX4_unlink 8 = .ok (.getfield 75, 3) := by decide +kernel
theorem dX4_unlink_11 : decode cX4_unlink 11 = .ok (.iload_n 2, 1) := by decide +kernel
theorem dX4_unlink_12 : decode cX4_unlink 12 = .ok (.aload_n 0, 1) := by decide +kernel
theorem dX4_unlink_13 : decode cX4_unlink 13 = .ok (.getfield 60, 3) := by decide +kernel
theorem dX4_unlink_16 : decode cX4_unlink 16 = .ok (.iconst 4, 1) := by decide +kernel
theorem dX4_unlink_17 : decode cX4_unlink 17 = .ok (.iload_n 1, 1) := by decide +kernel
theorem dX4_unlink_18 : decode cX4_unlink 18 = .ok (.imul, 1) := by decide +kernel
theorem dX4_unlink_19 : decode cX4_unlink 19 = .ok (.iload_n 2, 1) := by decide +kernel
theorem dX4_unlink_20 : decode cX4_unlink 20 = .ok (.iadd, 1) := by decide +kernel
theorem dX4_unlink_21 : decode cX4_unlink 21 = .ok (.laload, 1) := by decide +kernel
theorem dX4_unlink_22 : decode cX4_unlink 22 = .ok (.lastore, 1) := by decide +kernel
theorem dX4_unlink_23 : decode cX4_unlink 23 = .ok (.iinc 2 1, 3) := by decide +kernel
theorem dX4_unlink_26 : decode cX4_unlink 26 = .ok (.goto (-24), 3) := by decide +kernel
theorem dX4_unlink_29 : decode cX4_unlink 29 = .ok (.aload_n 0, 1) := by decide +kernel
theorem dX4_unlink_30 : decode cX4_unlink 30 = .ok (.aload_n 0, 1) := by decide +kernel
theorem dX4_unlink_31 : decode cX4_unlink 31 = .ok (.getfield 57, 3) := by decide +kernel
theorem dX4_unlink_34 : decode cX4_unlink 34 = .ok (.iload_n 1, 1) := by decide +kernel
theorem dX4_unlink_35 : decode cX4_unlink 35 = .ok (.iaload, 1) := by decide +kernel
theorem dX4_unlink_36 : decode cX4_unlink 36 = .ok (.invokevirtual 154, 3) := by decide +kernel
theorem dX4_unlink_39 : decode cX4_unlink 39 = .ok (.istore_n 2, 1) := by decide +kernel
theorem dX4_unlink_40 : decode cX4_unlink 40 = .ok (.aload_n 0, 1) := by decide +kernel
theorem dX4_unlink_41 : decode cX4_unlink 41 = .ok (.getfield 69, 3) := by decide +kernel
theorem dX4_unlink_44 : decode cX4_unlink 44 = .ok (.iload_n 2, 1) := by decide +kernel
theorem dX4_unlink_45 : decode cX4_unlink 45 = .ok (.iaload, 1) := by decide +kernel
theorem dX4_unlink_46 : decode cX4_unlink 46 = .ok (.iload_n 1, 1) := by decide +kernel
theorem dX4_unlink_47 : decode cX4_unlink 47 = .ok (.if_icmp .ne 18, 3) := by decide +kernel
theorem dX4_unlink_50 : decode cX4_unlink 50 = .ok (.aload_n 0, 1) := by decide +kernel
theorem dX4_unlink_51 : decode cX4_unlink 51 = .ok (.getfield 69, 3) := by decide +kernel
theorem dX4_unlink_54 : decode cX4_unlink 54 = .ok (.iload_n 2, 1) := by decide +kernel
theorem dX4_unlink_55 : decode cX4_unlink 55 = .ok (.aload_n 0, 1) := by decide +kernel
theorem dX4_unlink_56 : decode cX4_unlink 56 = .ok (.getfield 66, 3) := by decide +kernel
theorem dX4_unlink_59 : decode cX4_unlink 59 = .ok (.iload_n 1, 1) := by decide +kernel
theorem dX4_unlink_60 : decode cX4_unlink 60 = .ok (.iaload, 1) := by decide +kernel
theorem dX4_unlink_61 : decode cX4_unlink 61 = .ok (.iastore, 1) := by decide +kernel
theorem dX4_unlink_62 : decode cX4_unlink 62 = .ok (.goto 42, 3) := by decide +kernel
theorem dX4_unlink_65 : decode cX4_unlink 65 = .ok (.aload_n 0, 1) := by decide +kernel
theorem dX4_unlink_66 : decode cX4_unlink 66 = .ok (.getfield 69, 3) := by decide +kernel
theorem dX4_unlink_69 : decode cX4_unlink 69 = .ok (.iload_n 2, 1) := by decide +kernel
theorem dX4_unlink_70 : decode cX4_unlink 70 = .ok (.iaload, 1) := by decide +kernel
theorem dX4_unlink_71 : decode cX4_unlink 71 = .ok (.istore_n 3, 1) := by decide +kernel
theorem dX4_unlink_72 : decode cX4_unlink 72 = .ok (.aload_n 0, 1) := by decide +kernel
theorem dX4_unlink_73 : decode cX4_unlink 73 = .ok (.getfield 66, 3) := by decide +kernel
theorem dX4_unlink_76 : decode cX4_unlink 76 = .ok (.iload_n 3, 1) := by decide +kernel
theorem dX4_unlink_77 : decode cX4_unlink 77 = .ok (.iaload, 1) := by decide +kernel
theorem dX4_unlink_78 : decode cX4_unlink 78 = .ok (.iload_n 1, 1) := by decide +kernel
theorem dX4_unlink_79 : decode cX4_unlink 79 = .ok (.if_icmp .eq 13, 3) := by decide +kernel
theorem dX4_unlink_82 : decode cX4_unlink 82 = .ok (.aload_n 0, 1) := by decide +kernel
theorem dX4_unlink_83 : decode cX4_unlink 83 = .ok (.getfield 66, 3) := by decide +kernel
theorem dX4_unlink_86 : decode cX4_unlink 86 = .ok (.iload_n 3, 1) := by decide +kernel
theorem dX4_unlink_87 : decode cX4_unlink 87 = .ok (.iaload, 1) := by decide +kernel
theorem dX4_unlink_88 : decode cX4_unlink 88 = .ok (.istore_n 3, 1) := by decide +kernel
theorem dX4_unlink_89 : decode cX4_unlink 89 = .ok (.goto (-17), 3) := by decide +kernel
theorem dX4_unlink_92 : decode cX4_unlink 92 = .ok (.aload_n 0, 1) := by decide +kernel
theorem dX4_unlink_93 : decode cX4_unlink 93 = .ok (.getfield 66, 3) := by decide +kernel
theorem dX4_unlink_96 : decode cX4_unlink 96 = .ok (.iload_n 3, 1) := by decide +kernel
theorem dX4_unlink_97 : decode cX4_unlink 97 = .ok (.aload_n 0, 1) := by decide +kernel
theorem dX4_unlink_98 : decode cX4_unlink 98 = .ok (.getfield 66, 3) := by decide +kernel
theorem dX4_unlink_101 : decode cX4_unlink 101 = .ok (.iload_n 1, 1) := by decide +kernel
theorem dX4_unlink_102 : decode cX4_unlink 102 = .ok (.iaload, 1) := by decide +kernel
theorem dX4_unlink_103 : decode cX4_unlink 103 = .ok (.iastore, 1) := by decide +kernel
theorem dX4_unlink_104 : decode cX4_unlink 104 = .ok (.aload_n 0, 1) := by decide +kernel
theorem dX4_unlink_105 : decode cX4_unlink 105 = .ok (.getfield 66, 3) := by decide +kernel
theorem dX4_unlink_108 : decode cX4_unlink 108 = .ok (.iload_n 1, 1) := by decide +kernel
theorem dX4_unlink_109 : decode cX4_unlink 109 = .ok (.aload_n 0, 1) := by decide +kernel
theorem dX4_unlink_110 : decode cX4_unlink 110 = .ok (.getfield 157, 3) := by decide +kernel
theorem dX4_unlink_113 : decode cX4_unlink 113 = .ok (.iastore, 1) := by decide +kernel
theorem dX4_unlink_114 : decode cX4_unlink 114 = .ok (.aload_n 0, 1) := by decide +kernel
theorem dX4_unlink_115 : decode cX4_unlink 115 = .ok (.iload_n 1, 1) := by decide +kernel
theorem dX4_unlink_116 : decode cX4_unlink 116 = .ok (.putfield 157, 3) := by decide +kernel
theorem dX4_unlink_119 : decode cX4_unlink 119 = .ok (.return_, 1) := by decide +kernel
theorem dX4_add_0 : decode cX4_add 0 = .ok (.aload_n 0, 1) := by decide +kernel
theorem dX4_add_1 : decode cX4_add 1 = .ok (.getfield 44, 3) := by decide +kernel
theorem dX4_add_4 : decode cX4_add 4 = .ok (.iload_n 1, 1) := by decide +kernel
theorem dX4_add_5 : decode cX4_add 5 = .ok (.iconst 1, 1) := by decide +kernel
theorem dX4_add_6 : decode cX4_add 6 = .ok (.bastore, 1) := by decide +kernel
theorem dX4_add_7 : decode cX4_add 7 = .ok (.aload_n 0, 1) := by decide +kernel
theorem dX4_add_8 : decode cX4_add 8 = .ok (.getfield 51, 3) := by decide +kernel
theorem dX4_add_11 : decode cX4_add 11 = .ok (.iload_n 1, 1) := by decide +kernel
theorem dX4_add_12 : decode cX4_add 12 = .ok (.iconst 0, 1) := by decide +kernel
theorem dX4_add_13 : decode cX4_add 13 = .ok (.iastore, 1) := by decide +kernel
theorem dX4_add_14 : decode cX4_add 14 = .ok (.aload_n 0, 1) := by decide +kernel
theorem dX4_add_15 : decode cX4_add 15 = .ok (.dup, 1) := by decide +kernel
theorem dX4_add_16 : decode cX4_add 16 = .ok (.getfield 160, 3) := by decide +kernel
theorem dX4_add_19 : decode cX4_add 19 = .ok (.iconst 1, 1) := by decide +kernel
theorem dX4_add_20 : decode cX4_add 20 = .ok (.iadd, 1) := by decide +kernel
theorem dX4_add_21 : decode cX4_add 21 = .ok (.putfield 160, 3) := by decide +kernel
theorem dX4_add_24 : decode cX4_add 24 = .ok (.iconst 0, 1) := by decide +kernel
theorem dX4_add_25 : decode cX4_add 25 = .ok (.istore_n 2, 1) := by decide +kernel
theorem dX4_add_26 : decode cX4_add 26 = .ok (.iload_n 2, 1) := by decide +kernel
theorem dX4_add_27 : decode cX4_add 27 = .ok (.bipush 8, 2) := by decide +kernel
theorem dX4_add_29 : decode cX4_add 29 = .ok (.if_icmp .ge 130, 3) := by decide +kernel
theorem dX4_add_32 : decode cX4_add 32 = .ok (.iconst 0, 1) := by decide +kernel
theorem dX4_add_33 : decode cX4_add 33 = .ok (.istore_n 3, 1) := by decide +kernel
theorem dX4_add_34 : decode cX4_add 34 = .ok (.iload_n 3, 1) := by decide +kernel
theorem dX4_add_35 : decode cX4_add 35 = .ok (.iconst 1, 1) := by decide +kernel
theorem dX4_add_36 : decode cX4_add 36 = .ok (.iload_n 2, 1) := by decide +kernel
theorem dX4_add_37 : decode cX4_add 37 = .ok (.ishl, 1) := by decide +kernel
theorem dX4_add_38 : decode cX4_add 38 = .ok (.if_icmp .ge 115, 3) := by decide +kernel
theorem dX4_add_41 : decode cX4_add 41 = .ok (.aload_n 0, 1) := by decide +kernel
theorem dX4_add_42 : decode cX4_add 42 = .ok (.iload_n 1, 1) := by decide +kernel
theorem dX4_add_43 : decode cX4_add 43 = .ok (.iload_n 2, 1) := by decide +kernel
theorem dX4_add_44 : decode cX4_add 44 = .ok (.iload_n 3, 1) := by decide +kernel
theorem dX4_add_45 : decode cX4_add 45 = .ok (.invokevirtual 163, 3) := by decide +kernel
theorem dX4_add_48 : decode cX4_add 48 = .ok (.ifCond .eq 99, 3) := by decide +kernel
theorem dX4_add_51 : decode cX4_add 51 = .ok (.aload_n 0, 1) := by decide +kernel
theorem dX4_add_52 : decode cX4_add 52 = .ok (.iload_n 2, 1) := by decide +kernel
theorem dX4_add_53 : decode cX4_add 53 = .ok (.invokevirtual 166, 3) := by decide +kernel
theorem dX4_add_56 : decode cX4_add 56 = .ok (.istore 4, 2) := by decide +kernel
theorem dX4_add_58 : decode cX4_add 58 = .ok (.aload_n 0, 1) := by decide +kernel
theorem dX4_add_59 : decode cX4_add 59 = .ok (.getfield 72, 3) := by decide +kernel
theorem dX4_add_62 : decode cX4_add 62 = .ok (.iload 4, 2) := by decide +kernel
theorem dX4_add_64 : decode cX4_add 64 = .ok (.iaload, 1) := by decide +kernel
theorem dX4_add_65 : decode cX4_add 65 = .ok (.aload_n 0, 1) := by decide +kernel
theorem dX4_add_66 : decode cX4_add 66 = .ok (.getfield 160, 3) := by decide +kernel
theorem dX4_add_69 : decode cX4_add 69 = .ok (.if_icmp .eq 78, 3) := by decide +kernel
theorem dX4_add_72 : decode cX4_add 72 = .ok (.aload_n 0, 1) := by decide +kernel
theorem dX4_add_73 : decode cX4_add 73 = .ok (.getfield 72, 3) := by decide +kernel
theorem dX4_add_76 : decode cX4_add 76 = .ok (.iload 4, 2) := by decide +kernel
theorem dX4_add_78 : decode cX4_add 78 = .ok (.aload_n 0, 1) := by decide +kernel
theorem dX4_add_79 : decode cX4_add 79 = .ok (.getfield 160, 3) := by decide +kernel
theorem dX4_add_82 : decode cX4_add 82 = .ok (.iastore, 1) := by decide +kernel
theorem dX4_add_83 : decode cX4_add 83 = .ok (.aload_n 0, 1) := by decide +kernel
theorem dX4_add_84 : decode cX4_add 84 = .ok (.dup, 1) := by decide +kernel
theorem dX4_add_85 : decode cX4_add 85 = .ok (.getfield 149, 3) := by decide +kernel
theorem dX4_add_88 : decode cX4_add 88 = .ok (.aload_n 0, 1) := by decide +kernel
theorem dX4_add_89 : decode cX4_add 89 = .ok (.getfield 63, 3) := by decide +kernel
theorem dX4_add_92 : decode cX4_add 92 = .ok (.iload 4, 2) := by decide +kernel
theorem dX4_add_94 : decode cX4_add 94 = .ok (.iaload, 1) := by decide +kernel
theorem dX4_add_95 : decode cX4_add 95 = .ok (.ifCond .ne 7, 3) := by decide +kernel
theorem dX4_add_98 : decode cX4_add 98 = .ok (.iconst 1, 1) := by decide +kernel
theorem dX4_add_99 : decode cX4_add 99 = .ok (.goto 4, 3) := by decide +kernel
theorem dX4_add_102 : decode cX4_add 102 = .ok (.iconst 0, 1) := by decide +kernel
theorem dX4_add_103 : decode cX4_add 103 = .ok (.iadd, 1) := by decide +kernel
theorem dX4_add_104 : decode cX4_add 104 = .ok (.putfield 149, 3) := by decide +kernel
theorem dX4_add_107 : decode cX4_add 107 = .ok (.aload_n 0, 1) := by decide +kernel
theorem dX4_add_108 : decode cX4_add 108 = .ok (.getfield 63, 3) := by decide +kernel
theorem dX4_add_111 : decode cX4_add 111 = .ok (.iload 4, 2) := by decide +kernel
theorem dX4_add_113 : decode cX4_add 113 = .ok (.dup2, 1) := by decide +kernel
theorem dX4_add_114 : decode cX4_add 114 = .ok (.iaload, 1) := by decide +kernel
theorem dX4_add_115 : decode cX4_add 115 = .ok (.iconst 1, 1) := by decide +kernel
theorem dX4_add_116 : decode cX4_add 116 = .ok (.iadd, 1) := by decide +kernel
theorem dX4_add_117 : decode cX4_add 117 = .ok (.iastore, 1) := by decide +kernel
theorem dX4_add_118 : decode cX4_add 118 = .ok (.aload_n 0, 1) := by decide +kernel
theorem dX4_add_119 : decode cX4_add 119 = .ok (.getfield 54, 3) := by decide +kernel
theorem dX4_add_122 : decode cX4_add 122 = .ok (.sipush 255, 3) := by decide +kernel
theorem dX4_add_125 : decode cX4_add 125 = .ok (.iload_n 1, 1) := by decide +kernel
theorem dX4_add_126 : decode cX4_add 126 = .ok (.imul, 1) := by decide +kernel
theorem dX4_add_127 : decode cX4_add 127 = .ok (.aload_n 0, 1) := by decide +kernel
theorem dX4_add_128 : decode cX4_add 128 = .ok (.getfield 51, 3) := by decide +kernel
theorem dX4_add_131 : decode cX4_add 131 = .ok (.iload_n 1, 1) := by decide +kernel
theorem dX4_add_132 : decode cX4_add 132 = .ok (.iaload, 1) := by decide +kernel
theorem dX4_add_133 : decode cX4_add 133 = .ok (.iadd, 1) := by decide +kernel
theorem dX4_add_134 : decode cX4_add 134 = .ok (.iload 4, 2) := by decide +kernel
theorem dX4_add_136 : decode cX4_add 136 = .ok (.iastore, 1) := by decide +kernel
theorem dX4_add_137 : decode cX4_add 137 = .ok (.aload_n 0, 1) := by decide +kernel
theorem dX4_add_138 : decode cX4_add 138 = .ok (.getfield 51, 3) := by decide +kernel
theorem dX4_add_141 : decode cX4_add 141 = .ok (.iload_n 1, 1) := by decide +kernel
theorem dX4_add_142 : decode cX4_add 142 = .ok (.dup2, 1) := by decide +kernel
theorem dX4_add_143 : decode cX4_add 143 = .ok (.iaload, 1) := by decide +kernel
theorem dX4_add_144 : decode cX4_add 144 = .ok (.iconst 1, 1) := by decide +kernel
theorem dX4_add_145 : decode cX4_add 145 = .ok (.iadd, 1) := by decide +kernel
theorem dX4_add_146 : decode cX4_add 146 = .ok (.iastore, 1) := by decide +kernel
theorem dX4_add_147 : decode cX4_add 147 = .ok (.iinc 3 1, 3) := by decide +kernel
theorem dX4_add_150 : decode cX4_add 150 = .ok (.goto (-116), 3) := by decide +kernel
theorem dX4_add_153 : decode cX4_add 153 = .ok (.iinc 2 1, 3) := by decide +kernel
theorem dX4_add_156 : decode cX4_add 156 = .ok (.goto (-130), 3) := by decide +kernel
theorem dX4_add_159 : decode cX4_add 159 = .ok (.return_, 1) := by decide +kernel
theorem dX4_remove_0 : decode cX4_remove 0 = .ok (.iconst 0, 1) := by decide +kernel
theorem dX4_remove_1 : decode cX4_remove 1 = .ok (.istore_n 2, 1) := by decide +kernel
theorem dX4_remove_2 : decode cX4_remove 2 = .ok (.iload_n 2, 1) := by decide +kernel
theorem dX4_remove_3 : decode cX4_remove 3 = .ok (.aload_n 0, 1) := by decide +kernel
theorem dX4_remove_4 : decode cX4_remove 4 = .ok (.getfield 51, 3) := by decide +kernel
theorem dX4_remove_7 : decode cX4_remove 7 = .ok (.iload_n 1, 1) := by decide +kernel
theorem dX4_remove_8 : decode cX4_remove 8 = .ok (.iaload, 1) := by decide +kernel
theorem dX4_remove_9 : decode cX4_remove 9 = .ok (.if_icmp .ge 72, 3) := by decide +kernel
theorem dX4_remove_12 : decode cX4_remove 12 = .ok (.aload_n 0, 1) := by decide +kernel
theorem dX4_remove_13 : decode cX4_remove 13 = .ok (.getfield 44, 3) := by decide +kernel
theorem dX4_remove_16 : decode cX4_remove 16 = .ok (.iload_n 1, 1) := by decide +kernel
theorem dX4_remove_17 : decode cX4_remove 17 = .ok (.baload, 1) := by decide +kernel
theorem dX4_remove_18 : decode cX4_remove 18 = .ok (.ifCond .eq 63, 3) := by decide +kernel
theorem dX4_remove_21 : decode cX4_remove 21 = .ok (.aload_n 0, 1) := by decide +kernel
theorem dX4_remove_22 : decode cX4_remove 22 = .ok (.getfield 54, 3) := by decide +kernel
theorem dX4_remove_25 : decode cX4_remove 25 = .ok (.sipush 255, 3) := by decide +kernel
theorem dX4_remove_28 : decode cX4_remove 28 = .ok (.iload_n 1, 1) := by decide +kernel
theorem dX4_remove_29 : decode cX4_remove 29 = .ok (.imul, 1) := by decide +kernel
theorem dX4_remove_30 : decode cX4_remove 30 = .ok (.iload_n 2, 1) := by decide +kernel
theorem dX4_remove_31 : decode cX4_remove 31 = .ok (.iadd, 1) := by decide +kernel
theorem dX4_remove_32 : decode cX4_remove 32 = .ok (.iaload, 1) := by decide +kernel
theorem dX4_remove_33 : decode cX4_remove 33 = .ok (.istore_n 3, 1) := by decide +kernel
theorem dX4_remove_34 : decode cX4_remove 34 = .ok (.aload_n 0, 1) := by decide +kernel
theorem dX4_remove_35 : decode cX4_remove 35 = .ok (.getfield 63, 3) := by decide +kernel
theorem dX4_remove_38 : decode cX4_remove 38 = .ok (.iload_n 3, 1) := by decide +kernel
theorem dX4_remove_39 : decode cX4_remove 39 = .ok (.dup2, 1) := by decide +kernel
theorem dX4_remove_40 : decode cX4_remove 40 = .ok (.iaload, 1) := by decide +kernel
theorem dX4_remove_41 : decode cX4_remove 41 = .ok (.iconst 1, 1) := by decide +kernel
theorem dX4_remove_42 : decode cX4_remove 42 = .ok (.isub, 1) := by decide +kernel
theorem dX4_remove_43 : decode cX4_remove 43 = .ok (.iastore, 1) := by decide +kernel
theorem dX4_remove_44 : decode cX4_remove 44 = .ok (.aload_n 0, 1) := by decide +kernel
theorem dX4_remove_45 : decode cX4_remove 45 = .ok (.getfield 63, 3) := by decide +kernel
theorem dX4_remove_48 : decode cX4_remove 48 = .ok (.iload_n 3, 1) := by decide +kernel
theorem dX4_remove_49 : decode cX4_remove 49 = .ok (.iaload, 1) := by decide +kernel
theorem dX4_remove_50 : decode cX4_remove 50 = .ok (.ifCond .ne 25, 3) := by decide +kernel
theorem dX4_remove_53 : decode cX4_remove 53 = .ok (.aload_n 0, 1) := by decide +kernel
theorem dX4_remove_54 : decode cX4_remove 54 = .ok (.dup, 1) := by decide +kernel
theorem dX4_remove_55 : decode cX4_remove 55 = .ok (.getfield 149, 3) := by decide +kernel
theorem dX4_remove_58 : decode cX4_remove 58 = .ok (.iconst 1, 1) := by decide +kernel
theorem dX4_remove_59 : decode cX4_remove 59 = .ok (.isub, 1) := by decide +kernel
theorem dX4_remove_60 : decode cX4_remove 60 = .ok (.putfield 149, 3) := by decide +kernel
theorem dX4_remove_63 : decode cX4_remove 63 = .ok (.aload_n 0, 1) := by decide +kernel
theorem dX4_remove_64 : decode cX4_remove 64 = .ok (.getfield 72, 3) := by decide +kernel
theorem dX4_remove_67 : decode cX4_remove 67 = .ok (.iload_n 3, 1) := by decide +kernel
theorem dX4_remove_68 : decode cX4_remove 68 = .ok (.iconst 0, 1) := by decide +kernel
theorem dX4_remove_69 : decode cX4_remove 69 = .ok (.iastore, 1) := by decide +kernel
theorem dX4_remove_70 : decode cX4_remove 70 = .ok (.aload_n 0, 1) := by decide +kernel
theorem dX4_remove_71 : decode cX4_remove 71 = .ok (.iload_n 3, 1) := by decide +kernel
theorem dX4_remove_72 : decode cX4_remove 72 = .ok (.invokevirtual 169, 3) := by decide +kernel
theorem dX4_remove_75 : decode cX4_remove 75 = .ok (.iinc 2 1, 3) := by decide +kernel
theorem dX4_remove_78 : decode cX4_remove 78 = .ok (.goto (-76), 3) := by decide +kernel
theorem dX4_remove_81 : decode cX4_remove 81 = .ok (.aload_n 0, 1) := by decide +kernel
theorem dX4_remove_82 : decode cX4_remove 82 = .ok (.getfield 44, 3) := by decide +kernel
theorem dX4_remove_85 : decode cX4_remove 85 = .ok (.iload_n 1, 1) := by decide +kernel
theorem dX4_remove_86 : decode cX4_remove 86 = .ok (.iconst 0, 1) := by decide +kernel
theorem dX4_remove_87 : decode cX4_remove 87 = .ok (.bastore, 1) := by decide +kernel
theorem dX4_remove_88 : decode cX4_remove 88 = .ok (.aload_n 0, 1) := by decide +kernel
theorem dX4_remove_89 : decode cX4_remove 89 = .ok (.getfield 51, 3) := by decide +kernel
theorem dX4_remove_92 : decode cX4_remove 92 = .ok (.iload_n 1, 1) := by decide +kernel
theorem dX4_remove_93 : decode cX4_remove 93 = .ok (.iconst 0, 1) := by decide +kernel
theorem dX4_remove_94 : decode cX4_remove 94 = .ok (.iastore, 1) := by decide +kernel
theorem dX4_remove_95 : decode cX4_remove 95 = .ok (.return_, 1) := by decide +kernel
theorem dX4_steps_0 : decode cX4_steps 0 = .ok (.aload_n 0, 1) := by decide +kernel
theorem dX4_steps_1 : decode cX4_steps 1 = .ok (.iload_n 1, 1) := by decide +kernel
theorem dX4_steps_2 : decode cX4_steps 2 = .ok (.invokevirtual 173, 3) := by decide +kernel
theorem dX4_steps_5 : decode cX4_steps 5 = .ok (.aload_n 0, 1) := by decide +kernel
theorem dX4_steps_6 : decode cX4_steps 6 = .ok (.aload_n 0, 1) := by decide +kernel
theorem dX4_steps_7 : decode cX4_steps 7 = .ok (.getfield 149, 3) := by decide +kernel
theorem dX4_steps_10 : decode cX4_steps 10 = .ok (.aload_n 0, 1) := by decide +kernel
theorem dX4_steps_11 : decode cX4_steps 11 = .ok (.getfield 102, 3) := by decide +kernel
theorem dX4_steps_14 : decode cX4_steps 14 = .ok (.if_icmp .le 12, 3) := by decide +kernel
theorem dX4_steps_17 : decode cX4_steps 17 = .ok (.aload_n 0, 1) := by decide +kernel
theorem dX4_steps_18 : decode cX4_steps 18 = .ok (.getfield 102, 3) := by decide +kernel
theorem dX4_steps_21 : decode cX4_steps 21 = .ok (.iconst 1, 1) := by decide +kernel
theorem dX4_steps_22 : decode cX4_steps 22 = .ok (.iadd, 1) := by decide +kernel
theorem dX4_steps_23 : decode cX4_steps 23 = .ok (.goto 25, 3) := by decide +kernel
theorem dX4_steps_26 : decode cX4_steps 26 = .ok (.aload_n 0, 1) := by decide +kernel
theorem dX4_steps_27 : decode cX4_steps 27 = .ok (.getfield 149, 3) := by decide +kernel
theorem dX4_steps_30 : decode cX4_steps 30 = .ok (.aload_n 0, 1) := by decide +kernel
theorem dX4_steps_31 : decode cX4_steps 31 = .ok (.getfield 176, 3) := by decide +kernel
theorem dX4_steps_34 : decode cX4_steps 34 = .ok (.if_icmp .le 10, 3) := by decide +kernel
theorem dX4_steps_37 : decode cX4_steps 37 = .ok (.aload_n 0, 1) := by decide +kernel
theorem dX4_steps_38 : decode cX4_steps 38 = .ok (.getfield 149, 3) := by decide +kernel
theorem dX4_steps_41 : decode cX4_steps 41 = .ok (.goto 7, 3) := by decide +kernel
theorem dX4_steps_44 : decode cX4_steps 44 = .ok (.aload_n 0, 1) := by decide +kernel
theorem dX4_steps_45 : decode cX4_steps 45 = .ok (.getfield 176, 3) := by decide +kernel
theorem dX4_steps_48 : decode cX4_steps 48 = .ok (.putfield 176, 3) := by decide +kernel
theorem dX4_steps_51 : decode cX4_steps 51 = .ok (.aload_n 0, 1) := by decide +kernel
theorem dX4_steps_52 : decode cX4_steps 52 = .ok (.getfield 149, 3) := by decide +kernel
theorem dX4_steps_55 : decode cX4_steps 55 = .ok (.aload_n 0, 1) := by decide +kernel
theorem dX4_steps_56 : decode cX4_steps 56 = .ok (.getfield 102, 3) := by decide +kernel
theorem dX4_steps_59 : decode cX4_steps 59 = .ok (.if_icmp .gt 7, 3) := by decide +kernel
theorem dX4_steps_62 : decode cX4_steps 62 = .ok (.iconst 1, 1) := by decide +kernel
theorem dX4_steps_63 : decode cX4_steps 63 = .ok (.goto 4, 3) := by decide +kernel
theorem dX4_steps_66 : decode cX4_steps 66 = .ok (.iconst 0, 1) := by decide +kernel
theorem dX4_steps_67 : decode cX4_steps 67 = .ok (.ireturn, 1) := by decide +kernel
theorem dX4_clearHand_0 : decode cX4_clearHand 0 = .ok (.bipush 12, 2) := by decide +kernel
theorem dX4_clearHand_2 : decode cX4_clearHand 2 = .ok (.istore_n 1, 1) := by decide +kernel
theorem dX4_clearHand_3 : decode cX4_clearHand 3 = .ok (.iload_n 1, 1) := by decide +kernel
theorem dX4_clearHand_4 : decode cX4_clearHand 4 = .ok (.bipush 56, 2) := by decide +kernel
theorem dX4_clearHand_6 : decode cX4_clearHand 6 = .ok (.if_icmp .ge 14, 3) := by decide +kernel
theorem dX4_clearHand_9 : decode cX4_clearHand 9 = .ok (.aload_n 0, 1) := by decide +kernel
theorem dX4_clearHand_10 : decode cX4_clearHand 10 = .ok (.iload_n 1, 1) := by decide +kernel
theorem dX4_clearHand_11 : decode cX4_clearHand 11 = .ok (.invokevirtual 179, 3) := by decide +kernel
theorem dX4_clearHand_14 : decode cX4_clearHand 14 = .ok (.iinc 1 1, 3) := by decide +kernel
theorem dX4_clearHand_17 : decode cX4_clearHand 17 = .ok (.goto (-14), 3) := by decide +kernel
theorem dX4_clearHand_20 : decode cX4_clearHand 20 = .ok (.return_, 1) := by decide +kernel
theorem dX4_take_0 : decode cX4_take 0 = .ok (.aload_n 0, 1) := by decide +kernel
theorem dX4_take_1 : decode cX4_take 1 = .ok (.iload_n 2, 1) := by decide +kernel
theorem dX4_take_2 : decode cX4_take 2 = .ok (.invokevirtual 179, 3) := by decide +kernel
theorem dX4_take_5 : decode cX4_take 5 = .ok (.iconst 0, 1) := by decide +kernel
theorem dX4_take_6 : decode cX4_take 6 = .ok (.istore_n 3, 1) := by decide +kernel
theorem dX4_take_7 : decode cX4_take 7 = .ok (.iload_n 3, 1) := by decide +kernel
theorem dX4_take_8 : decode cX4_take 8 = .ok (.iconst 4, 1) := by decide +kernel
theorem dX4_take_9 : decode cX4_take 9 = .ok (.if_icmp .ge 29, 3) := by decide +kernel
theorem dX4_take_12 : decode cX4_take 12 = .ok (.aload_n 0, 1) := by decide +kernel
theorem dX4_take_13 : decode cX4_take 13 = .ok (.getfield 47, 3) := by decide +kernel
theorem dX4_take_16 : decode cX4_take 16 = .ok (.iconst 4, 1) := by decide +kernel
theorem dX4_take_17 : decode cX4_take 17 = .ok (.iload_n 2, 1) := by decide +kernel
theorem dX4_take_18 : decode cX4_take 18 = .ok (.imul, 1) := by decide +kernel
theorem dX4_take_19 : decode cX4_take 19 = .ok (.iload_n 3, 1) := by decide +kernel
theorem dX4_take_20 : decode cX4_take 20 = .ok (.iadd, 1) := by decide +kernel
theorem dX4_take_21 : decode cX4_take 21 = .ok (.aload_n 0, 1) := by decide +kernel
theorem dX4_take_22 : decode cX4_take 22 = .ok (.getfield 47, 3) := by decide +kernel
theorem dX4_take_25 : decode cX4_take 25 = .ok (.iconst 4, 1) := by decide +kernel
theorem dX4_take_26 : decode cX4_take 26 = .ok (.iload_n 1, 1) := by decide +kernel
theorem dX4_take_27 : decode cX4_take 27 = .ok (.imul, 1) := by decide +kernel
theorem dX4_take_28 : decode cX4_take 28 = .ok (.iload_n 3, 1) := by decide +kernel
theorem dX4_take_29 : decode cX4_take 29 = .ok (.iadd, 1) := by decide +kernel
theorem dX4_take_30 : decode cX4_take 30 = .ok (.laload, 1) := by decide +kernel
theorem dX4_take_31 : decode cX4_take 31 = .ok (.lastore, 1) := by decide +kernel
theorem dX4_take_32 : decode cX4_take 32 = .ok (.iinc 3 1, 3) := by decide +kernel
theorem dX4_take_35 : decode cX4_take 35 = .ok (.goto (-28), 3) := by decide +kernel
theorem dX4_take_38 : decode cX4_take 38 = .ok (.aload_n 0, 1) := by decide +kernel
theorem dX4_take_39 : decode cX4_take 39 = .ok (.iload_n 2, 1) := by decide +kernel
theorem dX4_take_40 : decode cX4_take 40 = .ok (.invokevirtual 173, 3) := by decide +kernel
theorem dX4_take_43 : decode cX4_take 43 = .ok (.return_, 1) := by decide +kernel
theorem dX4_gets_0 : decode cX4_gets 0 = .ok (.iload_n 3, 1) := by decide +kernel
theorem dX4_gets_1 : decode cX4_gets 1 = .ok (.ifCond .eq 9, 3) := by decide +kernel
theorem dX4_gets_4 : decode cX4_gets 4 = .ok (.aload_n 0, 1) := by decide +kernel
theorem dX4_gets_5 : decode cX4_gets 5 = .ok (.iload_n 2, 1) := by decide +kernel
theorem dX4_gets_6 : decode cX4_gets 6 = .ok (.iload_n 1, 1) := by decide +kernel
theorem dX4_gets_7 : decode cX4_gets 7 = .ok (.invokevirtual 182, 3) := by decide +kernel
theorem dX4_gets_10 : decode cX4_gets 10 = .ok (.aload_n 0, 1) := by decide +kernel
theorem dX4_gets_11 : decode cX4_gets 11 = .ok (.invokevirtual 185, 3) := by decide +kernel
theorem dX4_gets_14 : decode cX4_gets 14 = .ok (.iload_n 3, 1) := by decide +kernel
theorem dX4_gets_15 : decode cX4_gets 15 = .ok (.ifCond .eq 12, 3) := by decide +kernel
theorem dX4_gets_18 : decode cX4_gets 18 = .ok (.aload_n 0, 1) := by decide +kernel
theorem dX4_gets_19 : decode cX4_gets 19 = .ok (.getfield 51, 3) := by decide +kernel
theorem dX4_gets_22 : decode cX4_gets 22 = .ok (.iload_n 1, 1) := by decide +kernel
theorem dX4_gets_23 : decode cX4_gets 23 = .ok (.iaload, 1) := by decide +kernel
theorem dX4_gets_24 : decode cX4_gets 24 = .ok (.goto 5, 3) := by decide +kernel
theorem dX4_gets_27 : decode cX4_gets 27 = .ok (.bipush (-5), 2) := by decide +kernel
theorem dX4_gets_29 : decode cX4_gets 29 = .ok (.ireturn, 1) := by decide +kernel
theorem dX4_makeVariable_0 : decode cX4_makeVariable 0 = .ok (.aload_n 0, 1) := by decide +kernel
theorem dX4_makeVariable_1 : decode cX4_makeVariable 1 = .ok (.getfield 32, 3) := by decide +kernel
theorem dX4_makeVariable_4 : decode cX4_makeVariable 4 = .ok (.iload_n 2, 1) := by decide +kernel
theorem dX4_makeVariable_5 : decode cX4_makeVariable 5 = .ok (.iaload, 1) := by decide +kernel
theorem dX4_makeVariable_6 : decode cX4_makeVariable 6 = .ok (.istore_n 3, 1) := by decide +kernel
theorem dX4_makeVariable_7 : decode cX4_makeVariable 7 = .ok (.iconst 0, 1) := by decide +kernel
theorem dX4_makeVariable_8 : decode cX4_makeVariable 8 = .ok (.istore 4, 2) := by decide +kernel
theorem dX4_makeVariable_10 : decode cX4_makeVariable 10 = .ok (.iload 4, 2) := by decide +kernel
theorem dX4_makeVariable_12 : decode cX4_makeVariable 12 = .ok (.iconst 4, 1) := by decide +kernel
theorem dX4_makeVariable_13 : decode cX4_makeVariable 13 = .ok (.if_icmp .ge 62, 3) := by decide +kernel
theorem dX4_makeVariable_16 : decode cX4_makeVariable 16 = .ok (.aload_n 0, 1) := by decide +kernel
theorem dX4_makeVariable_17 : decode cX4_makeVariable 17 = .ok (.getfield 47, 3) := by decide +kernel
theorem dX4_makeVariable_20 : decode cX4_makeVariable 20 = .ok (.iconst 4, 1) := by decide +kernel
theorem dX4_makeVariable_21 : decode cX4_makeVariable 21 = .ok (.iload_n 1, 1) := by decide +kernel
theorem dX4_makeVariable_22 : decode cX4_makeVariable 22 = .ok (.imul, 1) := by decide +kernel
theorem dX4_makeVariable_23 : decode cX4_makeVariable 23 = .ok (.iload 4, 2) := by decide +kernel
theorem dX4_makeVariable_25 : decode cX4_makeVariable 25 = .ok (.iadd, 1) := by decide +kernel
theorem dX4_makeVariable_26 : decode cX4_makeVariable 26 = .ok (.iload_n 3, 1) := by decide +kernel
theorem dX4_makeVariable_27 : decode cX4_makeVariable 27 = .ok (.iconst 1, 1) := by decide +kernel
theorem dX4_makeVariable_28 : decode cX4_makeVariable 28 = .ok (.if_icmp .le 12, 3) := by decide +kernel
theorem dX4_makeVariable_31 : decode cX4_makeVariable 31 = .ok (.aload_n 0, 1) := by decide +kernel
theorem dX4_makeVariable_32 : decode cX4_makeVariable 32 = .ok (.getfield 90, 3) := by decide +kernel
theorem dX4_makeVariable_35 : decode cX4_makeVariable 35 = .ok (.iload_n 3, 1) := by decide +kernel
theorem dX4_makeVariable_36 : decode cX4_makeVariable 36 = .ok (.laload, 1) := by decide +kernel
theorem dX4_makeVariable_37 : decode cX4_makeVariable 37 = .ok (.goto 31, 3) := by decide +kernel
theorem dX4_makeVariable_40 : decode cX4_makeVariable 40 = .ok (.iload_n 3, 1) := by decide +kernel
theorem dX4_makeVariable_41 : decode cX4_makeVariable 41 = .ok (.ifCond .ne 12, 3) := by decide +kernel
theorem dX4_makeVariable_44 : decode cX4_makeVariable 44 = .ok (.iload 4, 2) := by decide +kernel
theorem dX4_makeVariable_46 : decode cX4_makeVariable 46 = .ok (.iconst 1, 1) := by decide +kernel
theorem dX4_makeVariable_47 : decode cX4_makeVariable 47 = .ok (.if_icmp .le 20, 3) := by decide +kernel
theorem dX4_makeVariable_50 : decode cX4_makeVariable 50 = .ok (.goto 11, 3) := by decide +kernel
theorem dX4_makeVariable_53 : decode cX4_makeVariable 53 = .ok (.iload 4, 2) := by decide +kernel
theorem dX4_makeVariable_55 : decode cX4_makeVariable 55 = .ok (.iconst 2, 1) := by decide +kernel
theorem dX4_makeVariable_56 : decode cX4_makeVariable 56 = .ok (.irem, 1) := by decide +kernel
theorem dX4_makeVariable_57 : decode cX4_makeVariable 57 = .ok (.iconst 1, 1) := by decide +kernel
theorem dX4_makeVariable_58 : decode cX4_makeVariable 58 = .ok (.if_icmp .ne 9, 3) := by decide +kernel
theorem dX4_makeVariable_61 : decode cX4_makeVariable 61 = .ok (.ldc2_w 188, 3) := by decide +kernel
theorem dX4_makeVariable_64 : decode cX4_makeVariable 64 = .ok (.goto 4, 3) := by decide +kernel
theorem dX4_makeVariable_67 : decode cX4_makeVariable 67 = .ok (.lconst 0, 1) := by decide +kernel
theorem dX4_makeVariable_68 : decode cX4_makeVariable 68 = .ok (.lastore, 1) := by decide +kernel
theorem dX4_makeVariable_69 : decode cX4_makeVariable 69 = .ok (.iinc 4 1, 3) := by decide +kernel
theorem dX4_makeVariable_72 : decode cX4_makeVariable 72 = .ok (.goto (-62), 3) := by decide +kernel
theorem dX4_makeVariable_75 : decode cX4_makeVariable 75 = .ok (.return_, 1) := by decide +kernel
theorem dX4_joined_0 : decode cX4_joined 0 = .ok (.iload_n 0, 1) := by decide +kernel
theorem dX4_joined_1 : decode cX4_joined 1 = .ok (.tableswitch 87 1 8 #[47, 49, 53, 59, 63, 67, 71, 79], 47) := by decide +kernel
theorem dX4_joined_48 : decode cX4_joined 48 = .ok (.lconst 0, 1) := by decide +kernel
theorem dX4_joined_49 : decode cX4_joined 49 = .ok (.lreturn, 1) := by decide +kernel
theorem dX4_joined_50 : decode cX4_joined 50 = .ok (.ldc2_w 188, 3) := by decide +kernel
theorem dX4_joined_53 : decode cX4_joined 53 = .ok (.lreturn, 1) := by decide +kernel
theorem dX4_joined_54 : decode cX4_joined 54 = .ok (.lload_n 1, 1) := by decide +kernel
theorem dX4_joined_55 : decode cX4_joined 55 = .ok (.ldc2_w 188, 3) := by decide +kernel
theorem dX4_joined_58 : decode cX4_joined 58 = .ok (.lxor, 1) := by decide +kernel
theorem dX4_joined_59 : decode cX4_joined 59 = .ok (.lreturn, 1) := by decide +kernel
theorem dX4_joined_60 : decode cX4_joined 60 = .ok (.lload_n 1, 1) := by decide +kernel
theorem dX4_joined_61 : decode cX4_joined 61 = .ok (.lload_n 3, 1) := by decide +kernel
theorem dX4_joined_62 : decode cX4_joined 62 = .ok (.land, 1) := by decide +kernel
theorem dX4_joined_63 : decode cX4_joined 63 = .ok (.lreturn, 1) := by decide +kernel
theorem dX4_joined_64 : decode cX4_joined 64 = .ok (.lload_n 1, 1) := by decide +kernel
theorem dX4_joined_65 : decode cX4_joined 65 = .ok (.lload_n 3, 1) := by decide +kernel
theorem dX4_joined_66 : decode cX4_joined 66 = .ok (.lor, 1) := by decide +kernel
theorem dX4_joined_67 : decode cX4_joined 67 = .ok (.lreturn, 1) := by decide +kernel
theorem dX4_joined_68 : decode cX4_joined 68 = .ok (.lload_n 1, 1) := by decide +kernel
theorem dX4_joined_69 : decode cX4_joined 69 = .ok (.lload_n 3, 1) := by decide +kernel
theorem dX4_joined_70 : decode cX4_joined 70 = .ok (.lxor, 1) := by decide +kernel
theorem dX4_joined_71 : decode cX4_joined 71 = .ok (.lreturn, 1) := by decide +kernel
theorem dX4_joined_72 : decode cX4_joined 72 = .ok (.lload_n 1, 1) := by decide +kernel
theorem dX4_joined_73 : decode cX4_joined 73 = .ok (.lload_n 3, 1) := by decide +kernel
theorem dX4_joined_74 : decode cX4_joined 74 = .ok (.land, 1) := by decide +kernel
theorem dX4_joined_75 : decode cX4_joined 75 = .ok (.ldc2_w 188, 3) := by decide +kernel
theorem dX4_joined_78 : decode cX4_joined 78 = .ok (.lxor, 1) := by decide +kernel
theorem dX4_joined_79 : decode cX4_joined 79 = .ok (.lreturn, 1) := by decide +kernel
theorem dX4_joined_80 : decode cX4_joined 80 = .ok (.lload_n 1, 1) := by decide +kernel
theorem dX4_joined_81 : decode cX4_joined 81 = .ok (.lload_n 3, 1) := by decide +kernel
theorem dX4_joined_82 : decode cX4_joined 82 = .ok (.lor, 1) := by decide +kernel
theorem dX4_joined_83 : decode cX4_joined 83 = .ok (.ldc2_w 188, 3) := by decide +kernel
theorem dX4_joined_86 : decode cX4_joined 86 = .ok (.lxor, 1) := by decide +kernel
theorem dX4_joined_87 : decode cX4_joined 87 = .ok (.lreturn, 1) := by decide +kernel
theorem dX4_joined_88 : decode cX4_joined 88 = .ok (.lload_n 1, 1) := by decide +kernel
theorem dX4_joined_89 : decode cX4_joined 89 = .ok (.lload_n 3, 1) := by decide +kernel
theorem dX4_joined_90 : decode cX4_joined 90 = .ok (.lxor, 1) := by decide +kernel
theorem dX4_joined_91 : decode cX4_joined 91 = .ok (.ldc2_w 188, 3) := by decide +kernel
theorem dX4_joined_94 : decode cX4_joined 94 = .ok (.lxor, 1) := by decide +kernel
theorem dX4_joined_95 : decode cX4_joined 95 = .ok (.lreturn, 1) := by decide +kernel
theorem dX4_makeOf_0 : decode cX4_makeOf 0 = .ok (.iconst 0, 1) := by decide +kernel
theorem dX4_makeOf_1 : decode cX4_makeOf 1 = .ok (.istore 5, 2) := by decide +kernel
theorem dX4_makeOf_3 : decode cX4_makeOf 3 = .ok (.iload 5, 2) := by decide +kernel
theorem dX4_makeOf_5 : decode cX4_makeOf 5 = .ok (.iconst 4, 1) := by decide +kernel
theorem dX4_makeOf_6 : decode cX4_makeOf 6 = .ok (.if_icmp .ge 47, 3) := by decide +kernel
theorem dX4_makeOf_9 : decode cX4_makeOf 9 = .ok (.aload_n 0, 1) := by decide +kernel
theorem dX4_makeOf_10 : decode cX4_makeOf 10 = .ok (.getfield 47, 3) := by decide +kernel
theorem dX4_makeOf_13 : decode cX4_makeOf 13 = .ok (.iconst 4, 1) := by decide +kernel
theorem dX4_makeOf_14 : decode cX4_makeOf 14 = .ok (.iload_n 1, 1) := by decide +kernel
theorem dX4_makeOf_15 : decode cX4_makeOf 15 = .ok (.imul, 1) := by decide +kernel
theorem dX4_makeOf_16 : decode cX4_makeOf 16 = .ok (.iload 5, 2) := by decide +kernel
theorem dX4_makeOf_18 : decode cX4_makeOf 18 = .ok (.iadd, 1) := by decide +kernel
theorem dX4_makeOf_19 : decode cX4_makeOf 19 = .ok (.iload_n 2, 1) := by decide +kernel
theorem dX4_makeOf_20 : decode cX4_makeOf 20 = .ok (.aload_n 0, 1) := by decide +kernel
theorem dX4_makeOf_21 : decode cX4_makeOf 21 = .ok (.getfield 47, 3) := by decide +kernel
theorem dX4_makeOf_24 : decode cX4_makeOf 24 = .ok (.iconst 4, 1) := by decide +kernel
theorem dX4_makeOf_25 : decode cX4_makeOf 25 = .ok (.iload_n 3, 1) := by decide +kernel
theorem dX4_makeOf_26 : decode cX4_makeOf 26 = .ok (.imul, 1) := by decide +kernel
theorem dX4_makeOf_27 : decode cX4_makeOf 27 = .ok (.iload 5, 2) := by decide +kernel
theorem dX4_makeOf_29 : decode cX4_makeOf 29 = .ok (.iadd, 1) := by decide +kernel
theorem dX4_makeOf_30 : decode cX4_makeOf 30 = .ok (.laload, 1) := by decide +kernel
theorem dX4_makeOf_31 : decode cX4_makeOf 31 = .ok (.aload_n 0, 1) := by decide +kernel
theorem dX4_makeOf_32 : decode cX4_makeOf 32 = .ok (.getfield 47, 3) := by decide +kernel
theorem dX4_makeOf_35 : decode cX4_makeOf 35 = .ok (.iconst 4, 1) := by decide +kernel
theorem dX4_makeOf_36 : decode cX4_makeOf 36 = .ok (.iload 4, 2) := by decide +kernel
theorem dX4_makeOf_38 : decode cX4_makeOf 38 = .ok (.imul, 1) := by decide +kernel
theorem dX4_makeOf_39 : decode cX4_makeOf 39 = .ok (.iload 5, 2) := by decide +kernel
theorem dX4_makeOf_41 : decode cX4_makeOf 41 = .ok (.iadd, 1) := by decide +kernel
theorem dX4_makeOf_42 : decode cX4_makeOf 42 = .ok (.laload, 1) := by decide +kernel
theorem dX4_makeOf_43 : decode cX4_makeOf 43 = .ok (.invokestatic 190, 3) := by decide +kernel
theorem dX4_makeOf_46 : decode cX4_makeOf 46 = .ok (.lastore, 1) := by decide +kernel
theorem dX4_makeOf_47 : decode cX4_makeOf 47 = .ok (.iinc 5 1, 3) := by decide +kernel
theorem dX4_makeOf_50 : decode cX4_makeOf 50 = .ok (.goto (-47), 3) := by decide +kernel
theorem dX4_makeOf_53 : decode cX4_makeOf 53 = .ok (.return_, 1) := by decide +kernel
theorem dX4_makeChoice_0 : decode cX4_makeChoice 0 = .ok (.iconst 0, 1) := by decide +kernel
theorem dX4_makeChoice_1 : decode cX4_makeChoice 1 = .ok (.istore 5, 2) := by decide +kernel
theorem dX4_makeChoice_3 : decode cX4_makeChoice 3 = .ok (.iload 5, 2) := by decide +kernel
theorem dX4_makeChoice_5 : decode cX4_makeChoice 5 = .ok (.iconst 4, 1) := by decide +kernel
theorem dX4_makeChoice_6 : decode cX4_makeChoice 6 = .ok (.if_icmp .ge 67, 3) := by decide +kernel
theorem dX4_makeChoice_9 : decode cX4_makeChoice 9 = .ok (.aload_n 0, 1) := by decide +kernel
theorem dX4_makeChoice_10 : decode cX4_makeChoice 10 = .ok (.getfield 47, 3) := by decide +kernel
theorem dX4_makeChoice_13 : decode cX4_makeChoice 13 = .ok (.iconst 4, 1) := by decide +kernel
theorem dX4_makeChoice_14 : decode cX4_makeChoice 14 = .ok (.iload_n 2, 1) := by decide +kernel
theorem dX4_makeChoice_15 : decode cX4_makeChoice 15 = .ok (.imul, 1) := by decide +kernel
theorem dX4_makeChoice_16 : decode cX4_makeChoice 16 = .ok (.iload 5, 2) := by decide +kernel
theorem dX4_makeChoice_18 : decode cX4_makeChoice 18 = .ok (.iadd, 1) := by decide +kernel
theorem dX4_makeChoice_19 : decode cX4_makeChoice 19 = .ok (.laload, 1) := by decide +kernel
theorem dX4_makeChoice_20 : decode cX4_makeChoice 20 = .ok (.lstore 6, 2) := by decide +kernel
theorem dX4_makeChoice_22 : decode cX4_makeChoice 22 = .ok (.aload_n 0, 1) := by decide +kernel
theorem dX4_makeChoice_23 : decode cX4_makeChoice 23 = .ok (.getfield 47, 3) := by decide +kernel
theorem dX4_makeChoice_26 : decode cX4_makeChoice 26 = .ok (.iconst 4, 1) := by decide +kernel
theorem dX4_makeChoice_27 : decode cX4_makeChoice 27 = .ok (.iload_n 1, 1) := by decide +kernel
theorem dX4_makeChoice_28 : decode cX4_makeChoice 28 = .ok (.imul, 1) := by decide +kernel
theorem dX4_makeChoice_29 : decode cX4_makeChoice 29 = .ok (.iload 5, 2) := by decide +kernel
theorem dX4_makeChoice_31 : decode cX4_makeChoice 31 = .ok (.iadd, 1) := by decide +kernel
theorem dX4_makeChoice_32 : decode cX4_makeChoice 32 = .ok (.lload 6, 2) := by decide +kernel
theorem dX4_makeChoice_34 : decode cX4_makeChoice 34 = .ok (.aload_n 0, 1) := by decide +kernel
theorem dX4_makeChoice_35 : decode cX4_makeChoice 35 = .ok (.getfield 47, 3) := by decide +kernel
theorem dX4_makeChoice_38 : decode cX4_makeChoice 38 = .ok (.iconst 4, 1) := by decide +kernel
theorem dX4_makeChoice_39 : decode cX4_makeChoice 39 = .ok (.iload_n 3, 1) := by decide +kernel
theorem dX4_makeChoice_40 : decode cX4_makeChoice 40 = .ok (.imul, 1) := by decide +kernel
theorem dX4_makeChoice_41 : decode cX4_makeChoice 41 = .ok (.iload 5, 2) := by decide +kernel
theorem dX4_makeChoice_43 : decode cX4_makeChoice 43 = .ok (.iadd, 1) := by decide +kernel
theorem dX4_makeChoice_44 : decode cX4_makeChoice 44 = .ok (.laload, 1) := by decide +kernel
theorem dX4_makeChoice_45 : decode cX4_makeChoice 45 = .ok (.land, 1) := by decide +kernel
theorem dX4_makeChoice_46 : decode cX4_makeChoice 46 = .ok (.lload 6, 2) := by decide +kernel
theorem dX4_makeChoice_48 : decode cX4_makeChoice 48 = .ok (.ldc2_w 188, 3) := by decide +kernel
theorem dX4_makeChoice_51 : decode cX4_makeChoice 51 = .ok (.lxor, 1) := by decide +kernel
theorem dX4_makeChoice_52 : decode cX4_makeChoice 52 = .ok (.aload_n 0, 1) := by decide +kernel
theorem dX4_makeChoice_53 : decode cX4_makeChoice 53 = .ok (.getfield 47, 3) := by decide +kernel
theorem dX4_makeChoice_56 : decode cX4_makeChoice 56 = .ok (.iconst 4, 1) := by decide +kernel
theorem dX4_makeChoice_57 : decode cX4_makeChoice 57 = .ok (.iload 4, 2) := by decide +kernel
theorem dX4_makeChoice_59 : decode cX4_makeChoice 59 = .ok (.imul, 1) := by decide +kernel
theorem dX4_makeChoice_60 : decode cX4_makeChoice 60 = .ok (.iload 5, 2) := by decide +kernel
theorem dX4_makeChoice_62 : decode cX4_makeChoice 62 = .ok (.iadd, 1) := by decide +kernel
theorem dX4_makeChoice_63 : decode cX4_makeChoice 63 = .ok (.laload, 1) := by decide +kernel
theorem dX4_makeChoice_64 : decode cX4_makeChoice 64 = .ok (.land, 1) := by decide +kernel
theorem dX4_makeChoice_65 : decode cX4_makeChoice 65 = .ok (.lor, 1) := by decide +kernel
theorem dX4_makeChoice_66 : decode cX4_makeChoice 66 = .ok (.lastore, 1) := by decide +kernel
theorem dX4_makeChoice_67 : decode cX4_makeChoice 67 = .ok (.iinc 5 1, 3) := by decide +kernel
theorem dX4_makeChoice_70 : decode cX4_makeChoice 70 = .ok (.goto (-67), 3) := by decide +kernel
theorem dX4_makeChoice_73 : decode cX4_makeChoice 73 = .ok (.return_, 1) := by decide +kernel
theorem dX4_makeHalf_0 : decode cX4_makeHalf 0 = .ok (.aload_n 0, 1) := by decide +kernel
theorem dX4_makeHalf_1 : decode cX4_makeHalf 1 = .ok (.getfield 32, 3) := by decide +kernel
theorem dX4_makeHalf_4 : decode cX4_makeHalf 4 = .ok (.iload_n 3, 1) := by decide +kernel
theorem dX4_makeHalf_5 : decode cX4_makeHalf 5 = .ok (.iaload, 1) := by decide +kernel
theorem dX4_makeHalf_6 : decode cX4_makeHalf 6 = .ok (.istore 5, 2) := by decide +kernel
theorem dX4_makeHalf_8 : decode cX4_makeHalf 8 = .ok (.iconst 0, 1) := by decide +kernel
theorem dX4_makeHalf_9 : decode cX4_makeHalf 9 = .ok (.istore 6, 2) := by decide +kernel
theorem dX4_makeHalf_11 : decode cX4_makeHalf 11 = .ok (.iload 6, 2) := by decide +kernel
theorem dX4_makeHalf_13 : decode cX4_makeHalf 13 = .ok (.iconst 4, 1) := by decide +kernel
theorem dX4_makeHalf_14 : decode cX4_makeHalf 14 = .ok (.if_icmp .ge 154, 3) := by decide +kernel
theorem dX4_makeHalf_17 : decode cX4_makeHalf 17 = .ok (.iload 5, 2) := by decide +kernel
theorem dX4_makeHalf_19 : decode cX4_makeHalf 19 = .ok (.iconst 2, 1) := by decide +kernel
theorem dX4_makeHalf_20 : decode cX4_makeHalf 20 = .ok (.if_icmp .ge 58, 3) := by decide +kernel
theorem dX4_makeHalf_23 : decode cX4_makeHalf 23 = .ok (.iload 5, 2) := by decide +kernel
theorem dX4_makeHalf_25 : decode cX4_makeHalf 25 = .ok (.ifCond .ne 7, 3) := by decide +kernel
theorem dX4_makeHalf_28 : decode cX4_makeHalf 28 = .ok (.iconst 2, 1) := by decide +kernel
theorem dX4_makeHalf_29 : decode cX4_makeHalf 29 = .ok (.goto 4, 3) := by decide +kernel
theorem dX4_makeHalf_32 : decode cX4_makeHalf 32 = .ok (.iconst 1, 1) := by decide +kernel
theorem dX4_makeHalf_33 : decode cX4_makeHalf 33 = .ok (.istore 7, 2) := by decide +kernel
theorem dX4_makeHalf_35 : decode cX4_makeHalf 35 = .ok (.aload_n 0, 1) := by decide +kernel
theorem dX4_makeHalf_36 : decode cX4_makeHalf 36 = .ok (.getfield 47, 3) := by decide +kernel
theorem dX4_makeHalf_39 : decode cX4_makeHalf 39 = .ok (.iconst 4, 1) := by decide +kernel
theorem dX4_makeHalf_40 : decode cX4_makeHalf 40 = .ok (.iload_n 1, 1) := by decide +kernel
theorem dX4_makeHalf_41 : decode cX4_makeHalf 41 = .ok (.imul, 1) := by decide +kernel
theorem dX4_makeHalf_42 : decode cX4_makeHalf 42 = .ok (.iload 6, 2) := by decide +kernel
theorem dX4_makeHalf_44 : decode cX4_makeHalf 44 = .ok (.iadd, 1) := by decide +kernel
theorem dX4_makeHalf_45 : decode cX4_makeHalf 45 = .ok (.aload_n 0, 1) := by decide +kernel
theorem dX4_makeHalf_46 : decode cX4_makeHalf 46 = .ok (.getfield 47, 3) := by decide +kernel
theorem dX4_makeHalf_49 : decode cX4_makeHalf 49 = .ok (.iconst 4, 1) := by decide +kernel
theorem dX4_makeHalf_50 : decode cX4_makeHalf 50 = .ok (.iload_n 2, 1) := by decide +kernel
theorem dX4_makeHalf_51 : decode cX4_makeHalf 51 = .ok (.imul, 1) := by decide +kernel
theorem dX4_makeHalf_52 : decode cX4_makeHalf 52 = .ok (.iload 4, 2) := by decide +kernel
theorem dX4_makeHalf_54 : decode cX4_makeHalf 54 = .ok (.ifCond .eq 11, 3) := by decide +kernel
theorem dX4_makeHalf_57 : decode cX4_makeHalf 57 = .ok (.iload 6, 2) := by decide +kernel
theorem dX4_makeHalf_59 : decode cX4_makeHalf 59 = .ok (.iload 7, 2) := by decide +kernel
theorem dX4_makeHalf_61 : decode cX4_makeHalf 61 = .ok (.ior, 1) := by decide +kernel
theorem dX4_makeHalf_62 : decode cX4_makeHalf 62 = .ok (.goto 10, 3) := by decide +kernel
theorem dX4_makeHalf_65 : decode cX4_makeHalf 65 = .ok (.iload 6, 2) := by decide +kernel
theorem dX4_makeHalf_67 : decode cX4_makeHalf 67 = .ok (.iload 7, 2) := by decide +kernel
theorem dX4_makeHalf_69 : decode cX4_makeHalf 69 = .ok (.iconst (-1), 1) := by decide +kernel
theorem dX4_makeHalf_70 : decode cX4_makeHalf 70 = .ok (.ixor, 1) := by decide +kernel
theorem dX4_makeHalf_71 : decode cX4_makeHalf 71 = .ok (.iand, 1) := by decide +kernel
theorem dX4_makeHalf_72 : decode cX4_makeHalf 72 = .ok (.iadd, 1) := by decide +kernel
theorem dX4_makeHalf_73 : decode cX4_makeHalf 73 = .ok (.laload, 1) := by decide +kernel
theorem dX4_makeHalf_74 : decode cX4_makeHalf 74 = .ok (.lastore, 1) := by decide +kernel
theorem dX4_makeHalf_75 : decode cX4_makeHalf 75 = .ok (.goto 87, 3) := by decide +kernel
theorem dX4_makeHalf_78 : decode cX4_makeHalf 78 = .ok (.iconst 1, 1) := by decide +kernel
theorem dX4_makeHalf_79 : decode cX4_makeHalf 79 = .ok (.bipush 7, 2) := by decide +kernel
theorem dX4_makeHalf_81 : decode cX4_makeHalf 81 = .ok (.iload 5, 2) := by decide +kernel
theorem dX4_makeHalf_83 : decode cX4_makeHalf 83 = .ok (.isub, 1) := by decide +kernel
theorem dX4_makeHalf_84 : decode cX4_makeHalf 84 = .ok (.ishl, 1) := by decide +kernel
theorem dX4_makeHalf_85 : decode cX4_makeHalf 85 = .ok (.istore 7, 2) := by decide +kernel
theorem dX4_makeHalf_87 : decode cX4_makeHalf 87 = .ok (.aload_n 0, 1) := by decide +kernel
theorem dX4_makeHalf_88 : decode cX4_makeHalf 88 = .ok (.getfield 47, 3) := by decide +kernel
theorem dX4_makeHalf_91 : decode cX4_makeHalf 91 = .ok (.iconst 4, 1) := by decide +kernel
theorem dX4_makeHalf_92 : decode cX4_makeHalf 92 = .ok (.iload_n 2, 1) := by decide +kernel
theorem dX4_makeHalf_93 : decode cX4_makeHalf 93 = .ok (.imul, 1) := by decide +kernel
theorem dX4_makeHalf_94 : decode cX4_makeHalf 94 = .ok (.iload 6, 2) := by decide +kernel
theorem dX4_makeHalf_96 : decode cX4_makeHalf 96 = .ok (.iadd, 1) := by decide +kernel
theorem dX4_makeHalf_97 : decode cX4_makeHalf 97 = .ok (.laload, 1) := by decide +kernel
theorem dX4_makeHalf_98 : decode cX4_makeHalf 98 = .ok (.iload 4, 2) := by decide +kernel
theorem dX4_makeHalf_100 : decode cX4_makeHalf 100 = .ok (.ifCond .eq 13, 3) := by decide +kernel
theorem dX4_makeHalf_103 : decode cX4_makeHalf 103 = .ok (.aload_n 0, 1) := by decide +kernel
theorem dX4_makeHalf_104 : decode cX4_makeHalf 104 = .ok (.getfield 90, 3) := by decide +kernel
theorem dX4_makeHalf_107 : decode cX4_makeHalf 107 = .ok (.iload 5, 2) := by decide +kernel
theorem dX4_makeHalf_109 : decode cX4_makeHalf 109 = .ok (.laload, 1) := by decide +kernel
theorem dX4_makeHalf_110 : decode cX4_makeHalf 110 = .ok (.goto 14, 3) := by decide +kernel
theorem dX4_makeHalf_113 : decode cX4_makeHalf 113 = .ok (.aload_n 0, 1) := by decide +kernel
theorem dX4_makeHalf_114 : decode cX4_makeHalf 114 = .ok (.getfield 90, 3) := by decide +kernel
theorem dX4_makeHalf_117 : decode cX4_makeHalf 117 = .ok (.iload 5, 2) := by decide +kernel
theorem dX4_makeHalf_119 : decode cX4_makeHalf 119 = .ok (.laload, 1) := by decide +kernel
theorem dX4_makeHalf_120 : decode cX4_makeHalf 120 = .ok (.ldc2_w 188, 3) := by decide +kernel
theorem dX4_makeHalf_123 : decode cX4_makeHalf 123 = .ok (.lxor, 1) := by decide +kernel
theorem dX4_makeHalf_124 : decode cX4_makeHalf 124 = .ok (.land, 1) := by decide +kernel
theorem dX4_makeHalf_125 : decode cX4_makeHalf 125 = .ok (.lstore 8, 2) := by decide +kernel
theorem dX4_makeHalf_127 : decode cX4_makeHalf 127 = .ok (.aload_n 0, 1) := by decide +kernel
theorem dX4_makeHalf_128 : decode cX4_makeHalf 128 = .ok (.getfield 47, 3) := by decide +kernel
theorem dX4_makeHalf_131 : decode cX4_makeHalf 131 = .ok (.iconst 4, 1) := by decide +kernel
theorem dX4_makeHalf_132 : decode cX4_makeHalf 132 = .ok (.iload_n 1, 1) := by decide +kernel
theorem dX4_makeHalf_133 : decode cX4_makeHalf 133 = .ok (.imul, 1) := by decide +kernel
theorem dX4_makeHalf_134 : decode cX4_makeHalf 134 = .ok (.iload 6, 2) := by decide +kernel
theorem dX4_makeHalf_136 : decode cX4_makeHalf 136 = .ok (.iadd, 1) := by decide +kernel
theorem dX4_makeHalf_137 : decode cX4_makeHalf 137 = .ok (.iload 4, 2) := by decide +kernel
theorem dX4_makeHalf_139 : decode cX4_makeHalf 139 = .ok (.ifCond .eq 14, 3) := by decide +kernel
theorem dX4_makeHalf_142 : decode cX4_makeHalf 142 = .ok (.lload 8, 2) := by decide +kernel
theorem dX4_makeHalf_144 : decode cX4_makeHalf 144 = .ok (.lload 8, 2) := by decide +kernel
theorem dX4_makeHalf_146 : decode cX4_makeHalf 146 = .ok (.iload 7, 2) := by decide +kernel
theorem dX4_makeHalf_148 : decode cX4_makeHalf 148 = .ok (.lushr, 1) := by decide +kernel
theorem dX4_makeHalf_149 : decode cX4_makeHalf 149 = .ok (.lor, 1) := by decide +kernel
theorem dX4_makeHalf_150 : decode cX4_makeHalf 150 = .ok (.goto 11, 3) := by decide +kernel
theorem dX4_makeHalf_153 : decode cX4_makeHalf 153 = .ok (.lload 8, 2) := by decide +kernel
theorem dX4_makeHalf_155 : decode cX4_makeHalf 155 = .ok (.lload 8, 2) := by decide +kernel
theorem dX4_makeHalf_157 : decode cX4_makeHalf 157 = .ok (.iload 7, 2) := by decide +kernel
theorem dX4_makeHalf_159 : decode cX4_makeHalf 159 = .ok (.lshl, 1) := by decide +kernel
theorem dX4_makeHalf_160 : decode cX4_makeHalf 160 = .ok (.lor, 1) := by decide +kernel
theorem dX4_makeHalf_161 : decode cX4_makeHalf 161 = .ok (.lastore, 1) := by decide +kernel
theorem dX4_makeHalf_162 : decode cX4_makeHalf 162 = .ok (.iinc 6 1, 3) := by decide +kernel
theorem dX4_makeHalf_165 : decode cX4_makeHalf 165 = .ok (.goto (-154), 3) := by decide +kernel
theorem dX4_makeHalf_168 : decode cX4_makeHalf 168 = .ok (.return_, 1) := by decide +kernel
theorem dX4_needs_0 : decode cX4_needs 0 = .ok (.iconst 0, 1) := by decide +kernel
theorem dX4_needs_1 : decode cX4_needs 1 = .ok (.istore_n 3, 1) := by decide +kernel
theorem dX4_needs_2 : decode cX4_needs 2 = .ok (.iload_n 3, 1) := by decide +kernel
theorem dX4_needs_3 : decode cX4_needs 3 = .ok (.bipush 40, 2) := by decide +kernel
theorem dX4_needs_5 : decode cX4_needs 5 = .ok (.if_icmp .ge 32, 3) := by decide +kernel
theorem dX4_needs_8 : decode cX4_needs 8 = .ok (.aload_n 0, 1) := by decide +kernel
theorem dX4_needs_9 : decode cX4_needs 9 = .ok (.getfield 93, 3) := by decide +kernel
theorem dX4_needs_12 : decode cX4_needs 12 = .ok (.iload_n 3, 1) := by decide +kernel
theorem dX4_needs_13 : decode cX4_needs 13 = .ok (.iload_n 3, 1) := by decide +kernel
theorem dX4_needs_14 : decode cX4_needs 14 = .ok (.iload_n 2, 1) := by decide +kernel
theorem dX4_needs_15 : decode cX4_needs 15 = .ok (.if_icmp .ne 7, 3) := by decide +kernel
theorem dX4_needs_18 : decode cX4_needs 18 = .ok (.iconst 1, 1) := by decide +kernel
theorem dX4_needs_19 : decode cX4_needs 19 = .ok (.goto 4, 3) := by decide +kernel
theorem dX4_needs_22 : decode cX4_needs 22 = .ok (.iconst 0, 1) := by decide +kernel
theorem dX4_needs_23 : decode cX4_needs 23 = .ok (.bastore, 1) := by decide +kernel
theorem dX4_needs_24 : decode cX4_needs 24 = .ok (.aload_n 0, 1) := by decide +kernel
theorem dX4_needs_25 : decode cX4_needs 25 = .ok (.getfield 96, 3) := by decide +kernel
theorem dX4_needs_28 : decode cX4_needs 28 = .ok (.iload_n 3, 1) := by decide +kernel
theorem dX4_needs_29 : decode cX4_needs 29 = .ok (.iconst (-1), 1) := by decide +kernel
theorem dX4_needs_30 : decode cX4_needs 30 = .ok (.iastore, 1) := by decide +kernel
theorem dX4_needs_31 : decode cX4_needs 31 = .ok (.iinc 3 1, 3) := by decide +kernel
theorem dX4_needs_34 : decode cX4_needs 34 = .ok (.goto (-32), 3) := by decide +kernel
theorem dX4_needs_37 : decode cX4_needs 37 = .ok (.iload_n 2, 1) := by decide +kernel
theorem dX4_needs_38 : decode cX4_needs 38 = .ok (.istore_n 3, 1) := by decide +kernel
theorem dX4_needs_39 : decode cX4_needs 39 = .ok (.iload_n 3, 1) := by decide +kernel
theorem dX4_needs_40 : decode cX4_needs 40 = .ok (.ifCond .lt 100, 3) := by decide +kernel
theorem dX4_needs_43 : decode cX4_needs 43 = .ok (.bipush 40, 2) := by decide +kernel
theorem dX4_needs_45 : decode cX4_needs 45 = .ok (.iload_n 1, 1) := by decide +kernel
theorem dX4_needs_46 : decode cX4_needs 46 = .ok (.imul, 1) := by decide +kernel
theorem dX4_needs_47 : decode cX4_needs 47 = .ok (.iload_n 3, 1) := by decide +kernel
theorem dX4_needs_48 : decode cX4_needs 48 = .ok (.iadd, 1) := by decide +kernel
theorem dX4_needs_49 : decode cX4_needs 49 = .ok (.istore 4, 2) := by decide +kernel
theorem dX4_needs_51 : decode cX4_needs 51 = .ok (.iconst 0, 1) := by decide +kernel
theorem dX4_needs_52 : decode cX4_needs 52 = .ok (.istore 5, 2) := by decide +kernel
theorem dX4_needs_54 : decode cX4_needs 54 = .ok (.iload 5, 2) := by decide +kernel
theorem dX4_needs_56 : decode cX4_needs 56 = .ok (.aload_n 0, 1) := by decide +kernel
theorem dX4_needs_57 : decode cX4_needs 57 = .ok (.getfield 16, 3) := by decide +kernel
theorem dX4_needs_60 : decode cX4_needs 60 = .ok (.iload 4, 2) := by decide +kernel
theorem dX4_needs_62 : decode cX4_needs 62 = .ok (.iaload, 1) := by decide +kernel
theorem dX4_needs_63 : decode cX4_needs 63 = .ok (.invokestatic 120, 3) := by decide +kernel
theorem dX4_needs_66 : decode cX4_needs 66 = .ok (.if_icmp .ge 68, 3) := by decide +kernel
theorem dX4_needs_69 : decode cX4_needs 69 = .ok (.aload_n 0, 1) := by decide +kernel
theorem dX4_needs_70 : decode cX4_needs 70 = .ok (.getfield 93, 3) := by decide +kernel
theorem dX4_needs_73 : decode cX4_needs 73 = .ok (.iload_n 3, 1) := by decide +kernel
theorem dX4_needs_74 : decode cX4_needs 74 = .ok (.baload, 1) := by decide +kernel
theorem dX4_needs_75 : decode cX4_needs 75 = .ok (.ifCond .eq 59, 3) := by decide +kernel
theorem dX4_needs_78 : decode cX4_needs 78 = .ok (.aload_n 0, 1) := by decide +kernel
theorem dX4_needs_79 : decode cX4_needs 79 = .ok (.getfield 19, 3) := by decide +kernel
theorem dX4_needs_82 : decode cX4_needs 82 = .ok (.iconst 3, 1) := by decide +kernel
theorem dX4_needs_83 : decode cX4_needs 83 = .ok (.iload 4, 2) := by decide +kernel
theorem dX4_needs_85 : decode cX4_needs 85 = .ok (.imul, 1) := by decide +kernel
theorem dX4_needs_86 : decode cX4_needs 86 = .ok (.iload 5, 2) := by decide +kernel
theorem dX4_needs_88 : decode cX4_needs 88 = .ok (.iadd, 1) := by decide +kernel
theorem dX4_needs_89 : decode cX4_needs 89 = .ok (.iaload, 1) := by decide +kernel
theorem dX4_needs_90 : decode cX4_needs 90 = .ok (.istore 6, 2) := by decide +kernel
theorem dX4_needs_92 : decode cX4_needs 92 = .ok (.aload_n 0, 1) := by decide +kernel
theorem dX4_needs_93 : decode cX4_needs 93 = .ok (.getfield 93, 3) := by decide +kernel
theorem dX4_needs_96 : decode cX4_needs 96 = .ok (.iload 6, 2) := by decide +kernel
theorem dX4_needs_98 : decode cX4_needs 98 = .ok (.iconst 1, 1) := by decide +kernel
theorem dX4_needs_99 : decode cX4_needs 99 = .ok (.bastore, 1) := by decide +kernel
theorem dX4_needs_100 : decode cX4_needs 100 = .ok (.aload_n 0, 1) := by decide +kernel
theorem dX4_needs_101 : decode cX4_needs 101 = .ok (.getfield 96, 3) := by decide +kernel
theorem dX4_needs_104 : decode cX4_needs 104 = .ok (.iload 6, 2) := by decide +kernel
theorem dX4_needs_106 : decode cX4_needs 106 = .ok (.aload_n 0, 1) := by decide +kernel
theorem dX4_needs_107 : decode cX4_needs 107 = .ok (.getfield 96, 3) := by decide +kernel
theorem dX4_needs_110 : decode cX4_needs 110 = .ok (.iload 6, 2) := by decide +kernel
theorem dX4_needs_112 : decode cX4_needs 112 = .ok (.iaload, 1) := by decide +kernel
theorem dX4_needs_113 : decode cX4_needs 113 = .ok (.ifCond .ge 7, 3) := by decide +kernel
theorem dX4_needs_116 : decode cX4_needs 116 = .ok (.iload_n 3, 1) := by decide +kernel
theorem dX4_needs_117 : decode cX4_needs 117 = .ok (.goto 10, 3) := by decide +kernel
theorem dX4_needs_120 : decode cX4_needs 120 = .ok (.aload_n 0, 1) := by decide +kernel
theorem dX4_needs_121 : decode cX4_needs 121 = .ok (.getfield 96, 3) := by decide +kernel
theorem dX4_needs_124 : decode cX4_needs 124 = .ok (.iload 6, 2) := by decide +kernel
theorem dX4_needs_126 : decode cX4_needs 126 = .ok (.iaload, 1) := by decide +kernel
theorem dX4_needs_127 : decode cX4_needs 127 = .ok (.iastore, 1) := by decide +kernel
theorem dX4_needs_128 : decode cX4_needs 128 = .ok (.iinc 5 1, 3) := by decide +kernel
theorem dX4_needs_131 : decode cX4_needs 131 = .ok (.goto (-77), 3) := by decide +kernel
theorem dX4_needs_134 : decode cX4_needs 134 = .ok (.iinc 3 (-1), 3) := by decide +kernel
theorem dX4_needs_137 : decode cX4_needs 137 = .ok (.goto (-98), 3) := by decide +kernel
theorem dX4_needs_140 : decode cX4_needs 140 = .ok (.return_, 1) := by decide +kernel
theorem dX4_builds_0 : decode cX4_builds 0 = .ok (.aload_n 0, 1) := by decide +kernel
theorem dX4_builds_1 : decode cX4_builds 1 = .ok (.iload_n 1, 1) := by decide +kernel
theorem dX4_builds_2 : decode cX4_builds 2 = .ok (.iload_n 2, 1) := by decide +kernel
theorem dX4_builds_3 : decode cX4_builds 3 = .ok (.invokevirtual 194, 3) := by decide +kernel
theorem dX4_builds_6 : decode cX4_builds 6 = .ok (.iconst 0, 1) := by decide +kernel
theorem dX4_builds_7 : decode cX4_builds 7 = .ok (.istore_n 3, 1) := by decide +kernel
theorem dX4_builds_8 : decode cX4_builds 8 = .ok (.iload_n 3, 1) := by decide +kernel
theorem dX4_builds_9 : decode cX4_builds 9 = .ok (.iload_n 2, 1) := by decide +kernel
theorem dX4_builds_10 : decode cX4_builds 10 = .ok (.if_icmp .gt 249, 3) := by decide +kernel
theorem dX4_builds_13 : decode cX4_builds 13 = .ok (.aload_n 0, 1) := by decide +kernel
theorem dX4_builds_14 : decode cX4_builds 14 = .ok (.getfield 93, 3) := by decide +kernel
theorem dX4_builds_17 : decode cX4_builds 17 = .ok (.iload_n 3, 1) := by decide +kernel
theorem dX4_builds_18 : decode cX4_builds 18 = .ok (.baload, 1) := by decide +kernel
theorem dX4_builds_19 : decode cX4_builds 19 = .ok (.ifCond .ne 6, 3) := by decide +kernel
theorem dX4_builds_22 : decode cX4_builds 22 = .ok (.goto 231, 3) := by decide +kernel
theorem dX4_builds_25 : decode cX4_builds 25 = .ok (.bipush 40, 2) := by decide +kernel
theorem dX4_builds_27 : decode cX4_builds 27 = .ok (.iload_n 1, 1) := by decide +kernel
theorem dX4_builds_28 : decode cX4_builds 28 = .ok (.imul, 1) := by decide +kernel
theorem dX4_builds_29 : decode cX4_builds 29 = .ok (.iload_n 3, 1) := by decide +kernel
theorem dX4_builds_30 : decode cX4_builds 30 = .ok (.iadd, 1) := by decide +kernel
theorem dX4_builds_31 : decode cX4_builds 31 = .ok (.istore 4, 2) := by decide +kernel
theorem dX4_builds_33 : decode cX4_builds 33 = .ok (.bipush 12, 2) := by decide +kernel
theorem dX4_builds_35 : decode cX4_builds 35 = .ok (.iload_n 3, 1) := by decide +kernel
theorem dX4_builds_36 : decode cX4_builds 36 = .ok (.iadd, 1) := by decide +kernel
theorem dX4_builds_37 : decode cX4_builds 37 = .ok (.istore 5, 2) := by decide +kernel
theorem dX4_builds_39 : decode cX4_builds 39 = .ok (.aload_n 0, 1) := by decide +kernel
theorem dX4_builds_40 : decode cX4_builds 40 = .ok (.getfield 16, 3) := by decide +kernel
theorem dX4_builds_43 : decode cX4_builds 43 = .ok (.iload 4, 2) := by decide +kernel
theorem dX4_builds_45 : decode cX4_builds 45 = .ok (.iaload, 1) := by decide +kernel
theorem dX4_builds_46 : decode cX4_builds 46 = .ok (.ifCond .ne 21, 3) := by decide +kernel
theorem dX4_builds_49 : decode cX4_builds 49 = .ok (.aload_n 0, 1) := by decide +kernel
theorem dX4_builds_50 : decode cX4_builds 50 = .ok (.iload 5, 2) := by decide +kernel
theorem dX4_builds_52 : decode cX4_builds 52 = .ok (.aload_n 0, 1) := by decide +kernel
theorem dX4_builds_53 : decode cX4_builds 53 = .ok (.getfield 19, 3) := by decide +kernel
theorem dX4_builds_56 : decode cX4_builds 56 = .ok (.iconst 3, 1) := by decide +kernel
theorem dX4_builds_57 : decode cX4_builds 57 = .ok (.iload 4, 2) := by decide +kernel
theorem dX4_builds_59 : decode cX4_builds 59 = .ok (.imul, 1) := by decide +kernel
theorem dX4_builds_60 : decode cX4_builds 60 = .ok (.iaload, 1) := by decide +kernel
theorem dX4_builds_61 : decode cX4_builds 61 = .ok (.invokevirtual 197, 3) := by decide +kernel
theorem dX4_builds_64 : decode cX4_builds 64 = .ok (.goto 133, 3) := by decide +kernel
theorem dX4_builds_67 : decode cX4_builds 67 = .ok (.aload_n 0, 1) := by decide +kernel
theorem dX4_builds_68 : decode cX4_builds 68 = .ok (.getfield 16, 3) := by decide +kernel
theorem dX4_builds_71 : decode cX4_builds 71 = .ok (.iload 4, 2) := by decide +kernel
theorem dX4_builds_73 : decode cX4_builds 73 = .ok (.iaload, 1) := by decide +kernel
theorem dX4_builds_74 : decode cX4_builds 74 = .ok (.bipush 10, 2) := by decide +kernel
theorem dX4_builds_76 : decode cX4_builds 76 = .ok (.if_icmp .ne 52, 3) := by decide +kernel
theorem dX4_builds_79 : decode cX4_builds 79 = .ok (.aload_n 0, 1) := by decide +kernel
theorem dX4_builds_80 : decode cX4_builds 80 = .ok (.iload 5, 2) := by decide +kernel
theorem dX4_builds_82 : decode cX4_builds 82 = .ok (.bipush 12, 2) := by decide +kernel
theorem dX4_builds_84 : decode cX4_builds 84 = .ok (.aload_n 0, 1) := by decide +kernel
theorem dX4_builds_85 : decode cX4_builds 85 = .ok (.getfield 19, 3) := by decide +kernel
theorem dX4_builds_88 : decode cX4_builds 88 = .ok (.iconst 3, 1) := by decide +kernel
theorem dX4_builds_89 : decode cX4_builds 89 = .ok (.iload 4, 2) := by decide +kernel
theorem dX4_builds_91 : decode cX4_builds 91 = .ok (.imul, 1) := by decide +kernel
theorem dX4_builds_92 : decode cX4_builds 92 = .ok (.iaload, 1) := by decide +kernel
theorem dX4_builds_93 : decode cX4_builds 93 = .ok (.iadd, 1) := by decide +kernel
theorem dX4_builds_94 : decode cX4_builds 94 = .ok (.bipush 12, 2) := by decide +kernel
theorem dX4_builds_96 : decode cX4_builds 96 = .ok (.aload_n 0, 1) := by decide +kernel
theorem dX4_builds_97 : decode cX4_builds 97 = .ok (.getfield 19, 3) := by decide +kernel
theorem dX4_builds_100 : decode cX4_builds 100 = .ok (.iconst 3, 1) := by decide +kernel
theorem dX4_builds_101 : decode cX4_builds 101 = .ok (.iload 4, 2) := by decide +kernel
theorem dX4_builds_103 : decode cX4_builds 103 = .ok (.imul, 1) := by decide +kernel
theorem dX4_builds_104 : decode cX4_builds 104 = .ok (.iconst 1, 1) := by decide +kernel
theorem dX4_builds_105 : decode cX4_builds 105 = .ok (.iadd, 1) := by decide +kernel
theorem dX4_builds_106 : decode cX4_builds 106 = .ok (.iaload, 1) := by decide +kernel
theorem dX4_builds_107 : decode cX4_builds 107 = .ok (.iadd, 1) := by decide +kernel
theorem dX4_builds_108 : decode cX4_builds 108 = .ok (.bipush 12, 2) := by decide +kernel
theorem dX4_builds_110 : decode cX4_builds 110 = .ok (.aload_n 0, 1) := by decide +kernel
theorem dX4_builds_111 : decode cX4_builds 111 = .ok (.getfield 19, 3) := by decide +kernel
theorem dX4_builds_114 : decode cX4_builds 114 = .ok (.iconst 3, 1) := by decide +kernel
theorem dX4_builds_115 : decode cX4_builds 115 = .ok (.iload 4, 2) := by decide +kernel
theorem dX4_builds_117 : decode cX4_builds 117 = .ok (.imul, 1) := by decide +kernel
theorem dX4_builds_118 : decode cX4_builds 118 = .ok (.iconst 2, 1) := by decide +kernel
theorem dX4_builds_119 : decode cX4_builds 119 = .ok (.iadd, 1) := by decide +kernel
theorem dX4_builds_120 : decode cX4_builds 120 = .ok (.iaload, 1) := by decide +kernel
theorem dX4_builds_121 : decode cX4_builds 121 = .ok (.iadd, 1) := by decide +kernel
theorem dX4_builds_122 : decode cX4_builds 122 = .ok (.invokevirtual 200, 3) := by decide +kernel
theorem dX4_builds_125 : decode cX4_builds 125 = .ok (.goto 72, 3) := by decide +kernel
theorem dX4_builds_128 : decode cX4_builds 128 = .ok (.aload_n 0, 1) := by decide +kernel
theorem dX4_builds_129 : decode cX4_builds 129 = .ok (.iload 5, 2) := by decide +kernel
theorem dX4_builds_131 : decode cX4_builds 131 = .ok (.aload_n 0, 1) := by decide +kernel
theorem dX4_builds_132 : decode cX4_builds 132 = .ok (.getfield 16, 3) := by decide +kernel
theorem dX4_builds_135 : decode cX4_builds 135 = .ok (.iload 4, 2) := by decide +kernel
theorem dX4_builds_137 : decode cX4_builds 137 = .ok (.iaload, 1) := by decide +kernel
theorem dX4_builds_138 : decode cX4_builds 138 = .ok (.bipush 12, 2) := by decide +kernel
theorem dX4_builds_140 : decode cX4_builds 140 = .ok (.aload_n 0, 1) := by decide +kernel
theorem dX4_builds_141 : decode cX4_builds 141 = .ok (.getfield 16, 3) := by decide +kernel
theorem dX4_builds_144 : decode cX4_builds 144 = .ok (.iload 4, 2) := by decide +kernel
theorem dX4_builds_146 : decode cX4_builds 146 = .ok (.iaload, 1) := by decide +kernel
theorem dX4_builds_147 : decode cX4_builds 147 = .ok (.iconst 2, 1) := by decide +kernel
theorem dX4_builds_148 : decode cX4_builds 148 = .ok (.if_icmp .le 15, 3) := by decide +kernel
theorem dX4_builds_151 : decode cX4_builds 151 = .ok (.aload_n 0, 1) := by decide +kernel
theorem dX4_builds_152 : decode cX4_builds 152 = .ok (.getfield 19, 3) := by decide +kernel
theorem dX4_builds_155 : decode cX4_builds 155 = .ok (.iconst 3, 1) := by decide +kernel
theorem dX4_builds_156 : decode cX4_builds 156 = .ok (.iload 4, 2) := by decide +kernel
theorem dX4_builds_158 : decode cX4_builds 158 = .ok (.imul, 1) := by decide +kernel
theorem dX4_builds_159 : decode cX4_builds 159 = .ok (.iaload, 1) := by decide +kernel
theorem dX4_builds_160 : decode cX4_builds 160 = .ok (.goto 4, 3) := by decide +kernel
theorem dX4_builds_163 : decode cX4_builds 163 = .ok (.iconst 0, 1) := by decide +kernel
theorem dX4_builds_164 : decode cX4_builds 164 = .ok (.iadd, 1) := by decide +kernel
theorem dX4_builds_165 : decode cX4_builds 165 = .ok (.bipush 12, 2) := by decide +kernel
theorem dX4_builds_167 : decode cX4_builds 167 = .ok (.aload_n 0, 1) := by decide +kernel
theorem dX4_builds_168 : decode cX4_builds 168 = .ok (.getfield 16, 3) := by decide +kernel
theorem dX4_builds_171 : decode cX4_builds 171 = .ok (.iload 4, 2) := by decide +kernel
theorem dX4_builds_173 : decode cX4_builds 173 = .ok (.iaload, 1) := by decide +kernel
theorem dX4_builds_174 : decode cX4_builds 174 = .ok (.iconst 3, 1) := by decide +kernel
theorem dX4_builds_175 : decode cX4_builds 175 = .ok (.if_icmp .le 17, 3) := by decide +kernel
theorem dX4_builds_178 : decode cX4_builds 178 = .ok (.aload_n 0, 1) := by decide +kernel
theorem dX4_builds_179 : decode cX4_builds 179 = .ok (.getfield 19, 3) := by decide +kernel
theorem dX4_builds_182 : decode cX4_builds 182 = .ok (.iconst 3, 1) := by decide +kernel
theorem dX4_builds_183 : decode cX4_builds 183 = .ok (.iload 4, 2) := by decide +kernel
theorem dX4_builds_185 : decode cX4_builds 185 = .ok (.imul, 1) := by decide +kernel
theorem dX4_builds_186 : decode cX4_builds 186 = .ok (.iconst 1, 1) := by decide +kernel
theorem dX4_builds_187 : decode cX4_builds 187 = .ok (.iadd, 1) := by decide +kernel
theorem dX4_builds_188 : decode cX4_builds 188 = .ok (.iaload, 1) := by decide +kernel
theorem dX4_builds_189 : decode cX4_builds 189 = .ok (.goto 4, 3) := by decide +kernel
theorem dX4_builds_192 : decode cX4_builds 192 = .ok (.iconst 0, 1) := by decide +kernel
theorem dX4_builds_193 : decode cX4_builds 193 = .ok (.iadd, 1) := by decide +kernel
theorem dX4_builds_194 : decode cX4_builds 194 = .ok (.invokevirtual 204, 3) := by decide +kernel
theorem dX4_builds_197 : decode cX4_builds 197 = .ok (.aload_n 0, 1) := by decide +kernel
theorem dX4_builds_198 : decode cX4_builds 198 = .ok (.iload 5, 2) := by decide +kernel
theorem dX4_builds_200 : decode cX4_builds 200 = .ok (.invokevirtual 207, 3) := by decide +kernel
theorem dX4_builds_203 : decode cX4_builds 203 = .ok (.ifCond .ne 5, 3) := by decide +kernel
theorem dX4_builds_206 : decode cX4_builds 206 = .ok (.iconst 0, 1) := by decide +kernel
theorem dX4_builds_207 : decode cX4_builds 207 = .ok (.ireturn, 1) := by decide +kernel
theorem dX4_builds_208 : decode cX4_builds 208 = .ok (.iconst 0, 1) := by decide +kernel
theorem dX4_builds_209 : decode cX4_builds 209 = .ok (.istore 6, 2) := by decide +kernel
theorem dX4_builds_211 : decode cX4_builds 211 = .ok (.iload 6, 2) := by decide +kernel
theorem dX4_builds_213 : decode cX4_builds 213 = .ok (.iload_n 3, 1) := by decide +kernel
theorem dX4_builds_214 : decode cX4_builds 214 = .ok (.if_icmp .ge 39, 3) := by decide +kernel
theorem dX4_builds_217 : decode cX4_builds 217 = .ok (.aload_n 0, 1) := by decide +kernel
theorem dX4_builds_218 : decode cX4_builds 218 = .ok (.getfield 93, 3) := by decide +kernel
theorem dX4_builds_221 : decode cX4_builds 221 = .ok (.iload 6, 2) := by decide +kernel
theorem dX4_builds_223 : decode cX4_builds 223 = .ok (.baload, 1) := by decide +kernel
theorem dX4_builds_224 : decode cX4_builds 224 = .ok (.ifCond .eq 23, 3) := by decide +kernel
theorem dX4_builds_227 : decode cX4_builds 227 = .ok (.aload_n 0, 1) := by decide +kernel
theorem dX4_builds_228 : decode cX4_builds 228 = .ok (.getfield 96, 3) := by decide +kernel
theorem dX4_builds_231 : decode cX4_builds 231 = .ok (.iload 6, 2) := by decide +kernel
theorem dX4_builds_233 : decode cX4_builds 233 = .ok (.iaload, 1) := by decide +kernel
theorem dX4_builds_234 : decode cX4_builds 234 = .ok (.iload_n 3, 1) := by decide +kernel
theorem dX4_builds_235 : decode cX4_builds 235 = .ok (.if_icmp .ne 12, 3) := by decide +kernel
theorem dX4_builds_238 : decode cX4_builds 238 = .ok (.aload_n 0, 1) := by decide +kernel
theorem dX4_builds_239 : decode cX4_builds 239 = .ok (.bipush 12, 2) := by decide +kernel
theorem dX4_builds_241 : decode cX4_builds 241 = .ok (.iload 6, 2) := by decide +kernel
theorem dX4_builds_243 : decode cX4_builds 243 = .ok (.iadd, 1) := by decide +kernel
theorem dX4_builds_244 : decode cX4_builds 244 = .ok (.invokevirtual 179, 3) := by decide +kernel
theorem dX4_builds_247 : decode cX4_builds 247 = .ok (.iinc 6 1, 3) := by decide +kernel
theorem dX4_builds_250 : decode cX4_builds 250 = .ok (.goto (-39), 3) := by decide +kernel
theorem dX4_builds_253 : decode cX4_builds 253 = .ok (.iinc 3 1, 3) := by decide +kernel
theorem dX4_builds_256 : decode cX4_builds 256 = .ok (.goto (-248), 3) := by decide +kernel
theorem dX4_builds_259 : decode cX4_builds 259 = .ok (.iconst 1, 1) := by decide +kernel
theorem dX4_builds_260 : decode cX4_builds 260 = .ok (.ireturn, 1) := by decide +kernel
theorem dX4_isHandle_0 : decode cX4_isHandle 0 = .ok (.iload_n 0, 1) := by decide +kernel
theorem dX4_isHandle_1 : decode cX4_isHandle 1 = .ok (.iconst 0, 1) := by decide +kernel
theorem dX4_isHandle_2 : decode cX4_isHandle 2 = .ok (.bipush 11, 2) := by decide +kernel
theorem dX4_isHandle_4 : decode cX4_isHandle 4 = .ok (.invokestatic 112, 3) := by decide +kernel
theorem dX4_isHandle_7 : decode cX4_isHandle 7 = .ok (.ireturn, 1) := by decide +kernel
theorem dX4_isFunction_0 : decode cX4_isFunction 0 = .ok (.iload_n 1, 1) := by decide +kernel
theorem dX4_isFunction_1 : decode cX4_isFunction 1 = .ok (.invokestatic 210, 3) := by decide +kernel
theorem dX4_isFunction_4 : decode cX4_isFunction 4 = .ok (.ifCond .eq 16, 3) := by decide +kernel
theorem dX4_isFunction_7 : decode cX4_isFunction 7 = .ok (.aload_n 0, 1) := by decide +kernel
theorem dX4_isFunction_8 : decode cX4_isFunction 8 = .ok (.getfield 44, 3) := by decide +kernel
theorem dX4_isFunction_11 : decode cX4_isFunction 11 = .ok (.iload_n 1, 1) := by decide +kernel
theorem dX4_isFunction_12 : decode cX4_isFunction 12 = .ok (.baload, 1) := by decide +kernel
theorem dX4_isFunction_13 : decode cX4_isFunction 13 = .ok (.ifCond .eq 7, 3) := by decide +kernel
theorem dX4_isFunction_16 : decode cX4_isFunction 16 = .ok (.iconst 1, 1) := by decide +kernel
theorem dX4_isFunction_17 : decode cX4_isFunction 17 = .ok (.goto 4, 3) := by decide +kernel
theorem dX4_isFunction_20 : decode cX4_isFunction 20 = .ok (.iconst 0, 1) := by decide +kernel
theorem dX4_isFunction_21 : decode cX4_isFunction 21 = .ok (.ireturn, 1) := by decide +kernel
theorem dX4_begin_0 : decode cX4_begin 0 = .ok (.aload_n 0, 1) := by decide +kernel
theorem dX4_begin_1 : decode cX4_begin 1 = .ok (.iconst 0, 1) := by decide +kernel
theorem dX4_begin_2 : decode cX4_begin 2 = .ok (.putfield 176, 3) := by decide +kernel
theorem dX4_begin_5 : decode cX4_begin 5 = .ok (.return_, 1) := by decide +kernel
theorem dX4_build_0 : decode cX4_build 0 = .ok (.iload_n 1, 1) := by decide +kernel
theorem dX4_build_1 : decode cX4_build 1 = .ok (.invokestatic 210, 3) := by decide +kernel
theorem dX4_build_4 : decode cX4_build 4 = .ok (.ifCond .eq 12, 3) := by decide +kernel
theorem dX4_build_7 : decode cX4_build 7 = .ok (.aload_n 0, 1) := by decide +kernel
theorem dX4_build_8 : decode cX4_build 8 = .ok (.iload_n 2, 1) := by decide +kernel
theorem dX4_build_9 : decode cX4_build 9 = .ok (.iload_n 3, 1) := by decide +kernel
theorem dX4_build_10 : decode cX4_build 10 = .ok (.invokevirtual 128, 3) := by decide +kernel
theorem dX4_build_13 : decode cX4_build 13 = .ok (.ifCond .ne 5, 3) := by decide +kernel
theorem dX4_build_16 : decode cX4_build 16 = .ok (.iconst (-1), 1) := by decide +kernel
theorem dX4_build_17 : decode cX4_build 17 = .ok (.ireturn, 1) := by decide +kernel
theorem dX4_build_18 : decode cX4_build 18 = .ok (.aload_n 0, 1) := by decide +kernel
theorem dX4_build_19 : decode cX4_build 19 = .ok (.invokevirtual 213, 3) := by decide +kernel
theorem dX4_build_22 : decode cX4_build 22 = .ok (.aload_n 0, 1) := by decide +kernel
theorem dX4_build_23 : decode cX4_build 23 = .ok (.getfield 22, 3) := by decide +kernel
theorem dX4_build_26 : decode cX4_build 26 = .ok (.iconst 4, 1) := by decide +kernel
theorem dX4_build_27 : decode cX4_build 27 = .ok (.iload_n 2, 1) := by decide +kernel
theorem dX4_build_28 : decode cX4_build 28 = .ok (.imul, 1) := by decide +kernel
theorem dX4_build_29 : decode cX4_build 29 = .ok (.iload_n 3, 1) := by decide +kernel
theorem dX4_build_30 : decode cX4_build 30 = .ok (.iadd, 1) := by decide +kernel
theorem dX4_build_31 : decode cX4_build 31 = .ok (.iaload, 1) := by decide +kernel
theorem dX4_build_32 : decode cX4_build 32 = .ok (.istore 4, 2) := by decide +kernel
theorem dX4_build_34 : decode cX4_build 34 = .ok (.aload_n 0, 1) := by decide +kernel
theorem dX4_build_35 : decode cX4_build 35 = .ok (.iload_n 1, 1) := by decide +kernel
theorem dX4_build_36 : decode cX4_build 36 = .ok (.bipush 12, 2) := by decide +kernel
theorem dX4_build_38 : decode cX4_build 38 = .ok (.iload 4, 2) := by decide +kernel
theorem dX4_build_40 : decode cX4_build 40 = .ok (.iadd, 1) := by decide +kernel
theorem dX4_build_41 : decode cX4_build 41 = .ok (.aload_n 0, 1) := by decide +kernel
theorem dX4_build_42 : decode cX4_build 42 = .ok (.iload_n 2, 1) := by decide +kernel
theorem dX4_build_43 : decode cX4_build 43 = .ok (.iload 4, 2) := by decide +kernel
theorem dX4_build_45 : decode cX4_build 45 = .ok (.invokevirtual 216, 3) := by decide +kernel
theorem dX4_build_48 : decode cX4_build 48 = .ok (.invokevirtual 219, 3) := by decide +kernel
theorem dX4_build_51 : decode cX4_build 51 = .ok (.ireturn, 1) := by decide +kernel
theorem dX4_variable_0 : decode cX4_variable 0 = .ok (.iload_n 1, 1) := by decide +kernel
theorem dX4_variable_1 : decode cX4_variable 1 = .ok (.invokestatic 210, 3) := by decide +kernel
theorem dX4_variable_4 : decode cX4_variable 4 = .ok (.ifCond .ne 5, 3) := by decide +kernel
theorem dX4_variable_7 : decode cX4_variable 7 = .ok (.iconst (-1), 1) := by decide +kernel
theorem dX4_variable_8 : decode cX4_variable 8 = .ok (.ireturn, 1) := by decide +kernel
theorem dX4_variable_9 : decode cX4_variable 9 = .ok (.iload_n 2, 1) := by decide +kernel
theorem dX4_variable_10 : decode cX4_variable 10 = .ok (.iconst 0, 1) := by decide +kernel
theorem dX4_variable_11 : decode cX4_variable 11 = .ok (.bipush 7, 2) := by decide +kernel
theorem dX4_variable_13 : decode cX4_variable 13 = .ok (.invokestatic 112, 3) := by decide +kernel
theorem dX4_variable_16 : decode cX4_variable 16 = .ok (.ifCond .ne 6, 3) := by decide +kernel
theorem dX4_variable_19 : decode cX4_variable 19 = .ok (.bipush (-2), 2) := by decide +kernel
theorem dX4_variable_21 : decode cX4_variable 21 = .ok (.ireturn, 1) := by decide +kernel
theorem dX4_variable_22 : decode cX4_variable 22 = .ok (.aload_n 0, 1) := by decide +kernel
theorem dX4_variable_23 : decode cX4_variable 23 = .ok (.invokevirtual 213, 3) := by decide +kernel
theorem dX4_variable_26 : decode cX4_variable 26 = .ok (.aload_n 0, 1) := by decide +kernel
theorem dX4_variable_27 : decode cX4_variable 27 = .ok (.bipush 55, 2) := by decide +kernel
theorem dX4_variable_29 : decode cX4_variable 29 = .ok (.iload_n 2, 1) := by decide +kernel
theorem dX4_variable_30 : decode cX4_variable 30 = .ok (.invokevirtual 197, 3) := by decide +kernel
theorem dX4_variable_33 : decode cX4_variable 33 = .ok (.aload_n 0, 1) := by decide +kernel
theorem dX4_variable_34 : decode cX4_variable 34 = .ok (.iload_n 1, 1) := by decide +kernel
theorem dX4_variable_35 : decode cX4_variable 35 = .ok (.bipush 55, 2) := by decide +kernel
theorem dX4_variable_37 : decode cX4_variable 37 = .ok (.aload_n 0, 1) := by decide +kernel
theorem dX4_variable_38 : decode cX4_variable 38 = .ok (.bipush 55, 2) := by decide +kernel
theorem dX4_variable_40 : decode cX4_variable 40 = .ok (.invokevirtual 207, 3) := by decide +kernel
theorem dX4_variable_43 : decode cX4_variable 43 = .ok (.invokevirtual 219, 3) := by decide +kernel
theorem dX4_variable_46 : decode cX4_variable 46 = .ok (.ireturn, 1) := by decide +kernel
theorem dX4_combine_0 : decode cX4_combine 0 = .ok (.iload_n 1, 1) := by decide +kernel
theorem dX4_combine_1 : decode cX4_combine 1 = .ok (.invokestatic 210, 3) := by decide +kernel
theorem dX4_combine_4 : decode cX4_combine 4 = .ok (.ifCond .eq 35, 3) := by decide +kernel
theorem dX4_combine_7 : decode cX4_combine 7 = .ok (.iload_n 2, 1) := by decide +kernel
theorem dX4_combine_8 : decode cX4_combine 8 = .ok (.iconst 3, 1) := by decide +kernel
theorem dX4_combine_9 : decode cX4_combine 9 = .ok (.bipush 9, 2) := by decide +kernel
theorem dX4_combine_11 : decode cX4_combine 11 = .ok (.invokestatic 112, 3) := by decide +kernel
theorem dX4_combine_14 : decode cX4_combine 14 = .ok (.ifCond .eq 27, 3) := by decide +kernel
theorem dX4_combine_17 : decode cX4_combine 17 = .ok (.aload_n 0, 1) := by decide +kernel
theorem dX4_combine_18 : decode cX4_combine 18 = .ok (.iload_n 3, 1) := by decide +kernel
theorem dX4_combine_19 : decode cX4_combine 19 = .ok (.invokevirtual 223, 3) := by decide +kernel
theorem dX4_combine_22 : decode cX4_combine 22 = .ok (.ifCond .eq 17, 3) := by decide +kernel
theorem dX4_combine_25 : decode cX4_combine 25 = .ok (.iload_n 2, 1) := by decide +kernel
theorem dX4_combine_26 : decode cX4_combine 26 = .ok (.iconst 3, 1) := by decide +kernel
theorem dX4_combine_27 : decode cX4_combine 27 = .ok (.if_icmp .eq 14, 3) := by decide +kernel
theorem dX4_combine_30 : decode cX4_combine 30 = .ok (.aload_n 0, 1) := by decide +kernel
theorem dX4_combine_31 : decode cX4_combine 31 = .ok (.iload 4, 2) := by decide +kernel
theorem dX4_combine_33 : decode cX4_combine 33 = .ok (.invokevirtual 223, 3) := by decide +kernel
theorem dX4_combine_36 : decode cX4_combine 36 = .ok (.ifCond .ne 5, 3) := by decide +kernel
theorem dX4_combine_39 : decode cX4_combine 39 = .ok (.iconst (-1), 1) := by decide +kernel
theorem dX4_combine_40 : decode cX4_combine 40 = .ok (.ireturn, 1) := by decide +kernel
theorem dX4_combine_41 : decode cX4_combine 41 = .ok (.iload_n 2, 1) := by decide +kernel
theorem dX4_combine_42 : decode cX4_combine 42 = .ok (.iconst 1, 1) := by decide +kernel
theorem dX4_combine_43 : decode cX4_combine 43 = .ok (.bipush 9, 2) := by decide +kernel
theorem dX4_combine_45 : decode cX4_combine 45 = .ok (.invokestatic 112, 3) := by decide +kernel
theorem dX4_combine_48 : decode cX4_combine 48 = .ok (.ifCond .ne 6, 3) := by decide +kernel
theorem dX4_combine_51 : decode cX4_combine 51 = .ok (.bipush (-2), 2) := by decide +kernel
theorem dX4_combine_53 : decode cX4_combine 53 = .ok (.ireturn, 1) := by decide +kernel
theorem dX4_combine_54 : decode cX4_combine 54 = .ok (.aload_n 0, 1) := by decide +kernel
theorem dX4_combine_55 : decode cX4_combine 55 = .ok (.invokevirtual 213, 3) := by decide +kernel
theorem dX4_combine_58 : decode cX4_combine 58 = .ok (.aload_n 0, 1) := by decide +kernel
theorem dX4_combine_59 : decode cX4_combine 59 = .ok (.bipush 55, 2) := by decide +kernel
theorem dX4_combine_61 : decode cX4_combine 61 = .ok (.iload_n 2, 1) := by decide +kernel
theorem dX4_combine_62 : decode cX4_combine 62 = .ok (.iload_n 2, 1) := by decide +kernel
theorem dX4_combine_63 : decode cX4_combine 63 = .ok (.iconst 2, 1) := by decide +kernel
theorem dX4_combine_64 : decode cX4_combine 64 = .ok (.if_icmp .le 7, 3) := by decide +kernel
theorem dX4_combine_67 : decode cX4_combine 67 = .ok (.iload_n 3, 1) := by decide +kernel
theorem dX4_combine_68 : decode cX4_combine 68 = .ok (.goto 4, 3) := by decide +kernel
theorem dX4_combine_71 : decode cX4_combine 71 = .ok (.iconst 0, 1) := by decide +kernel
theorem dX4_combine_72 : decode cX4_combine 72 = .ok (.iload_n 2, 1) := by decide +kernel
theorem dX4_combine_73 : decode cX4_combine 73 = .ok (.iconst 3, 1) := by decide +kernel
theorem dX4_combine_74 : decode cX4_combine 74 = .ok (.if_icmp .le 8, 3) := by decide +kernel
theorem dX4_combine_77 : decode cX4_combine 77 = .ok (.iload 4, 2) := by decide +kernel
theorem dX4_combine_79 : decode cX4_combine 79 = .ok (.goto 4, 3) := by decide +kernel
theorem dX4_combine_82 : decode cX4_combine 82 = .ok (.iconst 0, 1) := by decide +kernel
theorem dX4_combine_83 : decode cX4_combine 83 = .ok (.invokevirtual 204, 3) := by decide +kernel
theorem dX4_combine_86 : decode cX4_combine 86 = .ok (.aload_n 0, 1) := by decide +kernel
theorem dX4_combine_87 : decode cX4_combine 87 = .ok (.iload_n 1, 1) := by decide +kernel
theorem dX4_combine_88 : decode cX4_combine 88 = .ok (.bipush 55, 2) := by decide +kernel
theorem dX4_combine_90 : decode cX4_combine 90 = .ok (.aload_n 0, 1) := by decide +kernel
theorem dX4_combine_91 : decode cX4_combine 91 = .ok (.bipush 55, 2) := by decide +kernel
theorem dX4_combine_93 : decode cX4_combine 93 = .ok (.invokevirtual 207, 3) := by decide +kernel
theorem dX4_combine_96 : decode cX4_combine 96 = .ok (.invokevirtual 219, 3) := by decide +kernel
theorem dX4_combine_99 : decode cX4_combine 99 = .ok (.ireturn, 1) := by decide +kernel
theorem dX4_choose_0 : decode cX4_choose 0 = .ok (.iload_n 1, 1) := by decide +kernel
theorem dX4_choose_1 : decode cX4_choose 1 = .ok (.invokestatic 210, 3) := by decide +kernel
theorem dX4_choose_4 : decode cX4_choose 4 = .ok (.ifCond .eq 28, 3) := by decide +kernel
theorem dX4_choose_7 : decode cX4_choose 7 = .ok (.aload_n 0, 1) := by decide +kernel
theorem dX4_choose_8 : decode cX4_choose 8 = .ok (.iload_n 2, 1) := by decide +kernel
theorem dX4_choose_9 : decode cX4_choose 9 = .ok (.invokevirtual 223, 3) := by decide +kernel
theorem dX4_choose_12 : decode cX4_choose 12 = .ok (.ifCond .eq 20, 3) := by decide +kernel
theorem dX4_choose_15 : decode cX4_choose 15 = .ok (.aload_n 0, 1) := by decide +kernel
theorem dX4_choose_16 : decode cX4_choose 16 = .ok (.iload_n 3, 1) := by decide +kernel
theorem dX4_choose_17 : decode cX4_choose 17 = .ok (.invokevirtual 223, 3) := by decide +kernel
theorem dX4_choose_20 : decode cX4_choose 20 = .ok (.ifCond .eq 12, 3) := by decide +kernel
theorem dX4_choose_23 : decode cX4_choose 23 = .ok (.aload_n 0, 1) := by decide +kernel
theorem dX4_choose_24 : decode cX4_choose 24 = .ok (.iload 4, 2) := by decide +kernel
theorem dX4_choose_26 : decode cX4_choose 26 = .ok (.invokevirtual 223, 3) := by decide +kernel
theorem dX4_choose_29 : decode cX4_choose 29 = .ok (.ifCond .ne 5, 3) := by decide +kernel
theorem dX4_choose_32 : decode cX4_choose 32 = .ok (.iconst (-1), 1) := by decide +kernel
theorem dX4_choose_33 : decode cX4_choose 33 = .ok (.ireturn, 1) := by decide +kernel
theorem dX4_choose_34 : decode cX4_choose 34 = .ok (.aload_n 0, 1) := by decide +kernel
theorem dX4_choose_35 : decode cX4_choose 35 = .ok (.invokevirtual 213, 3) := by decide +kernel
theorem dX4_choose_38 : decode cX4_choose 38 = .ok (.aload_n 0, 1) := by decide +kernel
theorem dX4_choose_39 : decode cX4_choose 39 = .ok (.bipush 55, 2) := by decide +kernel
theorem dX4_choose_41 : decode cX4_choose 41 = .ok (.iload_n 2, 1) := by decide +kernel
theorem dX4_choose_42 : decode cX4_choose 42 = .ok (.iload_n 3, 1) := by decide +kernel
theorem dX4_choose_43 : decode cX4_choose 43 = .ok (.iload 4, 2) := by decide +kernel
theorem dX4_choose_45 : decode cX4_choose 45 = .ok (.invokevirtual 200, 3) := by decide +kernel
theorem dX4_choose_48 : decode cX4_choose 48 = .ok (.aload_n 0, 1) := by decide +kernel
theorem dX4_choose_49 : decode cX4_choose 49 = .ok (.iload_n 1, 1) := by decide +kernel
theorem dX4_choose_50 : decode cX4_choose 50 = .ok (.bipush 55, 2) := by decide +kernel
theorem dX4_choose_52 : decode cX4_choose 52 = .ok (.aload_n 0, 1) := by decide +kernel
theorem dX4_choose_53 : decode cX4_choose 53 = .ok (.bipush 55, 2) := by decide +kernel
theorem dX4_choose_55 : decode cX4_choose 55 = .ok (.invokevirtual 207, 3) := by decide +kernel
theorem dX4_choose_58 : decode cX4_choose 58 = .ok (.invokevirtual 219, 3) := by decide +kernel
theorem dX4_choose_61 : decode cX4_choose 61 = .ok (.ireturn, 1) := by decide +kernel
theorem dX4_noHalf_0 : decode cX4_noHalf 0 = .ok (.iload_n 1, 1) := by decide +kernel
theorem dX4_noHalf_1 : decode cX4_noHalf 1 = .ok (.invokestatic 210, 3) := by decide +kernel
theorem dX4_noHalf_4 : decode cX4_noHalf 4 = .ok (.ifCond .eq 11, 3) := by decide +kernel
theorem dX4_noHalf_7 : decode cX4_noHalf 7 = .ok (.aload_n 0, 1) := by decide +kernel
theorem dX4_noHalf_8 : decode cX4_noHalf 8 = .ok (.iload_n 2, 1) := by decide +kernel
theorem dX4_noHalf_9 : decode cX4_noHalf 9 = .ok (.invokevirtual 223, 3) := by decide +kernel
theorem dX4_noHalf_12 : decode cX4_noHalf 12 = .ok (.ifCond .ne 7, 3) := by decide +kernel
theorem dX4_noHalf_15 : decode cX4_noHalf 15 = .ok (.iconst (-1), 1) := by decide +kernel
theorem dX4_noHalf_16 : decode cX4_noHalf 16 = .ok (.goto 19, 3) := by decide +kernel
theorem dX4_noHalf_19 : decode cX4_noHalf 19 = .ok (.iload_n 3, 1) := by decide +kernel
theorem dX4_noHalf_20 : decode cX4_noHalf 20 = .ok (.iconst 0, 1) := by decide +kernel
theorem dX4_noHalf_21 : decode cX4_noHalf 21 = .ok (.bipush 7, 2) := by decide +kernel
theorem dX4_noHalf_23 : decode cX4_noHalf 23 = .ok (.invokestatic 112, 3) := by decide +kernel
theorem dX4_noHalf_26 : decode cX4_noHalf 26 = .ok (.ifCond .eq 7, 3) := by decide +kernel
theorem dX4_noHalf_29 : decode cX4_noHalf 29 = .ok (.iconst 0, 1) := by decide +kernel
theorem dX4_noHalf_30 : decode cX4_noHalf 30 = .ok (.goto 5, 3) := by decide +kernel
theorem dX4_noHalf_33 : decode cX4_noHalf 33 = .ok (.bipush (-2), 2) := by decide +kernel
theorem dX4_noHalf_35 : decode cX4_noHalf 35 = .ok (.ireturn, 1) := by decide +kernel
theorem dX4_restrict_0 : decode cX4_restrict 0 = .ok (.aload_n 0, 1) := by decide +kernel
theorem dX4_restrict_1 : decode cX4_restrict 1 = .ok (.iload_n 1, 1) := by decide +kernel
theorem dX4_restrict_2 : decode cX4_restrict 2 = .ok (.iload_n 2, 1) := by decide +kernel
theorem dX4_restrict_3 : decode cX4_restrict 3 = .ok (.iload_n 3, 1) := by decide +kernel
theorem dX4_restrict_4 : decode cX4_restrict 4 = .ok (.invokevirtual 226, 3) := by decide +kernel
theorem dX4_restrict_7 : decode cX4_restrict 7 = .ok (.ifCond .ge 11, 3) := by decide +kernel
theorem dX4_restrict_10 : decode cX4_restrict 10 = .ok (.aload_n 0, 1) := by decide +kernel
theorem dX4_restrict_11 : decode cX4_restrict 11 = .ok (.iload_n 1, 1) := by decide +kernel
theorem dX4_restrict_12 : decode cX4_restrict 12 = .ok (.iload_n 2, 1) := by decide +kernel
theorem dX4_restrict_13 : decode cX4_restrict 13 = .ok (.iload_n 3, 1) := by decide +kernel
theorem dX4_restrict_14 : decode cX4_restrict 14 = .ok (.invokevirtual 226, 3) := by decide +kernel
theorem dX4_restrict_17 : decode cX4_restrict 17 = .ok (.ireturn, 1) := by decide +kernel
theorem dX4_restrict_18 : decode cX4_restrict 18 = .ok (.aload_n 0, 1) := by decide +kernel
theorem dX4_restrict_19 : decode cX4_restrict 19 = .ok (.invokevirtual 213, 3) := by decide +kernel
theorem dX4_restrict_22 : decode cX4_restrict 22 = .ok (.aload_n 0, 1) := by decide +kernel
theorem dX4_restrict_23 : decode cX4_restrict 23 = .ok (.bipush 55, 2) := by decide +kernel
theorem dX4_restrict_25 : decode cX4_restrict 25 = .ok (.iload_n 2, 1) := by decide +kernel
theorem dX4_restrict_26 : decode cX4_restrict 26 = .ok (.iload_n 3, 1) := by decide +kernel
theorem dX4_restrict_27 : decode cX4_restrict 27 = .ok (.iload 4, 2) := by decide +kernel
theorem dX4_restrict_29 : decode cX4_restrict 29 = .ok (.invokevirtual 230, 3) := by decide +kernel
theorem dX4_restrict_32 : decode cX4_restrict 32 = .ok (.aload_n 0, 1) := by decide +kernel
theorem dX4_restrict_33 : decode cX4_restrict 33 = .ok (.iload_n 1, 1) := by decide +kernel
theorem dX4_restrict_34 : decode cX4_restrict 34 = .ok (.bipush 55, 2) := by decide +kernel
theorem dX4_restrict_36 : decode cX4_restrict 36 = .ok (.aload_n 0, 1) := by decide +kernel
theorem dX4_restrict_37 : decode cX4_restrict 37 = .ok (.bipush 55, 2) := by decide +kernel
theorem dX4_restrict_39 : decode cX4_restrict 39 = .ok (.invokevirtual 207, 3) := by decide +kernel
theorem dX4_restrict_42 : decode cX4_restrict 42 = .ok (.invokevirtual 219, 3) := by decide +kernel
theorem dX4_restrict_45 : decode cX4_restrict 45 = .ok (.ireturn, 1) := by decide +kernel
theorem dX4_halves_0 : decode cX4_halves 0 = .ok (.aload_n 0, 1) := by decide +kernel
theorem dX4_halves_1 : decode cX4_halves 1 = .ok (.invokevirtual 213, 3) := by decide +kernel
theorem dX4_halves_4 : decode cX4_halves 4 = .ok (.aload_n 0, 1) := by decide +kernel
theorem dX4_halves_5 : decode cX4_halves 5 = .ok (.bipush 53, 2) := by decide +kernel
theorem dX4_halves_7 : decode cX4_halves 7 = .ok (.iload_n 1, 1) := by decide +kernel
theorem dX4_halves_8 : decode cX4_halves 8 = .ok (.iload_n 2, 1) := by decide +kernel
theorem dX4_halves_9 : decode cX4_halves 9 = .ok (.iconst 0, 1) := by decide +kernel
theorem dX4_halves_10 : decode cX4_halves 10 = .ok (.invokevirtual 230, 3) := by decide +kernel
theorem dX4_halves_13 : decode cX4_halves 13 = .ok (.aload_n 0, 1) := by decide +kernel
theorem dX4_halves_14 : decode cX4_halves 14 = .ok (.bipush 53, 2) := by decide +kernel
theorem dX4_halves_16 : decode cX4_halves 16 = .ok (.invokevirtual 207, 3) := by decide +kernel
theorem dX4_halves_19 : decode cX4_halves 19 = .ok (.ifCond .ne 5, 3) := by decide +kernel
theorem dX4_halves_22 : decode cX4_halves 22 = .ok (.iconst 0, 1) := by decide +kernel
theorem dX4_halves_23 : decode cX4_halves 23 = .ok (.ireturn, 1) := by decide +kernel
theorem dX4_halves_24 : decode cX4_halves 24 = .ok (.aload_n 0, 1) := by decide +kernel
theorem dX4_halves_25 : decode cX4_halves 25 = .ok (.bipush 54, 2) := by decide +kernel
theorem dX4_halves_27 : decode cX4_halves 27 = .ok (.iload_n 1, 1) := by decide +kernel
theorem dX4_halves_28 : decode cX4_halves 28 = .ok (.iload_n 2, 1) := by decide +kernel
theorem dX4_halves_29 : decode cX4_halves 29 = .ok (.iconst 1, 1) := by decide +kernel
theorem dX4_halves_30 : decode cX4_halves 30 = .ok (.invokevirtual 230, 3) := by decide +kernel
theorem dX4_halves_33 : decode cX4_halves 33 = .ok (.aload_n 0, 1) := by decide +kernel
theorem dX4_halves_34 : decode cX4_halves 34 = .ok (.bipush 54, 2) := by decide +kernel
theorem dX4_halves_36 : decode cX4_halves 36 = .ok (.invokevirtual 207, 3) := by decide +kernel
theorem dX4_halves_39 : decode cX4_halves 39 = .ok (.ireturn, 1) := by decide +kernel
theorem dX4_quantify_0 : decode cX4_quantify 0 = .ok (.aload_n 0, 1) := by decide +kernel
theorem dX4_quantify_1 : decode cX4_quantify 1 = .ok (.iload_n 1, 1) := by decide +kernel
theorem dX4_quantify_2 : decode cX4_quantify 2 = .ok (.iload_n 2, 1) := by decide +kernel
theorem dX4_quantify_3 : decode cX4_quantify 3 = .ok (.iload_n 3, 1) := by decide +kernel
theorem dX4_quantify_4 : decode cX4_quantify 4 = .ok (.invokevirtual 226, 3) := by decide +kernel
theorem dX4_quantify_7 : decode cX4_quantify 7 = .ok (.ifCond .ge 11, 3) := by decide +kernel
theorem dX4_quantify_10 : decode cX4_quantify 10 = .ok (.aload_n 0, 1) := by decide +kernel
theorem dX4_quantify_11 : decode cX4_quantify 11 = .ok (.iload_n 1, 1) := by decide +kernel
theorem dX4_quantify_12 : decode cX4_quantify 12 = .ok (.iload_n 2, 1) := by decide +kernel
theorem dX4_quantify_13 : decode cX4_quantify 13 = .ok (.iload_n 3, 1) := by decide +kernel
theorem dX4_quantify_14 : decode cX4_quantify 14 = .ok (.invokevirtual 226, 3) := by decide +kernel
theorem dX4_quantify_17 : decode cX4_quantify 17 = .ok (.ireturn, 1) := by decide +kernel
theorem dX4_quantify_18 : decode cX4_quantify 18 = .ok (.aload_n 0, 1) := by decide +kernel
theorem dX4_quantify_19 : decode cX4_quantify 19 = .ok (.iload_n 2, 1) := by decide +kernel
theorem dX4_quantify_20 : decode cX4_quantify 20 = .ok (.iload_n 3, 1) := by decide +kernel
theorem dX4_quantify_21 : decode cX4_quantify 21 = .ok (.invokevirtual 234, 3) := by decide +kernel
theorem dX4_quantify_24 : decode cX4_quantify 24 = .ok (.istore 5, 2) := by decide +kernel
theorem dX4_quantify_26 : decode cX4_quantify 26 = .ok (.iload 5, 2) := by decide +kernel
theorem dX4_quantify_28 : decode cX4_quantify 28 = .ok (.ifCond .eq 31, 3) := by decide +kernel
theorem dX4_quantify_31 : decode cX4_quantify 31 = .ok (.aload_n 0, 1) := by decide +kernel
theorem dX4_quantify_32 : decode cX4_quantify 32 = .ok (.bipush 55, 2) := by decide +kernel
theorem dX4_quantify_34 : decode cX4_quantify 34 = .ok (.iload 4, 2) := by decide +kernel
theorem dX4_quantify_36 : decode cX4_quantify 36 = .ok (.ifCond .eq 7, 3) := by decide +kernel
theorem dX4_quantify_39 : decode cX4_quantify 39 = .ok (.iconst 4, 1) := by decide +kernel
theorem dX4_quantify_40 : decode cX4_quantify 40 = .ok (.goto 4, 3) := by decide +kernel
theorem dX4_quantify_43 : decode cX4_quantify 43 = .ok (.iconst 5, 1) := by decide +kernel
theorem dX4_quantify_44 : decode cX4_quantify 44 = .ok (.bipush 53, 2) := by decide +kernel
theorem dX4_quantify_46 : decode cX4_quantify 46 = .ok (.bipush 54, 2) := by decide +kernel
theorem dX4_quantify_48 : decode cX4_quantify 48 = .ok (.invokevirtual 204, 3) := by decide +kernel
theorem dX4_quantify_51 : decode cX4_quantify 51 = .ok (.aload_n 0, 1) := by decide +kernel
theorem dX4_quantify_52 : decode cX4_quantify 52 = .ok (.bipush 55, 2) := by decide +kernel
theorem dX4_quantify_54 : decode cX4_quantify 54 = .ok (.invokevirtual 207, 3) := by decide +kernel
theorem dX4_quantify_57 : decode cX4_quantify 57 = .ok (.istore 5, 2) := by decide +kernel
theorem dX4_quantify_59 : decode cX4_quantify 59 = .ok (.aload_n 0, 1) := by decide +kernel
theorem dX4_quantify_60 : decode cX4_quantify 60 = .ok (.iload_n 1, 1) := by decide +kernel
theorem dX4_quantify_61 : decode cX4_quantify 61 = .ok (.bipush 55, 2) := by decide +kernel
theorem dX4_quantify_63 : decode cX4_quantify 63 = .ok (.iload 5, 2) := by decide +kernel
theorem dX4_quantify_65 : decode cX4_quantify 65 = .ok (.invokevirtual 219, 3) := by decide +kernel
theorem dX4_quantify_68 : decode cX4_quantify 68 = .ok (.ireturn, 1) := by decide +kernel
theorem dX4_compose_0 : decode cX4_compose 0 = .ok (.aload_n 0, 1) := by decide +kernel
theorem dX4_compose_1 : decode cX4_compose 1 = .ok (.iload_n 1, 1) := by decide +kernel
theorem dX4_compose_2 : decode cX4_compose 2 = .ok (.iload_n 2, 1) := by decide +kernel
theorem dX4_compose_3 : decode cX4_compose 3 = .ok (.iload_n 3, 1) := by decide +kernel
theorem dX4_compose_4 : decode cX4_compose 4 = .ok (.invokevirtual 226, 3) := by decide +kernel
theorem dX4_compose_7 : decode cX4_compose 7 = .ok (.iconst (-1), 1) := by decide +kernel
theorem dX4_compose_8 : decode cX4_compose 8 = .ok (.if_icmp .eq 12, 3) := by decide +kernel
theorem dX4_compose_11 : decode cX4_compose 11 = .ok (.aload_n 0, 1) := by decide +kernel
theorem dX4_compose_12 : decode cX4_compose 12 = .ok (.iload 4, 2) := by decide +kernel
theorem dX4_compose_14 : decode cX4_compose 14 = .ok (.invokevirtual 223, 3) := by decide +kernel
theorem dX4_compose_17 : decode cX4_compose 17 = .ok (.ifCond .ne 5, 3) := by decide +kernel
theorem dX4_compose_20 : decode cX4_compose 20 = .ok (.iconst (-1), 1) := by decide +kernel
theorem dX4_compose_21 : decode cX4_compose 21 = .ok (.ireturn, 1) := by decide +kernel
theorem dX4_compose_22 : decode cX4_compose 22 = .ok (.iload_n 3, 1) := by decide +kernel
theorem dX4_compose_23 : decode cX4_compose 23 = .ok (.iconst 0, 1) := by decide +kernel
theorem dX4_compose_24 : decode cX4_compose 24 = .ok (.bipush 7, 2) := by decide +kernel
theorem dX4_compose_26 : decode cX4_compose 26 = .ok (.invokestatic 112, 3) := by decide +kernel
theorem dX4_compose_29 : decode cX4_compose 29 = .ok (.ifCond .ne 6, 3) := by decide +kernel
theorem dX4_compose_32 : decode cX4_compose 32 = .ok (.bipush (-2), 2) := by decide +kernel
theorem dX4_compose_34 : decode cX4_compose 34 = .ok (.ireturn, 1) := by decide +kernel
theorem dX4_compose_35 : decode cX4_compose 35 = .ok (.aload_n 0, 1) := by decide +kernel
theorem dX4_compose_36 : decode cX4_compose 36 = .ok (.iload_n 2, 1) := by decide +kernel
theorem dX4_compose_37 : decode cX4_compose 37 = .ok (.iload_n 3, 1) := by decide +kernel
theorem dX4_compose_38 : decode cX4_compose 38 = .ok (.invokevirtual 234, 3) := by decide +kernel
theorem dX4_compose_41 : decode cX4_compose 41 = .ok (.istore 5, 2) := by decide +kernel
theorem dX4_compose_43 : decode cX4_compose 43 = .ok (.iload 5, 2) := by decide +kernel
theorem dX4_compose_45 : decode cX4_compose 45 = .ok (.ifCond .eq 23, 3) := by decide +kernel
theorem dX4_compose_48 : decode cX4_compose 48 = .ok (.aload_n 0, 1) := by decide +kernel
theorem dX4_compose_49 : decode cX4_compose 49 = .ok (.bipush 55, 2) := by decide +kernel
theorem dX4_compose_51 : decode cX4_compose 51 = .ok (.iload 4, 2) := by decide +kernel
theorem dX4_compose_53 : decode cX4_compose 53 = .ok (.bipush 54, 2) := by decide +kernel
theorem dX4_compose_55 : decode cX4_compose 55 = .ok (.bipush 53, 2) := by decide +kernel
theorem dX4_compose_57 : decode cX4_compose 57 = .ok (.invokevirtual 200, 3) := by decide +kernel
theorem dX4_compose_60 : decode cX4_compose 60 = .ok (.aload_n 0, 1) := by decide +kernel
theorem dX4_compose_61 : decode cX4_compose 61 = .ok (.bipush 55, 2) := by decide +kernel
theorem dX4_compose_63 : decode cX4_compose 63 = .ok (.invokevirtual 207, 3) := by decide +kernel
theorem dX4_compose_66 : decode cX4_compose 66 = .ok (.istore 5, 2) := by decide +kernel
theorem dX4_compose_68 : decode cX4_compose 68 = .ok (.aload_n 0, 1) := by decide +kernel
theorem dX4_compose_69 : decode cX4_compose 69 = .ok (.iload_n 1, 1) := by decide +kernel
theorem dX4_compose_70 : decode cX4_compose 70 = .ok (.bipush 55, 2) := by decide +kernel
theorem dX4_compose_72 : decode cX4_compose 72 = .ok (.iload 5, 2) := by decide +kernel
theorem dX4_compose_74 : decode cX4_compose 74 = .ok (.invokevirtual 219, 3) := by decide +kernel
theorem dX4_compose_77 : decode cX4_compose 77 = .ok (.ireturn, 1) := by decide +kernel
theorem dX4_share_0 : decode cX4_share 0 = .ok (.iload_n 1, 1) := by decide +kernel
theorem dX4_share_1 : decode cX4_share 1 = .ok (.invokestatic 210, 3) := by decide +kernel
theorem dX4_share_4 : decode cX4_share 4 = .ok (.ifCond .eq 11, 3) := by decide +kernel
theorem dX4_share_7 : decode cX4_share 7 = .ok (.aload_n 0, 1) := by decide +kernel
theorem dX4_share_8 : decode cX4_share 8 = .ok (.iload_n 2, 1) := by decide +kernel
theorem dX4_share_9 : decode cX4_share 9 = .ok (.invokevirtual 223, 3) := by decide +kernel
theorem dX4_share_12 : decode cX4_share 12 = .ok (.ifCond .ne 5, 3) := by decide +kernel
theorem dX4_share_15 : decode cX4_share 15 = .ok (.iconst (-1), 1) := by decide +kernel
theorem dX4_share_16 : decode cX4_share 16 = .ok (.ireturn, 1) := by decide +kernel
theorem dX4_share_17 : decode cX4_share 17 = .ok (.iload_n 1, 1) := by decide +kernel
theorem dX4_share_18 : decode cX4_share 18 = .ok (.iload_n 2, 1) := by decide +kernel
theorem dX4_share_19 : decode cX4_share 19 = .ok (.if_icmp .eq 9, 3) := by decide +kernel
theorem dX4_share_22 : decode cX4_share 22 = .ok (.aload_n 0, 1) := by decide +kernel
theorem dX4_share_23 : decode cX4_share 23 = .ok (.iload_n 2, 1) := by decide +kernel
theorem dX4_share_24 : decode cX4_share 24 = .ok (.iload_n 1, 1) := by decide +kernel
theorem dX4_share_25 : decode cX4_share 25 = .ok (.invokevirtual 182, 3) := by decide +kernel
theorem dX4_share_28 : decode cX4_share 28 = .ok (.iconst 1, 1) := by decide +kernel
theorem dX4_share_29 : decode cX4_share 29 = .ok (.ireturn, 1) := by decide +kernel
theorem dX4_drop_0 : decode cX4_drop 0 = .ok (.iload_n 1, 1) := by decide +kernel
theorem dX4_drop_1 : decode cX4_drop 1 = .ok (.invokestatic 210, 3) := by decide +kernel
theorem dX4_drop_4 : decode cX4_drop 4 = .ok (.ifCond .ne 5, 3) := by decide +kernel
theorem dX4_drop_7 : decode cX4_drop 7 = .ok (.iconst (-1), 1) := by decide +kernel
theorem dX4_drop_8 : decode cX4_drop 8 = .ok (.ireturn, 1) := by decide +kernel
theorem dX4_drop_9 : decode cX4_drop 9 = .ok (.aload_n 0, 1) := by decide +kernel
theorem dX4_drop_10 : decode cX4_drop 10 = .ok (.getfield 44, 3) := by decide +kernel
theorem dX4_drop_13 : decode cX4_drop 13 = .ok (.iload_n 1, 1) := by decide +kernel
theorem dX4_drop_14 : decode cX4_drop 14 = .ok (.baload, 1) := by decide +kernel
theorem dX4_drop_15 : decode cX4_drop 15 = .ok (.ifCond .eq 7, 3) := by decide +kernel
theorem dX4_drop_18 : decode cX4_drop 18 = .ok (.iconst 1, 1) := by decide +kernel
theorem dX4_drop_19 : decode cX4_drop 19 = .ok (.goto 4, 3) := by decide +kernel
theorem dX4_drop_22 : decode cX4_drop 22 = .ok (.iconst 0, 1) := by decide +kernel
theorem dX4_drop_23 : decode cX4_drop 23 = .ok (.istore_n 2, 1) := by decide +kernel
theorem dX4_drop_24 : decode cX4_drop 24 = .ok (.aload_n 0, 1) := by decide +kernel
theorem dX4_drop_25 : decode cX4_drop 25 = .ok (.iload_n 1, 1) := by decide +kernel
theorem dX4_drop_26 : decode cX4_drop 26 = .ok (.invokevirtual 179, 3) := by decide +kernel
theorem dX4_drop_29 : decode cX4_drop 29 = .ok (.iload_n 2, 1) := by decide +kernel
theorem dX4_drop_30 : decode cX4_drop 30 = .ok (.ireturn, 1) := by decide +kernel
theorem dX4_nodes_0 : decode cX4_nodes 0 = .ok (.aload_n 0, 1) := by decide +kernel
theorem dX4_nodes_1 : decode cX4_nodes 1 = .ok (.iload_n 1, 1) := by decide +kernel
theorem dX4_nodes_2 : decode cX4_nodes 2 = .ok (.invokevirtual 223, 3) := by decide +kernel
theorem dX4_nodes_5 : decode cX4_nodes 5 = .ok (.ifCond .eq 12, 3) := by decide +kernel
theorem dX4_nodes_8 : decode cX4_nodes 8 = .ok (.aload_n 0, 1) := by decide +kernel
theorem dX4_nodes_9 : decode cX4_nodes 9 = .ok (.getfield 51, 3) := by decide +kernel
theorem dX4_nodes_12 : decode cX4_nodes 12 = .ok (.iload_n 1, 1) := by decide +kernel
theorem dX4_nodes_13 : decode cX4_nodes 13 = .ok (.iaload, 1) := by decide +kernel
theorem dX4_nodes_14 : decode cX4_nodes 14 = .ok (.goto 4, 3) := by decide +kernel
theorem dX4_nodes_17 : decode cX4_nodes 17 = .ok (.iconst (-1), 1) := by decide +kernel
theorem dX4_nodes_18 : decode cX4_nodes 18 = .ok (.ireturn, 1) := by decide +kernel
theorem dX4_inUse_0 : decode cX4_inUse 0 = .ok (.aload_n 0, 1) := by decide +kernel
theorem dX4_inUse_1 : decode cX4_inUse 1 = .ok (.getfield 149, 3) := by decide +kernel
theorem dX4_inUse_4 : decode cX4_inUse 4 = .ok (.ireturn, 1) := by decide +kernel
theorem dX4_common_0 : decode cX4_common 0 = .ok (.aload_n 0, 1) := by decide +kernel
theorem dX4_common_1 : decode cX4_common 1 = .ok (.iload_n 1, 1) := by decide +kernel
theorem dX4_common_2 : decode cX4_common 2 = .ok (.invokevirtual 223, 3) := by decide +kernel
theorem dX4_common_5 : decode cX4_common 5 = .ok (.ifCond .eq 11, 3) := by decide +kernel
theorem dX4_common_8 : decode cX4_common 8 = .ok (.aload_n 0, 1) := by decide +kernel
theorem dX4_common_9 : decode cX4_common 9 = .ok (.iload_n 2, 1) := by decide +kernel
theorem dX4_common_10 : decode cX4_common 10 = .ok (.invokevirtual 223, 3) := by decide +kernel
theorem dX4_common_13 : decode cX4_common 13 = .ok (.ifCond .ne 5, 3) := by decide +kernel
theorem dX4_common_16 : decode cX4_common 16 = .ok (.iconst (-1), 1) := by decide +kernel
theorem dX4_common_17 : decode cX4_common 17 = .ok (.ireturn, 1) := by decide +kernel
theorem dX4_common_18 : decode cX4_common 18 = .ok (.iconst 0, 1) := by decide +kernel
theorem dX4_common_19 : decode cX4_common 19 = .ok (.istore_n 3, 1) := by decide +kernel
theorem dX4_common_20 : decode cX4_common 20 = .ok (.iconst 0, 1) := by decide +kernel
theorem dX4_common_21 : decode cX4_common 21 = .ok (.istore 4, 2) := by decide +kernel
theorem dX4_common_23 : decode cX4_common 23 = .ok (.iload 4, 2) := by decide +kernel
theorem dX4_common_25 : decode cX4_common 25 = .ok (.aload_n 0, 1) := by decide +kernel
theorem dX4_common_26 : decode cX4_common 26 = .ok (.getfield 51, 3) := by decide +kernel
theorem dX4_common_29 : decode cX4_common 29 = .ok (.iload_n 1, 1) := by decide +kernel
theorem dX4_common_30 : decode cX4_common 30 = .ok (.iaload, 1) := by decide +kernel
theorem dX4_common_31 : decode cX4_common 31 = .ok (.if_icmp .ge 66, 3) := by decide +kernel
theorem dX4_common_34 : decode cX4_common 34 = .ok (.iconst 0, 1) := by decide +kernel
theorem dX4_common_35 : decode cX4_common 35 = .ok (.istore 5, 2) := by decide +kernel
theorem dX4_common_37 : decode cX4_common 37 = .ok (.iload 5, 2) := by decide +kernel
theorem dX4_common_39 : decode cX4_common 39 = .ok (.aload_n 0, 1) := by decide +kernel
theorem dX4_common_40 : decode cX4_common 40 = .ok (.getfield 51, 3) := by decide +kernel
theorem dX4_common_43 : decode cX4_common 43 = .ok (.iload_n 2, 1) := by decide +kernel
theorem dX4_common_44 : decode cX4_common 44 = .ok (.iaload, 1) := by decide +kernel
theorem dX4_common_45 : decode cX4_common 45 = .ok (.if_icmp .ge 46, 3) := by decide +kernel
theorem dX4_common_48 : decode cX4_common 48 = .ok (.iload_n 3, 1) := by decide +kernel
theorem dX4_common_49 : decode cX4_common 49 = .ok (.aload_n 0, 1) := by decide +kernel
theorem dX4_common_50 : decode cX4_common 50 = .ok (.getfield 54, 3) := by decide +kernel
theorem dX4_common_53 : decode cX4_common 53 = .ok (.sipush 255, 3) := by decide +kernel
theorem dX4_common_56 : decode cX4_common 56 = .ok (.iload_n 1, 1) := by decide +kernel
theorem dX4_common_57 : decode cX4_common 57 = .ok (.imul, 1) := by decide +kernel
theorem dX4_common_58 : decode cX4_common 58 = .ok (.iload 4, 2) := by decide +kernel
theorem dX4_common_60 : decode cX4_common 60 = .ok (.iadd, 1) := by decide +kernel
theorem dX4_common_61 : decode cX4_common 61 = .ok (.iaload, 1) := by decide +kernel
theorem dX4_common_62 : decode cX4_common 62 = .ok (.aload_n 0, 1) := by decide +kernel
theorem dX4_common_63 : decode cX4_common 63 = .ok (.getfield 54, 3) := by decide +kernel
theorem dX4_common_66 : decode cX4_common 66 = .ok (.sipush 255, 3) := by decide +kernel
theorem dX4_common_69 : decode cX4_common 69 = .ok (.iload_n 2, 1) := by decide +kernel
theorem dX4_common_70 : decode cX4_common 70 = .ok (.imul, 1) := by decide +kernel
theorem dX4_common_71 : decode cX4_common 71 = .ok (.iload 5, 2) := by decide +kernel
theorem dX4_common_73 : decode cX4_common 73 = .ok (.iadd, 1) := by decide +kernel
theorem dX4_common_74 : decode cX4_common 74 = .ok (.iaload, 1) := by decide +kernel
theorem dX4_common_75 : decode cX4_common 75 = .ok (.if_icmp .ne 7, 3) := by decide +kernel
theorem dX4_common_78 : decode cX4_common 78 = .ok (.iconst 1, 1) := by decide +kernel
theorem dX4_common_79 : decode cX4_common 79 = .ok (.goto 4, 3) := by decide +kernel
theorem dX4_common_82 : decode cX4_common 82 = .ok (.iconst 0, 1) := by decide +kernel
theorem dX4_common_83 : decode cX4_common 83 = .ok (.iadd, 1) := by decide +kernel
theorem dX4_common_84 : decode cX4_common 84 = .ok (.istore_n 3, 1) := by decide +kernel
theorem dX4_common_85 : decode cX4_common 85 = .ok (.iinc 5 1, 3) := by decide +kernel
theorem dX4_common_88 : decode cX4_common 88 = .ok (.goto (-51), 3) := by decide +kernel
theorem dX4_common_91 : decode cX4_common 91 = .ok (.iinc 4 1, 3) := by decide +kernel
theorem dX4_common_94 : decode cX4_common 94 = .ok (.goto (-71), 3) := by decide +kernel
theorem dX4_common_97 : decode cX4_common 97 = .ok (.iload_n 3, 1) := by decide +kernel
theorem dX4_common_98 : decode cX4_common 98 = .ok (.ireturn, 1) := by decide +kernel
theorem dX4_peak_0 : decode cX4_peak 0 = .ok (.aload_n 0, 1) := by decide +kernel
theorem dX4_peak_1 : decode cX4_peak 1 = .ok (.getfield 176, 3) := by decide +kernel
theorem dX4_peak_4 : decode cX4_peak 4 = .ok (.ireturn, 1) := by decide +kernel
theorem dX4_stands_0 : decode cX4_stands 0 = .ok (.iconst 0, 1) := by decide +kernel
theorem dX4_stands_1 : decode cX4_stands 1 = .ok (.istore_n 2, 1) := by decide +kernel
theorem dX4_stands_2 : decode cX4_stands 2 = .ok (.iconst 0, 1) := by decide +kernel
theorem dX4_stands_3 : decode cX4_stands 3 = .ok (.istore_n 3, 1) := by decide +kernel
theorem dX4_stands_4 : decode cX4_stands 4 = .ok (.iload_n 3, 1) := by decide +kernel
theorem dX4_stands_5 : decode cX4_stands 5 = .ok (.bipush 8, 2) := by decide +kernel
theorem dX4_stands_7 : decode cX4_stands 7 = .ok (.if_icmp .ge 24, 3) := by decide +kernel
theorem dX4_stands_10 : decode cX4_stands 10 = .ok (.iconst 2, 1) := by decide +kernel
theorem dX4_stands_11 : decode cX4_stands 11 = .ok (.iload_n 2, 1) := by decide +kernel
theorem dX4_stands_12 : decode cX4_stands 12 = .ok (.imul, 1) := by decide +kernel
theorem dX4_stands_13 : decode cX4_stands 13 = .ok (.iload_n 1, 1) := by decide +kernel
theorem dX4_stands_14 : decode cX4_stands 14 = .ok (.aload_n 0, 1) := by decide +kernel
theorem dX4_stands_15 : decode cX4_stands 15 = .ok (.getfield 29, 3) := by decide +kernel
theorem dX4_stands_18 : decode cX4_stands 18 = .ok (.iload_n 3, 1) := by decide +kernel
theorem dX4_stands_19 : decode cX4_stands 19 = .ok (.iaload, 1) := by decide +kernel
theorem dX4_stands_20 : decode cX4_stands 20 = .ok (.ishr, 1) := by decide +kernel
theorem dX4_stands_21 : decode cX4_stands 21 = .ok (.iconst 1, 1) := by decide +kernel
theorem dX4_stands_22 : decode cX4_stands 22 = .ok (.iand, 1) := by decide +kernel
theorem dX4_stands_23 : decode cX4_stands 23 = .ok (.iadd, 1) := by decide +kernel
theorem dX4_stands_24 : decode cX4_stands 24 = .ok (.istore_n 2, 1) := by decide +kernel
theorem dX4_stands_25 : decode cX4_stands 25 = .ok (.iinc 3 1, 3) := by decide +kernel
theorem dX4_stands_28 : decode cX4_stands 28 = .ok (.goto (-24), 3) := by decide +kernel
theorem dX4_stands_31 : decode cX4_stands 31 = .ok (.iload_n 2, 1) := by decide +kernel
theorem dX4_stands_32 : decode cX4_stands 32 = .ok (.ireturn, 1) := by decide +kernel
theorem dX4_assignmentAt_0 : decode cX4_assignmentAt 0 = .ok (.iconst 0, 1) := by decide +kernel
theorem dX4_assignmentAt_1 : decode cX4_assignmentAt 1 = .ok (.istore_n 2, 1) := by decide +kernel
theorem dX4_assignmentAt_2 : decode cX4_assignmentAt 2 = .ok (.iconst 0, 1) := by decide +kernel
theorem dX4_assignmentAt_3 : decode cX4_assignmentAt 3 = .ok (.istore_n 3, 1) := by decide +kernel
theorem dX4_assignmentAt_4 : decode cX4_assignmentAt 4 = .ok (.iload_n 3, 1) := by decide +kernel
theorem dX4_assignmentAt_5 : decode cX4_assignmentAt 5 = .ok (.bipush 8, 2) := by decide +kernel
theorem dX4_assignmentAt_7 : decode cX4_assignmentAt 7 = .ok (.if_icmp .ge 27, 3) := by decide +kernel
theorem dX4_assignmentAt_10 : decode cX4_assignmentAt 10 = .ok (.iload_n 2, 1) := by decide +kernel
theorem dX4_assignmentAt_11 : decode cX4_assignmentAt 11 = .ok (.iload_n 1, 1) := by decide +kernel
theorem dX4_assignmentAt_12 : decode cX4_assignmentAt 12 = .ok (.bipush 7, 2) := by decide +kernel
theorem dX4_assignmentAt_14 : decode cX4_assignmentAt 14 = .ok (.iload_n 3, 1) := by decide +kernel
theorem dX4_assignmentAt_15 : decode cX4_assignmentAt 15 = .ok (.isub, 1) := by decide +kernel
theorem dX4_assignmentAt_16 : decode cX4_assignmentAt 16 = .ok (.ishr, 1) := by decide +kernel
theorem dX4_assignmentAt_17 : decode cX4_assignmentAt 17 = .ok (.iconst 1, 1) := by decide +kernel
theorem dX4_assignmentAt_18 : decode cX4_assignmentAt 18 = .ok (.iand, 1) := by decide +kernel
theorem dX4_assignmentAt_19 : decode cX4_assignmentAt 19 = .ok (.aload_n 0, 1) := by decide +kernel
theorem dX4_assignmentAt_20 : decode cX4_assignmentAt 20 = .ok (.getfield 29, 3) := by decide +kernel
theorem dX4_assignmentAt_23 : decode cX4_assignmentAt 23 = .ok (.iload_n 3, 1) := by decide +kernel
theorem dX4_assignmentAt_24 : decode cX4_assignmentAt 24 = .ok (.iaload, 1) := by decide +kernel
theorem dX4_assignmentAt_25 : decode cX4_assignmentAt 25 = .ok (.ishl, 1) := by decide +kernel
theorem dX4_assignmentAt_26 : decode cX4_assignmentAt 26 = .ok (.ior, 1) := by decide +kernel
theorem dX4_assignmentAt_27 : decode cX4_assignmentAt 27 = .ok (.istore_n 2, 1) := by decide +kernel
theorem dX4_assignmentAt_28 : decode cX4_assignmentAt 28 = .ok (.iinc 3 1, 3) := by decide +kernel
theorem dX4_assignmentAt_31 : decode cX4_assignmentAt 31 = .ok (.goto (-27), 3) := by decide +kernel
theorem dX4_assignmentAt_34 : decode cX4_assignmentAt 34 = .ok (.iload_n 2, 1) := by decide +kernel
theorem dX4_assignmentAt_35 : decode cX4_assignmentAt 35 = .ok (.ireturn, 1) := by decide +kernel
theorem dX4_value_0 : decode cX4_value 0 = .ok (.aload_n 0, 1) := by decide +kernel
theorem dX4_value_1 : decode cX4_value 1 = .ok (.iload_n 1, 1) := by decide +kernel
theorem dX4_value_2 : decode cX4_value 2 = .ok (.invokevirtual 223, 3) := by decide +kernel
theorem dX4_value_5 : decode cX4_value 5 = .ok (.ifCond .ne 5, 3) := by decide +kernel
theorem dX4_value_8 : decode cX4_value 8 = .ok (.iconst (-1), 1) := by decide +kernel
theorem dX4_value_9 : decode cX4_value 9 = .ok (.ireturn, 1) := by decide +kernel
theorem dX4_value_10 : decode cX4_value 10 = .ok (.iload_n 2, 1) := by decide +kernel
theorem dX4_value_11 : decode cX4_value 11 = .ok (.iconst 0, 1) := by decide +kernel
theorem dX4_value_12 : decode cX4_value 12 = .ok (.sipush 255, 3) := by decide +kernel
theorem dX4_value_15 : decode cX4_value 15 = .ok (.invokestatic 112, 3) := by decide +kernel
theorem dX4_value_18 : decode cX4_value 18 = .ok (.ifCond .ne 6, 3) := by decide +kernel
theorem dX4_value_21 : decode cX4_value 21 = .ok (.bipush (-2), 2) := by decide +kernel
theorem dX4_value_23 : decode cX4_value 23 = .ok (.ireturn, 1) := by decide +kernel
theorem dX4_value_24 : decode cX4_value 24 = .ok (.aload_n 0, 1) := by decide +kernel
theorem dX4_value_25 : decode cX4_value 25 = .ok (.iload_n 1, 1) := by decide +kernel
theorem dX4_value_26 : decode cX4_value 26 = .ok (.aload_n 0, 1) := by decide +kernel
theorem dX4_value_27 : decode cX4_value 27 = .ok (.iload_n 2, 1) := by decide +kernel
theorem dX4_value_28 : decode cX4_value 28 = .ok (.invokevirtual 237, 3) := by decide +kernel
theorem dX4_value_31 : decode cX4_value 31 = .ok (.invokevirtual 240, 3) := by decide +kernel
theorem dX4_value_34 : decode cX4_value 34 = .ok (.ifCond .eq 7, 3) := by decide +kernel
theorem dX4_value_37 : decode cX4_value 37 = .ok (.iconst 1, 1) := by decide +kernel
theorem dX4_value_38 : decode cX4_value 38 = .ok (.goto 4, 3) := by decide +kernel
theorem dX4_value_41 : decode cX4_value 41 = .ok (.iconst 0, 1) := by decide +kernel
theorem dX4_value_42 : decode cX4_value 42 = .ok (.ireturn, 1) := by decide +kernel
theorem dX4_same_0 : decode cX4_same 0 = .ok (.aload_n 0, 1) := by decide +kernel
theorem dX4_same_1 : decode cX4_same 1 = .ok (.iload_n 1, 1) := by decide +kernel
theorem dX4_same_2 : decode cX4_same 2 = .ok (.invokevirtual 223, 3) := by decide +kernel
theorem dX4_same_5 : decode cX4_same 5 = .ok (.ifCond .eq 11, 3) := by decide +kernel
theorem dX4_same_8 : decode cX4_same 8 = .ok (.aload_n 0, 1) := by decide +kernel
theorem dX4_same_9 : decode cX4_same 9 = .ok (.iload_n 2, 1) := by decide +kernel
theorem dX4_same_10 : decode cX4_same 10 = .ok (.invokevirtual 223, 3) := by decide +kernel
theorem dX4_same_13 : decode cX4_same 13 = .ok (.ifCond .ne 5, 3) := by decide +kernel
theorem dX4_same_16 : decode cX4_same 16 = .ok (.iconst (-1), 1) := by decide +kernel
theorem dX4_same_17 : decode cX4_same 17 = .ok (.ireturn, 1) := by decide +kernel
theorem dX4_same_18 : decode cX4_same 18 = .ok (.iconst 1, 1) := by decide +kernel
theorem dX4_same_19 : decode cX4_same 19 = .ok (.istore_n 3, 1) := by decide +kernel
theorem dX4_same_20 : decode cX4_same 20 = .ok (.iconst 0, 1) := by decide +kernel
theorem dX4_same_21 : decode cX4_same 21 = .ok (.istore 4, 2) := by decide +kernel
theorem dX4_same_23 : decode cX4_same 23 = .ok (.iload 4, 2) := by decide +kernel
theorem dX4_same_25 : decode cX4_same 25 = .ok (.iconst 4, 1) := by decide +kernel
theorem dX4_same_26 : decode cX4_same 26 = .ok (.if_icmp .ge 45, 3) := by decide +kernel
theorem dX4_same_29 : decode cX4_same 29 = .ok (.iload_n 3, 1) := by decide +kernel
theorem dX4_same_30 : decode cX4_same 30 = .ok (.ifCond .eq 33, 3) := by decide +kernel
theorem dX4_same_33 : decode cX4_same 33 = .ok (.aload_n 0, 1) := by decide +kernel
theorem dX4_same_34 : decode cX4_same 34 = .ok (.getfield 47, 3) := by decide +kernel
theorem dX4_same_37 : decode cX4_same 37 = .ok (.iconst 4, 1) := by decide +kernel
theorem dX4_same_38 : decode cX4_same 38 = .ok (.iload_n 1, 1) := by decide +kernel
theorem dX4_same_39 : decode cX4_same 39 = .ok (.imul, 1) := by decide +kernel
theorem dX4_same_40 : decode cX4_same 40 = .ok (.iload 4, 2) := by decide +kernel
theorem dX4_same_42 : decode cX4_same 42 = .ok (.iadd, 1) := by decide +kernel
theorem dX4_same_43 : decode cX4_same 43 = .ok (.laload, 1) := by decide +kernel
theorem dX4_same_44 : decode cX4_same 44 = .ok (.aload_n 0, 1) := by decide +kernel
theorem dX4_same_45 : decode cX4_same 45 = .ok (.getfield 47, 3) := by decide +kernel
theorem dX4_same_48 : decode cX4_same 48 = .ok (.iconst 4, 1) := by decide +kernel
theorem dX4_same_49 : decode cX4_same 49 = .ok (.iload_n 2, 1) := by decide +kernel
theorem dX4_same_50 : decode cX4_same 50 = .ok (.imul, 1) := by decide +kernel
theorem dX4_same_51 : decode cX4_same 51 = .ok (.iload 4, 2) := by decide +kernel
theorem dX4_same_53 : decode cX4_same 53 = .ok (.iadd, 1) := by decide +kernel
theorem dX4_same_54 : decode cX4_same 54 = .ok (.laload, 1) := by decide +kernel
theorem dX4_same_55 : decode cX4_same 55 = .ok (.lcmp, 1) := by decide +kernel
theorem dX4_same_56 : decode cX4_same 56 = .ok (.ifCond .ne 7, 3) := by decide +kernel
theorem dX4_same_59 : decode cX4_same 59 = .ok (.iconst 1, 1) := by decide +kernel
theorem dX4_same_60 : decode cX4_same 60 = .ok (.goto 4, 3) := by decide +kernel
theorem dX4_same_63 : decode cX4_same 63 = .ok (.iconst 0, 1) := by decide +kernel
theorem dX4_same_64 : decode cX4_same 64 = .ok (.istore_n 3, 1) := by decide +kernel
theorem dX4_same_65 : decode cX4_same 65 = .ok (.iinc 4 1, 3) := by decide +kernel
theorem dX4_same_68 : decode cX4_same 68 = .ok (.goto (-45), 3) := by decide +kernel
theorem dX4_same_71 : decode cX4_same 71 = .ok (.iload_n 3, 1) := by decide +kernel
theorem dX4_same_72 : decode cX4_same 72 = .ok (.ifCond .eq 7, 3) := by decide +kernel
theorem dX4_same_75 : decode cX4_same 75 = .ok (.iconst 1, 1) := by decide +kernel
theorem dX4_same_76 : decode cX4_same 76 = .ok (.goto 4, 3) := by decide +kernel
theorem dX4_same_79 : decode cX4_same 79 = .ok (.iconst 0, 1) := by decide +kernel
theorem dX4_same_80 : decode cX4_same 80 = .ok (.ireturn, 1) := by decide +kernel
theorem dX4_count_0 : decode cX4_count 0 = .ok (.aload_n 0, 1) := by decide +kernel
theorem dX4_count_1 : decode cX4_count 1 = .ok (.iload_n 1, 1) := by decide +kernel
theorem dX4_count_2 : decode cX4_count 2 = .ok (.invokevirtual 223, 3) := by decide +kernel
theorem dX4_count_5 : decode cX4_count 5 = .ok (.ifCond .ne 5, 3) := by decide +kernel
theorem dX4_count_8 : decode cX4_count 8 = .ok (.iconst (-1), 1) := by decide +kernel
theorem dX4_count_9 : decode cX4_count 9 = .ok (.ireturn, 1) := by decide +kernel
theorem dX4_count_10 : decode cX4_count 10 = .ok (.iconst 0, 1) := by decide +kernel
theorem dX4_count_11 : decode cX4_count 11 = .ok (.istore_n 2, 1) := by decide +kernel
theorem dX4_count_12 : decode cX4_count 12 = .ok (.iconst 0, 1) := by decide +kernel
theorem dX4_count_13 : decode cX4_count 13 = .ok (.istore_n 3, 1) := by decide +kernel
theorem dX4_count_14 : decode cX4_count 14 = .ok (.iload_n 3, 1) := by decide +kernel
theorem dX4_count_15 : decode cX4_count 15 = .ok (.sipush 256, 3) := by decide +kernel
theorem dX4_count_18 : decode cX4_count 18 = .ok (.if_icmp .ge 26, 3) := by decide +kernel
theorem dX4_count_21 : decode cX4_count 21 = .ok (.iload_n 2, 1) := by decide +kernel
theorem dX4_count_22 : decode cX4_count 22 = .ok (.aload_n 0, 1) := by decide +kernel
theorem dX4_count_23 : decode cX4_count 23 = .ok (.iload_n 1, 1) := by decide +kernel
theorem dX4_count_24 : decode cX4_count 24 = .ok (.iload_n 3, 1) := by decide +kernel
theorem dX4_count_25 : decode cX4_count 25 = .ok (.invokevirtual 240, 3) := by decide +kernel
theorem dX4_count_28 : decode cX4_count 28 = .ok (.ifCond .eq 7, 3) := by decide +kernel
theorem dX4_count_31 : decode cX4_count 31 = .ok (.iconst 1, 1) := by decide +kernel
theorem dX4_count_32 : decode cX4_count 32 = .ok (.goto 4, 3) := by decide +kernel
theorem dX4_count_35 : decode cX4_count 35 = .ok (.iconst 0, 1) := by decide +kernel
theorem dX4_count_36 : decode cX4_count 36 = .ok (.iadd, 1) := by decide +kernel
theorem dX4_count_37 : decode cX4_count 37 = .ok (.istore_n 2, 1) := by decide +kernel
theorem dX4_count_38 : decode cX4_count 38 = .ok (.iinc 3 1, 3) := by decide +kernel
theorem dX4_count_41 : decode cX4_count 41 = .ok (.goto (-27), 3) := by decide +kernel
theorem dX4_count_44 : decode cX4_count 44 = .ok (.iload_n 2, 1) := by decide +kernel
theorem dX4_count_45 : decode cX4_count 45 = .ok (.ireturn, 1) := by decide +kernel
theorem dX4_hangs_0 : decode cX4_hangs 0 = .ok (.iconst 0, 1) := by decide +kernel
theorem dX4_hangs_1 : decode cX4_hangs 1 = .ok (.istore_n 3, 1) := by decide +kernel
theorem dX4_hangs_2 : decode cX4_hangs 2 = .ok (.iconst 1, 1) := by decide +kernel
theorem dX4_hangs_3 : decode cX4_hangs 3 = .ok (.bipush 7, 2) := by decide +kernel
theorem dX4_hangs_5 : decode cX4_hangs 5 = .ok (.iload_n 2, 1) := by decide +kernel
theorem dX4_hangs_6 : decode cX4_hangs 6 = .ok (.isub, 1) := by decide +kernel
theorem dX4_hangs_7 : decode cX4_hangs 7 = .ok (.ishl, 1) := by decide +kernel
theorem dX4_hangs_8 : decode cX4_hangs 8 = .ok (.istore 4, 2) := by decide +kernel
theorem dX4_hangs_10 : decode cX4_hangs 10 = .ok (.iconst 0, 1) := by decide +kernel
theorem dX4_hangs_11 : decode cX4_hangs 11 = .ok (.istore 5, 2) := by decide +kernel
theorem dX4_hangs_13 : decode cX4_hangs 13 = .ok (.iload 5, 2) := by decide +kernel
theorem dX4_hangs_15 : decode cX4_hangs 15 = .ok (.sipush 256, 3) := by decide +kernel
theorem dX4_hangs_18 : decode cX4_hangs 18 = .ok (.if_icmp .ge 39, 3) := by decide +kernel
theorem dX4_hangs_21 : decode cX4_hangs 21 = .ok (.iload_n 3, 1) := by decide +kernel
theorem dX4_hangs_22 : decode cX4_hangs 22 = .ok (.ifCond .ne 23, 3) := by decide +kernel
theorem dX4_hangs_25 : decode cX4_hangs 25 = .ok (.aload_n 0, 1) := by decide +kernel
theorem dX4_hangs_26 : decode cX4_hangs 26 = .ok (.iload_n 1, 1) := by decide +kernel
theorem dX4_hangs_27 : decode cX4_hangs 27 = .ok (.iload 5, 2) := by decide +kernel
theorem dX4_hangs_29 : decode cX4_hangs 29 = .ok (.invokevirtual 240, 3) := by decide +kernel
theorem dX4_hangs_32 : decode cX4_hangs 32 = .ok (.aload_n 0, 1) := by decide +kernel
theorem dX4_hangs_33 : decode cX4_hangs 33 = .ok (.iload_n 1, 1) := by decide +kernel
theorem dX4_hangs_34 : decode cX4_hangs 34 = .ok (.iload 5, 2) := by decide +kernel
theorem dX4_hangs_36 : decode cX4_hangs 36 = .ok (.iload 4, 2) := by decide +kernel
theorem dX4_hangs_38 : decode cX4_hangs 38 = .ok (.ixor, 1) := by decide +kernel
theorem dX4_hangs_39 : decode cX4_hangs 39 = .ok (.invokevirtual 240, 3) := by decide +kernel
theorem dX4_hangs_42 : decode cX4_hangs 42 = .ok (.if_icmp .eq 7, 3) := by decide +kernel
theorem dX4_hangs_45 : decode cX4_hangs 45 = .ok (.iconst 1, 1) := by decide +kernel
theorem dX4_hangs_46 : decode cX4_hangs 46 = .ok (.goto 4, 3) := by decide +kernel
theorem dX4_hangs_49 : decode cX4_hangs 49 = .ok (.iconst 0, 1) := by decide +kernel
theorem dX4_hangs_50 : decode cX4_hangs 50 = .ok (.istore_n 3, 1) := by decide +kernel
theorem dX4_hangs_51 : decode cX4_hangs 51 = .ok (.iinc 5 1, 3) := by decide +kernel
theorem dX4_hangs_54 : decode cX4_hangs 54 = .ok (.goto (-41), 3) := by decide +kernel
theorem dX4_hangs_57 : decode cX4_hangs 57 = .ok (.iload_n 3, 1) := by decide +kernel
theorem dX4_hangs_58 : decode cX4_hangs 58 = .ok (.ireturn, 1) := by decide +kernel
theorem dX4_support_0 : decode cX4_support 0 = .ok (.aload_n 0, 1) := by decide +kernel
theorem dX4_support_1 : decode cX4_support 1 = .ok (.iload_n 1, 1) := by decide +kernel
theorem dX4_support_2 : decode cX4_support 2 = .ok (.invokevirtual 223, 3) := by decide +kernel
theorem dX4_support_5 : decode cX4_support 5 = .ok (.ifCond .ne 5, 3) := by decide +kernel
theorem dX4_support_8 : decode cX4_support 8 = .ok (.iconst (-1), 1) := by decide +kernel
theorem dX4_support_9 : decode cX4_support 9 = .ok (.ireturn, 1) := by decide +kernel
theorem dX4_support_10 : decode cX4_support 10 = .ok (.iconst 0, 1) := by decide +kernel
theorem dX4_support_11 : decode cX4_support 11 = .ok (.istore_n 2, 1) := by decide +kernel
theorem dX4_support_12 : decode cX4_support 12 = .ok (.iconst 0, 1) := by decide +kernel
theorem dX4_support_13 : decode cX4_support 13 = .ok (.istore_n 3, 1) := by decide +kernel
theorem dX4_support_14 : decode cX4_support 14 = .ok (.iload_n 3, 1) := by decide +kernel
theorem dX4_support_15 : decode cX4_support 15 = .ok (.bipush 8, 2) := by decide +kernel
theorem dX4_support_17 : decode cX4_support 17 = .ok (.if_icmp .ge 33, 3) := by decide +kernel
theorem dX4_support_20 : decode cX4_support 20 = .ok (.iload_n 2, 1) := by decide +kernel
theorem dX4_support_21 : decode cX4_support 21 = .ok (.aload_n 0, 1) := by decide +kernel
theorem dX4_support_22 : decode cX4_support 22 = .ok (.iload_n 1, 1) := by decide +kernel
theorem dX4_support_23 : decode cX4_support 23 = .ok (.iload_n 3, 1) := by decide +kernel
theorem dX4_support_24 : decode cX4_support 24 = .ok (.invokevirtual 243, 3) := by decide +kernel
theorem dX4_support_27 : decode cX4_support 27 = .ok (.ifCond .eq 14, 3) := by decide +kernel
theorem dX4_support_30 : decode cX4_support 30 = .ok (.iconst 1, 1) := by decide +kernel
theorem dX4_support_31 : decode cX4_support 31 = .ok (.aload_n 0, 1) := by decide +kernel
theorem dX4_support_32 : decode cX4_support 32 = .ok (.getfield 29, 3) := by decide +kernel
theorem dX4_support_35 : decode cX4_support 35 = .ok (.iload_n 3, 1) := by decide +kernel
theorem dX4_support_36 : decode cX4_support 36 = .ok (.iaload, 1) := by decide +kernel
theorem dX4_support_37 : decode cX4_support 37 = .ok (.ishl, 1) := by decide +kernel
theorem dX4_support_38 : decode cX4_support 38 = .ok (.goto 4, 3) := by decide +kernel
theorem dX4_support_41 : decode cX4_support 41 = .ok (.iconst 0, 1) := by decide +kernel
theorem dX4_support_42 : decode cX4_support 42 = .ok (.ior, 1) := by decide +kernel
theorem dX4_support_43 : decode cX4_support 43 = .ok (.istore_n 2, 1) := by decide +kernel
theorem dX4_support_44 : decode cX4_support 44 = .ok (.iinc 3 1, 3) := by decide +kernel
theorem dX4_support_47 : decode cX4_support 47 = .ok (.goto (-33), 3) := by decide +kernel
theorem dX4_support_50 : decode cX4_support 50 = .ok (.iload_n 2, 1) := by decide +kernel
theorem dX4_support_51 : decode cX4_support 51 = .ok (.ireturn, 1) := by decide +kernel
theorem dX4_top_0 : decode cX4_top 0 = .ok (.aload_n 0, 1) := by decide +kernel
theorem dX4_top_1 : decode cX4_top 1 = .ok (.iload_n 1, 1) := by decide +kernel
theorem dX4_top_2 : decode cX4_top 2 = .ok (.invokevirtual 223, 3) := by decide +kernel
theorem dX4_top_5 : decode cX4_top 5 = .ok (.ifCond .ne 5, 3) := by decide +kernel
theorem dX4_top_8 : decode cX4_top 8 = .ok (.iconst (-1), 1) := by decide +kernel
theorem dX4_top_9 : decode cX4_top 9 = .ok (.ireturn, 1) := by decide +kernel
theorem dX4_top_10 : decode cX4_top 10 = .ok (.iconst 0, 1) := by decide +kernel
theorem dX4_top_11 : decode cX4_top 11 = .ok (.istore_n 2, 1) := by decide +kernel
theorem dX4_top_12 : decode cX4_top 12 = .ok (.iload_n 2, 1) := by decide +kernel
theorem dX4_top_13 : decode cX4_top 13 = .ok (.bipush 8, 2) := by decide +kernel
theorem dX4_top_15 : decode cX4_top 15 = .ok (.if_icmp .ge 25, 3) := by decide +kernel
theorem dX4_top_18 : decode cX4_top 18 = .ok (.aload_n 0, 1) := by decide +kernel
theorem dX4_top_19 : decode cX4_top 19 = .ok (.iload_n 1, 1) := by decide +kernel
theorem dX4_top_20 : decode cX4_top 20 = .ok (.iload_n 2, 1) := by decide +kernel
theorem dX4_top_21 : decode cX4_top 21 = .ok (.invokevirtual 243, 3) := by decide +kernel
theorem dX4_top_24 : decode cX4_top 24 = .ok (.ifCond .eq 10, 3) := by decide +kernel
theorem dX4_top_27 : decode cX4_top 27 = .ok (.aload_n 0, 1) := by decide +kernel
theorem dX4_top_28 : decode cX4_top 28 = .ok (.getfield 29, 3) := by decide +kernel
theorem dX4_top_31 : decode cX4_top 31 = .ok (.iload_n 2, 1) := by decide +kernel
theorem dX4_top_32 : decode cX4_top 32 = .ok (.iaload, 1) := by decide +kernel
theorem dX4_top_33 : decode cX4_top 33 = .ok (.ireturn, 1) := by decide +kernel
theorem dX4_top_34 : decode cX4_top 34 = .ok (.iinc 2 1, 3) := by decide +kernel
theorem dX4_top_37 : decode cX4_top 37 = .ok (.goto (-25), 3) := by decide +kernel
theorem dX4_top_40 : decode cX4_top 40 = .ok (.bipush (-9), 2) := by decide +kernel
theorem dX4_top_42 : decode cX4_top 42 = .ok (.ireturn, 1) := by decide +kernel
theorem dX4_level_0 : decode cX4_level 0 = .ok (.aload_n 0, 1) := by decide +kernel
theorem dX4_level_1 : decode cX4_level 1 = .ok (.iload_n 1, 1) := by decide +kernel
theorem dX4_level_2 : decode cX4_level 2 = .ok (.invokevirtual 223, 3) := by decide +kernel
theorem dX4_level_5 : decode cX4_level 5 = .ok (.ifCond .ne 5, 3) := by decide +kernel
theorem dX4_level_8 : decode cX4_level 8 = .ok (.iconst (-1), 1) := by decide +kernel
theorem dX4_level_9 : decode cX4_level 9 = .ok (.ireturn, 1) := by decide +kernel
theorem dX4_level_10 : decode cX4_level 10 = .ok (.iload_n 2, 1) := by decide +kernel
theorem dX4_level_11 : decode cX4_level 11 = .ok (.iconst 0, 1) := by decide +kernel
theorem dX4_level_12 : decode cX4_level 12 = .ok (.bipush 7, 2) := by decide +kernel
theorem dX4_level_14 : decode cX4_level 14 = .ok (.invokestatic 112, 3) := by decide +kernel
theorem dX4_level_17 : decode cX4_level 17 = .ok (.ifCond .ne 6, 3) := by decide +kernel
theorem dX4_level_20 : decode cX4_level 20 = .ok (.bipush (-2), 2) := by decide +kernel
theorem dX4_level_22 : decode cX4_level 22 = .ok (.ireturn, 1) := by decide +kernel
theorem dX4_level_23 : decode cX4_level 23 = .ok (.iconst 0, 1) := by decide +kernel
theorem dX4_level_24 : decode cX4_level 24 = .ok (.istore_n 3, 1) := by decide +kernel
theorem dX4_level_25 : decode cX4_level 25 = .ok (.iconst 0, 1) := by decide +kernel
theorem dX4_level_26 : decode cX4_level 26 = .ok (.istore 4, 2) := by decide +kernel
theorem dX4_level_28 : decode cX4_level 28 = .ok (.iload 4, 2) := by decide +kernel
theorem dX4_level_30 : decode cX4_level 30 = .ok (.aload_n 0, 1) := by decide +kernel
theorem dX4_level_31 : decode cX4_level 31 = .ok (.getfield 51, 3) := by decide +kernel
theorem dX4_level_34 : decode cX4_level 34 = .ok (.iload_n 1, 1) := by decide +kernel
theorem dX4_level_35 : decode cX4_level 35 = .ok (.iaload, 1) := by decide +kernel
theorem dX4_level_36 : decode cX4_level 36 = .ok (.if_icmp .ge 44, 3) := by decide +kernel
theorem dX4_level_39 : decode cX4_level 39 = .ok (.iload_n 3, 1) := by decide +kernel
theorem dX4_level_40 : decode cX4_level 40 = .ok (.aload_n 0, 1) := by decide +kernel
theorem dX4_level_41 : decode cX4_level 41 = .ok (.getfield 57, 3) := by decide +kernel
theorem dX4_level_44 : decode cX4_level 44 = .ok (.aload_n 0, 1) := by decide +kernel
theorem dX4_level_45 : decode cX4_level 45 = .ok (.getfield 54, 3) := by decide +kernel
theorem dX4_level_48 : decode cX4_level 48 = .ok (.sipush 255, 3) := by decide +kernel
theorem dX4_level_51 : decode cX4_level 51 = .ok (.iload_n 1, 1) := by decide +kernel
theorem dX4_level_52 : decode cX4_level 52 = .ok (.imul, 1) := by decide +kernel
theorem dX4_level_53 : decode cX4_level 53 = .ok (.iload 4, 2) := by decide +kernel
theorem dX4_level_55 : decode cX4_level 55 = .ok (.iadd, 1) := by decide +kernel
theorem dX4_level_56 : decode cX4_level 56 = .ok (.iaload, 1) := by decide +kernel
theorem dX4_level_57 : decode cX4_level 57 = .ok (.iaload, 1) := by decide +kernel
theorem dX4_level_58 : decode cX4_level 58 = .ok (.aload_n 0, 1) := by decide +kernel
theorem dX4_level_59 : decode cX4_level 59 = .ok (.getfield 32, 3) := by decide +kernel
theorem dX4_level_62 : decode cX4_level 62 = .ok (.iload_n 2, 1) := by decide +kernel
theorem dX4_level_63 : decode cX4_level 63 = .ok (.iaload, 1) := by decide +kernel
theorem dX4_level_64 : decode cX4_level 64 = .ok (.if_icmp .ne 7, 3) := by decide +kernel
theorem dX4_level_67 : decode cX4_level 67 = .ok (.iconst 1, 1) := by decide +kernel
theorem dX4_level_68 : decode cX4_level 68 = .ok (.goto 4, 3) := by decide +kernel
theorem dX4_level_71 : decode cX4_level 71 = .ok (.iconst 0, 1) := by decide +kernel
theorem dX4_level_72 : decode cX4_level 72 = .ok (.iadd, 1) := by decide +kernel
theorem dX4_level_73 : decode cX4_level 73 = .ok (.istore_n 3, 1) := by decide +kernel
theorem dX4_level_74 : decode cX4_level 74 = .ok (.iinc 4 1, 3) := by decide +kernel
theorem dX4_level_77 : decode cX4_level 77 = .ok (.goto (-49), 3) := by decide +kernel
theorem dX4_level_80 : decode cX4_level 80 = .ok (.iload_n 3, 1) := by decide +kernel
theorem dX4_level_81 : decode cX4_level 81 = .ok (.ireturn, 1) := by decide +kernel
theorem dX4_leastOf_0 : decode cX4_leastOf 0 = .ok (.iconst 0, 1) := by decide +kernel
theorem dX4_leastOf_1 : decode cX4_leastOf 1 = .ok (.istore_n 3, 1) := by decide +kernel
theorem dX4_leastOf_2 : decode cX4_leastOf 2 = .ok (.iload_n 3, 1) := by decide +kernel
theorem dX4_leastOf_3 : decode cX4_leastOf 3 = .ok (.sipush 256, 3) := by decide +kernel
theorem dX4_leastOf_6 : decode cX4_leastOf 6 = .ok (.if_icmp .ge 21, 3) := by decide +kernel
theorem dX4_leastOf_9 : decode cX4_leastOf 9 = .ok (.aload_n 0, 1) := by decide +kernel
theorem dX4_leastOf_10 : decode cX4_leastOf 10 = .ok (.iload_n 1, 1) := by decide +kernel
theorem dX4_leastOf_11 : decode cX4_leastOf 11 = .ok (.iload_n 3, 1) := by decide +kernel
theorem dX4_leastOf_12 : decode cX4_leastOf 12 = .ok (.invokevirtual 240, 3) := by decide +kernel
theorem dX4_leastOf_15 : decode cX4_leastOf 15 = .ok (.iload_n 2, 1) := by decide +kernel
theorem dX4_leastOf_16 : decode cX4_leastOf 16 = .ok (.if_icmp .ne 5, 3) := by decide +kernel
theorem dX4_leastOf_19 : decode cX4_leastOf 19 = .ok (.iload_n 3, 1) := by decide +kernel
theorem dX4_leastOf_20 : decode cX4_leastOf 20 = .ok (.ireturn, 1) := by decide +kernel
theorem dX4_leastOf_21 : decode cX4_leastOf 21 = .ok (.iinc 3 1, 3) := by decide +kernel
theorem dX4_leastOf_24 : decode cX4_leastOf 24 = .ok (.goto (-22), 3) := by decide +kernel
theorem dX4_leastOf_27 : decode cX4_leastOf 27 = .ok (.iconst (-1), 1) := by decide +kernel
theorem dX4_leastOf_28 : decode cX4_leastOf 28 = .ok (.ireturn, 1) := by decide +kernel
theorem dX4_least_0 : decode cX4_least 0 = .ok (.aload_n 0, 1) := by decide +kernel
theorem dX4_least_1 : decode cX4_least 1 = .ok (.iload_n 1, 1) := by decide +kernel
theorem dX4_least_2 : decode cX4_least 2 = .ok (.invokevirtual 223, 3) := by decide +kernel
theorem dX4_least_5 : decode cX4_least 5 = .ok (.ifCond .ne 5, 3) := by decide +kernel
theorem dX4_least_8 : decode cX4_least 8 = .ok (.iconst (-1), 1) := by decide +kernel
theorem dX4_least_9 : decode cX4_least 9 = .ok (.ireturn, 1) := by decide +kernel
theorem dX4_least_10 : decode cX4_least 10 = .ok (.aload_n 0, 1) := by decide +kernel
theorem dX4_least_11 : decode cX4_least 11 = .ok (.iload_n 1, 1) := by decide +kernel
theorem dX4_least_12 : decode cX4_least 12 = .ok (.iload_n 2, 1) := by decide +kernel
theorem dX4_least_13 : decode cX4_least 13 = .ok (.invokevirtual 246, 3) := by decide +kernel
theorem dX4_least_16 : decode cX4_least 16 = .ok (.istore_n 3, 1) := by decide +kernel
theorem dX4_least_17 : decode cX4_least 17 = .ok (.iload_n 3, 1) := by decide +kernel
theorem dX4_least_18 : decode cX4_least 18 = .ok (.ifCond .ge 8, 3) := by decide +kernel
theorem dX4_least_21 : decode cX4_least 21 = .ok (.bipush (-9), 2) := by decide +kernel
theorem dX4_least_23 : decode cX4_least 23 = .ok (.goto 8, 3) := by decide +kernel
theorem dX4_least_26 : decode cX4_least 26 = .ok (.aload_n 0, 1) := by decide +kernel
theorem dX4_least_27 : decode cX4_least 27 = .ok (.iload_n 3, 1) := by decide +kernel
theorem dX4_least_28 : decode cX4_least 28 = .ok (.invokevirtual 250, 3) := by decide +kernel
theorem dX4_least_31 : decode cX4_least 31 = .ok (.ireturn, 1) := by decide +kernel
theorem dX4_paths_0 : decode cX4_paths 0 = .ok (.aload_n 0, 1) := by decide +kernel
theorem dX4_paths_1 : decode cX4_paths 1 = .ok (.iload_n 1, 1) := by decide +kernel
theorem dX4_paths_2 : decode cX4_paths 2 = .ok (.invokevirtual 223, 3) := by decide +kernel
theorem dX4_paths_5 : decode cX4_paths 5 = .ok (.ifCond .ne 5, 3) := by decide +kernel
theorem dX4_paths_8 : decode cX4_paths 8 = .ok (.iconst (-1), 1) := by decide +kernel
theorem dX4_paths_9 : decode cX4_paths 9 = .ok (.ireturn, 1) := by decide +kernel
theorem dX4_paths_10 : decode cX4_paths 10 = .ok (.iconst 0, 1) := by decide +kernel
theorem dX4_paths_11 : decode cX4_paths 11 = .ok (.istore_n 3, 1) := by decide +kernel
theorem dX4_paths_12 : decode cX4_paths 12 = .ok (.iload_n 3, 1) := by decide +kernel
theorem dX4_paths_13 : decode cX4_paths 13 = .ok (.sipush 256, 3) := by decide +kernel
theorem dX4_paths_16 : decode cX4_paths 16 = .ok (.if_icmp .ge 30, 3) := by decide +kernel
theorem dX4_paths_19 : decode cX4_paths 19 = .ok (.aload_n 0, 1) := by decide +kernel
theorem dX4_paths_20 : decode cX4_paths 20 = .ok (.getfield 99, 3) := by decide +kernel
theorem dX4_paths_23 : decode cX4_paths 23 = .ok (.iload_n 3, 1) := by decide +kernel
theorem dX4_paths_24 : decode cX4_paths 24 = .ok (.aload_n 0, 1) := by decide +kernel
theorem dX4_paths_25 : decode cX4_paths 25 = .ok (.iload_n 1, 1) := by decide +kernel
theorem dX4_paths_26 : decode cX4_paths 26 = .ok (.iload_n 3, 1) := by decide +kernel
theorem dX4_paths_27 : decode cX4_paths 27 = .ok (.invokevirtual 240, 3) := by decide +kernel
theorem dX4_paths_30 : decode cX4_paths 30 = .ok (.iload_n 2, 1) := by decide +kernel
theorem dX4_paths_31 : decode cX4_paths 31 = .ok (.if_icmp .ne 7, 3) := by decide +kernel
theorem dX4_paths_34 : decode cX4_paths 34 = .ok (.iconst 1, 1) := by decide +kernel
theorem dX4_paths_35 : decode cX4_paths 35 = .ok (.goto 4, 3) := by decide +kernel
theorem dX4_paths_38 : decode cX4_paths 38 = .ok (.iconst 0, 1) := by decide +kernel
theorem dX4_paths_39 : decode cX4_paths 39 = .ok (.iastore, 1) := by decide +kernel
theorem dX4_paths_40 : decode cX4_paths 40 = .ok (.iinc 3 1, 3) := by decide +kernel
theorem dX4_paths_43 : decode cX4_paths 43 = .ok (.goto (-31), 3) := by decide +kernel
theorem dX4_paths_46 : decode cX4_paths 46 = .ok (.bipush 7, 2) := by decide +kernel
theorem dX4_paths_48 : decode cX4_paths 48 = .ok (.istore_n 3, 1) := by decide +kernel
theorem dX4_paths_49 : decode cX4_paths 49 = .ok (.iload_n 3, 1) := by decide +kernel
theorem dX4_paths_50 : decode cX4_paths 50 = .ok (.ifCond .lt 77, 3) := by decide +kernel
theorem dX4_paths_53 : decode cX4_paths 53 = .ok (.iconst 0, 1) := by decide +kernel
theorem dX4_paths_54 : decode cX4_paths 54 = .ok (.istore 4, 2) := by decide +kernel
theorem dX4_paths_56 : decode cX4_paths 56 = .ok (.iload 4, 2) := by decide +kernel
theorem dX4_paths_58 : decode cX4_paths 58 = .ok (.iconst 1, 1) := by decide +kernel
theorem dX4_paths_59 : decode cX4_paths 59 = .ok (.iload_n 3, 1) := by decide +kernel
theorem dX4_paths_60 : decode cX4_paths 60 = .ok (.ishl, 1) := by decide +kernel
theorem dX4_paths_61 : decode cX4_paths 61 = .ok (.if_icmp .ge 60, 3) := by decide +kernel
theorem dX4_paths_64 : decode cX4_paths 64 = .ok (.aload_n 0, 1) := by decide +kernel
theorem dX4_paths_65 : decode cX4_paths 65 = .ok (.getfield 99, 3) := by decide +kernel
theorem dX4_paths_68 : decode cX4_paths 68 = .ok (.iload 4, 2) := by decide +kernel
theorem dX4_paths_70 : decode cX4_paths 70 = .ok (.aload_n 0, 1) := by decide +kernel
theorem dX4_paths_71 : decode cX4_paths 71 = .ok (.iload_n 1, 1) := by decide +kernel
theorem dX4_paths_72 : decode cX4_paths 72 = .ok (.iload_n 3, 1) := by decide +kernel
theorem dX4_paths_73 : decode cX4_paths 73 = .ok (.iload 4, 2) := by decide +kernel
theorem dX4_paths_75 : decode cX4_paths 75 = .ok (.invokevirtual 163, 3) := by decide +kernel
theorem dX4_paths_78 : decode cX4_paths 78 = .ok (.ifCond .eq 27, 3) := by decide +kernel
theorem dX4_paths_81 : decode cX4_paths 81 = .ok (.aload_n 0, 1) := by decide +kernel
theorem dX4_paths_82 : decode cX4_paths 82 = .ok (.getfield 99, 3) := by decide +kernel
theorem dX4_paths_85 : decode cX4_paths 85 = .ok (.iconst 2, 1) := by decide +kernel
theorem dX4_paths_86 : decode cX4_paths 86 = .ok (.iload 4, 2) := by decide +kernel
theorem dX4_paths_88 : decode cX4_paths 88 = .ok (.imul, 1) := by decide +kernel
theorem dX4_paths_89 : decode cX4_paths 89 = .ok (.iaload, 1) := by decide +kernel
theorem dX4_paths_90 : decode cX4_paths 90 = .ok (.aload_n 0, 1) := by decide +kernel
theorem dX4_paths_91 : decode cX4_paths 91 = .ok (.getfield 99, 3) := by decide +kernel
theorem dX4_paths_94 : decode cX4_paths 94 = .ok (.iconst 2, 1) := by decide +kernel
theorem dX4_paths_95 : decode cX4_paths 95 = .ok (.iload 4, 2) := by decide +kernel
theorem dX4_paths_97 : decode cX4_paths 97 = .ok (.imul, 1) := by decide +kernel
theorem dX4_paths_98 : decode cX4_paths 98 = .ok (.iconst 1, 1) := by decide +kernel
theorem dX4_paths_99 : decode cX4_paths 99 = .ok (.iadd, 1) := by decide +kernel
theorem dX4_paths_100 : decode cX4_paths 100 = .ok (.iaload, 1) := by decide +kernel
theorem dX4_paths_101 : decode cX4_paths 101 = .ok (.iadd, 1) := by decide +kernel
theorem dX4_paths_102 : decode cX4_paths 102 = .ok (.goto 12, 3) := by decide +kernel
theorem dX4_paths_105 : decode cX4_paths 105 = .ok (.aload_n 0, 1) := by decide +kernel
theorem dX4_paths_106 : decode cX4_paths 106 = .ok (.getfield 99, 3) := by decide +kernel
theorem dX4_paths_109 : decode cX4_paths 109 = .ok (.iconst 2, 1) := by decide +kernel
theorem dX4_paths_110 : decode cX4_paths 110 = .ok (.iload 4, 2) := by decide +kernel
theorem dX4_paths_112 : decode cX4_paths 112 = .ok (.imul, 1) := by decide +kernel
theorem dX4_paths_113 : decode cX4_paths 113 = .ok (.iaload, 1) := by decide +kernel
theorem dX4_paths_114 : decode cX4_paths 114 = .ok (.iastore, 1) := by decide +kernel
theorem dX4_paths_115 : decode cX4_paths 115 = .ok (.iinc 4 1, 3) := by decide +kernel
theorem dX4_paths_118 : decode cX4_paths 118 = .ok (.goto (-62), 3) := by decide +kernel
theorem dX4_paths_121 : decode cX4_paths 121 = .ok (.iinc 3 (-1), 3) := by decide +kernel
theorem dX4_paths_124 : decode cX4_paths 124 = .ok (.goto (-75), 3) := by decide +kernel
theorem dX4_paths_127 : decode cX4_paths 127 = .ok (.aload_n 0, 1) := by decide +kernel
theorem dX4_paths_128 : decode cX4_paths 128 = .ok (.getfield 99, 3) := by decide +kernel
theorem dX4_paths_131 : decode cX4_paths 131 = .ok (.iconst 0, 1) := by decide +kernel
theorem dX4_paths_132 : decode cX4_paths 132 = .ok (.iaload, 1) := by decide +kernel
theorem dX4_paths_133 : decode cX4_paths 133 = .ok (.ireturn, 1) := by decide +kernel
theorem dX4_equal_0 : decode cX4_equal 0 = .ok (.iload_n 1, 1) := by decide +kernel
theorem dX4_equal_1 : decode cX4_equal 1 = .ok (.invokestatic 116, 3) := by decide +kernel
theorem dX4_equal_4 : decode cX4_equal 4 = .ok (.ifCond .eq 10, 3) := by decide +kernel
theorem dX4_equal_7 : decode cX4_equal 7 = .ok (.iload_n 2, 1) := by decide +kernel
theorem dX4_equal_8 : decode cX4_equal 8 = .ok (.invokestatic 116, 3) := by decide +kernel
theorem dX4_equal_11 : decode cX4_equal 11 = .ok (.ifCond .ne 5, 3) := by decide +kernel
theorem dX4_equal_14 : decode cX4_equal 14 = .ok (.iconst (-1), 1) := by decide +kernel
theorem dX4_equal_15 : decode cX4_equal 15 = .ok (.ireturn, 1) := by decide +kernel
theorem dX4_equal_16 : decode cX4_equal 16 = .ok (.aload_n 0, 1) := by decide +kernel
theorem dX4_equal_17 : decode cX4_equal 17 = .ok (.getfield 13, 3) := by decide +kernel
theorem dX4_equal_20 : decode cX4_equal 20 = .ok (.iload_n 1, 1) := by decide +kernel
theorem dX4_equal_21 : decode cX4_equal 21 = .ok (.iaload, 1) := by decide +kernel
theorem dX4_equal_22 : decode cX4_equal 22 = .ok (.aload_n 0, 1) := by decide +kernel
theorem dX4_equal_23 : decode cX4_equal 23 = .ok (.getfield 13, 3) := by decide +kernel
theorem dX4_equal_26 : decode cX4_equal 26 = .ok (.iload_n 2, 1) := by decide +kernel
theorem dX4_equal_27 : decode cX4_equal 27 = .ok (.iaload, 1) := by decide +kernel
theorem dX4_equal_28 : decode cX4_equal 28 = .ok (.if_icmp .eq 6, 3) := by decide +kernel
theorem dX4_equal_31 : decode cX4_equal 31 = .ok (.bipush (-3), 2) := by decide +kernel
theorem dX4_equal_33 : decode cX4_equal 33 = .ok (.ireturn, 1) := by decide +kernel
theorem dX4_equal_34 : decode cX4_equal 34 = .ok (.aload_n 0, 1) := by decide +kernel
theorem dX4_equal_35 : decode cX4_equal 35 = .ok (.getfield 13, 3) := by decide +kernel
theorem dX4_equal_38 : decode cX4_equal 38 = .ok (.iload_n 1, 1) := by decide +kernel
theorem dX4_equal_39 : decode cX4_equal 39 = .ok (.iaload, 1) := by decide +kernel
theorem dX4_equal_40 : decode cX4_equal 40 = .ok (.ifCond .le 7, 3) := by decide +kernel
theorem dX4_equal_43 : decode cX4_equal 43 = .ok (.aload_n 0, 1) := by decide +kernel
theorem dX4_equal_44 : decode cX4_equal 44 = .ok (.invokevirtual 213, 3) := by decide +kernel
theorem dX4_equal_47 : decode cX4_equal 47 = .ok (.iconst 0, 1) := by decide +kernel
theorem dX4_equal_48 : decode cX4_equal 48 = .ok (.istore_n 3, 1) := by decide +kernel
theorem dX4_equal_49 : decode cX4_equal 49 = .ok (.iload_n 3, 1) := by decide +kernel
theorem dX4_equal_50 : decode cX4_equal 50 = .ok (.aload_n 0, 1) := by decide +kernel
theorem dX4_equal_51 : decode cX4_equal 51 = .ok (.getfield 13, 3) := by decide +kernel
theorem dX4_equal_54 : decode cX4_equal 54 = .ok (.iload_n 1, 1) := by decide +kernel
theorem dX4_equal_55 : decode cX4_equal 55 = .ok (.iaload, 1) := by decide +kernel
theorem dX4_equal_56 : decode cX4_equal 56 = .ok (.if_icmp .ge 156, 3) := by decide +kernel
theorem dX4_equal_59 : decode cX4_equal 59 = .ok (.aload_n 0, 1) := by decide +kernel
theorem dX4_equal_60 : decode cX4_equal 60 = .ok (.getfield 22, 3) := by decide +kernel
theorem dX4_equal_63 : decode cX4_equal 63 = .ok (.iconst 4, 1) := by decide +kernel
theorem dX4_equal_64 : decode cX4_equal 64 = .ok (.iload_n 1, 1) := by decide +kernel
theorem dX4_equal_65 : decode cX4_equal 65 = .ok (.imul, 1) := by decide +kernel
theorem dX4_equal_66 : decode cX4_equal 66 = .ok (.iload_n 3, 1) := by decide +kernel
theorem dX4_equal_67 : decode cX4_equal 67 = .ok (.iadd, 1) := by decide +kernel
theorem dX4_equal_68 : decode cX4_equal 68 = .ok (.iaload, 1) := by decide +kernel
theorem dX4_equal_69 : decode cX4_equal 69 = .ok (.istore 4, 2) := by decide +kernel
theorem dX4_equal_71 : decode cX4_equal 71 = .ok (.aload_n 0, 1) := by decide +kernel
theorem dX4_equal_72 : decode cX4_equal 72 = .ok (.getfield 22, 3) := by decide +kernel
theorem dX4_equal_75 : decode cX4_equal 75 = .ok (.iconst 4, 1) := by decide +kernel
theorem dX4_equal_76 : decode cX4_equal 76 = .ok (.iload_n 2, 1) := by decide +kernel
theorem dX4_equal_77 : decode cX4_equal 77 = .ok (.imul, 1) := by decide +kernel
theorem dX4_equal_78 : decode cX4_equal 78 = .ok (.iload_n 3, 1) := by decide +kernel
theorem dX4_equal_79 : decode cX4_equal 79 = .ok (.iadd, 1) := by decide +kernel
theorem dX4_equal_80 : decode cX4_equal 80 = .ok (.iaload, 1) := by decide +kernel
theorem dX4_equal_81 : decode cX4_equal 81 = .ok (.istore 5, 2) := by decide +kernel
theorem dX4_equal_83 : decode cX4_equal 83 = .ok (.aload_n 0, 1) := by decide +kernel
theorem dX4_equal_84 : decode cX4_equal 84 = .ok (.iload_n 1, 1) := by decide +kernel
theorem dX4_equal_85 : decode cX4_equal 85 = .ok (.iload 4, 2) := by decide +kernel
theorem dX4_equal_87 : decode cX4_equal 87 = .ok (.invokevirtual 216, 3) := by decide +kernel
theorem dX4_equal_90 : decode cX4_equal 90 = .ok (.istore 6, 2) := by decide +kernel
theorem dX4_equal_92 : decode cX4_equal 92 = .ok (.iload 6, 2) := by decide +kernel
theorem dX4_equal_94 : decode cX4_equal 94 = .ok (.ifCond .eq 32, 3) := by decide +kernel
theorem dX4_equal_97 : decode cX4_equal 97 = .ok (.aload_n 0, 1) := by decide +kernel
theorem dX4_equal_98 : decode cX4_equal 98 = .ok (.bipush 12, 2) := by decide +kernel
theorem dX4_equal_100 : decode cX4_equal 100 = .ok (.iload 4, 2) := by decide +kernel
theorem dX4_equal_102 : decode cX4_equal 102 = .ok (.iadd, 1) := by decide +kernel
theorem dX4_equal_103 : decode cX4_equal 103 = .ok (.bipush 52, 2) := by decide +kernel
theorem dX4_equal_105 : decode cX4_equal 105 = .ok (.invokevirtual 182, 3) := by decide +kernel
theorem dX4_equal_108 : decode cX4_equal 108 = .ok (.aload_n 0, 1) := by decide +kernel
theorem dX4_equal_109 : decode cX4_equal 109 = .ok (.bipush 12, 2) := by decide +kernel
theorem dX4_equal_111 : decode cX4_equal 111 = .ok (.iload 4, 2) := by decide +kernel
theorem dX4_equal_113 : decode cX4_equal 113 = .ok (.iadd, 1) := by decide +kernel
theorem dX4_equal_114 : decode cX4_equal 114 = .ok (.invokevirtual 179, 3) := by decide +kernel
theorem dX4_equal_117 : decode cX4_equal 117 = .ok (.aload_n 0, 1) := by decide +kernel
theorem dX4_equal_118 : decode cX4_equal 118 = .ok (.iload_n 2, 1) := by decide +kernel
theorem dX4_equal_119 : decode cX4_equal 119 = .ok (.iload 5, 2) := by decide +kernel
theorem dX4_equal_121 : decode cX4_equal 121 = .ok (.invokevirtual 216, 3) := by decide +kernel
theorem dX4_equal_124 : decode cX4_equal 124 = .ok (.istore 6, 2) := by decide +kernel
theorem dX4_equal_126 : decode cX4_equal 126 = .ok (.iload 6, 2) := by decide +kernel
theorem dX4_equal_128 : decode cX4_equal 128 = .ok (.ifCond .eq 26, 3) := by decide +kernel
theorem dX4_equal_131 : decode cX4_equal 131 = .ok (.aload_n 0, 1) := by decide +kernel
theorem dX4_equal_132 : decode cX4_equal 132 = .ok (.bipush 55, 2) := by decide +kernel
theorem dX4_equal_134 : decode cX4_equal 134 = .ok (.bipush 6, 2) := by decide +kernel
theorem dX4_equal_136 : decode cX4_equal 136 = .ok (.bipush 52, 2) := by decide +kernel
theorem dX4_equal_138 : decode cX4_equal 138 = .ok (.bipush 12, 2) := by decide +kernel
theorem dX4_equal_140 : decode cX4_equal 140 = .ok (.iload 5, 2) := by decide +kernel
theorem dX4_equal_142 : decode cX4_equal 142 = .ok (.iadd, 1) := by decide +kernel
theorem dX4_equal_143 : decode cX4_equal 143 = .ok (.invokevirtual 204, 3) := by decide +kernel
theorem dX4_equal_146 : decode cX4_equal 146 = .ok (.aload_n 0, 1) := by decide +kernel
theorem dX4_equal_147 : decode cX4_equal 147 = .ok (.bipush 55, 2) := by decide +kernel
theorem dX4_equal_149 : decode cX4_equal 149 = .ok (.invokevirtual 207, 3) := by decide +kernel
theorem dX4_equal_152 : decode cX4_equal 152 = .ok (.istore 6, 2) := by decide +kernel
theorem dX4_equal_154 : decode cX4_equal 154 = .ok (.iload 6, 2) := by decide +kernel
theorem dX4_equal_156 : decode cX4_equal 156 = .ok (.ifCond .eq 13, 3) := by decide +kernel
theorem dX4_equal_159 : decode cX4_equal 159 = .ok (.aload_n 0, 1) := by decide +kernel
theorem dX4_equal_160 : decode cX4_equal 160 = .ok (.bipush 55, 2) := by decide +kernel
theorem dX4_equal_162 : decode cX4_equal 162 = .ok (.iconst 1, 1) := by decide +kernel
theorem dX4_equal_163 : decode cX4_equal 163 = .ok (.invokevirtual 246, 3) := by decide +kernel
theorem dX4_equal_166 : decode cX4_equal 166 = .ok (.goto 4, 3) := by decide +kernel
theorem dX4_equal_169 : decode cX4_equal 169 = .ok (.iconst (-1), 1) := by decide +kernel
theorem dX4_equal_170 : decode cX4_equal 170 = .ok (.istore 7, 2) := by decide +kernel
theorem dX4_equal_172 : decode cX4_equal 172 = .ok (.aload_n 0, 1) := by decide +kernel
theorem dX4_equal_173 : decode cX4_equal 173 = .ok (.invokevirtual 185, 3) := by decide +kernel
theorem dX4_equal_176 : decode cX4_equal 176 = .ok (.iload 6, 2) := by decide +kernel
theorem dX4_equal_178 : decode cX4_equal 178 = .ok (.ifCond .ne 6, 3) := by decide +kernel
theorem dX4_equal_181 : decode cX4_equal 181 = .ok (.bipush (-5), 2) := by decide +kernel
theorem dX4_equal_183 : decode cX4_equal 183 = .ok (.ireturn, 1) := by decide +kernel
theorem dX4_equal_184 : decode cX4_equal 184 = .ok (.iload 7, 2) := by decide +kernel
theorem dX4_equal_186 : decode cX4_equal 186 = .ok (.ifCond .lt 20, 3) := by decide +kernel
theorem dX4_equal_189 : decode cX4_equal 189 = .ok (.aload_n 0, 1) := by decide +kernel
theorem dX4_equal_190 : decode cX4_equal 190 = .ok (.iload_n 3, 1) := by decide +kernel
theorem dX4_equal_191 : decode cX4_equal 191 = .ok (.putfield 106, 3) := by decide +kernel
theorem dX4_equal_194 : decode cX4_equal 194 = .ok (.aload_n 0, 1) := by decide +kernel
theorem dX4_equal_195 : decode cX4_equal 195 = .ok (.aload_n 0, 1) := by decide +kernel
theorem dX4_equal_196 : decode cX4_equal 196 = .ok (.iload 7, 2) := by decide +kernel
theorem dX4_equal_198 : decode cX4_equal 198 = .ok (.invokevirtual 250, 3) := by decide +kernel
theorem dX4_equal_201 : decode cX4_equal 201 = .ok (.putfield 109, 3) := by decide +kernel
theorem dX4_equal_204 : decode cX4_equal 204 = .ok (.iconst 0, 1) := by decide +kernel
theorem dX4_equal_205 : decode cX4_equal 205 = .ok (.ireturn, 1) := by decide +kernel
theorem dX4_equal_206 : decode cX4_equal 206 = .ok (.iinc 3 1, 3) := by decide +kernel
theorem dX4_equal_209 : decode cX4_equal 209 = .ok (.goto (-160), 3) := by decide +kernel
theorem dX4_equal_212 : decode cX4_equal 212 = .ok (.iconst 1, 1) := by decide +kernel
theorem dX4_equal_213 : decode cX4_equal 213 = .ok (.ireturn, 1) := by decide +kernel
theorem dX4_parting_0 : decode cX4_parting 0 = .ok (.iload_n 1, 1) := by decide +kernel
theorem dX4_parting_1 : decode cX4_parting 1 = .ok (.ifCond .ne 10, 3) := by decide +kernel
theorem dX4_parting_4 : decode cX4_parting 4 = .ok (.aload_n 0, 1) := by decide +kernel
theorem dX4_parting_5 : decode cX4_parting 5 = .ok (.getfield 106, 3) := by decide +kernel
theorem dX4_parting_8 : decode cX4_parting 8 = .ok (.goto 17, 3) := by decide +kernel
theorem dX4_parting_11 : decode cX4_parting 11 = .ok (.iload_n 1, 1) := by decide +kernel
theorem dX4_parting_12 : decode cX4_parting 12 = .ok (.iconst 1, 1) := by decide +kernel
theorem dX4_parting_13 : decode cX4_parting 13 = .ok (.if_icmp .ne 10, 3) := by decide +kernel
theorem dX4_parting_16 : decode cX4_parting 16 = .ok (.aload_n 0, 1) := by decide +kernel
theorem dX4_parting_17 : decode cX4_parting 17 = .ok (.getfield 109, 3) := by decide +kernel
theorem dX4_parting_20 : decode cX4_parting 20 = .ok (.goto 5, 3) := by decide +kernel
theorem dX4_parting_23 : decode cX4_parting 23 = .ok (.bipush (-2), 2) := by decide +kernel
theorem dX4_parting_25 : decode cX4_parting 25 = .ok (.ireturn, 1) := by decide +kernel
theorem dX4_told_0 : decode cX4_told 0 = .ok (.iload_n 1, 1) := by decide +kernel
theorem dX4_told_1 : decode cX4_told 1 = .ok (.iconst 0, 1) := by decide +kernel
theorem dX4_told_2 : decode cX4_told 2 = .ok (.bipush 7, 2) := by decide +kernel
theorem dX4_told_4 : decode cX4_told 4 = .ok (.invokestatic 112, 3) := by decide +kernel
theorem dX4_told_7 : decode cX4_told 7 = .ok (.ifCond .ne 6, 3) := by decide +kernel
theorem dX4_told_10 : decode cX4_told 10 = .ok (.bipush (-2), 2) := by decide +kernel
theorem dX4_told_12 : decode cX4_told 12 = .ok (.ireturn, 1) := by decide +kernel
theorem dX4_told_13 : decode cX4_told 13 = .ok (.iload_n 1, 1) := by decide +kernel
theorem dX4_told_14 : decode cX4_told 14 = .ok (.bipush 6, 2) := by decide +kernel
theorem dX4_told_16 : decode cX4_told 16 = .ok (.if_icmp .ge 26, 3) := by decide +kernel
theorem dX4_told_19 : decode cX4_told 19 = .ok (.iload_n 1, 1) := by decide +kernel
theorem dX4_told_20 : decode cX4_told 20 = .ok (.iconst 3, 1) := by decide +kernel
theorem dX4_told_21 : decode cX4_told 21 = .ok (.if_icmp .ge 12, 3) := by decide +kernel
theorem dX4_told_24 : decode cX4_told 24 = .ok (.aload_n 0, 1) := by decide +kernel
theorem dX4_told_25 : decode cX4_told 25 = .ok (.getfield 7, 3) := by decide +kernel
theorem dX4_told_28 : decode cX4_told 28 = .ok (.iload_n 1, 1) := by decide +kernel
theorem dX4_told_29 : decode cX4_told 29 = .ok (.iaload, 1) := by decide +kernel
theorem dX4_told_30 : decode cX4_told 30 = .ok (.goto 11, 3) := by decide +kernel
theorem dX4_told_33 : decode cX4_told 33 = .ok (.aload_n 0, 1) := by decide +kernel
theorem dX4_told_34 : decode cX4_told 34 = .ok (.getfield 13, 3) := by decide +kernel
theorem dX4_told_37 : decode cX4_told 37 = .ok (.iload_n 1, 1) := by decide +kernel
theorem dX4_told_38 : decode cX4_told 38 = .ok (.iconst 3, 1) := by decide +kernel
theorem dX4_told_39 : decode cX4_told 39 = .ok (.isub, 1) := by decide +kernel
theorem dX4_told_40 : decode cX4_told 40 = .ok (.iaload, 1) := by decide +kernel
theorem dX4_told_41 : decode cX4_told 41 = .ok (.ireturn, 1) := by decide +kernel
theorem dX4_told_42 : decode cX4_told 42 = .ok (.iconst 0, 1) := by decide +kernel
theorem dX4_told_43 : decode cX4_told 43 = .ok (.istore_n 2, 1) := by decide +kernel
theorem dX4_told_44 : decode cX4_told 44 = .ok (.iconst 0, 1) := by decide +kernel
theorem dX4_told_45 : decode cX4_told 45 = .ok (.istore_n 3, 1) := by decide +kernel
theorem dX4_told_46 : decode cX4_told 46 = .ok (.iload_n 3, 1) := by decide +kernel
theorem dX4_told_47 : decode cX4_told 47 = .ok (.bipush 12, 2) := by decide +kernel
theorem dX4_told_49 : decode cX4_told 49 = .ok (.if_icmp .ge 26, 3) := by decide +kernel
theorem dX4_told_52 : decode cX4_told 52 = .ok (.iload_n 2, 1) := by decide +kernel
theorem dX4_told_53 : decode cX4_told 53 = .ok (.aload_n 0, 1) := by decide +kernel
theorem dX4_told_54 : decode cX4_told 54 = .ok (.getfield 44, 3) := by decide +kernel
theorem dX4_told_57 : decode cX4_told 57 = .ok (.iload_n 3, 1) := by decide +kernel
theorem dX4_told_58 : decode cX4_told 58 = .ok (.baload, 1) := by decide +kernel
theorem dX4_told_59 : decode cX4_told 59 = .ok (.ifCond .eq 7, 3) := by decide +kernel
theorem dX4_told_62 : decode cX4_told 62 = .ok (.iconst 1, 1) := by decide +kernel
theorem dX4_told_63 : decode cX4_told 63 = .ok (.goto 4, 3) := by decide +kernel
theorem dX4_told_66 : decode cX4_told 66 = .ok (.iconst 0, 1) := by decide +kernel
theorem dX4_told_67 : decode cX4_told 67 = .ok (.iadd, 1) := by decide +kernel
theorem dX4_told_68 : decode cX4_told 68 = .ok (.istore_n 2, 1) := by decide +kernel
theorem dX4_told_69 : decode cX4_told 69 = .ok (.iinc 3 1, 3) := by decide +kernel
theorem dX4_told_72 : decode cX4_told 72 = .ok (.goto (-26), 3) := by decide +kernel
theorem dX4_told_75 : decode cX4_told 75 = .ok (.iload_n 1, 1) := by decide +kernel
theorem dX4_told_76 : decode cX4_told 76 = .ok (.bipush 6, 2) := by decide +kernel
theorem dX4_told_78 : decode cX4_told 78 = .ok (.if_icmp .ne 7, 3) := by decide +kernel
theorem dX4_told_81 : decode cX4_told 81 = .ok (.iload_n 2, 1) := by decide +kernel
theorem dX4_told_82 : decode cX4_told 82 = .ok (.goto 7, 3) := by decide +kernel
theorem dX4_told_85 : decode cX4_told 85 = .ok (.aload_n 0, 1) := by decide +kernel
theorem dX4_told_86 : decode cX4_told 86 = .ok (.getfield 102, 3) := by decide +kernel
theorem dX4_told_89 : decode cX4_told 89 = .ok (.ireturn, 1) := by decide +kernel
