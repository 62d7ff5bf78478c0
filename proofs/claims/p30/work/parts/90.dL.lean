theorem dkL_law_0 : (dq_2 cL_law 0 187 7 && (dq_0 cL_law 3 89 && (dq_2 cL_law 4 183 9 && (dq_0 cL_law 7 76 && (dq_2 cL_law 8 187 10 && (dq_0 cL_law 11 89 && (dq_2 cL_law 12 183 12 && (dq_0 cL_law 15 77 && (dq_0 cL_law 16 3 && (dq_0 cL_law 17 62)))))))))) = true := by decide +kernel
theorem dL_law_0 : decode cL_law 0 = .ok (.new 7, 3) := dq_i187 (dl_b dkL_law_0).1
theorem dL_law_3 : decode cL_law 3 = .ok (.dup, 1) := dq_i89 (dl_b (dl_b dkL_law_0).2).1
theorem dL_law_4 : decode cL_law 4 = .ok (.invokespecial 9, 3) := dq_i183 (dl_b (dl_b (dl_b dkL_law_0).2).2).1
theorem dL_law_7 : decode cL_law 7 = .ok (.astore_n 1, 1) := dq_i76 (dl_b (dl_b (dl_b (dl_b dkL_law_0).2).2).2).1
theorem dL_law_8 : decode cL_law 8 = .ok (.new 10, 3) := dq_i187 (dl_b (dl_b (dl_b (dl_b (dl_b dkL_law_0).2).2).2).2).1
theorem dL_law_11 : decode cL_law 11 = .ok (.dup, 1) := dq_i89 (dl_b (dl_b (dl_b (dl_b (dl_b (dl_b dkL_law_0).2).2).2).2).2).1
theorem dL_law_12 : decode cL_law 12 = .ok (.invokespecial 12, 3) := dq_i183 (dl_b (dl_b (dl_b (dl_b (dl_b (dl_b (dl_b dkL_law_0).2).2).2).2).2).2).1
theorem dL_law_15 : decode cL_law 15 = .ok (.astore_n 2, 1) := dq_i77 (dl_b (dl_b (dl_b (dl_b (dl_b (dl_b (dl_b (dl_b dkL_law_0).2).2).2).2).2).2).2).1
theorem dL_law_16 : decode cL_law 16 = .ok (.iconst 0, 1) := dq_i3 (dl_b (dl_b (dl_b (dl_b (dl_b (dl_b (dl_b (dl_b (dl_b dkL_law_0).2).2).2).2).2).2).2).2).1
theorem dL_law_17 : decode cL_law 17 = .ok (.istore_n 3, 1) := dq_i62 (dl_b (dl_b (dl_b (dl_b (dl_b (dl_b (dl_b (dl_b (dl_b dkL_law_0).2).2).2).2).2).2).2).2).2
theorem dkL_law_18 : (dq_0 cL_law 18 29 && (dq_0 cL_law 19 42 && (dq_0 cL_law 20 190 && (dq_3 cL_law 21 16 6 && (dq_0 cL_law 23 100 && (dq_4 cL_law 24 163 1278 && (dq_0 cL_law 27 42 && (dq_0 cL_law 28 29 && (dq_0 cL_law 29 46 && (dq_3 cL_law 30 16 31)))))))))) = true := by decide +kernel
theorem dL_law_18 : decode cL_law 18 = .ok (.iload_n 3, 1) := dq_i29 (dl_b dkL_law_18).1
theorem dL_law_19 : decode cL_law 19 = .ok (.aload_n 0, 1) := dq_i42 (dl_b (dl_b dkL_law_18).2).1
theorem dL_law_20 : decode cL_law 20 = .ok (.arraylength, 1) := dq_i190 (dl_b (dl_b (dl_b dkL_law_18).2).2).1
theorem dL_law_21 : decode cL_law 21 = .ok (.bipush 6, 2) := dq_i16 (dl_b (dl_b (dl_b (dl_b dkL_law_18).2).2).2).1
theorem dL_law_23 : decode cL_law 23 = .ok (.isub, 1) := dq_i100 (dl_b (dl_b (dl_b (dl_b (dl_b dkL_law_18).2).2).2).2).1
theorem dL_law_24 : decode cL_law 24 = .ok (.if_icmp .gt 1278, 3) := dq_i163 (dl_b (dl_b (dl_b (dl_b (dl_b (dl_b dkL_law_18).2).2).2).2).2).1
theorem dL_law_27 : decode cL_law 27 = .ok (.aload_n 0, 1) := dq_i42 (dl_b (dl_b (dl_b (dl_b (dl_b (dl_b (dl_b dkL_law_18).2).2).2).2).2).2).1
theorem dL_law_28 : decode cL_law 28 = .ok (.iload_n 3, 1) := dq_i29 (dl_b (dl_b (dl_b (dl_b (dl_b (dl_b (dl_b (dl_b dkL_law_18).2).2).2).2).2).2).2).1
theorem dL_law_29 : decode cL_law 29 = .ok (.iaload, 1) := dq_i46 (dl_b (dl_b (dl_b (dl_b (dl_b (dl_b (dl_b (dl_b (dl_b dkL_law_18).2).2).2).2).2).2).2).2).1
theorem dL_law_30 : decode cL_law 30 = .ok (.bipush 31, 2) := dq_i16 (dl_b (dl_b (dl_b (dl_b (dl_b (dl_b (dl_b (dl_b (dl_b dkL_law_18).2).2).2).2).2).2).2).2).2
theorem dkL_law_32 : (dq_0 cL_law 32 126) = true := by decide +kernel
theorem dL_law_32 : decode cL_law 32 = .ok (.iand, 1) := dq_i126 dkL_law_32
theorem dL_law_33 : decode cL_law 33 = .ok (.tableswitch 1263 0 31 #[143, 206, 239, 262, 305, 328, 361, 384, 407, 450, 483, 536, 589, 658, 727, 780, 813, 836, 859, 872, 905, 918, 951, 984, 1007, 1030, 1053, 1086, 1135, 1184, 1217, 1240], 143) := by decide +kernel
theorem dkL_law_176 : (dq_0 cL_law 176 43 && (dq_0 cL_law 177 42 && (dq_0 cL_law 178 29 && (dq_0 cL_law 179 4 && (dq_0 cL_law 180 96 && (dq_0 cL_law 181 46 && (dq_0 cL_law 182 42 && (dq_0 cL_law 183 29 && (dq_0 cL_law 184 5 && (dq_0 cL_law 185 96)))))))))) = true := by decide +kernel
theorem dL_law_176 : decode cL_law 176 = .ok (.aload_n 1, 1) := dq_i43 (dl_b dkL_law_176).1
theorem dL_law_177 : decode cL_law 177 = .ok (.aload_n 0, 1) := dq_i42 (dl_b (dl_b dkL_law_176).2).1
theorem dL_law_178 : decode cL_law 178 = .ok (.iload_n 3, 1) := dq_i29 (dl_b (dl_b (dl_b dkL_law_176).2).2).1
theorem dL_law_179 : decode cL_law 179 = .ok (.iconst 1, 1) := dq_i4 (dl_b (dl_b (dl_b (dl_b dkL_law_176).2).2).2).1
theorem dL_law_180 : decode cL_law 180 = .ok (.iadd, 1) := dq_i96 (dl_b (dl_b (dl_b (dl_b (dl_b dkL_law_176).2).2).2).2).1
theorem dL_law_181 : decode cL_law 181 = .ok (.iaload, 1) := dq_i46 (dl_b (dl_b (dl_b (dl_b (dl_b (dl_b dkL_law_176).2).2).2).2).2).1
theorem dL_law_182 : decode cL_law 182 = .ok (.aload_n 0, 1) := dq_i42 (dl_b (dl_b (dl_b (dl_b (dl_b (dl_b (dl_b dkL_law_176).2).2).2).2).2).2).1
theorem dL_law_183 : decode cL_law 183 = .ok (.iload_n 3, 1) := dq_i29 (dl_b (dl_b (dl_b (dl_b (dl_b (dl_b (dl_b (dl_b dkL_law_176).2).2).2).2).2).2).2).1
theorem dL_law_184 : decode cL_law 184 = .ok (.iconst 2, 1) := dq_i5 (dl_b (dl_b (dl_b (dl_b (dl_b (dl_b (dl_b (dl_b (dl_b dkL_law_176).2).2).2).2).2).2).2).2).1
theorem dL_law_185 : decode cL_law 185 = .ok (.iadd, 1) := dq_i96 (dl_b (dl_b (dl_b (dl_b (dl_b (dl_b (dl_b (dl_b (dl_b dkL_law_176).2).2).2).2).2).2).2).2).2
theorem dkL_law_186 : (dq_0 cL_law 186 46 && (dq_0 cL_law 187 42 && (dq_0 cL_law 188 29 && (dq_0 cL_law 189 6 && (dq_0 cL_law 190 96 && (dq_0 cL_law 191 46 && (dq_0 cL_law 192 42 && (dq_0 cL_law 193 29 && (dq_0 cL_law 194 7 && (dq_0 cL_law 195 96)))))))))) = true := by decide +kernel
theorem dL_law_186 : decode cL_law 186 = .ok (.iaload, 1) := dq_i46 (dl_b dkL_law_186).1
theorem dL_law_187 : decode cL_law 187 = .ok (.aload_n 0, 1) := dq_i42 (dl_b (dl_b dkL_law_186).2).1
theorem dL_law_188 : decode cL_law 188 = .ok (.iload_n 3, 1) := dq_i29 (dl_b (dl_b (dl_b dkL_law_186).2).2).1
theorem dL_law_189 : decode cL_law 189 = .ok (.iconst 3, 1) := dq_i6 (dl_b (dl_b (dl_b (dl_b dkL_law_186).2).2).2).1
theorem dL_law_190 : decode cL_law 190 = .ok (.iadd, 1) := dq_i96 (dl_b (dl_b (dl_b (dl_b (dl_b dkL_law_186).2).2).2).2).1
theorem dL_law_191 : decode cL_law 191 = .ok (.iaload, 1) := dq_i46 (dl_b (dl_b (dl_b (dl_b (dl_b (dl_b dkL_law_186).2).2).2).2).2).1
theorem dL_law_192 : decode cL_law 192 = .ok (.aload_n 0, 1) := dq_i42 (dl_b (dl_b (dl_b (dl_b (dl_b (dl_b (dl_b dkL_law_186).2).2).2).2).2).2).1
theorem dL_law_193 : decode cL_law 193 = .ok (.iload_n 3, 1) := dq_i29 (dl_b (dl_b (dl_b (dl_b (dl_b (dl_b (dl_b (dl_b dkL_law_186).2).2).2).2).2).2).2).1
theorem dL_law_194 : decode cL_law 194 = .ok (.iconst 4, 1) := dq_i7 (dl_b (dl_b (dl_b (dl_b (dl_b (dl_b (dl_b (dl_b (dl_b dkL_law_186).2).2).2).2).2).2).2).2).1
theorem dL_law_195 : decode cL_law 195 = .ok (.iadd, 1) := dq_i96 (dl_b (dl_b (dl_b (dl_b (dl_b (dl_b (dl_b (dl_b (dl_b dkL_law_186).2).2).2).2).2).2).2).2).2
theorem dkL_law_196 : (dq_0 cL_law 196 46 && (dq_0 cL_law 197 42 && (dq_0 cL_law 198 29 && (dq_0 cL_law 199 8 && (dq_0 cL_law 200 96 && (dq_0 cL_law 201 46 && (dq_2 cL_law 202 182 13 && (dq_0 cL_law 205 87 && (dq_0 cL_law 206 44 && (dq_0 cL_law 207 42)))))))))) = true := by decide +kernel
theorem dL_law_196 : decode cL_law 196 = .ok (.iaload, 1) := dq_i46 (dl_b dkL_law_196).1
theorem dL_law_197 : decode cL_law 197 = .ok (.aload_n 0, 1) := dq_i42 (dl_b (dl_b dkL_law_196).2).1
theorem dL_law_198 : decode cL_law 198 = .ok (.iload_n 3, 1) := dq_i29 (dl_b (dl_b (dl_b dkL_law_196).2).2).1
theorem dL_law_199 : decode cL_law 199 = .ok (.iconst 5, 1) := dq_i8 (dl_b (dl_b (dl_b (dl_b dkL_law_196).2).2).2).1
theorem dL_law_200 : decode cL_law 200 = .ok (.iadd, 1) := dq_i96 (dl_b (dl_b (dl_b (dl_b (dl_b dkL_law_196).2).2).2).2).1
theorem dL_law_201 : decode cL_law 201 = .ok (.iaload, 1) := dq_i46 (dl_b (dl_b (dl_b (dl_b (dl_b (dl_b dkL_law_196).2).2).2).2).2).1
theorem dL_law_202 : decode cL_law 202 = .ok (.invokevirtual 13, 3) := dq_i182 (dl_b (dl_b (dl_b (dl_b (dl_b (dl_b (dl_b dkL_law_196).2).2).2).2).2).2).1
theorem dL_law_205 : decode cL_law 205 = .ok (.pop, 1) := dq_i87 (dl_b (dl_b (dl_b (dl_b (dl_b (dl_b (dl_b (dl_b dkL_law_196).2).2).2).2).2).2).2).1
theorem dL_law_206 : decode cL_law 206 = .ok (.aload_n 2, 1) := dq_i44 (dl_b (dl_b (dl_b (dl_b (dl_b (dl_b (dl_b (dl_b (dl_b dkL_law_196).2).2).2).2).2).2).2).2).1
theorem dL_law_207 : decode cL_law 207 = .ok (.aload_n 0, 1) := dq_i42 (dl_b (dl_b (dl_b (dl_b (dl_b (dl_b (dl_b (dl_b (dl_b dkL_law_196).2).2).2).2).2).2).2).2).2
theorem dkL_law_208 : (dq_0 cL_law 208 29 && (dq_0 cL_law 209 4 && (dq_0 cL_law 210 96 && (dq_0 cL_law 211 46 && (dq_0 cL_law 212 42 && (dq_0 cL_law 213 29 && (dq_0 cL_law 214 5 && (dq_0 cL_law 215 96 && (dq_0 cL_law 216 46 && (dq_0 cL_law 217 42)))))))))) = true := by decide +kernel
theorem dL_law_208 : decode cL_law 208 = .ok (.iload_n 3, 1) := dq_i29 (dl_b dkL_law_208).1
theorem dL_law_209 : decode cL_law 209 = .ok (.iconst 1, 1) := dq_i4 (dl_b (dl_b dkL_law_208).2).1
theorem dL_law_210 : decode cL_law 210 = .ok (.iadd, 1) := dq_i96 (dl_b (dl_b (dl_b dkL_law_208).2).2).1
theorem dL_law_211 : decode cL_law 211 = .ok (.iaload, 1) := dq_i46 (dl_b (dl_b (dl_b (dl_b dkL_law_208).2).2).2).1
theorem dL_law_212 : decode cL_law 212 = .ok (.aload_n 0, 1) := dq_i42 (dl_b (dl_b (dl_b (dl_b (dl_b dkL_law_208).2).2).2).2).1
theorem dL_law_213 : decode cL_law 213 = .ok (.iload_n 3, 1) := dq_i29 (dl_b (dl_b (dl_b (dl_b (dl_b (dl_b dkL_law_208).2).2).2).2).2).1
theorem dL_law_214 : decode cL_law 214 = .ok (.iconst 2, 1) := dq_i5 (dl_b (dl_b (dl_b (dl_b (dl_b (dl_b (dl_b dkL_law_208).2).2).2).2).2).2).1
theorem dL_law_215 : decode cL_law 215 = .ok (.iadd, 1) := dq_i96 (dl_b (dl_b (dl_b (dl_b (dl_b (dl_b (dl_b (dl_b dkL_law_208).2).2).2).2).2).2).2).1
theorem dL_law_216 : decode cL_law 216 = .ok (.iaload, 1) := dq_i46 (dl_b (dl_b (dl_b (dl_b (dl_b (dl_b (dl_b (dl_b (dl_b dkL_law_208).2).2).2).2).2).2).2).2).1
theorem dL_law_217 : decode cL_law 217 = .ok (.aload_n 0, 1) := dq_i42 (dl_b (dl_b (dl_b (dl_b (dl_b (dl_b (dl_b (dl_b (dl_b dkL_law_208).2).2).2).2).2).2).2).2).2
theorem dkL_law_218 : (dq_0 cL_law 218 29 && (dq_0 cL_law 219 6 && (dq_0 cL_law 220 96 && (dq_0 cL_law 221 46 && (dq_0 cL_law 222 42 && (dq_0 cL_law 223 29 && (dq_0 cL_law 224 7 && (dq_0 cL_law 225 96 && (dq_0 cL_law 226 46 && (dq_0 cL_law 227 42)))))))))) = true := by decide +kernel
theorem dL_law_218 : decode cL_law 218 = .ok (.iload_n 3, 1) := dq_i29 (dl_b dkL_law_218).1
theorem dL_law_219 : decode cL_law 219 = .ok (.iconst 3, 1) := dq_i6 (dl_b (dl_b dkL_law_218).2).1
theorem dL_law_220 : decode cL_law 220 = .ok (.iadd, 1) := dq_i96 (dl_b (dl_b (dl_b dkL_law_218).2).2).1
theorem dL_law_221 : decode cL_law 221 = .ok (.iaload, 1) := dq_i46 (dl_b (dl_b (dl_b (dl_b dkL_law_218).2).2).2).1
theorem dL_law_222 : decode cL_law 222 = .ok (.aload_n 0, 1) := dq_i42 (dl_b (dl_b (dl_b (dl_b (dl_b dkL_law_218).2).2).2).2).1
theorem dL_law_223 : decode cL_law 223 = .ok (.iload_n 3, 1) := dq_i29 (dl_b (dl_b (dl_b (dl_b (dl_b (dl_b dkL_law_218).2).2).2).2).2).1
theorem dL_law_224 : decode cL_law 224 = .ok (.iconst 4, 1) := dq_i7 (dl_b (dl_b (dl_b (dl_b (dl_b (dl_b (dl_b dkL_law_218).2).2).2).2).2).2).1
theorem dL_law_225 : decode cL_law 225 = .ok (.iadd, 1) := dq_i96 (dl_b (dl_b (dl_b (dl_b (dl_b (dl_b (dl_b (dl_b dkL_law_218).2).2).2).2).2).2).2).1
theorem dL_law_226 : decode cL_law 226 = .ok (.iaload, 1) := dq_i46 (dl_b (dl_b (dl_b (dl_b (dl_b (dl_b (dl_b (dl_b (dl_b dkL_law_218).2).2).2).2).2).2).2).2).1
theorem dL_law_227 : decode cL_law 227 = .ok (.aload_n 0, 1) := dq_i42 (dl_b (dl_b (dl_b (dl_b (dl_b (dl_b (dl_b (dl_b (dl_b dkL_law_218).2).2).2).2).2).2).2).2).2
theorem dkL_law_228 : (dq_0 cL_law 228 29 && (dq_0 cL_law 229 8 && (dq_0 cL_law 230 96 && (dq_0 cL_law 231 46 && (dq_2 cL_law 232 182 17 && (dq_0 cL_law 235 87 && (dq_4 cL_law 236 167 1060 && (dq_0 cL_law 239 43 && (dq_0 cL_law 240 42 && (dq_0 cL_law 241 29)))))))))) = true := by decide +kernel
theorem dL_law_228 : decode cL_law 228 = .ok (.iload_n 3, 1) := dq_i29 (dl_b dkL_law_228).1
theorem dL_law_229 : decode cL_law 229 = .ok (.iconst 5, 1) := dq_i8 (dl_b (dl_b dkL_law_228).2).1
theorem dL_law_230 : decode cL_law 230 = .ok (.iadd, 1) := dq_i96 (dl_b (dl_b (dl_b dkL_law_228).2).2).1
theorem dL_law_231 : decode cL_law 231 = .ok (.iaload, 1) := dq_i46 (dl_b (dl_b (dl_b (dl_b dkL_law_228).2).2).2).1
theorem dL_law_232 : decode cL_law 232 = .ok (.invokevirtual 17, 3) := dq_i182 (dl_b (dl_b (dl_b (dl_b (dl_b dkL_law_228).2).2).2).2).1
theorem dL_law_235 : decode cL_law 235 = .ok (.pop, 1) := dq_i87 (dl_b (dl_b (dl_b (dl_b (dl_b (dl_b dkL_law_228).2).2).2).2).2).1
theorem dL_law_236 : decode cL_law 236 = .ok (.goto 1060, 3) := dq_i167 (dl_b (dl_b (dl_b (dl_b (dl_b (dl_b (dl_b dkL_law_228).2).2).2).2).2).2).1
theorem dL_law_239 : decode cL_law 239 = .ok (.aload_n 1, 1) := dq_i43 (dl_b (dl_b (dl_b (dl_b (dl_b (dl_b (dl_b (dl_b dkL_law_228).2).2).2).2).2).2).2).1
theorem dL_law_240 : decode cL_law 240 = .ok (.aload_n 0, 1) := dq_i42 (dl_b (dl_b (dl_b (dl_b (dl_b (dl_b (dl_b (dl_b (dl_b dkL_law_228).2).2).2).2).2).2).2).2).1
theorem dL_law_241 : decode cL_law 241 = .ok (.iload_n 3, 1) := dq_i29 (dl_b (dl_b (dl_b (dl_b (dl_b (dl_b (dl_b (dl_b (dl_b dkL_law_228).2).2).2).2).2).2).2).2).2
theorem dkL_law_242 : (dq_0 cL_law 242 4 && (dq_0 cL_law 243 96 && (dq_0 cL_law 244 46 && (dq_0 cL_law 245 42 && (dq_0 cL_law 246 29 && (dq_0 cL_law 247 5 && (dq_0 cL_law 248 96 && (dq_0 cL_law 249 46 && (dq_2 cL_law 250 182 18 && (dq_0 cL_law 253 87)))))))))) = true := by decide +kernel
theorem dL_law_242 : decode cL_law 242 = .ok (.iconst 1, 1) := dq_i4 (dl_b dkL_law_242).1
theorem dL_law_243 : decode cL_law 243 = .ok (.iadd, 1) := dq_i96 (dl_b (dl_b dkL_law_242).2).1
theorem dL_law_244 : decode cL_law 244 = .ok (.iaload, 1) := dq_i46 (dl_b (dl_b (dl_b dkL_law_242).2).2).1
theorem dL_law_245 : decode cL_law 245 = .ok (.aload_n 0, 1) := dq_i42 (dl_b (dl_b (dl_b (dl_b dkL_law_242).2).2).2).1
theorem dL_law_246 : decode cL_law 246 = .ok (.iload_n 3, 1) := dq_i29 (dl_b (dl_b (dl_b (dl_b (dl_b dkL_law_242).2).2).2).2).1
theorem dL_law_247 : decode cL_law 247 = .ok (.iconst 2, 1) := dq_i5 (dl_b (dl_b (dl_b (dl_b (dl_b (dl_b dkL_law_242).2).2).2).2).2).1
theorem dL_law_248 : decode cL_law 248 = .ok (.iadd, 1) := dq_i96 (dl_b (dl_b (dl_b (dl_b (dl_b (dl_b (dl_b dkL_law_242).2).2).2).2).2).2).1
theorem dL_law_249 : decode cL_law 249 = .ok (.iaload, 1) := dq_i46 (dl_b (dl_b (dl_b (dl_b (dl_b (dl_b (dl_b (dl_b dkL_law_242).2).2).2).2).2).2).2).1
theorem dL_law_250 : decode cL_law 250 = .ok (.invokevirtual 18, 3) := dq_i182 (dl_b (dl_b (dl_b (dl_b (dl_b (dl_b (dl_b (dl_b (dl_b dkL_law_242).2).2).2).2).2).2).2).2).1
theorem dL_law_253 : decode cL_law 253 = .ok (.pop, 1) := dq_i87 (dl_b (dl_b (dl_b (dl_b (dl_b (dl_b (dl_b (dl_b (dl_b dkL_law_242).2).2).2).2).2).2).2).2).2
theorem dkL_law_254 : (dq_0 cL_law 254 44 && (dq_0 cL_law 255 42 && (dq_0 cL_law 256 29 && (dq_0 cL_law 257 4 && (dq_0 cL_law 258 96 && (dq_0 cL_law 259 46 && (dq_0 cL_law 260 42 && (dq_0 cL_law 261 29 && (dq_0 cL_law 262 5 && (dq_0 cL_law 263 96)))))))))) = true := by decide +kernel
theorem dL_law_254 : decode cL_law 254 = .ok (.aload_n 2, 1) := dq_i44 (dl_b dkL_law_254).1
theorem dL_law_255 : decode cL_law 255 = .ok (.aload_n 0, 1) := dq_i42 (dl_b (dl_b dkL_law_254).2).1
theorem dL_law_256 : decode cL_law 256 = .ok (.iload_n 3, 1) := dq_i29 (dl_b (dl_b (dl_b dkL_law_254).2).2).1
theorem dL_law_257 : decode cL_law 257 = .ok (.iconst 1, 1) := dq_i4 (dl_b (dl_b (dl_b (dl_b dkL_law_254).2).2).2).1
theorem dL_law_258 : decode cL_law 258 = .ok (.iadd, 1) := dq_i96 (dl_b (dl_b (dl_b (dl_b (dl_b dkL_law_254).2).2).2).2).1
theorem dL_law_259 : decode cL_law 259 = .ok (.iaload, 1) := dq_i46 (dl_b (dl_b (dl_b (dl_b (dl_b (dl_b dkL_law_254).2).2).2).2).2).1
theorem dL_law_260 : decode cL_law 260 = .ok (.aload_n 0, 1) := dq_i42 (dl_b (dl_b (dl_b (dl_b (dl_b (dl_b (dl_b dkL_law_254).2).2).2).2).2).2).1
theorem dL_law_261 : decode cL_law 261 = .ok (.iload_n 3, 1) := dq_i29 (dl_b (dl_b (dl_b (dl_b (dl_b (dl_b (dl_b (dl_b dkL_law_254).2).2).2).2).2).2).2).1
theorem dL_law_262 : decode cL_law 262 = .ok (.iconst 2, 1) := dq_i5 (dl_b (dl_b (dl_b (dl_b (dl_b (dl_b (dl_b (dl_b (dl_b dkL_law_254).2).2).2).2).2).2).2).2).1
theorem dL_law_263 : decode cL_law 263 = .ok (.iadd, 1) := dq_i96 (dl_b (dl_b (dl_b (dl_b (dl_b (dl_b (dl_b (dl_b (dl_b dkL_law_254).2).2).2).2).2).2).2).2).2
theorem dkL_law_264 : (dq_0 cL_law 264 46 && (dq_2 cL_law 265 182 22 && (dq_0 cL_law 268 87 && (dq_4 cL_law 269 167 1027 && (dq_0 cL_law 272 43 && (dq_0 cL_law 273 42 && (dq_0 cL_law 274 29 && (dq_0 cL_law 275 4 && (dq_0 cL_law 276 96 && (dq_0 cL_law 277 46)))))))))) = true := by decide +kernel
theorem dL_law_264 : decode cL_law 264 = .ok (.iaload, 1) := dq_i46 (dl_b dkL_law_264).1
theorem dL_law_265 : decode cL_law 265 = .ok (.invokevirtual 22, 3) := dq_i182 (dl_b (dl_b dkL_law_264).2).1
theorem dL_law_268 : decode cL_law 268 = .ok (.pop, 1) := dq_i87 (dl_b (dl_b (dl_b dkL_law_264).2).2).1
theorem dL_law_269 : decode cL_law 269 = .ok (.goto 1027, 3) := dq_i167 (dl_b (dl_b (dl_b (dl_b dkL_law_264).2).2).2).1
theorem dL_law_272 : decode cL_law 272 = .ok (.aload_n 1, 1) := dq_i43 (dl_b (dl_b (dl_b (dl_b (dl_b dkL_law_264).2).2).2).2).1
theorem dL_law_273 : decode cL_law 273 = .ok (.aload_n 0, 1) := dq_i42 (dl_b (dl_b (dl_b (dl_b (dl_b (dl_b dkL_law_264).2).2).2).2).2).1
theorem dL_law_274 : decode cL_law 274 = .ok (.iload_n 3, 1) := dq_i29 (dl_b (dl_b (dl_b (dl_b (dl_b (dl_b (dl_b dkL_law_264).2).2).2).2).2).2).1
theorem dL_law_275 : decode cL_law 275 = .ok (.iconst 1, 1) := dq_i4 (dl_b (dl_b (dl_b (dl_b (dl_b (dl_b (dl_b (dl_b dkL_law_264).2).2).2).2).2).2).2).1
theorem dL_law_276 : decode cL_law 276 = .ok (.iadd, 1) := dq_i96 (dl_b (dl_b (dl_b (dl_b (dl_b (dl_b (dl_b (dl_b (dl_b dkL_law_264).2).2).2).2).2).2).2).2).1
theorem dL_law_277 : decode cL_law 277 = .ok (.iaload, 1) := dq_i46 (dl_b (dl_b (dl_b (dl_b (dl_b (dl_b (dl_b (dl_b (dl_b dkL_law_264).2).2).2).2).2).2).2).2).2
theorem dkL_law_278 : (dq_2 cL_law 278 182 23 && (dq_0 cL_law 281 87 && (dq_0 cL_law 282 44 && (dq_0 cL_law 283 42 && (dq_0 cL_law 284 29 && (dq_0 cL_law 285 4 && (dq_0 cL_law 286 96 && (dq_0 cL_law 287 46 && (dq_2 cL_law 288 182 27 && (dq_0 cL_law 291 87)))))))))) = true := by decide +kernel
theorem dL_law_278 : decode cL_law 278 = .ok (.invokevirtual 23, 3) := dq_i182 (dl_b dkL_law_278).1
theorem dL_law_281 : decode cL_law 281 = .ok (.pop, 1) := dq_i87 (dl_b (dl_b dkL_law_278).2).1
theorem dL_law_282 : decode cL_law 282 = .ok (.aload_n 2, 1) := dq_i44 (dl_b (dl_b (dl_b dkL_law_278).2).2).1
theorem dL_law_283 : decode cL_law 283 = .ok (.aload_n 0, 1) := dq_i42 (dl_b (dl_b (dl_b (dl_b dkL_law_278).2).2).2).1
theorem dL_law_284 : decode cL_law 284 = .ok (.iload_n 3, 1) := dq_i29 (dl_b (dl_b (dl_b (dl_b (dl_b dkL_law_278).2).2).2).2).1
theorem dL_law_285 : decode cL_law 285 = .ok (.iconst 1, 1) := dq_i4 (dl_b (dl_b (dl_b (dl_b (dl_b (dl_b dkL_law_278).2).2).2).2).2).1
theorem dL_law_286 : decode cL_law 286 = .ok (.iadd, 1) := dq_i96 (dl_b (dl_b (dl_b (dl_b (dl_b (dl_b (dl_b dkL_law_278).2).2).2).2).2).2).1
theorem dL_law_287 : decode cL_law 287 = .ok (.iaload, 1) := dq_i46 (dl_b (dl_b (dl_b (dl_b (dl_b (dl_b (dl_b (dl_b dkL_law_278).2).2).2).2).2).2).2).1
theorem dL_law_288 : decode cL_law 288 = .ok (.invokevirtual 27, 3) := dq_i182 (dl_b (dl_b (dl_b (dl_b (dl_b (dl_b (dl_b (dl_b (dl_b dkL_law_278).2).2).2).2).2).2).2).2).1
theorem dL_law_291 : decode cL_law 291 = .ok (.pop, 1) := dq_i87 (dl_b (dl_b (dl_b (dl_b (dl_b (dl_b (dl_b (dl_b (dl_b dkL_law_278).2).2).2).2).2).2).2).2).2
theorem dkL_law_292 : (dq_4 cL_law 292 167 1004 && (dq_0 cL_law 295 43 && (dq_0 cL_law 296 42 && (dq_0 cL_law 297 29 && (dq_0 cL_law 298 4 && (dq_0 cL_law 299 96 && (dq_0 cL_law 300 46 && (dq_0 cL_law 301 42 && (dq_0 cL_law 302 29 && (dq_0 cL_law 303 5)))))))))) = true := by decide +kernel
theorem dL_law_292 : decode cL_law 292 = .ok (.goto 1004, 3) := dq_i167 (dl_b dkL_law_292).1
theorem dL_law_295 : decode cL_law 295 = .ok (.aload_n 1, 1) := dq_i43 (dl_b (dl_b dkL_law_292).2).1
theorem dL_law_296 : decode cL_law 296 = .ok (.aload_n 0, 1) := dq_i42 (dl_b (dl_b (dl_b dkL_law_292).2).2).1
theorem dL_law_297 : decode cL_law 297 = .ok (.iload_n 3, 1) := dq_i29 (dl_b (dl_b (dl_b (dl_b dkL_law_292).2).2).2).1
theorem dL_law_298 : decode cL_law 298 = .ok (.iconst 1, 1) := dq_i4 (dl_b (dl_b (dl_b (dl_b (dl_b dkL_law_292).2).2).2).2).1
theorem dL_law_299 : decode cL_law 299 = .ok (.iadd, 1) := dq_i96 (dl_b (dl_b (dl_b (dl_b (dl_b (dl_b dkL_law_292).2).2).2).2).2).1
theorem dL_law_300 : decode cL_law 300 = .ok (.iaload, 1) := dq_i46 (dl_b (dl_b (dl_b (dl_b (dl_b (dl_b (dl_b dkL_law_292).2).2).2).2).2).2).1
theorem dL_law_301 : decode cL_law 301 = .ok (.aload_n 0, 1) := dq_i42 (dl_b (dl_b (dl_b (dl_b (dl_b (dl_b (dl_b (dl_b dkL_law_292).2).2).2).2).2).2).2).1
theorem dL_law_302 : decode cL_law 302 = .ok (.iload_n 3, 1) := dq_i29 (dl_b (dl_b (dl_b (dl_b (dl_b (dl_b (dl_b (dl_b (dl_b dkL_law_292).2).2).2).2).2).2).2).2).1
theorem dL_law_303 : decode cL_law 303 = .ok (.iconst 2, 1) := dq_i5 (dl_b (dl_b (dl_b (dl_b (dl_b (dl_b (dl_b (dl_b (dl_b dkL_law_292).2).2).2).2).2).2).2).2).2
theorem dkL_law_304 : (dq_0 cL_law 304 96 && (dq_0 cL_law 305 46 && (dq_0 cL_law 306 42 && (dq_0 cL_law 307 29 && (dq_0 cL_law 308 6 && (dq_0 cL_law 309 96 && (dq_0 cL_law 310 46 && (dq_2 cL_law 311 182 28 && (dq_0 cL_law 314 87 && (dq_0 cL_law 315 44)))))))))) = true := by decide +kernel
theorem dL_law_304 : decode cL_law 304 = .ok (.iadd, 1) := dq_i96 (dl_b dkL_law_304).1
theorem dL_law_305 : decode cL_law 305 = .ok (.iaload, 1) := dq_i46 (dl_b (dl_b dkL_law_304).2).1
theorem dL_law_306 : decode cL_law 306 = .ok (.aload_n 0, 1) := dq_i42 (dl_b (dl_b (dl_b dkL_law_304).2).2).1
theorem dL_law_307 : decode cL_law 307 = .ok (.iload_n 3, 1) := dq_i29 (dl_b (dl_b (dl_b (dl_b dkL_law_304).2).2).2).1
theorem dL_law_308 : decode cL_law 308 = .ok (.iconst 3, 1) := dq_i6 (dl_b (dl_b (dl_b (dl_b (dl_b dkL_law_304).2).2).2).2).1
theorem dL_law_309 : decode cL_law 309 = .ok (.iadd, 1) := dq_i96 (dl_b (dl_b (dl_b (dl_b (dl_b (dl_b dkL_law_304).2).2).2).2).2).1
theorem dL_law_310 : decode cL_law 310 = .ok (.iaload, 1) := dq_i46 (dl_b (dl_b (dl_b (dl_b (dl_b (dl_b (dl_b dkL_law_304).2).2).2).2).2).2).1
theorem dL_law_311 : decode cL_law 311 = .ok (.invokevirtual 28, 3) := dq_i182 (dl_b (dl_b (dl_b (dl_b (dl_b (dl_b (dl_b (dl_b dkL_law_304).2).2).2).2).2).2).2).1
theorem dL_law_314 : decode cL_law 314 = .ok (.pop, 1) := dq_i87 (dl_b (dl_b (dl_b (dl_b (dl_b (dl_b (dl_b (dl_b (dl_b dkL_law_304).2).2).2).2).2).2).2).2).1
theorem dL_law_315 : decode cL_law 315 = .ok (.aload_n 2, 1) := dq_i44 (dl_b (dl_b (dl_b (dl_b (dl_b (dl_b (dl_b (dl_b (dl_b dkL_law_304).2).2).2).2).2).2).2).2).2
theorem dkL_law_316 : (dq_0 cL_law 316 42 && (dq_0 cL_law 317 29 && (dq_0 cL_law 318 4 && (dq_0 cL_law 319 96 && (dq_0 cL_law 320 46 && (dq_0 cL_law 321 42 && (dq_0 cL_law 322 29 && (dq_0 cL_law 323 5 && (dq_0 cL_law 324 96 && (dq_0 cL_law 325 46)))))))))) = true := by decide +kernel
theorem dL_law_316 : decode cL_law 316 = .ok (.aload_n 0, 1) := dq_i42 (dl_b dkL_law_316).1
theorem dL_law_317 : decode cL_law 317 = .ok (.iload_n 3, 1) := dq_i29 (dl_b (dl_b dkL_law_316).2).1
theorem dL_law_318 : decode cL_law 318 = .ok (.iconst 1, 1) := dq_i4 (dl_b (dl_b (dl_b dkL_law_316).2).2).1
theorem dL_law_319 : decode cL_law 319 = .ok (.iadd, 1) := dq_i96 (dl_b (dl_b (dl_b (dl_b dkL_law_316).2).2).2).1
theorem dL_law_320 : decode cL_law 320 = .ok (.iaload, 1) := dq_i46 (dl_b (dl_b (dl_b (dl_b (dl_b dkL_law_316).2).2).2).2).1
theorem dL_law_321 : decode cL_law 321 = .ok (.aload_n 0, 1) := dq_i42 (dl_b (dl_b (dl_b (dl_b (dl_b (dl_b dkL_law_316).2).2).2).2).2).1
theorem dL_law_322 : decode cL_law 322 = .ok (.iload_n 3, 1) := dq_i29 (dl_b (dl_b (dl_b (dl_b (dl_b (dl_b (dl_b dkL_law_316).2).2).2).2).2).2).1
theorem dL_law_323 : decode cL_law 323 = .ok (.iconst 2, 1) := dq_i5 (dl_b (dl_b (dl_b (dl_b (dl_b (dl_b (dl_b (dl_b dkL_law_316).2).2).2).2).2).2).2).1
theorem dL_law_324 : decode cL_law 324 = .ok (.iadd, 1) := dq_i96 (dl_b (dl_b (dl_b (dl_b (dl_b (dl_b (dl_b (dl_b (dl_b dkL_law_316).2).2).2).2).2).2).2).2).1
theorem dL_law_325 : decode cL_law 325 = .ok (.iaload, 1) := dq_i46 (dl_b (dl_b (dl_b (dl_b (dl_b (dl_b (dl_b (dl_b (dl_b dkL_law_316).2).2).2).2).2).2).2).2).2
theorem dkL_law_326 : (dq_0 cL_law 326 42 && (dq_0 cL_law 327 29 && (dq_0 cL_law 328 6 && (dq_0 cL_law 329 96 && (dq_0 cL_law 330 46 && (dq_2 cL_law 331 182 32 && (dq_0 cL_law 334 87 && (dq_4 cL_law 335 167 961 && (dq_0 cL_law 338 43 && (dq_0 cL_law 339 42)))))))))) = true := by decide +kernel
theorem dL_law_326 : decode cL_law 326 = .ok (.aload_n 0, 1) := dq_i42 (dl_b dkL_law_326).1
theorem dL_law_327 : decode cL_law 327 = .ok (.iload_n 3, 1) := dq_i29 (dl_b (dl_b dkL_law_326).2).1
theorem dL_law_328 : decode cL_law 328 = .ok (.iconst 3, 1) := dq_i6 (dl_b (dl_b (dl_b dkL_law_326).2).2).1
theorem dL_law_329 : decode cL_law 329 = .ok (.iadd, 1) := dq_i96 (dl_b (dl_b (dl_b (dl_b dkL_law_326).2).2).2).1
theorem dL_law_330 : decode cL_law 330 = .ok (.iaload, 1) := dq_i46 (dl_b (dl_b (dl_b (dl_b (dl_b dkL_law_326).2).2).2).2).1
theorem dL_law_331 : decode cL_law 331 = .ok (.invokevirtual 32, 3) := dq_i182 (dl_b (dl_b (dl_b (dl_b (dl_b (dl_b dkL_law_326).2).2).2).2).2).1
theorem dL_law_334 : decode cL_law 334 = .ok (.pop, 1) := dq_i87 (dl_b (dl_b (dl_b (dl_b (dl_b (dl_b (dl_b dkL_law_326).2).2).2).2).2).2).1
theorem dL_law_335 : decode cL_law 335 = .ok (.goto 961, 3) := dq_i167 (dl_b (dl_b (dl_b (dl_b (dl_b (dl_b (dl_b (dl_b dkL_law_326).2).2).2).2).2).2).2).1
theorem dL_law_338 : decode cL_law 338 = .ok (.aload_n 1, 1) := dq_i43 (dl_b (dl_b (dl_b (dl_b (dl_b (dl_b (dl_b (dl_b (dl_b dkL_law_326).2).2).2).2).2).2).2).2).1
theorem dL_law_339 : decode cL_law 339 = .ok (.aload_n 0, 1) := dq_i42 (dl_b (dl_b (dl_b (dl_b (dl_b (dl_b (dl_b (dl_b (dl_b dkL_law_326).2).2).2).2).2).2).2).2).2
theorem dkL_law_340 : (dq_0 cL_law 340 29 && (dq_0 cL_law 341 4 && (dq_0 cL_law 342 96 && (dq_0 cL_law 343 46 && (dq_2 cL_law 344 182 33 && (dq_0 cL_law 347 87 && (dq_0 cL_law 348 44 && (dq_0 cL_law 349 42 && (dq_0 cL_law 350 29 && (dq_0 cL_law 351 4)))))))))) = true := by decide +kernel
theorem dL_law_340 : decode cL_law 340 = .ok (.iload_n 3, 1) := dq_i29 (dl_b dkL_law_340).1
theorem dL_law_341 : decode cL_law 341 = .ok (.iconst 1, 1) := dq_i4 (dl_b (dl_b dkL_law_340).2).1
theorem dL_law_342 : decode cL_law 342 = .ok (.iadd, 1) := dq_i96 (dl_b (dl_b (dl_b dkL_law_340).2).2).1
theorem dL_law_343 : decode cL_law 343 = .ok (.iaload, 1) := dq_i46 (dl_b (dl_b (dl_b (dl_b dkL_law_340).2).2).2).1
theorem dL_law_344 : decode cL_law 344 = .ok (.invokevirtual 33, 3) := dq_i182 (dl_b (dl_b (dl_b (dl_b (dl_b dkL_law_340).2).2).2).2).1
theorem dL_law_347 : decode cL_law 347 = .ok (.pop, 1) := dq_i87 (dl_b (dl_b (dl_b (dl_b (dl_b (dl_b dkL_law_340).2).2).2).2).2).1
theorem dL_law_348 : decode cL_law 348 = .ok (.aload_n 2, 1) := dq_i44 (dl_b (dl_b (dl_b (dl_b (dl_b (dl_b (dl_b dkL_law_340).2).2).2).2).2).2).1
theorem dL_law_349 : decode cL_law 349 = .ok (.aload_n 0, 1) := dq_i42 (dl_b (dl_b (dl_b (dl_b (dl_b (dl_b (dl_b (dl_b dkL_law_340).2).2).2).2).2).2).2).1
theorem dL_law_350 : decode cL_law 350 = .ok (.iload_n 3, 1) := dq_i29 (dl_b (dl_b (dl_b (dl_b (dl_b (dl_b (dl_b (dl_b (dl_b dkL_law_340).2).2).2).2).2).2).2).2).1
theorem dL_law_351 : decode cL_law 351 = .ok (.iconst 1, 1) := dq_i4 (dl_b (dl_b (dl_b (dl_b (dl_b (dl_b (dl_b (dl_b (dl_b dkL_law_340).2).2).2).2).2).2).2).2).2
theorem dkL_law_352 : (dq_0 cL_law 352 96 && (dq_0 cL_law 353 46 && (dq_2 cL_law 354 182 36 && (dq_0 cL_law 357 87 && (dq_4 cL_law 358 167 938 && (dq_0 cL_law 361 43 && (dq_0 cL_law 362 42 && (dq_0 cL_law 363 29 && (dq_0 cL_law 364 4 && (dq_0 cL_law 365 96)))))))))) = true := by decide +kernel
theorem dL_law_352 : decode cL_law 352 = .ok (.iadd, 1) := dq_i96 (dl_b dkL_law_352).1
theorem dL_law_353 : decode cL_law 353 = .ok (.iaload, 1) := dq_i46 (dl_b (dl_b dkL_law_352).2).1
theorem dL_law_354 : decode cL_law 354 = .ok (.invokevirtual 36, 3) := dq_i182 (dl_b (dl_b (dl_b dkL_law_352).2).2).1
theorem dL_law_357 : decode cL_law 357 = .ok (.pop, 1) := dq_i87 (dl_b (dl_b (dl_b (dl_b dkL_law_352).2).2).2).1
theorem dL_law_358 : decode cL_law 358 = .ok (.goto 938, 3) := dq_i167 (dl_b (dl_b (dl_b (dl_b (dl_b dkL_law_352).2).2).2).2).1
theorem dL_law_361 : decode cL_law 361 = .ok (.aload_n 1, 1) := dq_i43 (dl_b (dl_b (dl_b (dl_b (dl_b (dl_b dkL_law_352).2).2).2).2).2).1
theorem dL_law_362 : decode cL_law 362 = .ok (.aload_n 0, 1) := dq_i42 (dl_b (dl_b (dl_b (dl_b (dl_b (dl_b (dl_b dkL_law_352).2).2).2).2).2).2).1
theorem dL_law_363 : decode cL_law 363 = .ok (.iload_n 3, 1) := dq_i29 (dl_b (dl_b (dl_b (dl_b (dl_b (dl_b (dl_b (dl_b dkL_law_352).2).2).2).2).2).2).2).1
theorem dL_law_364 : decode cL_law 364 = .ok (.iconst 1, 1) := dq_i4 (dl_b (dl_b (dl_b (dl_b (dl_b (dl_b (dl_b (dl_b (dl_b dkL_law_352).2).2).2).2).2).2).2).2).1
theorem dL_law_365 : decode cL_law 365 = .ok (.iadd, 1) := dq_i96 (dl_b (dl_b (dl_b (dl_b (dl_b (dl_b (dl_b (dl_b (dl_b dkL_law_352).2).2).2).2).2).2).2).2).2
theorem dkL_law_366 : (dq_0 cL_law 366 46 && (dq_0 cL_law 367 42 && (dq_0 cL_law 368 29 && (dq_0 cL_law 369 5 && (dq_0 cL_law 370 96 && (dq_0 cL_law 371 46 && (dq_2 cL_law 372 182 37 && (dq_0 cL_law 375 87 && (dq_0 cL_law 376 44 && (dq_0 cL_law 377 42)))))))))) = true := by decide +kernel
theorem dL_law_366 : decode cL_law 366 = .ok (.iaload, 1) := dq_i46 (dl_b dkL_law_366).1
theorem dL_law_367 : decode cL_law 367 = .ok (.aload_n 0, 1) := dq_i42 (dl_b (dl_b dkL_law_366).2).1
theorem dL_law_368 : decode cL_law 368 = .ok (.iload_n 3, 1) := dq_i29 (dl_b (dl_b (dl_b dkL_law_366).2).2).1
theorem dL_law_369 : decode cL_law 369 = .ok (.iconst 2, 1) := dq_i5 (dl_b (dl_b (dl_b (dl_b dkL_law_366).2).2).2).1
theorem dL_law_370 : decode cL_law 370 = .ok (.iadd, 1) := dq_i96 (dl_b (dl_b (dl_b (dl_b (dl_b dkL_law_366).2).2).2).2).1
theorem dL_law_371 : decode cL_law 371 = .ok (.iaload, 1) := dq_i46 (dl_b (dl_b (dl_b (dl_b (dl_b (dl_b dkL_law_366).2).2).2).2).2).1
theorem dL_law_372 : decode cL_law 372 = .ok (.invokevirtual 37, 3) := dq_i182 (dl_b (dl_b (dl_b (dl_b (dl_b (dl_b (dl_b dkL_law_366).2).2).2).2).2).2).1
theorem dL_law_375 : decode cL_law 375 = .ok (.pop, 1) := dq_i87 (dl_b (dl_b (dl_b (dl_b (dl_b (dl_b (dl_b (dl_b dkL_law_366).2).2).2).2).2).2).2).1
theorem dL_law_376 : decode cL_law 376 = .ok (.aload_n 2, 1) := dq_i44 (dl_b (dl_b (dl_b (dl_b (dl_b (dl_b (dl_b (dl_b (dl_b dkL_law_366).2).2).2).2).2).2).2).2).1
theorem dL_law_377 : decode cL_law 377 = .ok (.aload_n 0, 1) := dq_i42 (dl_b (dl_b (dl_b (dl_b (dl_b (dl_b (dl_b (dl_b (dl_b dkL_law_366).2).2).2).2).2).2).2).2).2
theorem dkL_law_378 : (dq_0 cL_law 378 29 && (dq_0 cL_law 379 4 && (dq_0 cL_law 380 96 && (dq_0 cL_law 381 46 && (dq_0 cL_law 382 42 && (dq_0 cL_law 383 29 && (dq_0 cL_law 384 5 && (dq_0 cL_law 385 96 && (dq_0 cL_law 386 46 && (dq_2 cL_law 387 182 40)))))))))) = true := by decide +kernel
theorem dL_law_378 : decode cL_law 378 = .ok (.iload_n 3, 1) := dq_i29 (dl_b dkL_law_378).1
theorem dL_law_379 : decode cL_law 379 = .ok (.iconst 1, 1) := dq_i4 (dl_b (dl_b dkL_law_378).2).1
theorem dL_law_380 : decode cL_law 380 = .ok (.iadd, 1) := dq_i96 (dl_b (dl_b (dl_b dkL_law_378).2).2).1
theorem dL_law_381 : decode cL_law 381 = .ok (.iaload, 1) := dq_i46 (dl_b (dl_b (dl_b (dl_b dkL_law_378).2).2).2).1
theorem dL_law_382 : decode cL_law 382 = .ok (.aload_n 0, 1) := dq_i42 (dl_b (dl_b (dl_b (dl_b (dl_b dkL_law_378).2).2).2).2).1
theorem dL_law_383 : decode cL_law 383 = .ok (.iload_n 3, 1) := dq_i29 (dl_b (dl_b (dl_b (dl_b (dl_b (dl_b dkL_law_378).2).2).2).2).2).1
theorem dL_law_384 : decode cL_law 384 = .ok (.iconst 2, 1) := dq_i5 (dl_b (dl_b (dl_b (dl_b (dl_b (dl_b (dl_b dkL_law_378).2).2).2).2).2).2).1
theorem dL_law_385 : decode cL_law 385 = .ok (.iadd, 1) := dq_i96 (dl_b (dl_b (dl_b (dl_b (dl_b (dl_b (dl_b (dl_b dkL_law_378).2).2).2).2).2).2).2).1
theorem dL_law_386 : decode cL_law 386 = .ok (.iaload, 1) := dq_i46 (dl_b (dl_b (dl_b (dl_b (dl_b (dl_b (dl_b (dl_b (dl_b dkL_law_378).2).2).2).2).2).2).2).2).1
theorem dL_law_387 : decode cL_law 387 = .ok (.invokevirtual 40, 3) := dq_i182 (dl_b (dl_b (dl_b (dl_b (dl_b (dl_b (dl_b (dl_b (dl_b dkL_law_378).2).2).2).2).2).2).2).2).2
theorem dkL_law_390 : (dq_0 cL_law 390 87 && (dq_4 cL_law 391 167 905 && (dq_0 cL_law 394 43 && (dq_0 cL_law 395 42 && (dq_0 cL_law 396 29 && (dq_0 cL_law 397 4 && (dq_0 cL_law 398 96 && (dq_0 cL_law 399 46 && (dq_2 cL_law 400 182 41 && (dq_0 cL_law 403 87)))))))))) = true := by decide +kernel
theorem dL_law_390 : decode cL_law 390 = .ok (.pop, 1) := dq_i87 (dl_b dkL_law_390).1
theorem dL_law_391 : decode cL_law 391 = .ok (.goto 905, 3) := dq_i167 (dl_b (dl_b dkL_law_390).2).1
theorem dL_law_394 : decode cL_law 394 = .ok (.aload_n 1, 1) := dq_i43 (dl_b (dl_b (dl_b dkL_law_390).2).2).1
theorem dL_law_395 : decode cL_law 395 = .ok (.aload_n 0, 1) := dq_i42 (dl_b (dl_b (dl_b (dl_b dkL_law_390).2).2).2).1
theorem dL_law_396 : decode cL_law 396 = .ok (.iload_n 3, 1) := dq_i29 (dl_b (dl_b (dl_b (dl_b (dl_b dkL_law_390).2).2).2).2).1
theorem dL_law_397 : decode cL_law 397 = .ok (.iconst 1, 1) := dq_i4 (dl_b (dl_b (dl_b (dl_b (dl_b (dl_b dkL_law_390).2).2).2).2).2).1
theorem dL_law_398 : decode cL_law 398 = .ok (.iadd, 1) := dq_i96 (dl_b (dl_b (dl_b (dl_b (dl_b (dl_b (dl_b dkL_law_390).2).2).2).2).2).2).1
theorem dL_law_399 : decode cL_law 399 = .ok (.iaload, 1) := dq_i46 (dl_b (dl_b (dl_b (dl_b (dl_b (dl_b (dl_b (dl_b dkL_law_390).2).2).2).2).2).2).2).1
theorem dL_law_400 : decode cL_law 400 = .ok (.invokevirtual 41, 3) := dq_i182 (dl_b (dl_b (dl_b (dl_b (dl_b (dl_b (dl_b (dl_b (dl_b dkL_law_390).2).2).2).2).2).2).2).2).1
theorem dL_law_403 : decode cL_law 403 = .ok (.pop, 1) := dq_i87 (dl_b (dl_b (dl_b (dl_b (dl_b (dl_b (dl_b (dl_b (dl_b dkL_law_390).2).2).2).2).2).2).2).2).2
theorem dkL_law_404 : (dq_0 cL_law 404 44 && (dq_0 cL_law 405 42 && (dq_0 cL_law 406 29 && (dq_0 cL_law 407 4 && (dq_0 cL_law 408 96 && (dq_0 cL_law 409 46 && (dq_2 cL_law 410 182 44 && (dq_0 cL_law 413 87 && (dq_4 cL_law 414 167 882 && (dq_0 cL_law 417 43)))))))))) = true := by decide +kernel
theorem dL_law_404 : decode cL_law 404 = .ok (.aload_n 2, 1) := dq_i44 (dl_b dkL_law_404).1
theorem dL_law_405 : decode cL_law 405 = .ok (.aload_n 0, 1) := dq_i42 (dl_b (dl_b dkL_law_404).2).1
theorem dL_law_406 : decode cL_law 406 = .ok (.iload_n 3, 1) := dq_i29 (dl_b (dl_b (dl_b dkL_law_404).2).2).1
theorem dL_law_407 : decode cL_law 407 = .ok (.iconst 1, 1) := dq_i4 (dl_b (dl_b (dl_b (dl_b dkL_law_404).2).2).2).1
theorem dL_law_408 : decode cL_law 408 = .ok (.iadd, 1) := dq_i96 (dl_b (dl_b (dl_b (dl_b (dl_b dkL_law_404).2).2).2).2).1
theorem dL_law_409 : decode cL_law 409 = .ok (.iaload, 1) := dq_i46 (dl_b (dl_b (dl_b (dl_b (dl_b (dl_b dkL_law_404).2).2).2).2).2).1
theorem dL_law_410 : decode cL_law 410 = .ok (.invokevirtual 44, 3) := dq_i182 (dl_b (dl_b (dl_b (dl_b (dl_b (dl_b (dl_b dkL_law_404).2).2).2).2).2).2).1
theorem dL_law_413 : decode cL_law 413 = .ok (.pop, 1) := dq_i87 (dl_b (dl_b (dl_b (dl_b (dl_b (dl_b (dl_b (dl_b dkL_law_404).2).2).2).2).2).2).2).1
theorem dL_law_414 : decode cL_law 414 = .ok (.goto 882, 3) := dq_i167 (dl_b (dl_b (dl_b (dl_b (dl_b (dl_b (dl_b (dl_b (dl_b dkL_law_404).2).2).2).2).2).2).2).2).1
theorem dL_law_417 : decode cL_law 417 = .ok (.aload_n 1, 1) := dq_i43 (dl_b (dl_b (dl_b (dl_b (dl_b (dl_b (dl_b (dl_b (dl_b dkL_law_404).2).2).2).2).2).2).2).2).2
theorem dkL_law_418 : (dq_0 cL_law 418 42 && (dq_0 cL_law 419 29 && (dq_0 cL_law 420 4 && (dq_0 cL_law 421 96 && (dq_0 cL_law 422 46 && (dq_2 cL_law 423 182 45 && (dq_0 cL_law 426 87 && (dq_0 cL_law 427 44 && (dq_0 cL_law 428 42 && (dq_0 cL_law 429 29)))))))))) = true := by decide +kernel
theorem dL_law_418 : decode cL_law 418 = .ok (.aload_n 0, 1) := dq_i42 (dl_b dkL_law_418).1
theorem dL_law_419 : decode cL_law 419 = .ok (.iload_n 3, 1) := dq_i29 (dl_b (dl_b dkL_law_418).2).1
theorem dL_law_420 : decode cL_law 420 = .ok (.iconst 1, 1) := dq_i4 (dl_b (dl_b (dl_b dkL_law_418).2).2).1
theorem dL_law_421 : decode cL_law 421 = .ok (.iadd, 1) := dq_i96 (dl_b (dl_b (dl_b (dl_b dkL_law_418).2).2).2).1
theorem dL_law_422 : decode cL_law 422 = .ok (.iaload, 1) := dq_i46 (dl_b (dl_b (dl_b (dl_b (dl_b dkL_law_418).2).2).2).2).1
theorem dL_law_423 : decode cL_law 423 = .ok (.invokevirtual 45, 3) := dq_i182 (dl_b (dl_b (dl_b (dl_b (dl_b (dl_b dkL_law_418).2).2).2).2).2).1
theorem dL_law_426 : decode cL_law 426 = .ok (.pop, 1) := dq_i87 (dl_b (dl_b (dl_b (dl_b (dl_b (dl_b (dl_b dkL_law_418).2).2).2).2).2).2).1
theorem dL_law_427 : decode cL_law 427 = .ok (.aload_n 2, 1) := dq_i44 (dl_b (dl_b (dl_b (dl_b (dl_b (dl_b (dl_b (dl_b dkL_law_418).2).2).2).2).2).2).2).1
theorem dL_law_428 : decode cL_law 428 = .ok (.aload_n 0, 1) := dq_i42 (dl_b (dl_b (dl_b (dl_b (dl_b (dl_b (dl_b (dl_b (dl_b dkL_law_418).2).2).2).2).2).2).2).2).1
theorem dL_law_429 : decode cL_law 429 = .ok (.iload_n 3, 1) := dq_i29 (dl_b (dl_b (dl_b (dl_b (dl_b (dl_b (dl_b (dl_b (dl_b dkL_law_418).2).2).2).2).2).2).2).2).2
theorem dkL_law_430 : (dq_0 cL_law 430 4 && (dq_0 cL_law 431 96 && (dq_0 cL_law 432 46 && (dq_2 cL_law 433 182 48 && (dq_0 cL_law 436 87 && (dq_4 cL_law 437 167 859 && (dq_0 cL_law 440 43 && (dq_0 cL_law 441 42 && (dq_0 cL_law 442 29 && (dq_0 cL_law 443 4)))))))))) = true := by decide +kernel
theorem dL_law_430 : decode cL_law 430 = .ok (.iconst 1, 1) := dq_i4 (dl_b dkL_law_430).1
theorem dL_law_431 : decode cL_law 431 = .ok (.iadd, 1) := dq_i96 (dl_b (dl_b dkL_law_430).2).1
theorem dL_law_432 : decode cL_law 432 = .ok (.iaload, 1) := dq_i46 (dl_b (dl_b (dl_b dkL_law_430).2).2).1
theorem dL_law_433 : decode cL_law 433 = .ok (.invokevirtual 48, 3) := dq_i182 (dl_b (dl_b (dl_b (dl_b dkL_law_430).2).2).2).1
theorem dL_law_436 : decode cL_law 436 = .ok (.pop, 1) := dq_i87 (dl_b (dl_b (dl_b (dl_b (dl_b dkL_law_430).2).2).2).2).1
theorem dL_law_437 : decode cL_law 437 = .ok (.goto 859, 3) := dq_i167 (dl_b (dl_b (dl_b (dl_b (dl_b (dl_b dkL_law_430).2).2).2).2).2).1
theorem dL_law_440 : decode cL_law 440 = .ok (.aload_n 1, 1) := dq_i43 (dl_b (dl_b (dl_b (dl_b (dl_b (dl_b (dl_b dkL_law_430).2).2).2).2).2).2).1
theorem dL_law_441 : decode cL_law 441 = .ok (.aload_n 0, 1) := dq_i42 (dl_b (dl_b (dl_b (dl_b (dl_b (dl_b (dl_b (dl_b dkL_law_430).2).2).2).2).2).2).2).1
theorem dL_law_442 : decode cL_law 442 = .ok (.iload_n 3, 1) := dq_i29 (dl_b (dl_b (dl_b (dl_b (dl_b (dl_b (dl_b (dl_b (dl_b dkL_law_430).2).2).2).2).2).2).2).2).1
theorem dL_law_443 : decode cL_law 443 = .ok (.iconst 1, 1) := dq_i4 (dl_b (dl_b (dl_b (dl_b (dl_b (dl_b (dl_b (dl_b (dl_b dkL_law_430).2).2).2).2).2).2).2).2).2
theorem dkL_law_444 : (dq_0 cL_law 444 96 && (dq_0 cL_law 445 46 && (dq_0 cL_law 446 42 && (dq_0 cL_law 447 29 && (dq_0 cL_law 448 5 && (dq_0 cL_law 449 96 && (dq_0 cL_law 450 46 && (dq_0 cL_law 451 42 && (dq_0 cL_law 452 29 && (dq_0 cL_law 453 6)))))))))) = true := by decide +kernel
theorem dL_law_444 : decode cL_law 444 = .ok (.iadd, 1) := dq_i96 (dl_b dkL_law_444).1
theorem dL_law_445 : decode cL_law 445 = .ok (.iaload, 1) := dq_i46 (dl_b (dl_b dkL_law_444).2).1
theorem dL_law_446 : decode cL_law 446 = .ok (.aload_n 0, 1) := dq_i42 (dl_b (dl_b (dl_b dkL_law_444).2).2).1
theorem dL_law_447 : decode cL_law 447 = .ok (.iload_n 3, 1) := dq_i29 (dl_b (dl_b (dl_b (dl_b dkL_law_444).2).2).2).1
theorem dL_law_448 : decode cL_law 448 = .ok (.iconst 2, 1) := dq_i5 (dl_b (dl_b (dl_b (dl_b (dl_b dkL_law_444).2).2).2).2).1
theorem dL_law_449 : decode cL_law 449 = .ok (.iadd, 1) := dq_i96 (dl_b (dl_b (dl_b (dl_b (dl_b (dl_b dkL_law_444).2).2).2).2).2).1
theorem dL_law_450 : decode cL_law 450 = .ok (.iaload, 1) := dq_i46 (dl_b (dl_b (dl_b (dl_b (dl_b (dl_b (dl_b dkL_law_444).2).2).2).2).2).2).1
theorem dL_law_451 : decode cL_law 451 = .ok (.aload_n 0, 1) := dq_i42 (dl_b (dl_b (dl_b (dl_b (dl_b (dl_b (dl_b (dl_b dkL_law_444).2).2).2).2).2).2).2).1
theorem dL_law_452 : decode cL_law 452 = .ok (.iload_n 3, 1) := dq_i29 (dl_b (dl_b (dl_b (dl_b (dl_b (dl_b (dl_b (dl_b (dl_b dkL_law_444).2).2).2).2).2).2).2).2).1
theorem dL_law_453 : decode cL_law 453 = .ok (.iconst 3, 1) := dq_i6 (dl_b (dl_b (dl_b (dl_b (dl_b (dl_b (dl_b (dl_b (dl_b dkL_law_444).2).2).2).2).2).2).2).2).2
theorem dkL_law_454 : (dq_0 cL_law 454 96 && (dq_0 cL_law 455 46 && (dq_2 cL_law 456 182 49 && (dq_0 cL_law 459 87 && (dq_0 cL_law 460 44 && (dq_0 cL_law 461 42 && (dq_0 cL_law 462 29 && (dq_0 cL_law 463 4 && (dq_0 cL_law 464 96 && (dq_0 cL_law 465 46)))))))))) = true := by decide +kernel
theorem dL_law_454 : decode cL_law 454 = .ok (.iadd, 1) := dq_i96 (dl_b dkL_law_454).1
theorem dL_law_455 : decode cL_law 455 = .ok (.iaload, 1) := dq_i46 (dl_b (dl_b dkL_law_454).2).1
theorem dL_law_456 : decode cL_law 456 = .ok (.invokevirtual 49, 3) := dq_i182 (dl_b (dl_b (dl_b dkL_law_454).2).2).1
theorem dL_law_459 : decode cL_law 459 = .ok (.pop, 1) := dq_i87 (dl_b (dl_b (dl_b (dl_b dkL_law_454).2).2).2).1
theorem dL_law_460 : decode cL_law 460 = .ok (.aload_n 2, 1) := dq_i44 (dl_b (dl_b (dl_b (dl_b (dl_b dkL_law_454).2).2).2).2).1
theorem dL_law_461 : decode cL_law 461 = .ok (.aload_n 0, 1) := dq_i42 (dl_b (dl_b (dl_b (dl_b (dl_b (dl_b dkL_law_454).2).2).2).2).2).1
theorem dL_law_462 : decode cL_law 462 = .ok (.iload_n 3, 1) := dq_i29 (dl_b (dl_b (dl_b (dl_b (dl_b (dl_b (dl_b dkL_law_454).2).2).2).2).2).2).1
theorem dL_law_463 : decode cL_law 463 = .ok (.iconst 1, 1) := dq_i4 (dl_b (dl_b (dl_b (dl_b (dl_b (dl_b (dl_b (dl_b dkL_law_454).2).2).2).2).2).2).2).1
theorem dL_law_464 : decode cL_law 464 = .ok (.iadd, 1) := dq_i96 (dl_b (dl_b (dl_b (dl_b (dl_b (dl_b (dl_b (dl_b (dl_b dkL_law_454).2).2).2).2).2).2).2).2).1
theorem dL_law_465 : decode cL_law 465 = .ok (.iaload, 1) := dq_i46 (dl_b (dl_b (dl_b (dl_b (dl_b (dl_b (dl_b (dl_b (dl_b dkL_law_454).2).2).2).2).2).2).2).2).2
theorem dkL_law_466 : (dq_0 cL_law 466 42 && (dq_0 cL_law 467 29 && (dq_0 cL_law 468 5 && (dq_0 cL_law 469 96 && (dq_0 cL_law 470 46 && (dq_0 cL_law 471 42 && (dq_0 cL_law 472 29 && (dq_0 cL_law 473 6 && (dq_0 cL_law 474 96 && (dq_0 cL_law 475 46)))))))))) = true := by decide +kernel
theorem dL_law_466 : decode cL_law 466 = .ok (.aload_n 0, 1) := dq_i42 (dl_b dkL_law_466).1
theorem dL_law_467 : decode cL_law 467 = .ok (.iload_n 3, 1) := dq_i29 (dl_b (dl_b dkL_law_466).2).1
theorem dL_law_468 : decode cL_law 468 = .ok (.iconst 2, 1) := dq_i5 (dl_b (dl_b (dl_b dkL_law_466).2).2).1
theorem dL_law_469 : decode cL_law 469 = .ok (.iadd, 1) := dq_i96 (dl_b (dl_b (dl_b (dl_b dkL_law_466).2).2).2).1
theorem dL_law_470 : decode cL_law 470 = .ok (.iaload, 1) := dq_i46 (dl_b (dl_b (dl_b (dl_b (dl_b dkL_law_466).2).2).2).2).1
theorem dL_law_471 : decode cL_law 471 = .ok (.aload_n 0, 1) := dq_i42 (dl_b (dl_b (dl_b (dl_b (dl_b (dl_b dkL_law_466).2).2).2).2).2).1
theorem dL_law_472 : decode cL_law 472 = .ok (.iload_n 3, 1) := dq_i29 (dl_b (dl_b (dl_b (dl_b (dl_b (dl_b (dl_b dkL_law_466).2).2).2).2).2).2).1
theorem dL_law_473 : decode cL_law 473 = .ok (.iconst 3, 1) := dq_i6 (dl_b (dl_b (dl_b (dl_b (dl_b (dl_b (dl_b (dl_b dkL_law_466).2).2).2).2).2).2).2).1
theorem dL_law_474 : decode cL_law 474 = .ok (.iadd, 1) := dq_i96 (dl_b (dl_b (dl_b (dl_b (dl_b (dl_b (dl_b (dl_b (dl_b dkL_law_466).2).2).2).2).2).2).2).2).1
theorem dL_law_475 : decode cL_law 475 = .ok (.iaload, 1) := dq_i46 (dl_b (dl_b (dl_b (dl_b (dl_b (dl_b (dl_b (dl_b (dl_b dkL_law_466).2).2).2).2).2).2).2).2).2
theorem dkL_law_476 : (dq_2 cL_law 476 182 52 && (dq_0 cL_law 479 87 && (dq_4 cL_law 480 167 816 && (dq_0 cL_law 483 43 && (dq_0 cL_law 484 42 && (dq_0 cL_law 485 29 && (dq_0 cL_law 486 4 && (dq_0 cL_law 487 96 && (dq_0 cL_law 488 46 && (dq_0 cL_law 489 42)))))))))) = true := by decide +kernel
theorem dL_law_476 : decode cL_law 476 = .ok (.invokevirtual 52, 3) := dq_i182 (dl_b dkL_law_476).1
theorem dL_law_479 : decode cL_law 479 = .ok (.pop, 1) := dq_i87 (dl_b (dl_b dkL_law_476).2).1
theorem dL_law_480 : decode cL_law 480 = .ok (.goto 816, 3) := dq_i167 (dl_b (dl_b (dl_b dkL_law_476).2).2).1
theorem dL_law_483 : decode cL_law 483 = .ok (.aload_n 1, 1) := dq_i43 (dl_b (dl_b (dl_b (dl_b dkL_law_476).2).2).2).1
theorem dL_law_484 : decode cL_law 484 = .ok (.aload_n 0, 1) := dq_i42 (dl_b (dl_b (dl_b (dl_b (dl_b dkL_law_476).2).2).2).2).1
theorem dL_law_485 : decode cL_law 485 = .ok (.iload_n 3, 1) := dq_i29 (dl_b (dl_b (dl_b (dl_b (dl_b (dl_b dkL_law_476).2).2).2).2).2).1
theorem dL_law_486 : decode cL_law 486 = .ok (.iconst 1, 1) := dq_i4 (dl_b (dl_b (dl_b (dl_b (dl_b (dl_b (dl_b dkL_law_476).2).2).2).2).2).2).1
theorem dL_law_487 : decode cL_law 487 = .ok (.iadd, 1) := dq_i96 (dl_b (dl_b (dl_b (dl_b (dl_b (dl_b (dl_b (dl_b dkL_law_476).2).2).2).2).2).2).2).1
theorem dL_law_488 : decode cL_law 488 = .ok (.iaload, 1) := dq_i46 (dl_b (dl_b (dl_b (dl_b (dl_b (dl_b (dl_b (dl_b (dl_b dkL_law_476).2).2).2).2).2).2).2).2).1
theorem dL_law_489 : decode cL_law 489 = .ok (.aload_n 0, 1) := dq_i42 (dl_b (dl_b (dl_b (dl_b (dl_b (dl_b (dl_b (dl_b (dl_b dkL_law_476).2).2).2).2).2).2).2).2).2
theorem dkL_law_490 : (dq_0 cL_law 490 29 && (dq_0 cL_law 491 5 && (dq_0 cL_law 492 96 && (dq_0 cL_law 493 46 && (dq_2 cL_law 494 182 53 && (dq_0 cL_law 497 87 && (dq_0 cL_law 498 44 && (dq_0 cL_law 499 42 && (dq_0 cL_law 500 29 && (dq_0 cL_law 501 4)))))))))) = true := by decide +kernel
theorem dL_law_490 : decode cL_law 490 = .ok (.iload_n 3, 1) := dq_i29 (dl_b dkL_law_490).1
theorem dL_law_491 : decode cL_law 491 = .ok (.iconst 2, 1) := dq_i5 (dl_b (dl_b dkL_law_490).2).1
theorem dL_law_492 : decode cL_law 492 = .ok (.iadd, 1) := dq_i96 (dl_b (dl_b (dl_b dkL_law_490).2).2).1
theorem dL_law_493 : decode cL_law 493 = .ok (.iaload, 1) := dq_i46 (dl_b (dl_b (dl_b (dl_b dkL_law_490).2).2).2).1
theorem dL_law_494 : decode cL_law 494 = .ok (.invokevirtual 53, 3) := dq_i182 (dl_b (dl_b (dl_b (dl_b (dl_b dkL_law_490).2).2).2).2).1
theorem dL_law_497 : decode cL_law 497 = .ok (.pop, 1) := dq_i87 (dl_b (dl_b (dl_b (dl_b (dl_b (dl_b dkL_law_490).2).2).2).2).2).1
theorem dL_law_498 : decode cL_law 498 = .ok (.aload_n 2, 1) := dq_i44 (dl_b (dl_b (dl_b (dl_b (dl_b (dl_b (dl_b dkL_law_490).2).2).2).2).2).2).1
theorem dL_law_499 : decode cL_law 499 = .ok (.aload_n 0, 1) := dq_i42 (dl_b (dl_b (dl_b (dl_b (dl_b (dl_b (dl_b (dl_b dkL_law_490).2).2).2).2).2).2).2).1
theorem dL_law_500 : decode cL_law 500 = .ok (.iload_n 3, 1) := dq_i29 (dl_b (dl_b (dl_b (dl_b (dl_b (dl_b (dl_b (dl_b (dl_b dkL_law_490).2).2).2).2).2).2).2).2).1
theorem dL_law_501 : decode cL_law 501 = .ok (.iconst 1, 1) := dq_i4 (dl_b (dl_b (dl_b (dl_b (dl_b (dl_b (dl_b (dl_b (dl_b dkL_law_490).2).2).2).2).2).2).2).2).2
theorem dkL_law_502 : (dq_0 cL_law 502 96 && (dq_0 cL_law 503 46 && (dq_0 cL_law 504 42 && (dq_0 cL_law 505 29 && (dq_0 cL_law 506 5 && (dq_0 cL_law 507 96 && (dq_0 cL_law 508 46 && (dq_2 cL_law 509 182 56 && (dq_0 cL_law 512 87 && (dq_4 cL_law 513 167 783)))))))))) = true := by decide +kernel
theorem dL_law_502 : decode cL_law 502 = .ok (.iadd, 1) := dq_i96 (dl_b dkL_law_502).1
theorem dL_law_503 : decode cL_law 503 = .ok (.iaload, 1) := dq_i46 (dl_b (dl_b dkL_law_502).2).1
theorem dL_law_504 : decode cL_law 504 = .ok (.aload_n 0, 1) := dq_i42 (dl_b (dl_b (dl_b dkL_law_502).2).2).1
theorem dL_law_505 : decode cL_law 505 = .ok (.iload_n 3, 1) := dq_i29 (dl_b (dl_b (dl_b (dl_b dkL_law_502).2).2).2).1
theorem dL_law_506 : decode cL_law 506 = .ok (.iconst 2, 1) := dq_i5 (dl_b (dl_b (dl_b (dl_b (dl_b dkL_law_502).2).2).2).2).1
theorem dL_law_507 : decode cL_law 507 = .ok (.iadd, 1) := dq_i96 (dl_b (dl_b (dl_b (dl_b (dl_b (dl_b dkL_law_502).2).2).2).2).2).1
theorem dL_law_508 : decode cL_law 508 = .ok (.iaload, 1) := dq_i46 (dl_b (dl_b (dl_b (dl_b (dl_b (dl_b (dl_b dkL_law_502).2).2).2).2).2).2).1
theorem dL_law_509 : decode cL_law 509 = .ok (.invokevirtual 56, 3) := dq_i182 (dl_b (dl_b (dl_b (dl_b (dl_b (dl_b (dl_b (dl_b dkL_law_502).2).2).2).2).2).2).2).1
theorem dL_law_512 : decode cL_law 512 = .ok (.pop, 1) := dq_i87 (dl_b (dl_b (dl_b (dl_b (dl_b (dl_b (dl_b (dl_b (dl_b dkL_law_502).2).2).2).2).2).2).2).2).1
theorem dL_law_513 : decode cL_law 513 = .ok (.goto 783, 3) := dq_i167 (dl_b (dl_b (dl_b (dl_b (dl_b (dl_b (dl_b (dl_b (dl_b dkL_law_502).2).2).2).2).2).2).2).2).2
theorem dkL_law_516 : (dq_0 cL_law 516 43 && (dq_0 cL_law 517 42 && (dq_0 cL_law 518 29 && (dq_0 cL_law 519 4 && (dq_0 cL_law 520 96 && (dq_0 cL_law 521 46 && (dq_0 cL_law 522 42 && (dq_0 cL_law 523 29 && (dq_0 cL_law 524 5 && (dq_0 cL_law 525 96)))))))))) = true := by decide +kernel
theorem dL_law_516 : decode cL_law 516 = .ok (.aload_n 1, 1) := dq_i43 (dl_b dkL_law_516).1
theorem dL_law_517 : decode cL_law 517 = .ok (.aload_n 0, 1) := dq_i42 (dl_b (dl_b dkL_law_516).2).1
theorem dL_law_518 : decode cL_law 518 = .ok (.iload_n 3, 1) := dq_i29 (dl_b (dl_b (dl_b dkL_law_516).2).2).1
theorem dL_law_519 : decode cL_law 519 = .ok (.iconst 1, 1) := dq_i4 (dl_b (dl_b (dl_b (dl_b dkL_law_516).2).2).2).1
theorem dL_law_520 : decode cL_law 520 = .ok (.iadd, 1) := dq_i96 (dl_b (dl_b (dl_b (dl_b (dl_b dkL_law_516).2).2).2).2).1
theorem dL_law_521 : decode cL_law 521 = .ok (.iaload, 1) := dq_i46 (dl_b (dl_b (dl_b (dl_b (dl_b (dl_b dkL_law_516).2).2).2).2).2).1
theorem dL_law_522 : decode cL_law 522 = .ok (.aload_n 0, 1) := dq_i42 (dl_b (dl_b (dl_b (dl_b (dl_b (dl_b (dl_b dkL_law_516).2).2).2).2).2).2).1
theorem dL_law_523 : decode cL_law 523 = .ok (.iload_n 3, 1) := dq_i29 (dl_b (dl_b (dl_b (dl_b (dl_b (dl_b (dl_b (dl_b dkL_law_516).2).2).2).2).2).2).2).1
theorem dL_law_524 : decode cL_law 524 = .ok (.iconst 2, 1) := dq_i5 (dl_b (dl_b (dl_b (dl_b (dl_b (dl_b (dl_b (dl_b (dl_b dkL_law_516).2).2).2).2).2).2).2).2).1
theorem dL_law_525 : decode cL_law 525 = .ok (.iadd, 1) := dq_i96 (dl_b (dl_b (dl_b (dl_b (dl_b (dl_b (dl_b (dl_b (dl_b dkL_law_516).2).2).2).2).2).2).2).2).2
theorem dkL_law_526 : (dq_0 cL_law 526 46 && (dq_0 cL_law 527 42 && (dq_0 cL_law 528 29 && (dq_0 cL_law 529 6 && (dq_0 cL_law 530 96 && (dq_0 cL_law 531 46 && (dq_0 cL_law 532 42 && (dq_0 cL_law 533 29 && (dq_0 cL_law 534 7 && (dq_0 cL_law 535 96)))))))))) = true := by decide +kernel
theorem dL_law_526 : decode cL_law 526 = .ok (.iaload, 1) := dq_i46 (dl_b dkL_law_526).1
theorem dL_law_527 : decode cL_law 527 = .ok (.aload_n 0, 1) := dq_i42 (dl_b (dl_b dkL_law_526).2).1
theorem dL_law_528 : decode cL_law 528 = .ok (.iload_n 3, 1) := dq_i29 (dl_b (dl_b (dl_b dkL_law_526).2).2).1
theorem dL_law_529 : decode cL_law 529 = .ok (.iconst 3, 1) := dq_i6 (dl_b (dl_b (dl_b (dl_b dkL_law_526).2).2).2).1
theorem dL_law_530 : decode cL_law 530 = .ok (.iadd, 1) := dq_i96 (dl_b (dl_b (dl_b (dl_b (dl_b dkL_law_526).2).2).2).2).1
theorem dL_law_531 : decode cL_law 531 = .ok (.iaload, 1) := dq_i46 (dl_b (dl_b (dl_b (dl_b (dl_b (dl_b dkL_law_526).2).2).2).2).2).1
theorem dL_law_532 : decode cL_law 532 = .ok (.aload_n 0, 1) := dq_i42 (dl_b (dl_b (dl_b (dl_b (dl_b (dl_b (dl_b dkL_law_526).2).2).2).2).2).2).1
theorem dL_law_533 : decode cL_law 533 = .ok (.iload_n 3, 1) := dq_i29 (dl_b (dl_b (dl_b (dl_b (dl_b (dl_b (dl_b (dl_b dkL_law_526).2).2).2).2).2).2).2).1
theorem dL_law_534 : decode cL_law 534 = .ok (.iconst 4, 1) := dq_i7 (dl_b (dl_b (dl_b (dl_b (dl_b (dl_b (dl_b (dl_b (dl_b dkL_law_526).2).2).2).2).2).2).2).2).1
theorem dL_law_535 : decode cL_law 535 = .ok (.iadd, 1) := dq_i96 (dl_b (dl_b (dl_b (dl_b (dl_b (dl_b (dl_b (dl_b (dl_b dkL_law_526).2).2).2).2).2).2).2).2).2
theorem dkL_law_536 : (dq_0 cL_law 536 46 && (dq_2 cL_law 537 182 57 && (dq_0 cL_law 540 87 && (dq_0 cL_law 541 44 && (dq_0 cL_law 542 42 && (dq_0 cL_law 543 29 && (dq_0 cL_law 544 4 && (dq_0 cL_law 545 96 && (dq_0 cL_law 546 46 && (dq_0 cL_law 547 42)))))))))) = true := by decide +kernel
theorem dL_law_536 : decode cL_law 536 = .ok (.iaload, 1) := dq_i46 (dl_b dkL_law_536).1
theorem dL_law_537 : decode cL_law 537 = .ok (.invokevirtual 57, 3) := dq_i182 (dl_b (dl_b dkL_law_536).2).1
theorem dL_law_540 : decode cL_law 540 = .ok (.pop, 1) := dq_i87 (dl_b (dl_b (dl_b dkL_law_536).2).2).1
theorem dL_law_541 : decode cL_law 541 = .ok (.aload_n 2, 1) := dq_i44 (dl_b (dl_b (dl_b (dl_b dkL_law_536).2).2).2).1
theorem dL_law_542 : decode cL_law 542 = .ok (.aload_n 0, 1) := dq_i42 (dl_b (dl_b (dl_b (dl_b (dl_b dkL_law_536).2).2).2).2).1
theorem dL_law_543 : decode cL_law 543 = .ok (.iload_n 3, 1) := dq_i29 (dl_b (dl_b (dl_b (dl_b (dl_b (dl_b dkL_law_536).2).2).2).2).2).1
theorem dL_law_544 : decode cL_law 544 = .ok (.iconst 1, 1) := dq_i4 (dl_b (dl_b (dl_b (dl_b (dl_b (dl_b (dl_b dkL_law_536).2).2).2).2).2).2).1
theorem dL_law_545 : decode cL_law 545 = .ok (.iadd, 1) := dq_i96 (dl_b (dl_b (dl_b (dl_b (dl_b (dl_b (dl_b (dl_b dkL_law_536).2).2).2).2).2).2).2).1
theorem dL_law_546 : decode cL_law 546 = .ok (.iaload, 1) := dq_i46 (dl_b (dl_b (dl_b (dl_b (dl_b (dl_b (dl_b (dl_b (dl_b dkL_law_536).2).2).2).2).2).2).2).2).1
theorem dL_law_547 : decode cL_law 547 = .ok (.aload_n 0, 1) := dq_i42 (dl_b (dl_b (dl_b (dl_b (dl_b (dl_b (dl_b (dl_b (dl_b dkL_law_536).2).2).2).2).2).2).2).2).2
theorem dkL_law_548 : (dq_0 cL_law 548 29 && (dq_0 cL_law 549 5 && (dq_0 cL_law 550 96 && (dq_0 cL_law 551 46 && (dq_0 cL_law 552 42 && (dq_0 cL_law 553 29 && (dq_0 cL_law 554 6 && (dq_0 cL_law 555 96 && (dq_0 cL_law 556 46 && (dq_0 cL_law 557 42)))))))))) = true := by decide +kernel
theorem dL_law_548 : decode cL_law 548 = .ok (.iload_n 3, 1) := dq_i29 (dl_b dkL_law_548).1
theorem dL_law_549 : decode cL_law 549 = .ok (.iconst 2, 1) := dq_i5 (dl_b (dl_b dkL_law_548).2).1
theorem dL_law_550 : decode cL_law 550 = .ok (.iadd, 1) := dq_i96 (dl_b (dl_b (dl_b dkL_law_548).2).2).1
theorem dL_law_551 : decode cL_law 551 = .ok (.iaload, 1) := dq_i46 (dl_b (dl_b (dl_b (dl_b dkL_law_548).2).2).2).1
theorem dL_law_552 : decode cL_law 552 = .ok (.aload_n 0, 1) := dq_i42 (dl_b (dl_b (dl_b (dl_b (dl_b dkL_law_548).2).2).2).2).1
theorem dL_law_553 : decode cL_law 553 = .ok (.iload_n 3, 1) := dq_i29 (dl_b (dl_b (dl_b (dl_b (dl_b (dl_b dkL_law_548).2).2).2).2).2).1
theorem dL_law_554 : decode cL_law 554 = .ok (.iconst 3, 1) := dq_i6 (dl_b (dl_b (dl_b (dl_b (dl_b (dl_b (dl_b dkL_law_548).2).2).2).2).2).2).1
theorem dL_law_555 : decode cL_law 555 = .ok (.iadd, 1) := dq_i96 (dl_b (dl_b (dl_b (dl_b (dl_b (dl_b (dl_b (dl_b dkL_law_548).2).2).2).2).2).2).2).1
theorem dL_law_556 : decode cL_law 556 = .ok (.iaload, 1) := dq_i46 (dl_b (dl_b (dl_b (dl_b (dl_b (dl_b (dl_b (dl_b (dl_b dkL_law_548).2).2).2).2).2).2).2).2).1
theorem dL_law_557 : decode cL_law 557 = .ok (.aload_n 0, 1) := dq_i42 (dl_b (dl_b (dl_b (dl_b (dl_b (dl_b (dl_b (dl_b (dl_b dkL_law_548).2).2).2).2).2).2).2).2).2
theorem dkL_law_558 : (dq_0 cL_law 558 29 && (dq_0 cL_law 559 7 && (dq_0 cL_law 560 96 && (dq_0 cL_law 561 46 && (dq_2 cL_law 562 182 61 && (dq_0 cL_law 565 87 && (dq_4 cL_law 566 167 730 && (dq_0 cL_law 569 43 && (dq_0 cL_law 570 42 && (dq_0 cL_law 571 29)))))))))) = true := by decide +kernel
theorem dL_law_558 : decode cL_law 558 = .ok (.iload_n 3, 1) := dq_i29 (dl_b dkL_law_558).1
theorem dL_law_559 : decode cL_law 559 = .ok (.iconst 4, 1) := dq_i7 (dl_b (dl_b dkL_law_558).2).1
theorem dL_law_560 : decode cL_law 560 = .ok (.iadd, 1) := dq_i96 (dl_b (dl_b (dl_b dkL_law_558).2).2).1
theorem dL_law_561 : decode cL_law 561 = .ok (.iaload, 1) := dq_i46 (dl_b (dl_b (dl_b (dl_b dkL_law_558).2).2).2).1
theorem dL_law_562 : decode cL_law 562 = .ok (.invokevirtual 61, 3) := dq_i182 (dl_b (dl_b (dl_b (dl_b (dl_b dkL_law_558).2).2).2).2).1
theorem dL_law_565 : decode cL_law 565 = .ok (.pop, 1) := dq_i87 (dl_b (dl_b (dl_b (dl_b (dl_b (dl_b dkL_law_558).2).2).2).2).2).1
theorem dL_law_566 : decode cL_law 566 = .ok (.goto 730, 3) := dq_i167 (dl_b (dl_b (dl_b (dl_b (dl_b (dl_b (dl_b dkL_law_558).2).2).2).2).2).2).1
theorem dL_law_569 : decode cL_law 569 = .ok (.aload_n 1, 1) := dq_i43 (dl_b (dl_b (dl_b (dl_b (dl_b (dl_b (dl_b (dl_b dkL_law_558).2).2).2).2).2).2).2).1
theorem dL_law_570 : decode cL_law 570 = .ok (.aload_n 0, 1) := dq_i42 (dl_b (dl_b (dl_b (dl_b (dl_b (dl_b (dl_b (dl_b (dl_b dkL_law_558).2).2).2).2).2).2).2).2).1
theorem dL_law_571 : decode cL_law 571 = .ok (.iload_n 3, 1) := dq_i29 (dl_b (dl_b (dl_b (dl_b (dl_b (dl_b (dl_b (dl_b (dl_b dkL_law_558).2).2).2).2).2).2).2).2).2
theorem dkL_law_572 : (dq_0 cL_law 572 4 && (dq_0 cL_law 573 96 && (dq_0 cL_law 574 46 && (dq_0 cL_law 575 42 && (dq_0 cL_law 576 29 && (dq_0 cL_law 577 5 && (dq_0 cL_law 578 96 && (dq_0 cL_law 579 46 && (dq_0 cL_law 580 42 && (dq_0 cL_law 581 29)))))))))) = true := by decide +kernel
theorem dL_law_572 : decode cL_law 572 = .ok (.iconst 1, 1) := dq_i4 (dl_b dkL_law_572).1
theorem dL_law_573 : decode cL_law 573 = .ok (.iadd, 1) := dq_i96 (dl_b (dl_b dkL_law_572).2).1
theorem dL_law_574 : decode cL_law 574 = .ok (.iaload, 1) := dq_i46 (dl_b (dl_b (dl_b dkL_law_572).2).2).1
theorem dL_law_575 : decode cL_law 575 = .ok (.aload_n 0, 1) := dq_i42 (dl_b (dl_b (dl_b (dl_b dkL_law_572).2).2).2).1
theorem dL_law_576 : decode cL_law 576 = .ok (.iload_n 3, 1) := dq_i29 (dl_b (dl_b (dl_b (dl_b (dl_b dkL_law_572).2).2).2).2).1
theorem dL_law_577 : decode cL_law 577 = .ok (.iconst 2, 1) := dq_i5 (dl_b (dl_b (dl_b (dl_b (dl_b (dl_b dkL_law_572).2).2).2).2).2).1
theorem dL_law_578 : decode cL_law 578 = .ok (.iadd, 1) := dq_i96 (dl_b (dl_b (dl_b (dl_b (dl_b (dl_b (dl_b dkL_law_572).2).2).2).2).2).2).1
theorem dL_law_579 : decode cL_law 579 = .ok (.iaload, 1) := dq_i46 (dl_b (dl_b (dl_b (dl_b (dl_b (dl_b (dl_b (dl_b dkL_law_572).2).2).2).2).2).2).2).1
theorem dL_law_580 : decode cL_law 580 = .ok (.aload_n 0, 1) := dq_i42 (dl_b (dl_b (dl_b (dl_b (dl_b (dl_b (dl_b (dl_b (dl_b dkL_law_572).2).2).2).2).2).2).2).2).1
theorem dL_law_581 : decode cL_law 581 = .ok (.iload_n 3, 1) := dq_i29 (dl_b (dl_b (dl_b (dl_b (dl_b (dl_b (dl_b (dl_b (dl_b dkL_law_572).2).2).2).2).2).2).2).2).2
theorem dkL_law_582 : (dq_0 cL_law 582 6 && (dq_0 cL_law 583 96 && (dq_0 cL_law 584 46 && (dq_0 cL_law 585 42 && (dq_0 cL_law 586 29 && (dq_0 cL_law 587 7 && (dq_0 cL_law 588 96 && (dq_0 cL_law 589 46 && (dq_2 cL_law 590 182 62 && (dq_0 cL_law 593 87)))))))))) = true := by decide +kernel
theorem dL_law_582 : decode cL_law 582 = .ok (.iconst 3, 1) := dq_i6 (dl_b dkL_law_582).1
theorem dL_law_583 : decode cL_law 583 = .ok (.iadd, 1) := dq_i96 (dl_b (dl_b dkL_law_582).2).1
theorem dL_law_584 : decode cL_law 584 = .ok (.iaload, 1) := dq_i46 (dl_b (dl_b (dl_b dkL_law_582).2).2).1
theorem dL_law_585 : decode cL_law 585 = .ok (.aload_n 0, 1) := dq_i42 (dl_b (dl_b (dl_b (dl_b dkL_law_582).2).2).2).1
theorem dL_law_586 : decode cL_law 586 = .ok (.iload_n 3, 1) := dq_i29 (dl_b (dl_b (dl_b (dl_b (dl_b dkL_law_582).2).2).2).2).1
theorem dL_law_587 : decode cL_law 587 = .ok (.iconst 4, 1) := dq_i7 (dl_b (dl_b (dl_b (dl_b (dl_b (dl_b dkL_law_582).2).2).2).2).2).1
theorem dL_law_588 : decode cL_law 588 = .ok (.iadd, 1) := dq_i96 (dl_b (dl_b (dl_b (dl_b (dl_b (dl_b (dl_b dkL_law_582).2).2).2).2).2).2).1
theorem dL_law_589 : decode cL_law 589 = .ok (.iaload, 1) := dq_i46 (dl_b (dl_b (dl_b (dl_b (dl_b (dl_b (dl_b (dl_b dkL_law_582).2).2).2).2).2).2).2).1
theorem dL_law_590 : decode cL_law 590 = .ok (.invokevirtual 62, 3) := dq_i182 (dl_b (dl_b (dl_b (dl_b (dl_b (dl_b (dl_b (dl_b (dl_b dkL_law_582).2).2).2).2).2).2).2).2).1
theorem dL_law_593 : decode cL_law 593 = .ok (.pop, 1) := dq_i87 (dl_b (dl_b (dl_b (dl_b (dl_b (dl_b (dl_b (dl_b (dl_b dkL_law_582).2).2).2).2).2).2).2).2).2
theorem dkL_law_594 : (dq_0 cL_law 594 44 && (dq_0 cL_law 595 42 && (dq_0 cL_law 596 29 && (dq_0 cL_law 597 4 && (dq_0 cL_law 598 96 && (dq_0 cL_law 599 46 && (dq_0 cL_law 600 42 && (dq_0 cL_law 601 29 && (dq_0 cL_law 602 5 && (dq_0 cL_law 603 96)))))))))) = true := by decide +kernel
theorem dL_law_594 : decode cL_law 594 = .ok (.aload_n 2, 1) := dq_i44 (dl_b dkL_law_594).1
theorem dL_law_595 : decode cL_law 595 = .ok (.aload_n 0, 1) := dq_i42 (dl_b (dl_b dkL_law_594).2).1
theorem dL_law_596 : decode cL_law 596 = .ok (.iload_n 3, 1) := dq_i29 (dl_b (dl_b (dl_b dkL_law_594).2).2).1
theorem dL_law_597 : decode cL_law 597 = .ok (.iconst 1, 1) := dq_i4 (dl_b (dl_b (dl_b (dl_b dkL_law_594).2).2).2).1
theorem dL_law_598 : decode cL_law 598 = .ok (.iadd, 1) := dq_i96 (dl_b (dl_b (dl_b (dl_b (dl_b dkL_law_594).2).2).2).2).1
theorem dL_law_599 : decode cL_law 599 = .ok (.iaload, 1) := dq_i46 (dl_b (dl_b (dl_b (dl_b (dl_b (dl_b dkL_law_594).2).2).2).2).2).1
theorem dL_law_600 : decode cL_law 600 = .ok (.aload_n 0, 1) := dq_i42 (dl_b (dl_b (dl_b (dl_b (dl_b (dl_b (dl_b dkL_law_594).2).2).2).2).2).2).1
theorem dL_law_601 : decode cL_law 601 = .ok (.iload_n 3, 1) := dq_i29 (dl_b (dl_b (dl_b (dl_b (dl_b (dl_b (dl_b (dl_b dkL_law_594).2).2).2).2).2).2).2).1
theorem dL_law_602 : decode cL_law 602 = .ok (.iconst 2, 1) := dq_i5 (dl_b (dl_b (dl_b (dl_b (dl_b (dl_b (dl_b (dl_b (dl_b dkL_law_594).2).2).2).2).2).2).2).2).1
theorem dL_law_603 : decode cL_law 603 = .ok (.iadd, 1) := dq_i96 (dl_b (dl_b (dl_b (dl_b (dl_b (dl_b (dl_b (dl_b (dl_b dkL_law_594).2).2).2).2).2).2).2).2).2
theorem dkL_law_604 : (dq_0 cL_law 604 46 && (dq_0 cL_law 605 42 && (dq_0 cL_law 606 29 && (dq_0 cL_law 607 6 && (dq_0 cL_law 608 96 && (dq_0 cL_law 609 46 && (dq_0 cL_law 610 42 && (dq_0 cL_law 611 29 && (dq_0 cL_law 612 7 && (dq_0 cL_law 613 96)))))))))) = true := by decide +kernel
theorem dL_law_604 : decode cL_law 604 = .ok (.iaload, 1) := dq_i46 (dl_b dkL_law_604).1
theorem dL_law_605 : decode cL_law 605 = .ok (.aload_n 0, 1) := dq_i42 (dl_b (dl_b dkL_law_604).2).1
theorem dL_law_606 : decode cL_law 606 = .ok (.iload_n 3, 1) := dq_i29 (dl_b (dl_b (dl_b dkL_law_604).2).2).1
theorem dL_law_607 : decode cL_law 607 = .ok (.iconst 3, 1) := dq_i6 (dl_b (dl_b (dl_b (dl_b dkL_law_604).2).2).2).1
theorem dL_law_608 : decode cL_law 608 = .ok (.iadd, 1) := dq_i96 (dl_b (dl_b (dl_b (dl_b (dl_b dkL_law_604).2).2).2).2).1
theorem dL_law_609 : decode cL_law 609 = .ok (.iaload, 1) := dq_i46 (dl_b (dl_b (dl_b (dl_b (dl_b (dl_b dkL_law_604).2).2).2).2).2).1
theorem dL_law_610 : decode cL_law 610 = .ok (.aload_n 0, 1) := dq_i42 (dl_b (dl_b (dl_b (dl_b (dl_b (dl_b (dl_b dkL_law_604).2).2).2).2).2).2).1
theorem dL_law_611 : decode cL_law 611 = .ok (.iload_n 3, 1) := dq_i29 (dl_b (dl_b (dl_b (dl_b (dl_b (dl_b (dl_b (dl_b dkL_law_604).2).2).2).2).2).2).2).1
theorem dL_law_612 : decode cL_law 612 = .ok (.iconst 4, 1) := dq_i7 (dl_b (dl_b (dl_b (dl_b (dl_b (dl_b (dl_b (dl_b (dl_b dkL_law_604).2).2).2).2).2).2).2).2).1
theorem dL_law_613 : decode cL_law 613 = .ok (.iadd, 1) := dq_i96 (dl_b (dl_b (dl_b (dl_b (dl_b (dl_b (dl_b (dl_b (dl_b dkL_law_604).2).2).2).2).2).2).2).2).2
theorem dkL_law_614 : (dq_0 cL_law 614 46 && (dq_2 cL_law 615 182 65 && (dq_0 cL_law 618 87 && (dq_4 cL_law 619 167 677 && (dq_0 cL_law 622 43 && (dq_0 cL_law 623 42 && (dq_0 cL_law 624 29 && (dq_0 cL_law 625 4 && (dq_0 cL_law 626 96 && (dq_0 cL_law 627 46)))))))))) = true := by decide +kernel
theorem dL_law_614 : decode cL_law 614 = .ok (.iaload, 1) := dq_i46 (dl_b dkL_law_614).1
theorem dL_law_615 : decode cL_law 615 = .ok (.invokevirtual 65, 3) := dq_i182 (dl_b (dl_b dkL_law_614).2).1
theorem dL_law_618 : decode cL_law 618 = .ok (.pop, 1) := dq_i87 (dl_b (dl_b (dl_b dkL_law_614).2).2).1
theorem dL_law_619 : decode cL_law 619 = .ok (.goto 677, 3) := dq_i167 (dl_b (dl_b (dl_b (dl_b dkL_law_614).2).2).2).1
theorem dL_law_622 : decode cL_law 622 = .ok (.aload_n 1, 1) := dq_i43 (dl_b (dl_b (dl_b (dl_b (dl_b dkL_law_614).2).2).2).2).1
theorem dL_law_623 : decode cL_law 623 = .ok (.aload_n 0, 1) := dq_i42 (dl_b (dl_b (dl_b (dl_b (dl_b (dl_b dkL_law_614).2).2).2).2).2).1
theorem dL_law_624 : decode cL_law 624 = .ok (.iload_n 3, 1) := dq_i29 (dl_b (dl_b (dl_b (dl_b (dl_b (dl_b (dl_b dkL_law_614).2).2).2).2).2).2).1
theorem dL_law_625 : decode cL_law 625 = .ok (.iconst 1, 1) := dq_i4 (dl_b (dl_b (dl_b (dl_b (dl_b (dl_b (dl_b (dl_b dkL_law_614).2).2).2).2).2).2).2).1
theorem dL_law_626 : decode cL_law 626 = .ok (.iadd, 1) := dq_i96 (dl_b (dl_b (dl_b (dl_b (dl_b (dl_b (dl_b (dl_b (dl_b dkL_law_614).2).2).2).2).2).2).2).2).1
theorem dL_law_627 : decode cL_law 627 = .ok (.iaload, 1) := dq_i46 (dl_b (dl_b (dl_b (dl_b (dl_b (dl_b (dl_b (dl_b (dl_b dkL_law_614).2).2).2).2).2).2).2).2).2
theorem dkL_law_628 : (dq_0 cL_law 628 42 && (dq_0 cL_law 629 29 && (dq_0 cL_law 630 5 && (dq_0 cL_law 631 96 && (dq_0 cL_law 632 46 && (dq_0 cL_law 633 42 && (dq_0 cL_law 634 29 && (dq_0 cL_law 635 6 && (dq_0 cL_law 636 96 && (dq_0 cL_law 637 46)))))))))) = true := by decide +kernel
theorem dL_law_628 : decode cL_law 628 = .ok (.aload_n 0, 1) := dq_i42 (dl_b dkL_law_628).1
theorem dL_law_629 : decode cL_law 629 = .ok (.iload_n 3, 1) := dq_i29 (dl_b (dl_b dkL_law_628).2).1
theorem dL_law_630 : decode cL_law 630 = .ok (.iconst 2, 1) := dq_i5 (dl_b (dl_b (dl_b dkL_law_628).2).2).1
theorem dL_law_631 : decode cL_law 631 = .ok (.iadd, 1) := dq_i96 (dl_b (dl_b (dl_b (dl_b dkL_law_628).2).2).2).1
theorem dL_law_632 : decode cL_law 632 = .ok (.iaload, 1) := dq_i46 (dl_b (dl_b (dl_b (dl_b (dl_b dkL_law_628).2).2).2).2).1
theorem dL_law_633 : decode cL_law 633 = .ok (.aload_n 0, 1) := dq_i42 (dl_b (dl_b (dl_b (dl_b (dl_b (dl_b dkL_law_628).2).2).2).2).2).1
theorem dL_law_634 : decode cL_law 634 = .ok (.iload_n 3, 1) := dq_i29 (dl_b (dl_b (dl_b (dl_b (dl_b (dl_b (dl_b dkL_law_628).2).2).2).2).2).2).1
theorem dL_law_635 : decode cL_law 635 = .ok (.iconst 3, 1) := dq_i6 (dl_b (dl_b (dl_b (dl_b (dl_b (dl_b (dl_b (dl_b dkL_law_628).2).2).2).2).2).2).2).1
theorem dL_law_636 : decode cL_law 636 = .ok (.iadd, 1) := dq_i96 (dl_b (dl_b (dl_b (dl_b (dl_b (dl_b (dl_b (dl_b (dl_b dkL_law_628).2).2).2).2).2).2).2).2).1
theorem dL_law_637 : decode cL_law 637 = .ok (.iaload, 1) := dq_i46 (dl_b (dl_b (dl_b (dl_b (dl_b (dl_b (dl_b (dl_b (dl_b dkL_law_628).2).2).2).2).2).2).2).2).2
theorem dkL_law_638 : (dq_0 cL_law 638 42 && (dq_0 cL_law 639 29 && (dq_0 cL_law 640 7 && (dq_0 cL_law 641 96 && (dq_0 cL_law 642 46 && (dq_4 cL_law 643 153 7 && (dq_0 cL_law 646 4 && (dq_4 cL_law 647 167 4 && (dq_0 cL_law 650 3 && (dq_2 cL_law 651 182 66)))))))))) = true := by decide +kernel
theorem dL_law_638 : decode cL_law 638 = .ok (.aload_n 0, 1) := dq_i42 (dl_b dkL_law_638).1
theorem dL_law_639 : decode cL_law 639 = .ok (.iload_n 3, 1) := dq_i29 (dl_b (dl_b dkL_law_638).2).1
theorem dL_law_640 : decode cL_law 640 = .ok (.iconst 4, 1) := dq_i7 (dl_b (dl_b (dl_b dkL_law_638).2).2).1
theorem dL_law_641 : decode cL_law 641 = .ok (.iadd, 1) := dq_i96 (dl_b (dl_b (dl_b (dl_b dkL_law_638).2).2).2).1
theorem dL_law_642 : decode cL_law 642 = .ok (.iaload, 1) := dq_i46 (dl_b (dl_b (dl_b (dl_b (dl_b dkL_law_638).2).2).2).2).1
theorem dL_law_643 : decode cL_law 643 = .ok (.ifCond .eq 7, 3) := dq_i153 (dl_b (dl_b (dl_b (dl_b (dl_b (dl_b dkL_law_638).2).2).2).2).2).1
theorem dL_law_646 : decode cL_law 646 = .ok (.iconst 1, 1) := dq_i4 (dl_b (dl_b (dl_b (dl_b (dl_b (dl_b (dl_b dkL_law_638).2).2).2).2).2).2).1
theorem dL_law_647 : decode cL_law 647 = .ok (.goto 4, 3) := dq_i167 (dl_b (dl_b (dl_b (dl_b (dl_b (dl_b (dl_b (dl_b dkL_law_638).2).2).2).2).2).2).2).1
theorem dL_law_650 : decode cL_law 650 = .ok (.iconst 0, 1) := dq_i3 (dl_b (dl_b (dl_b (dl_b (dl_b (dl_b (dl_b (dl_b (dl_b dkL_law_638).2).2).2).2).2).2).2).2).1
theorem dL_law_651 : decode cL_law 651 = .ok (.invokevirtual 66, 3) := dq_i182 (dl_b (dl_b (dl_b (dl_b (dl_b (dl_b (dl_b (dl_b (dl_b dkL_law_638).2).2).2).2).2).2).2).2).2
theorem dkL_law_654 : (dq_0 cL_law 654 87 && (dq_0 cL_law 655 44 && (dq_0 cL_law 656 42 && (dq_0 cL_law 657 29 && (dq_0 cL_law 658 4 && (dq_0 cL_law 659 96 && (dq_0 cL_law 660 46 && (dq_0 cL_law 661 42 && (dq_0 cL_law 662 29 && (dq_0 cL_law 663 5)))))))))) = true := by decide +kernel
theorem dL_law_654 : decode cL_law 654 = .ok (.pop, 1) := dq_i87 (dl_b dkL_law_654).1
theorem dL_law_655 : decode cL_law 655 = .ok (.aload_n 2, 1) := dq_i44 (dl_b (dl_b dkL_law_654).2).1
theorem dL_law_656 : decode cL_law 656 = .ok (.aload_n 0, 1) := dq_i42 (dl_b (dl_b (dl_b dkL_law_654).2).2).1
theorem dL_law_657 : decode cL_law 657 = .ok (.iload_n 3, 1) := dq_i29 (dl_b (dl_b (dl_b (dl_b dkL_law_654).2).2).2).1
theorem dL_law_658 : decode cL_law 658 = .ok (.iconst 1, 1) := dq_i4 (dl_b (dl_b (dl_b (dl_b (dl_b dkL_law_654).2).2).2).2).1
theorem dL_law_659 : decode cL_law 659 = .ok (.iadd, 1) := dq_i96 (dl_b (dl_b (dl_b (dl_b (dl_b (dl_b dkL_law_654).2).2).2).2).2).1
theorem dL_law_660 : decode cL_law 660 = .ok (.iaload, 1) := dq_i46 (dl_b (dl_b (dl_b (dl_b (dl_b (dl_b (dl_b dkL_law_654).2).2).2).2).2).2).1
theorem dL_law_661 : decode cL_law 661 = .ok (.aload_n 0, 1) := dq_i42 (dl_b (dl_b (dl_b (dl_b (dl_b (dl_b (dl_b (dl_b dkL_law_654).2).2).2).2).2).2).2).1
theorem dL_law_662 : decode cL_law 662 = .ok (.iload_n 3, 1) := dq_i29 (dl_b (dl_b (dl_b (dl_b (dl_b (dl_b (dl_b (dl_b (dl_b dkL_law_654).2).2).2).2).2).2).2).2).1
theorem dL_law_663 : decode cL_law 663 = .ok (.iconst 2, 1) := dq_i5 (dl_b (dl_b (dl_b (dl_b (dl_b (dl_b (dl_b (dl_b (dl_b dkL_law_654).2).2).2).2).2).2).2).2).2
theorem dkL_law_664 : (dq_0 cL_law 664 96 && (dq_0 cL_law 665 46 && (dq_0 cL_law 666 42 && (dq_0 cL_law 667 29 && (dq_0 cL_law 668 6 && (dq_0 cL_law 669 96 && (dq_0 cL_law 670 46 && (dq_0 cL_law 671 42 && (dq_0 cL_law 672 29 && (dq_0 cL_law 673 7)))))))))) = true := by decide +kernel
theorem dL_law_664 : decode cL_law 664 = .ok (.iadd, 1) := dq_i96 (dl_b dkL_law_664).1
theorem dL_law_665 : decode cL_law 665 = .ok (.iaload, 1) := dq_i46 (dl_b (dl_b dkL_law_664).2).1
theorem dL_law_666 : decode cL_law 666 = .ok (.aload_n 0, 1) := dq_i42 (dl_b (dl_b (dl_b dkL_law_664).2).2).1
theorem dL_law_667 : decode cL_law 667 = .ok (.iload_n 3, 1) := dq_i29 (dl_b (dl_b (dl_b (dl_b dkL_law_664).2).2).2).1
theorem dL_law_668 : decode cL_law 668 = .ok (.iconst 3, 1) := dq_i6 (dl_b (dl_b (dl_b (dl_b (dl_b dkL_law_664).2).2).2).2).1
theorem dL_law_669 : decode cL_law 669 = .ok (.iadd, 1) := dq_i96 (dl_b (dl_b (dl_b (dl_b (dl_b (dl_b dkL_law_664).2).2).2).2).2).1
theorem dL_law_670 : decode cL_law 670 = .ok (.iaload, 1) := dq_i46 (dl_b (dl_b (dl_b (dl_b (dl_b (dl_b (dl_b dkL_law_664).2).2).2).2).2).2).1
theorem dL_law_671 : decode cL_law 671 = .ok (.aload_n 0, 1) := dq_i42 (dl_b (dl_b (dl_b (dl_b (dl_b (dl_b (dl_b (dl_b dkL_law_664).2).2).2).2).2).2).2).1
theorem dL_law_672 : decode cL_law 672 = .ok (.iload_n 3, 1) := dq_i29 (dl_b (dl_b (dl_b (dl_b (dl_b (dl_b (dl_b (dl_b (dl_b dkL_law_664).2).2).2).2).2).2).2).2).1
theorem dL_law_673 : decode cL_law 673 = .ok (.iconst 4, 1) := dq_i7 (dl_b (dl_b (dl_b (dl_b (dl_b (dl_b (dl_b (dl_b (dl_b dkL_law_664).2).2).2).2).2).2).2).2).2
theorem dkL_law_674 : (dq_0 cL_law 674 96 && (dq_0 cL_law 675 46 && (dq_4 cL_law 676 153 7 && (dq_0 cL_law 679 4 && (dq_4 cL_law 680 167 4 && (dq_0 cL_law 683 3 && (dq_2 cL_law 684 182 70 && (dq_0 cL_law 687 87 && (dq_4 cL_law 688 167 608 && (dq_0 cL_law 691 43)))))))))) = true := by decide +kernel
theorem dL_law_674 : decode cL_law 674 = .ok (.iadd, 1) := dq_i96 (dl_b dkL_law_674).1
theorem dL_law_675 : decode cL_law 675 = .ok (.iaload, 1) := dq_i46 (dl_b (dl_b dkL_law_674).2).1
theorem dL_law_676 : decode cL_law 676 = .ok (.ifCond .eq 7, 3) := dq_i153 (dl_b (dl_b (dl_b dkL_law_674).2).2).1
theorem dL_law_679 : decode cL_law 679 = .ok (.iconst 1, 1) := dq_i4 (dl_b (dl_b (dl_b (dl_b dkL_law_674).2).2).2).1
theorem dL_law_680 : decode cL_law 680 = .ok (.goto 4, 3) := dq_i167 (dl_b (dl_b (dl_b (dl_b (dl_b dkL_law_674).2).2).2).2).1
theorem dL_law_683 : decode cL_law 683 = .ok (.iconst 0, 1) := dq_i3 (dl_b (dl_b (dl_b (dl_b (dl_b (dl_b dkL_law_674).2).2).2).2).2).1
theorem dL_law_684 : decode cL_law 684 = .ok (.invokevirtual 70, 3) := dq_i182 (dl_b (dl_b (dl_b (dl_b (dl_b (dl_b (dl_b dkL_law_674).2).2).2).2).2).2).1
theorem dL_law_687 : decode cL_law 687 = .ok (.pop, 1) := dq_i87 (dl_b (dl_b (dl_b (dl_b (dl_b (dl_b (dl_b (dl_b dkL_law_674).2).2).2).2).2).2).2).1
theorem dL_law_688 : decode cL_law 688 = .ok (.goto 608, 3) := dq_i167 (dl_b (dl_b (dl_b (dl_b (dl_b (dl_b (dl_b (dl_b (dl_b dkL_law_674).2).2).2).2).2).2).2).2).1
theorem dL_law_691 : decode cL_law 691 = .ok (.aload_n 1, 1) := dq_i43 (dl_b (dl_b (dl_b (dl_b (dl_b (dl_b (dl_b (dl_b (dl_b dkL_law_674).2).2).2).2).2).2).2).2).2
theorem dkL_law_692 : (dq_0 cL_law 692 42 && (dq_0 cL_law 693 29 && (dq_0 cL_law 694 4 && (dq_0 cL_law 695 96 && (dq_0 cL_law 696 46 && (dq_0 cL_law 697 42 && (dq_0 cL_law 698 29 && (dq_0 cL_law 699 5 && (dq_0 cL_law 700 96 && (dq_0 cL_law 701 46)))))))))) = true := by decide +kernel
theorem dL_law_692 : decode cL_law 692 = .ok (.aload_n 0, 1) := dq_i42 (dl_b dkL_law_692).1
theorem dL_law_693 : decode cL_law 693 = .ok (.iload_n 3, 1) := dq_i29 (dl_b (dl_b dkL_law_692).2).1
theorem dL_law_694 : decode cL_law 694 = .ok (.iconst 1, 1) := dq_i4 (dl_b (dl_b (dl_b dkL_law_692).2).2).1
theorem dL_law_695 : decode cL_law 695 = .ok (.iadd, 1) := dq_i96 (dl_b (dl_b (dl_b (dl_b dkL_law_692).2).2).2).1
theorem dL_law_696 : decode cL_law 696 = .ok (.iaload, 1) := dq_i46 (dl_b (dl_b (dl_b (dl_b (dl_b dkL_law_692).2).2).2).2).1
theorem dL_law_697 : decode cL_law 697 = .ok (.aload_n 0, 1) := dq_i42 (dl_b (dl_b (dl_b (dl_b (dl_b (dl_b dkL_law_692).2).2).2).2).2).1
theorem dL_law_698 : decode cL_law 698 = .ok (.iload_n 3, 1) := dq_i29 (dl_b (dl_b (dl_b (dl_b (dl_b (dl_b (dl_b dkL_law_692).2).2).2).2).2).2).1
theorem dL_law_699 : decode cL_law 699 = .ok (.iconst 2, 1) := dq_i5 (dl_b (dl_b (dl_b (dl_b (dl_b (dl_b (dl_b (dl_b dkL_law_692).2).2).2).2).2).2).2).1
theorem dL_law_700 : decode cL_law 700 = .ok (.iadd, 1) := dq_i96 (dl_b (dl_b (dl_b (dl_b (dl_b (dl_b (dl_b (dl_b (dl_b dkL_law_692).2).2).2).2).2).2).2).2).1
theorem dL_law_701 : decode cL_law 701 = .ok (.iaload, 1) := dq_i46 (dl_b (dl_b (dl_b (dl_b (dl_b (dl_b (dl_b (dl_b (dl_b dkL_law_692).2).2).2).2).2).2).2).2).2
theorem dkL_law_702 : (dq_0 cL_law 702 42 && (dq_0 cL_law 703 29 && (dq_0 cL_law 704 6 && (dq_0 cL_law 705 96 && (dq_0 cL_law 706 46 && (dq_0 cL_law 707 42 && (dq_0 cL_law 708 29 && (dq_0 cL_law 709 7 && (dq_0 cL_law 710 96 && (dq_0 cL_law 711 46)))))))))) = true := by decide +kernel
theorem dL_law_702 : decode cL_law 702 = .ok (.aload_n 0, 1) := dq_i42 (dl_b dkL_law_702).1
theorem dL_law_703 : decode cL_law 703 = .ok (.iload_n 3, 1) := dq_i29 (dl_b (dl_b dkL_law_702).2).1
theorem dL_law_704 : decode cL_law 704 = .ok (.iconst 3, 1) := dq_i6 (dl_b (dl_b (dl_b dkL_law_702).2).2).1
theorem dL_law_705 : decode cL_law 705 = .ok (.iadd, 1) := dq_i96 (dl_b (dl_b (dl_b (dl_b dkL_law_702).2).2).2).1
theorem dL_law_706 : decode cL_law 706 = .ok (.iaload, 1) := dq_i46 (dl_b (dl_b (dl_b (dl_b (dl_b dkL_law_702).2).2).2).2).1
theorem dL_law_707 : decode cL_law 707 = .ok (.aload_n 0, 1) := dq_i42 (dl_b (dl_b (dl_b (dl_b (dl_b (dl_b dkL_law_702).2).2).2).2).2).1
theorem dL_law_708 : decode cL_law 708 = .ok (.iload_n 3, 1) := dq_i29 (dl_b (dl_b (dl_b (dl_b (dl_b (dl_b (dl_b dkL_law_702).2).2).2).2).2).2).1
theorem dL_law_709 : decode cL_law 709 = .ok (.iconst 4, 1) := dq_i7 (dl_b (dl_b (dl_b (dl_b (dl_b (dl_b (dl_b (dl_b dkL_law_702).2).2).2).2).2).2).2).1
theorem dL_law_710 : decode cL_law 710 = .ok (.iadd, 1) := dq_i96 (dl_b (dl_b (dl_b (dl_b (dl_b (dl_b (dl_b (dl_b (dl_b dkL_law_702).2).2).2).2).2).2).2).2).1
theorem dL_law_711 : decode cL_law 711 = .ok (.iaload, 1) := dq_i46 (dl_b (dl_b (dl_b (dl_b (dl_b (dl_b (dl_b (dl_b (dl_b dkL_law_702).2).2).2).2).2).2).2).2).2
theorem dkL_law_712 : (dq_4 cL_law 712 153 7 && (dq_0 cL_law 715 4 && (dq_4 cL_law 716 167 4 && (dq_0 cL_law 719 3 && (dq_2 cL_law 720 182 71 && (dq_0 cL_law 723 87 && (dq_0 cL_law 724 44 && (dq_0 cL_law 725 42 && (dq_0 cL_law 726 29 && (dq_0 cL_law 727 4)))))))))) = true := by decide +kernel
theorem dL_law_712 : decode cL_law 712 = .ok (.ifCond .eq 7, 3) := dq_i153 (dl_b dkL_law_712).1
theorem dL_law_715 : decode cL_law 715 = .ok (.iconst 1, 1) := dq_i4 (dl_b (dl_b dkL_law_712).2).1
theorem dL_law_716 : decode cL_law 716 = .ok (.goto 4, 3) := dq_i167 (dl_b (dl_b (dl_b dkL_law_712).2).2).1
theorem dL_law_719 : decode cL_law 719 = .ok (.iconst 0, 1) := dq_i3 (dl_b (dl_b (dl_b (dl_b dkL_law_712).2).2).2).1
theorem dL_law_720 : decode cL_law 720 = .ok (.invokevirtual 71, 3) := dq_i182 (dl_b (dl_b (dl_b (dl_b (dl_b dkL_law_712).2).2).2).2).1
theorem dL_law_723 : decode cL_law 723 = .ok (.pop, 1) := dq_i87 (dl_b (dl_b (dl_b (dl_b (dl_b (dl_b dkL_law_712).2).2).2).2).2).1
theorem dL_law_724 : decode cL_law 724 = .ok (.aload_n 2, 1) := dq_i44 (dl_b (dl_b (dl_b (dl_b (dl_b (dl_b (dl_b dkL_law_712).2).2).2).2).2).2).1
theorem dL_law_725 : decode cL_law 725 = .ok (.aload_n 0, 1) := dq_i42 (dl_b (dl_b (dl_b (dl_b (dl_b (dl_b (dl_b (dl_b dkL_law_712).2).2).2).2).2).2).2).1
theorem dL_law_726 : decode cL_law 726 = .ok (.iload_n 3, 1) := dq_i29 (dl_b (dl_b (dl_b (dl_b (dl_b (dl_b (dl_b (dl_b (dl_b dkL_law_712).2).2).2).2).2).2).2).2).1
theorem dL_law_727 : decode cL_law 727 = .ok (.iconst 1, 1) := dq_i4 (dl_b (dl_b (dl_b (dl_b (dl_b (dl_b (dl_b (dl_b (dl_b dkL_law_712).2).2).2).2).2).2).2).2).2
theorem dkL_law_728 : (dq_0 cL_law 728 96 && (dq_0 cL_law 729 46 && (dq_0 cL_law 730 42 && (dq_0 cL_law 731 29 && (dq_0 cL_law 732 5 && (dq_0 cL_law 733 96 && (dq_0 cL_law 734 46 && (dq_0 cL_law 735 42 && (dq_0 cL_law 736 29 && (dq_0 cL_law 737 6)))))))))) = true := by decide +kernel
theorem dL_law_728 : decode cL_law 728 = .ok (.iadd, 1) := dq_i96 (dl_b dkL_law_728).1
theorem dL_law_729 : decode cL_law 729 = .ok (.iaload, 1) := dq_i46 (dl_b (dl_b dkL_law_728).2).1
theorem dL_law_730 : decode cL_law 730 = .ok (.aload_n 0, 1) := dq_i42 (dl_b (dl_b (dl_b dkL_law_728).2).2).1
theorem dL_law_731 : decode cL_law 731 = .ok (.iload_n 3, 1) := dq_i29 (dl_b (dl_b (dl_b (dl_b dkL_law_728).2).2).2).1
theorem dL_law_732 : decode cL_law 732 = .ok (.iconst 2, 1) := dq_i5 (dl_b (dl_b (dl_b (dl_b (dl_b dkL_law_728).2).2).2).2).1
theorem dL_law_733 : decode cL_law 733 = .ok (.iadd, 1) := dq_i96 (dl_b (dl_b (dl_b (dl_b (dl_b (dl_b dkL_law_728).2).2).2).2).2).1
theorem dL_law_734 : decode cL_law 734 = .ok (.iaload, 1) := dq_i46 (dl_b (dl_b (dl_b (dl_b (dl_b (dl_b (dl_b dkL_law_728).2).2).2).2).2).2).1
theorem dL_law_735 : decode cL_law 735 = .ok (.aload_n 0, 1) := dq_i42 (dl_b (dl_b (dl_b (dl_b (dl_b (dl_b (dl_b (dl_b dkL_law_728).2).2).2).2).2).2).2).1
theorem dL_law_736 : decode cL_law 736 = .ok (.iload_n 3, 1) := dq_i29 (dl_b (dl_b (dl_b (dl_b (dl_b (dl_b (dl_b (dl_b (dl_b dkL_law_728).2).2).2).2).2).2).2).2).1
theorem dL_law_737 : decode cL_law 737 = .ok (.iconst 3, 1) := dq_i6 (dl_b (dl_b (dl_b (dl_b (dl_b (dl_b (dl_b (dl_b (dl_b dkL_law_728).2).2).2).2).2).2).2).2).2
theorem dkL_law_738 : (dq_0 cL_law 738 96 && (dq_0 cL_law 739 46 && (dq_0 cL_law 740 42 && (dq_0 cL_law 741 29 && (dq_0 cL_law 742 7 && (dq_0 cL_law 743 96 && (dq_0 cL_law 744 46 && (dq_4 cL_law 745 153 7 && (dq_0 cL_law 748 4 && (dq_4 cL_law 749 167 4)))))))))) = true := by decide +kernel
theorem dL_law_738 : decode cL_law 738 = .ok (.iadd, 1) := dq_i96 (dl_b dkL_law_738).1
theorem dL_law_739 : decode cL_law 739 = .ok (.iaload, 1) := dq_i46 (dl_b (dl_b dkL_law_738).2).1
theorem dL_law_740 : decode cL_law 740 = .ok (.aload_n 0, 1) := dq_i42 (dl_b (dl_b (dl_b dkL_law_738).2).2).1
theorem dL_law_741 : decode cL_law 741 = .ok (.iload_n 3, 1) := dq_i29 (dl_b (dl_b (dl_b (dl_b dkL_law_738).2).2).2).1
theorem dL_law_742 : decode cL_law 742 = .ok (.iconst 4, 1) := dq_i7 (dl_b (dl_b (dl_b (dl_b (dl_b dkL_law_738).2).2).2).2).1
theorem dL_law_743 : decode cL_law 743 = .ok (.iadd, 1) := dq_i96 (dl_b (dl_b (dl_b (dl_b (dl_b (dl_b dkL_law_738).2).2).2).2).2).1
theorem dL_law_744 : decode cL_law 744 = .ok (.iaload, 1) := dq_i46 (dl_b (dl_b (dl_b (dl_b (dl_b (dl_b (dl_b dkL_law_738).2).2).2).2).2).2).1
theorem dL_law_745 : decode cL_law 745 = .ok (.ifCond .eq 7, 3) := dq_i153 (dl_b (dl_b (dl_b (dl_b (dl_b (dl_b (dl_b (dl_b dkL_law_738).2).2).2).2).2).2).2).1
theorem dL_law_748 : decode cL_law 748 = .ok (.iconst 1, 1) := dq_i4 (dl_b (dl_b (dl_b (dl_b (dl_b (dl_b (dl_b (dl_b (dl_b dkL_law_738).2).2).2).2).2).2).2).2).1
theorem dL_law_749 : decode cL_law 749 = .ok (.goto 4, 3) := dq_i167 (dl_b (dl_b (dl_b (dl_b (dl_b (dl_b (dl_b (dl_b (dl_b dkL_law_738).2).2).2).2).2).2).2).2).2
theorem dkL_law_752 : (dq_0 cL_law 752 3 && (dq_2 cL_law 753 182 74 && (dq_0 cL_law 756 87 && (dq_4 cL_law 757 167 539 && (dq_0 cL_law 760 43 && (dq_0 cL_law 761 42 && (dq_0 cL_law 762 29 && (dq_0 cL_law 763 4 && (dq_0 cL_law 764 96 && (dq_0 cL_law 765 46)))))))))) = true := by decide +kernel
theorem dL_law_752 : decode cL_law 752 = .ok (.iconst 0, 1) := dq_i3 (dl_b dkL_law_752).1
theorem dL_law_753 : decode cL_law 753 = .ok (.invokevirtual 74, 3) := dq_i182 (dl_b (dl_b dkL_law_752).2).1
theorem dL_law_756 : decode cL_law 756 = .ok (.pop, 1) := dq_i87 (dl_b (dl_b (dl_b dkL_law_752).2).2).1
theorem dL_law_757 : decode cL_law 757 = .ok (.goto 539, 3) := dq_i167 (dl_b (dl_b (dl_b (dl_b dkL_law_752).2).2).2).1
theorem dL_law_760 : decode cL_law 760 = .ok (.aload_n 1, 1) := dq_i43 (dl_b (dl_b (dl_b (dl_b (dl_b dkL_law_752).2).2).2).2).1
theorem dL_law_761 : decode cL_law 761 = .ok (.aload_n 0, 1) := dq_i42 (dl_b (dl_b (dl_b (dl_b (dl_b (dl_b dkL_law_752).2).2).2).2).2).1
theorem dL_law_762 : decode cL_law 762 = .ok (.iload_n 3, 1) := dq_i29 (dl_b (dl_b (dl_b (dl_b (dl_b (dl_b (dl_b dkL_law_752).2).2).2).2).2).2).1
theorem dL_law_763 : decode cL_law 763 = .ok (.iconst 1, 1) := dq_i4 (dl_b (dl_b (dl_b (dl_b (dl_b (dl_b (dl_b (dl_b dkL_law_752).2).2).2).2).2).2).2).1
theorem dL_law_764 : decode cL_law 764 = .ok (.iadd, 1) := dq_i96 (dl_b (dl_b (dl_b (dl_b (dl_b (dl_b (dl_b (dl_b (dl_b dkL_law_752).2).2).2).2).2).2).2).2).1
theorem dL_law_765 : decode cL_law 765 = .ok (.iaload, 1) := dq_i46 (dl_b (dl_b (dl_b (dl_b (dl_b (dl_b (dl_b (dl_b (dl_b dkL_law_752).2).2).2).2).2).2).2).2).2
theorem dkL_law_766 : (dq_0 cL_law 766 42 && (dq_0 cL_law 767 29 && (dq_0 cL_law 768 5 && (dq_0 cL_law 769 96 && (dq_0 cL_law 770 46 && (dq_0 cL_law 771 42 && (dq_0 cL_law 772 29 && (dq_0 cL_law 773 6 && (dq_0 cL_law 774 96 && (dq_0 cL_law 775 46)))))))))) = true := by decide +kernel
theorem dL_law_766 : decode cL_law 766 = .ok (.aload_n 0, 1) := dq_i42 (dl_b dkL_law_766).1
theorem dL_law_767 : decode cL_law 767 = .ok (.iload_n 3, 1) := dq_i29 (dl_b (dl_b dkL_law_766).2).1
theorem dL_law_768 : decode cL_law 768 = .ok (.iconst 2, 1) := dq_i5 (dl_b (dl_b (dl_b dkL_law_766).2).2).1
theorem dL_law_769 : decode cL_law 769 = .ok (.iadd, 1) := dq_i96 (dl_b (dl_b (dl_b (dl_b dkL_law_766).2).2).2).1
theorem dL_law_770 : decode cL_law 770 = .ok (.iaload, 1) := dq_i46 (dl_b (dl_b (dl_b (dl_b (dl_b dkL_law_766).2).2).2).2).1
theorem dL_law_771 : decode cL_law 771 = .ok (.aload_n 0, 1) := dq_i42 (dl_b (dl_b (dl_b (dl_b (dl_b (dl_b dkL_law_766).2).2).2).2).2).1
theorem dL_law_772 : decode cL_law 772 = .ok (.iload_n 3, 1) := dq_i29 (dl_b (dl_b (dl_b (dl_b (dl_b (dl_b (dl_b dkL_law_766).2).2).2).2).2).2).1
theorem dL_law_773 : decode cL_law 773 = .ok (.iconst 3, 1) := dq_i6 (dl_b (dl_b (dl_b (dl_b (dl_b (dl_b (dl_b (dl_b dkL_law_766).2).2).2).2).2).2).2).1
theorem dL_law_774 : decode cL_law 774 = .ok (.iadd, 1) := dq_i96 (dl_b (dl_b (dl_b (dl_b (dl_b (dl_b (dl_b (dl_b (dl_b dkL_law_766).2).2).2).2).2).2).2).2).1
theorem dL_law_775 : decode cL_law 775 = .ok (.iaload, 1) := dq_i46 (dl_b (dl_b (dl_b (dl_b (dl_b (dl_b (dl_b (dl_b (dl_b dkL_law_766).2).2).2).2).2).2).2).2).2
theorem dkL_law_776 : (dq_0 cL_law 776 42 && (dq_0 cL_law 777 29 && (dq_0 cL_law 778 7 && (dq_0 cL_law 779 96 && (dq_0 cL_law 780 46 && (dq_2 cL_law 781 182 75 && (dq_0 cL_law 784 87 && (dq_0 cL_law 785 44 && (dq_0 cL_law 786 42 && (dq_0 cL_law 787 29)))))))))) = true := by decide +kernel
theorem dL_law_776 : decode cL_law 776 = .ok (.aload_n 0, 1) := dq_i42 (dl_b dkL_law_776).1
theorem dL_law_777 : decode cL_law 777 = .ok (.iload_n 3, 1) := dq_i29 (dl_b (dl_b dkL_law_776).2).1
theorem dL_law_778 : decode cL_law 778 = .ok (.iconst 4, 1) := dq_i7 (dl_b (dl_b (dl_b dkL_law_776).2).2).1
theorem dL_law_779 : decode cL_law 779 = .ok (.iadd, 1) := dq_i96 (dl_b (dl_b (dl_b (dl_b dkL_law_776).2).2).2).1
theorem dL_law_780 : decode cL_law 780 = .ok (.iaload, 1) := dq_i46 (dl_b (dl_b (dl_b (dl_b (dl_b dkL_law_776).2).2).2).2).1
theorem dL_law_781 : decode cL_law 781 = .ok (.invokevirtual 75, 3) := dq_i182 (dl_b (dl_b (dl_b (dl_b (dl_b (dl_b dkL_law_776).2).2).2).2).2).1
theorem dL_law_784 : decode cL_law 784 = .ok (.pop, 1) := dq_i87 (dl_b (dl_b (dl_b (dl_b (dl_b (dl_b (dl_b dkL_law_776).2).2).2).2).2).2).1
theorem dL_law_785 : decode cL_law 785 = .ok (.aload_n 2, 1) := dq_i44 (dl_b (dl_b (dl_b (dl_b (dl_b (dl_b (dl_b (dl_b dkL_law_776).2).2).2).2).2).2).2).1
theorem dL_law_786 : decode cL_law 786 = .ok (.aload_n 0, 1) := dq_i42 (dl_b (dl_b (dl_b (dl_b (dl_b (dl_b (dl_b (dl_b (dl_b dkL_law_776).2).2).2).2).2).2).2).2).1
theorem dL_law_787 : decode cL_law 787 = .ok (.iload_n 3, 1) := dq_i29 (dl_b (dl_b (dl_b (dl_b (dl_b (dl_b (dl_b (dl_b (dl_b dkL_law_776).2).2).2).2).2).2).2).2).2
theorem dkL_law_788 : (dq_0 cL_law 788 4 && (dq_0 cL_law 789 96 && (dq_0 cL_law 790 46 && (dq_0 cL_law 791 42 && (dq_0 cL_law 792 29 && (dq_0 cL_law 793 5 && (dq_0 cL_law 794 96 && (dq_0 cL_law 795 46 && (dq_0 cL_law 796 42 && (dq_0 cL_law 797 29)))))))))) = true := by decide +kernel
theorem dL_law_788 : decode cL_law 788 = .ok (.iconst 1, 1) := dq_i4 (dl_b dkL_law_788).1
theorem dL_law_789 : decode cL_law 789 = .ok (.iadd, 1) := dq_i96 (dl_b (dl_b dkL_law_788).2).1
theorem dL_law_790 : decode cL_law 790 = .ok (.iaload, 1) := dq_i46 (dl_b (dl_b (dl_b dkL_law_788).2).2).1
theorem dL_law_791 : decode cL_law 791 = .ok (.aload_n 0, 1) := dq_i42 (dl_b (dl_b (dl_b (dl_b dkL_law_788).2).2).2).1
theorem dL_law_792 : decode cL_law 792 = .ok (.iload_n 3, 1) := dq_i29 (dl_b (dl_b (dl_b (dl_b (dl_b dkL_law_788).2).2).2).2).1
theorem dL_law_793 : decode cL_law 793 = .ok (.iconst 2, 1) := dq_i5 (dl_b (dl_b (dl_b (dl_b (dl_b (dl_b dkL_law_788).2).2).2).2).2).1
theorem dL_law_794 : decode cL_law 794 = .ok (.iadd, 1) := dq_i96 (dl_b (dl_b (dl_b (dl_b (dl_b (dl_b (dl_b dkL_law_788).2).2).2).2).2).2).1
theorem dL_law_795 : decode cL_law 795 = .ok (.iaload, 1) := dq_i46 (dl_b (dl_b (dl_b (dl_b (dl_b (dl_b (dl_b (dl_b dkL_law_788).2).2).2).2).2).2).2).1
theorem dL_law_796 : decode cL_law 796 = .ok (.aload_n 0, 1) := dq_i42 (dl_b (dl_b (dl_b (dl_b (dl_b (dl_b (dl_b (dl_b (dl_b dkL_law_788).2).2).2).2).2).2).2).2).1
theorem dL_law_797 : decode cL_law 797 = .ok (.iload_n 3, 1) := dq_i29 (dl_b (dl_b (dl_b (dl_b (dl_b (dl_b (dl_b (dl_b (dl_b dkL_law_788).2).2).2).2).2).2).2).2).2
theorem dkL_law_798 : (dq_0 cL_law 798 6 && (dq_0 cL_law 799 96 && (dq_0 cL_law 800 46 && (dq_0 cL_law 801 42 && (dq_0 cL_law 802 29 && (dq_0 cL_law 803 7 && (dq_0 cL_law 804 96 && (dq_0 cL_law 805 46 && (dq_2 cL_law 806 182 78 && (dq_0 cL_law 809 87)))))))))) = true := by decide +kernel
theorem dL_law_798 : decode cL_law 798 = .ok (.iconst 3, 1) := dq_i6 (dl_b dkL_law_798).1
theorem dL_law_799 : decode cL_law 799 = .ok (.iadd, 1) := dq_i96 (dl_b (dl_b dkL_law_798).2).1
theorem dL_law_800 : decode cL_law 800 = .ok (.iaload, 1) := dq_i46 (dl_b (dl_b (dl_b dkL_law_798).2).2).1
theorem dL_law_801 : decode cL_law 801 = .ok (.aload_n 0, 1) := dq_i42 (dl_b (dl_b (dl_b (dl_b dkL_law_798).2).2).2).1
theorem dL_law_802 : decode cL_law 802 = .ok (.iload_n 3, 1) := dq_i29 (dl_b (dl_b (dl_b (dl_b (dl_b dkL_law_798).2).2).2).2).1
theorem dL_law_803 : decode cL_law 803 = .ok (.iconst 4, 1) := dq_i7 (dl_b (dl_b (dl_b (dl_b (dl_b (dl_b dkL_law_798).2).2).2).2).2).1
theorem dL_law_804 : decode cL_law 804 = .ok (.iadd, 1) := dq_i96 (dl_b (dl_b (dl_b (dl_b (dl_b (dl_b (dl_b dkL_law_798).2).2).2).2).2).2).1
theorem dL_law_805 : decode cL_law 805 = .ok (.iaload, 1) := dq_i46 (dl_b (dl_b (dl_b (dl_b (dl_b (dl_b (dl_b (dl_b dkL_law_798).2).2).2).2).2).2).2).1
theorem dL_law_806 : decode cL_law 806 = .ok (.invokevirtual 78, 3) := dq_i182 (dl_b (dl_b (dl_b (dl_b (dl_b (dl_b (dl_b (dl_b (dl_b dkL_law_798).2).2).2).2).2).2).2).2).1
theorem dL_law_809 : decode cL_law 809 = .ok (.pop, 1) := dq_i87 (dl_b (dl_b (dl_b (dl_b (dl_b (dl_b (dl_b (dl_b (dl_b dkL_law_798).2).2).2).2).2).2).2).2).2
theorem dkL_law_810 : (dq_4 cL_law 810 167 486 && (dq_0 cL_law 813 43 && (dq_0 cL_law 814 42 && (dq_0 cL_law 815 29 && (dq_0 cL_law 816 4 && (dq_0 cL_law 817 96 && (dq_0 cL_law 818 46 && (dq_0 cL_law 819 42 && (dq_0 cL_law 820 29 && (dq_0 cL_law 821 5)))))))))) = true := by decide +kernel
theorem dL_law_810 : decode cL_law 810 = .ok (.goto 486, 3) := dq_i167 (dl_b dkL_law_810).1
theorem dL_law_813 : decode cL_law 813 = .ok (.aload_n 1, 1) := dq_i43 (dl_b (dl_b dkL_law_810).2).1
theorem dL_law_814 : decode cL_law 814 = .ok (.aload_n 0, 1) := dq_i42 (dl_b (dl_b (dl_b dkL_law_810).2).2).1
theorem dL_law_815 : decode cL_law 815 = .ok (.iload_n 3, 1) := dq_i29 (dl_b (dl_b (dl_b (dl_b dkL_law_810).2).2).2).1
theorem dL_law_816 : decode cL_law 816 = .ok (.iconst 1, 1) := dq_i4 (dl_b (dl_b (dl_b (dl_b (dl_b dkL_law_810).2).2).2).2).1
theorem dL_law_817 : decode cL_law 817 = .ok (.iadd, 1) := dq_i96 (dl_b (dl_b (dl_b (dl_b (dl_b (dl_b dkL_law_810).2).2).2).2).2).1
theorem dL_law_818 : decode cL_law 818 = .ok (.iaload, 1) := dq_i46 (dl_b (dl_b (dl_b (dl_b (dl_b (dl_b (dl_b dkL_law_810).2).2).2).2).2).2).1
theorem dL_law_819 : decode cL_law 819 = .ok (.aload_n 0, 1) := dq_i42 (dl_b (dl_b (dl_b (dl_b (dl_b (dl_b (dl_b (dl_b dkL_law_810).2).2).2).2).2).2).2).1
theorem dL_law_820 : decode cL_law 820 = .ok (.iload_n 3, 1) := dq_i29 (dl_b (dl_b (dl_b (dl_b (dl_b (dl_b (dl_b (dl_b (dl_b dkL_law_810).2).2).2).2).2).2).2).2).1
theorem dL_law_821 : decode cL_law 821 = .ok (.iconst 2, 1) := dq_i5 (dl_b (dl_b (dl_b (dl_b (dl_b (dl_b (dl_b (dl_b (dl_b dkL_law_810).2).2).2).2).2).2).2).2).2
theorem dkL_law_822 : (dq_0 cL_law 822 96 && (dq_0 cL_law 823 46 && (dq_2 cL_law 824 182 79 && (dq_0 cL_law 827 87 && (dq_0 cL_law 828 44 && (dq_0 cL_law 829 42 && (dq_0 cL_law 830 29 && (dq_0 cL_law 831 4 && (dq_0 cL_law 832 96 && (dq_0 cL_law 833 46)))))))))) = true := by decide +kernel
theorem dL_law_822 : decode cL_law 822 = .ok (.iadd, 1) := dq_i96 (dl_b dkL_law_822).1
theorem dL_law_823 : decode cL_law 823 = .ok (.iaload, 1) := dq_i46 (dl_b (dl_b dkL_law_822).2).1
theorem dL_law_824 : decode cL_law 824 = .ok (.invokevirtual 79, 3) := dq_i182 (dl_b (dl_b (dl_b dkL_law_822).2).2).1
theorem dL_law_827 : decode cL_law 827 = .ok (.pop, 1) := dq_i87 (dl_b (dl_b (dl_b (dl_b dkL_law_822).2).2).2).1
theorem dL_law_828 : decode cL_law 828 = .ok (.aload_n 2, 1) := dq_i44 (dl_b (dl_b (dl_b (dl_b (dl_b dkL_law_822).2).2).2).2).1
theorem dL_law_829 : decode cL_law 829 = .ok (.aload_n 0, 1) := dq_i42 (dl_b (dl_b (dl_b (dl_b (dl_b (dl_b dkL_law_822).2).2).2).2).2).1
theorem dL_law_830 : decode cL_law 830 = .ok (.iload_n 3, 1) := dq_i29 (dl_b (dl_b (dl_b (dl_b (dl_b (dl_b (dl_b dkL_law_822).2).2).2).2).2).2).1
theorem dL_law_831 : decode cL_law 831 = .ok (.iconst 1, 1) := dq_i4 (dl_b (dl_b (dl_b (dl_b (dl_b (dl_b (dl_b (dl_b dkL_law_822).2).2).2).2).2).2).2).1
theorem dL_law_832 : decode cL_law 832 = .ok (.iadd, 1) := dq_i96 (dl_b (dl_b (dl_b (dl_b (dl_b (dl_b (dl_b (dl_b (dl_b dkL_law_822).2).2).2).2).2).2).2).2).1
theorem dL_law_833 : decode cL_law 833 = .ok (.iaload, 1) := dq_i46 (dl_b (dl_b (dl_b (dl_b (dl_b (dl_b (dl_b (dl_b (dl_b dkL_law_822).2).2).2).2).2).2).2).2).2
theorem dkL_law_834 : (dq_0 cL_law 834 42 && (dq_0 cL_law 835 29 && (dq_0 cL_law 836 5 && (dq_0 cL_law 837 96 && (dq_0 cL_law 838 46 && (dq_2 cL_law 839 182 82 && (dq_0 cL_law 842 87 && (dq_4 cL_law 843 167 453 && (dq_0 cL_law 846 43 && (dq_0 cL_law 847 42)))))))))) = true := by decide +kernel
theorem dL_law_834 : decode cL_law 834 = .ok (.aload_n 0, 1) := dq_i42 (dl_b dkL_law_834).1
theorem dL_law_835 : decode cL_law 835 = .ok (.iload_n 3, 1) := dq_i29 (dl_b (dl_b dkL_law_834).2).1
theorem dL_law_836 : decode cL_law 836 = .ok (.iconst 2, 1) := dq_i5 (dl_b (dl_b (dl_b dkL_law_834).2).2).1
theorem dL_law_837 : decode cL_law 837 = .ok (.iadd, 1) := dq_i96 (dl_b (dl_b (dl_b (dl_b dkL_law_834).2).2).2).1
theorem dL_law_838 : decode cL_law 838 = .ok (.iaload, 1) := dq_i46 (dl_b (dl_b (dl_b (dl_b (dl_b dkL_law_834).2).2).2).2).1
theorem dL_law_839 : decode cL_law 839 = .ok (.invokevirtual 82, 3) := dq_i182 (dl_b (dl_b (dl_b (dl_b (dl_b (dl_b dkL_law_834).2).2).2).2).2).1
theorem dL_law_842 : decode cL_law 842 = .ok (.pop, 1) := dq_i87 (dl_b (dl_b (dl_b (dl_b (dl_b (dl_b (dl_b dkL_law_834).2).2).2).2).2).2).1
theorem dL_law_843 : decode cL_law 843 = .ok (.goto 453, 3) := dq_i167 (dl_b (dl_b (dl_b (dl_b (dl_b (dl_b (dl_b (dl_b dkL_law_834).2).2).2).2).2).2).2).1
theorem dL_law_846 : decode cL_law 846 = .ok (.aload_n 1, 1) := dq_i43 (dl_b (dl_b (dl_b (dl_b (dl_b (dl_b (dl_b (dl_b (dl_b dkL_law_834).2).2).2).2).2).2).2).2).1
theorem dL_law_847 : decode cL_law 847 = .ok (.aload_n 0, 1) := dq_i42 (dl_b (dl_b (dl_b (dl_b (dl_b (dl_b (dl_b (dl_b (dl_b dkL_law_834).2).2).2).2).2).2).2).2).2
theorem dkL_law_848 : (dq_0 cL_law 848 29 && (dq_0 cL_law 849 4 && (dq_0 cL_law 850 96 && (dq_0 cL_law 851 46 && (dq_2 cL_law 852 182 83 && (dq_0 cL_law 855 87 && (dq_0 cL_law 856 44 && (dq_0 cL_law 857 42 && (dq_0 cL_law 858 29 && (dq_0 cL_law 859 4)))))))))) = true := by decide +kernel
theorem dL_law_848 : decode cL_law 848 = .ok (.iload_n 3, 1) := dq_i29 (dl_b dkL_law_848).1
theorem dL_law_849 : decode cL_law 849 = .ok (.iconst 1, 1) := dq_i4 (dl_b (dl_b dkL_law_848).2).1
theorem dL_law_850 : decode cL_law 850 = .ok (.iadd, 1) := dq_i96 (dl_b (dl_b (dl_b dkL_law_848).2).2).1
theorem dL_law_851 : decode cL_law 851 = .ok (.iaload, 1) := dq_i46 (dl_b (dl_b (dl_b (dl_b dkL_law_848).2).2).2).1
theorem dL_law_852 : decode cL_law 852 = .ok (.invokevirtual 83, 3) := dq_i182 (dl_b (dl_b (dl_b (dl_b (dl_b dkL_law_848).2).2).2).2).1
theorem dL_law_855 : decode cL_law 855 = .ok (.pop, 1) := dq_i87 (dl_b (dl_b (dl_b (dl_b (dl_b (dl_b dkL_law_848).2).2).2).2).2).1
theorem dL_law_856 : decode cL_law 856 = .ok (.aload_n 2, 1) := dq_i44 (dl_b (dl_b (dl_b (dl_b (dl_b (dl_b (dl_b dkL_law_848).2).2).2).2).2).2).1
theorem dL_law_857 : decode cL_law 857 = .ok (.aload_n 0, 1) := dq_i42 (dl_b (dl_b (dl_b (dl_b (dl_b (dl_b (dl_b (dl_b dkL_law_848).2).2).2).2).2).2).2).1
theorem dL_law_858 : decode cL_law 858 = .ok (.iload_n 3, 1) := dq_i29 (dl_b (dl_b (dl_b (dl_b (dl_b (dl_b (dl_b (dl_b (dl_b dkL_law_848).2).2).2).2).2).2).2).2).1
theorem dL_law_859 : decode cL_law 859 = .ok (.iconst 1, 1) := dq_i4 (dl_b (dl_b (dl_b (dl_b (dl_b (dl_b (dl_b (dl_b (dl_b dkL_law_848).2).2).2).2).2).2).2).2).2
theorem dkL_law_860 : (dq_0 cL_law 860 96 && (dq_0 cL_law 861 46 && (dq_2 cL_law 862 182 86 && (dq_0 cL_law 865 87 && (dq_4 cL_law 866 167 430 && (dq_0 cL_law 869 43 && (dq_0 cL_law 870 42 && (dq_0 cL_law 871 29 && (dq_0 cL_law 872 4 && (dq_0 cL_law 873 96)))))))))) = true := by decide +kernel
theorem dL_law_860 : decode cL_law 860 = .ok (.iadd, 1) := dq_i96 (dl_b dkL_law_860).1
theorem dL_law_861 : decode cL_law 861 = .ok (.iaload, 1) := dq_i46 (dl_b (dl_b dkL_law_860).2).1
theorem dL_law_862 : decode cL_law 862 = .ok (.invokevirtual 86, 3) := dq_i182 (dl_b (dl_b (dl_b dkL_law_860).2).2).1
theorem dL_law_865 : decode cL_law 865 = .ok (.pop, 1) := dq_i87 (dl_b (dl_b (dl_b (dl_b dkL_law_860).2).2).2).1
theorem dL_law_866 : decode cL_law 866 = .ok (.goto 430, 3) := dq_i167 (dl_b (dl_b (dl_b (dl_b (dl_b dkL_law_860).2).2).2).2).1
theorem dL_law_869 : decode cL_law 869 = .ok (.aload_n 1, 1) := dq_i43 (dl_b (dl_b (dl_b (dl_b (dl_b (dl_b dkL_law_860).2).2).2).2).2).1
theorem dL_law_870 : decode cL_law 870 = .ok (.aload_n 0, 1) := dq_i42 (dl_b (dl_b (dl_b (dl_b (dl_b (dl_b (dl_b dkL_law_860).2).2).2).2).2).2).1
theorem dL_law_871 : decode cL_law 871 = .ok (.iload_n 3, 1) := dq_i29 (dl_b (dl_b (dl_b (dl_b (dl_b (dl_b (dl_b (dl_b dkL_law_860).2).2).2).2).2).2).2).1
theorem dL_law_872 : decode cL_law 872 = .ok (.iconst 1, 1) := dq_i4 (dl_b (dl_b (dl_b (dl_b (dl_b (dl_b (dl_b (dl_b (dl_b dkL_law_860).2).2).2).2).2).2).2).2).1
theorem dL_law_873 : decode cL_law 873 = .ok (.iadd, 1) := dq_i96 (dl_b (dl_b (dl_b (dl_b (dl_b (dl_b (dl_b (dl_b (dl_b dkL_law_860).2).2).2).2).2).2).2).2).2
theorem dkL_law_874 : (dq_0 cL_law 874 46 && (dq_2 cL_law 875 182 87 && (dq_0 cL_law 878 87 && (dq_0 cL_law 879 44 && (dq_0 cL_law 880 42 && (dq_0 cL_law 881 29 && (dq_0 cL_law 882 4 && (dq_0 cL_law 883 96 && (dq_0 cL_law 884 46 && (dq_2 cL_law 885 182 90)))))))))) = true := by decide +kernel
theorem dL_law_874 : decode cL_law 874 = .ok (.iaload, 1) := dq_i46 (dl_b dkL_law_874).1
theorem dL_law_875 : decode cL_law 875 = .ok (.invokevirtual 87, 3) := dq_i182 (dl_b (dl_b dkL_law_874).2).1
theorem dL_law_878 : decode cL_law 878 = .ok (.pop, 1) := dq_i87 (dl_b (dl_b (dl_b dkL_law_874).2).2).1
theorem dL_law_879 : decode cL_law 879 = .ok (.aload_n 2, 1) := dq_i44 (dl_b (dl_b (dl_b (dl_b dkL_law_874).2).2).2).1
theorem dL_law_880 : decode cL_law 880 = .ok (.aload_n 0, 1) := dq_i42 (dl_b (dl_b (dl_b (dl_b (dl_b dkL_law_874).2).2).2).2).1
theorem dL_law_881 : decode cL_law 881 = .ok (.iload_n 3, 1) := dq_i29 (dl_b (dl_b (dl_b (dl_b (dl_b (dl_b dkL_law_874).2).2).2).2).2).1
theorem dL_law_882 : decode cL_law 882 = .ok (.iconst 1, 1) := dq_i4 (dl_b (dl_b (dl_b (dl_b (dl_b (dl_b (dl_b dkL_law_874).2).2).2).2).2).2).1
theorem dL_law_883 : decode cL_law 883 = .ok (.iadd, 1) := dq_i96 (dl_b (dl_b (dl_b (dl_b (dl_b (dl_b (dl_b (dl_b dkL_law_874).2).2).2).2).2).2).2).1
theorem dL_law_884 : decode cL_law 884 = .ok (.iaload, 1) := dq_i46 (dl_b (dl_b (dl_b (dl_b (dl_b (dl_b (dl_b (dl_b (dl_b dkL_law_874).2).2).2).2).2).2).2).2).1
theorem dL_law_885 : decode cL_law 885 = .ok (.invokevirtual 90, 3) := dq_i182 (dl_b (dl_b (dl_b (dl_b (dl_b (dl_b (dl_b (dl_b (dl_b dkL_law_874).2).2).2).2).2).2).2).2).2
theorem dkL_law_888 : (dq_0 cL_law 888 87 && (dq_4 cL_law 889 167 407 && (dq_0 cL_law 892 43 && (dq_2 cL_law 893 182 91 && (dq_0 cL_law 896 87 && (dq_0 cL_law 897 44 && (dq_2 cL_law 898 182 95 && (dq_0 cL_law 901 87 && (dq_4 cL_law 902 167 394 && (dq_0 cL_law 905 43)))))))))) = true := by decide +kernel
theorem dL_law_888 : decode cL_law 888 = .ok (.pop, 1) := dq_i87 (dl_b dkL_law_888).1
theorem dL_law_889 : decode cL_law 889 = .ok (.goto 407, 3) := dq_i167 (dl_b (dl_b dkL_law_888).2).1
theorem dL_law_892 : decode cL_law 892 = .ok (.aload_n 1, 1) := dq_i43 (dl_b (dl_b (dl_b dkL_law_888).2).2).1
theorem dL_law_893 : decode cL_law 893 = .ok (.invokevirtual 91, 3) := dq_i182 (dl_b (dl_b (dl_b (dl_b dkL_law_888).2).2).2).1
theorem dL_law_896 : decode cL_law 896 = .ok (.pop, 1) := dq_i87 (dl_b (dl_b (dl_b (dl_b (dl_b dkL_law_888).2).2).2).2).1
theorem dL_law_897 : decode cL_law 897 = .ok (.aload_n 2, 1) := dq_i44 (dl_b (dl_b (dl_b (dl_b (dl_b (dl_b dkL_law_888).2).2).2).2).2).1
theorem dL_law_898 : decode cL_law 898 = .ok (.invokevirtual 95, 3) := dq_i182 (dl_b (dl_b (dl_b (dl_b (dl_b (dl_b (dl_b dkL_law_888).2).2).2).2).2).2).1
theorem dL_law_901 : decode cL_law 901 = .ok (.pop, 1) := dq_i87 (dl_b (dl_b (dl_b (dl_b (dl_b (dl_b (dl_b (dl_b dkL_law_888).2).2).2).2).2).2).2).1
theorem dL_law_902 : decode cL_law 902 = .ok (.goto 394, 3) := dq_i167 (dl_b (dl_b (dl_b (dl_b (dl_b (dl_b (dl_b (dl_b (dl_b dkL_law_888).2).2).2).2).2).2).2).2).1
theorem dL_law_905 : decode cL_law 905 = .ok (.aload_n 1, 1) := dq_i43 (dl_b (dl_b (dl_b (dl_b (dl_b (dl_b (dl_b (dl_b (dl_b dkL_law_888).2).2).2).2).2).2).2).2).2
theorem dkL_law_906 : (dq_0 cL_law 906 42 && (dq_0 cL_law 907 29 && (dq_0 cL_law 908 4 && (dq_0 cL_law 909 96 && (dq_0 cL_law 910 46 && (dq_0 cL_law 911 42 && (dq_0 cL_law 912 29 && (dq_0 cL_law 913 5 && (dq_0 cL_law 914 96 && (dq_0 cL_law 915 46)))))))))) = true := by decide +kernel
theorem dL_law_906 : decode cL_law 906 = .ok (.aload_n 0, 1) := dq_i42 (dl_b dkL_law_906).1
theorem dL_law_907 : decode cL_law 907 = .ok (.iload_n 3, 1) := dq_i29 (dl_b (dl_b dkL_law_906).2).1
theorem dL_law_908 : decode cL_law 908 = .ok (.iconst 1, 1) := dq_i4 (dl_b (dl_b (dl_b dkL_law_906).2).2).1
theorem dL_law_909 : decode cL_law 909 = .ok (.iadd, 1) := dq_i96 (dl_b (dl_b (dl_b (dl_b dkL_law_906).2).2).2).1
theorem dL_law_910 : decode cL_law 910 = .ok (.iaload, 1) := dq_i46 (dl_b (dl_b (dl_b (dl_b (dl_b dkL_law_906).2).2).2).2).1
theorem dL_law_911 : decode cL_law 911 = .ok (.aload_n 0, 1) := dq_i42 (dl_b (dl_b (dl_b (dl_b (dl_b (dl_b dkL_law_906).2).2).2).2).2).1
theorem dL_law_912 : decode cL_law 912 = .ok (.iload_n 3, 1) := dq_i29 (dl_b (dl_b (dl_b (dl_b (dl_b (dl_b (dl_b dkL_law_906).2).2).2).2).2).2).1
theorem dL_law_913 : decode cL_law 913 = .ok (.iconst 2, 1) := dq_i5 (dl_b (dl_b (dl_b (dl_b (dl_b (dl_b (dl_b (dl_b dkL_law_906).2).2).2).2).2).2).2).1
theorem dL_law_914 : decode cL_law 914 = .ok (.iadd, 1) := dq_i96 (dl_b (dl_b (dl_b (dl_b (dl_b (dl_b (dl_b (dl_b (dl_b dkL_law_906).2).2).2).2).2).2).2).2).1
theorem dL_law_915 : decode cL_law 915 = .ok (.iaload, 1) := dq_i46 (dl_b (dl_b (dl_b (dl_b (dl_b (dl_b (dl_b (dl_b (dl_b dkL_law_906).2).2).2).2).2).2).2).2).2
theorem dkL_law_916 : (dq_2 cL_law 916 182 96 && (dq_0 cL_law 919 87 && (dq_0 cL_law 920 44 && (dq_0 cL_law 921 42 && (dq_0 cL_law 922 29 && (dq_0 cL_law 923 4 && (dq_0 cL_law 924 96 && (dq_0 cL_law 925 46 && (dq_0 cL_law 926 42 && (dq_0 cL_law 927 29)))))))))) = true := by decide +kernel
theorem dL_law_916 : decode cL_law 916 = .ok (.invokevirtual 96, 3) := dq_i182 (dl_b dkL_law_916).1
theorem dL_law_919 : decode cL_law 919 = .ok (.pop, 1) := dq_i87 (dl_b (dl_b dkL_law_916).2).1
theorem dL_law_920 : decode cL_law 920 = .ok (.aload_n 2, 1) := dq_i44 (dl_b (dl_b (dl_b dkL_law_916).2).2).1
theorem dL_law_921 : decode cL_law 921 = .ok (.aload_n 0, 1) := dq_i42 (dl_b (dl_b (dl_b (dl_b dkL_law_916).2).2).2).1
theorem dL_law_922 : decode cL_law 922 = .ok (.iload_n 3, 1) := dq_i29 (dl_b (dl_b (dl_b (dl_b (dl_b dkL_law_916).2).2).2).2).1
theorem dL_law_923 : decode cL_law 923 = .ok (.iconst 1, 1) := dq_i4 (dl_b (dl_b (dl_b (dl_b (dl_b (dl_b dkL_law_916).2).2).2).2).2).1
theorem dL_law_924 : decode cL_law 924 = .ok (.iadd, 1) := dq_i96 (dl_b (dl_b (dl_b (dl_b (dl_b (dl_b (dl_b dkL_law_916).2).2).2).2).2).2).1
theorem dL_law_925 : decode cL_law 925 = .ok (.iaload, 1) := dq_i46 (dl_b (dl_b (dl_b (dl_b (dl_b (dl_b (dl_b (dl_b dkL_law_916).2).2).2).2).2).2).2).1
theorem dL_law_926 : decode cL_law 926 = .ok (.aload_n 0, 1) := dq_i42 (dl_b (dl_b (dl_b (dl_b (dl_b (dl_b (dl_b (dl_b (dl_b dkL_law_916).2).2).2).2).2).2).2).2).1
theorem dL_law_927 : decode cL_law 927 = .ok (.iload_n 3, 1) := dq_i29 (dl_b (dl_b (dl_b (dl_b (dl_b (dl_b (dl_b (dl_b (dl_b dkL_law_916).2).2).2).2).2).2).2).2).2
theorem dkL_law_928 : (dq_0 cL_law 928 5 && (dq_0 cL_law 929 96 && (dq_0 cL_law 930 46 && (dq_2 cL_law 931 182 99 && (dq_0 cL_law 934 87 && (dq_4 cL_law 935 167 361 && (dq_0 cL_law 938 43 && (dq_2 cL_law 939 182 100 && (dq_0 cL_law 942 87 && (dq_0 cL_law 943 44)))))))))) = true := by decide +kernel
theorem dL_law_928 : decode cL_law 928 = .ok (.iconst 2, 1) := dq_i5 (dl_b dkL_law_928).1
theorem dL_law_929 : decode cL_law 929 = .ok (.iadd, 1) := dq_i96 (dl_b (dl_b dkL_law_928).2).1
theorem dL_law_930 : decode cL_law 930 = .ok (.iaload, 1) := dq_i46 (dl_b (dl_b (dl_b dkL_law_928).2).2).1
theorem dL_law_931 : decode cL_law 931 = .ok (.invokevirtual 99, 3) := dq_i182 (dl_b (dl_b (dl_b (dl_b dkL_law_928).2).2).2).1
theorem dL_law_934 : decode cL_law 934 = .ok (.pop, 1) := dq_i87 (dl_b (dl_b (dl_b (dl_b (dl_b dkL_law_928).2).2).2).2).1
theorem dL_law_935 : decode cL_law 935 = .ok (.goto 361, 3) := dq_i167 (dl_b (dl_b (dl_b (dl_b (dl_b (dl_b dkL_law_928).2).2).2).2).2).1
theorem dL_law_938 : decode cL_law 938 = .ok (.aload_n 1, 1) := dq_i43 (dl_b (dl_b (dl_b (dl_b (dl_b (dl_b (dl_b dkL_law_928).2).2).2).2).2).2).1
theorem dL_law_939 : decode cL_law 939 = .ok (.invokevirtual 100, 3) := dq_i182 (dl_b (dl_b (dl_b (dl_b (dl_b (dl_b (dl_b (dl_b dkL_law_928).2).2).2).2).2).2).2).1
theorem dL_law_942 : decode cL_law 942 = .ok (.pop, 1) := dq_i87 (dl_b (dl_b (dl_b (dl_b (dl_b (dl_b (dl_b (dl_b (dl_b dkL_law_928).2).2).2).2).2).2).2).2).1
theorem dL_law_943 : decode cL_law 943 = .ok (.aload_n 2, 1) := dq_i44 (dl_b (dl_b (dl_b (dl_b (dl_b (dl_b (dl_b (dl_b (dl_b dkL_law_928).2).2).2).2).2).2).2).2).2
theorem dkL_law_944 : (dq_2 cL_law 944 182 103 && (dq_0 cL_law 947 87 && (dq_4 cL_law 948 167 348 && (dq_0 cL_law 951 43 && (dq_0 cL_law 952 42 && (dq_0 cL_law 953 29 && (dq_0 cL_law 954 4 && (dq_0 cL_law 955 96 && (dq_0 cL_law 956 46 && (dq_0 cL_law 957 42)))))))))) = true := by decide +kernel
theorem dL_law_944 : decode cL_law 944 = .ok (.invokevirtual 103, 3) := dq_i182 (dl_b dkL_law_944).1
theorem dL_law_947 : decode cL_law 947 = .ok (.pop, 1) := dq_i87 (dl_b (dl_b dkL_law_944).2).1
theorem dL_law_948 : decode cL_law 948 = .ok (.goto 348, 3) := dq_i167 (dl_b (dl_b (dl_b dkL_law_944).2).2).1
theorem dL_law_951 : decode cL_law 951 = .ok (.aload_n 1, 1) := dq_i43 (dl_b (dl_b (dl_b (dl_b dkL_law_944).2).2).2).1
theorem dL_law_952 : decode cL_law 952 = .ok (.aload_n 0, 1) := dq_i42 (dl_b (dl_b (dl_b (dl_b (dl_b dkL_law_944).2).2).2).2).1
theorem dL_law_953 : decode cL_law 953 = .ok (.iload_n 3, 1) := dq_i29 (dl_b (dl_b (dl_b (dl_b (dl_b (dl_b dkL_law_944).2).2).2).2).2).1
theorem dL_law_954 : decode cL_law 954 = .ok (.iconst 1, 1) := dq_i4 (dl_b (dl_b (dl_b (dl_b (dl_b (dl_b (dl_b dkL_law_944).2).2).2).2).2).2).1
theorem dL_law_955 : decode cL_law 955 = .ok (.iadd, 1) := dq_i96 (dl_b (dl_b (dl_b (dl_b (dl_b (dl_b (dl_b (dl_b dkL_law_944).2).2).2).2).2).2).2).1
theorem dL_law_956 : decode cL_law 956 = .ok (.iaload, 1) := dq_i46 (dl_b (dl_b (dl_b (dl_b (dl_b (dl_b (dl_b (dl_b (dl_b dkL_law_944).2).2).2).2).2).2).2).2).1
theorem dL_law_957 : decode cL_law 957 = .ok (.aload_n 0, 1) := dq_i42 (dl_b (dl_b (dl_b (dl_b (dl_b (dl_b (dl_b (dl_b (dl_b dkL_law_944).2).2).2).2).2).2).2).2).2
theorem dkL_law_958 : (dq_0 cL_law 958 29 && (dq_0 cL_law 959 5 && (dq_0 cL_law 960 96 && (dq_0 cL_law 961 46 && (dq_2 cL_law 962 182 104 && (dq_0 cL_law 965 87 && (dq_0 cL_law 966 44 && (dq_0 cL_law 967 42 && (dq_0 cL_law 968 29 && (dq_0 cL_law 969 4)))))))))) = true := by decide +kernel
theorem dL_law_958 : decode cL_law 958 = .ok (.iload_n 3, 1) := dq_i29 (dl_b dkL_law_958).1
theorem dL_law_959 : decode cL_law 959 = .ok (.iconst 2, 1) := dq_i5 (dl_b (dl_b dkL_law_958).2).1
theorem dL_law_960 : decode cL_law 960 = .ok (.iadd, 1) := dq_i96 (dl_b (dl_b (dl_b dkL_law_958).2).2).1
theorem dL_law_961 : decode cL_law 961 = .ok (.iaload, 1) := dq_i46 (dl_b (dl_b (dl_b (dl_b dkL_law_958).2).2).2).1
theorem dL_law_962 : decode cL_law 962 = .ok (.invokevirtual 104, 3) := dq_i182 (dl_b (dl_b (dl_b (dl_b (dl_b dkL_law_958).2).2).2).2).1
theorem dL_law_965 : decode cL_law 965 = .ok (.pop, 1) := dq_i87 (dl_b (dl_b (dl_b (dl_b (dl_b (dl_b dkL_law_958).2).2).2).2).2).1
theorem dL_law_966 : decode cL_law 966 = .ok (.aload_n 2, 1) := dq_i44 (dl_b (dl_b (dl_b (dl_b (dl_b (dl_b (dl_b dkL_law_958).2).2).2).2).2).2).1
theorem dL_law_967 : decode cL_law 967 = .ok (.aload_n 0, 1) := dq_i42 (dl_b (dl_b (dl_b (dl_b (dl_b (dl_b (dl_b (dl_b dkL_law_958).2).2).2).2).2).2).2).1
theorem dL_law_968 : decode cL_law 968 = .ok (.iload_n 3, 1) := dq_i29 (dl_b (dl_b (dl_b (dl_b (dl_b (dl_b (dl_b (dl_b (dl_b dkL_law_958).2).2).2).2).2).2).2).2).1
theorem dL_law_969 : decode cL_law 969 = .ok (.iconst 1, 1) := dq_i4 (dl_b (dl_b (dl_b (dl_b (dl_b (dl_b (dl_b (dl_b (dl_b dkL_law_958).2).2).2).2).2).2).2).2).2
theorem dkL_law_970 : (dq_0 cL_law 970 96 && (dq_0 cL_law 971 46 && (dq_0 cL_law 972 42 && (dq_0 cL_law 973 29 && (dq_0 cL_law 974 5 && (dq_0 cL_law 975 96 && (dq_0 cL_law 976 46 && (dq_2 cL_law 977 182 107 && (dq_0 cL_law 980 87 && (dq_4 cL_law 981 167 315)))))))))) = true := by decide +kernel
theorem dL_law_970 : decode cL_law 970 = .ok (.iadd, 1) := dq_i96 (dl_b dkL_law_970).1
theorem dL_law_971 : decode cL_law 971 = .ok (.iaload, 1) := dq_i46 (dl_b (dl_b dkL_law_970).2).1
theorem dL_law_972 : decode cL_law 972 = .ok (.aload_n 0, 1) := dq_i42 (dl_b (dl_b (dl_b dkL_law_970).2).2).1
theorem dL_law_973 : decode cL_law 973 = .ok (.iload_n 3, 1) := dq_i29 (dl_b (dl_b (dl_b (dl_b dkL_law_970).2).2).2).1
theorem dL_law_974 : decode cL_law 974 = .ok (.iconst 2, 1) := dq_i5 (dl_b (dl_b (dl_b (dl_b (dl_b dkL_law_970).2).2).2).2).1
theorem dL_law_975 : decode cL_law 975 = .ok (.iadd, 1) := dq_i96 (dl_b (dl_b (dl_b (dl_b (dl_b (dl_b dkL_law_970).2).2).2).2).2).1
theorem dL_law_976 : decode cL_law 976 = .ok (.iaload, 1) := dq_i46 (dl_b (dl_b (dl_b (dl_b (dl_b (dl_b (dl_b dkL_law_970).2).2).2).2).2).2).1
theorem dL_law_977 : decode cL_law 977 = .ok (.invokevirtual 107, 3) := dq_i182 (dl_b (dl_b (dl_b (dl_b (dl_b (dl_b (dl_b (dl_b dkL_law_970).2).2).2).2).2).2).2).1
theorem dL_law_980 : decode cL_law 980 = .ok (.pop, 1) := dq_i87 (dl_b (dl_b (dl_b (dl_b (dl_b (dl_b (dl_b (dl_b (dl_b dkL_law_970).2).2).2).2).2).2).2).2).1
theorem dL_law_981 : decode cL_law 981 = .ok (.goto 315, 3) := dq_i167 (dl_b (dl_b (dl_b (dl_b (dl_b (dl_b (dl_b (dl_b (dl_b dkL_law_970).2).2).2).2).2).2).2).2).2
theorem dkL_law_984 : (dq_0 cL_law 984 43 && (dq_0 cL_law 985 42 && (dq_0 cL_law 986 29 && (dq_0 cL_law 987 4 && (dq_0 cL_law 988 96 && (dq_0 cL_law 989 46 && (dq_0 cL_law 990 42 && (dq_0 cL_law 991 29 && (dq_0 cL_law 992 5 && (dq_0 cL_law 993 96)))))))))) = true := by decide +kernel
theorem dL_law_984 : decode cL_law 984 = .ok (.aload_n 1, 1) := dq_i43 (dl_b dkL_law_984).1
theorem dL_law_985 : decode cL_law 985 = .ok (.aload_n 0, 1) := dq_i42 (dl_b (dl_b dkL_law_984).2).1
theorem dL_law_986 : decode cL_law 986 = .ok (.iload_n 3, 1) := dq_i29 (dl_b (dl_b (dl_b dkL_law_984).2).2).1
theorem dL_law_987 : decode cL_law 987 = .ok (.iconst 1, 1) := dq_i4 (dl_b (dl_b (dl_b (dl_b dkL_law_984).2).2).2).1
theorem dL_law_988 : decode cL_law 988 = .ok (.iadd, 1) := dq_i96 (dl_b (dl_b (dl_b (dl_b (dl_b dkL_law_984).2).2).2).2).1
theorem dL_law_989 : decode cL_law 989 = .ok (.iaload, 1) := dq_i46 (dl_b (dl_b (dl_b (dl_b (dl_b (dl_b dkL_law_984).2).2).2).2).2).1
theorem dL_law_990 : decode cL_law 990 = .ok (.aload_n 0, 1) := dq_i42 (dl_b (dl_b (dl_b (dl_b (dl_b (dl_b (dl_b dkL_law_984).2).2).2).2).2).2).1
theorem dL_law_991 : decode cL_law 991 = .ok (.iload_n 3, 1) := dq_i29 (dl_b (dl_b (dl_b (dl_b (dl_b (dl_b (dl_b (dl_b dkL_law_984).2).2).2).2).2).2).2).1
theorem dL_law_992 : decode cL_law 992 = .ok (.iconst 2, 1) := dq_i5 (dl_b (dl_b (dl_b (dl_b (dl_b (dl_b (dl_b (dl_b (dl_b dkL_law_984).2).2).2).2).2).2).2).2).1
theorem dL_law_993 : decode cL_law 993 = .ok (.iadd, 1) := dq_i96 (dl_b (dl_b (dl_b (dl_b (dl_b (dl_b (dl_b (dl_b (dl_b dkL_law_984).2).2).2).2).2).2).2).2).2
theorem dkL_law_994 : (dq_0 cL_law 994 46 && (dq_2 cL_law 995 182 108 && (dq_0 cL_law 998 87 && (dq_0 cL_law 999 44 && (dq_0 cL_law 1000 42 && (dq_0 cL_law 1001 29 && (dq_0 cL_law 1002 4 && (dq_0 cL_law 1003 96 && (dq_0 cL_law 1004 46 && (dq_0 cL_law 1005 42)))))))))) = true := by decide +kernel
theorem dL_law_994 : decode cL_law 994 = .ok (.iaload, 1) := dq_i46 (dl_b dkL_law_994).1
theorem dL_law_995 : decode cL_law 995 = .ok (.invokevirtual 108, 3) := dq_i182 (dl_b (dl_b dkL_law_994).2).1
theorem dL_law_998 : decode cL_law 998 = .ok (.pop, 1) := dq_i87 (dl_b (dl_b (dl_b dkL_law_994).2).2).1
theorem dL_law_999 : decode cL_law 999 = .ok (.aload_n 2, 1) := dq_i44 (dl_b (dl_b (dl_b (dl_b dkL_law_994).2).2).2).1
theorem dL_law_1000 : decode cL_law 1000 = .ok (.aload_n 0, 1) := dq_i42 (dl_b (dl_b (dl_b (dl_b (dl_b dkL_law_994).2).2).2).2).1
theorem dL_law_1001 : decode cL_law 1001 = .ok (.iload_n 3, 1) := dq_i29 (dl_b (dl_b (dl_b (dl_b (dl_b (dl_b dkL_law_994).2).2).2).2).2).1
theorem dL_law_1002 : decode cL_law 1002 = .ok (.iconst 1, 1) := dq_i4 (dl_b (dl_b (dl_b (dl_b (dl_b (dl_b (dl_b dkL_law_994).2).2).2).2).2).2).1
theorem dL_law_1003 : decode cL_law 1003 = .ok (.iadd, 1) := dq_i96 (dl_b (dl_b (dl_b (dl_b (dl_b (dl_b (dl_b (dl_b dkL_law_994).2).2).2).2).2).2).2).1
theorem dL_law_1004 : decode cL_law 1004 = .ok (.iaload, 1) := dq_i46 (dl_b (dl_b (dl_b (dl_b (dl_b (dl_b (dl_b (dl_b (dl_b dkL_law_994).2).2).2).2).2).2).2).2).1
theorem dL_law_1005 : decode cL_law 1005 = .ok (.aload_n 0, 1) := dq_i42 (dl_b (dl_b (dl_b (dl_b (dl_b (dl_b (dl_b (dl_b (dl_b dkL_law_994).2).2).2).2).2).2).2).2).2
theorem dkL_law_1006 : (dq_0 cL_law 1006 29 && (dq_0 cL_law 1007 5 && (dq_0 cL_law 1008 96 && (dq_0 cL_law 1009 46 && (dq_2 cL_law 1010 182 111 && (dq_0 cL_law 1013 87 && (dq_4 cL_law 1014 167 282 && (dq_0 cL_law 1017 43 && (dq_0 cL_law 1018 42 && (dq_0 cL_law 1019 29)))))))))) = true := by decide +kernel
theorem dL_law_1006 : decode cL_law 1006 = .ok (.iload_n 3, 1) := dq_i29 (dl_b dkL_law_1006).1
theorem dL_law_1007 : decode cL_law 1007 = .ok (.iconst 2, 1) := dq_i5 (dl_b (dl_b dkL_law_1006).2).1
theorem dL_law_1008 : decode cL_law 1008 = .ok (.iadd, 1) := dq_i96 (dl_b (dl_b (dl_b dkL_law_1006).2).2).1
theorem dL_law_1009 : decode cL_law 1009 = .ok (.iaload, 1) := dq_i46 (dl_b (dl_b (dl_b (dl_b dkL_law_1006).2).2).2).1
theorem dL_law_1010 : decode cL_law 1010 = .ok (.invokevirtual 111, 3) := dq_i182 (dl_b (dl_b (dl_b (dl_b (dl_b dkL_law_1006).2).2).2).2).1
theorem dL_law_1013 : decode cL_law 1013 = .ok (.pop, 1) := dq_i87 (dl_b (dl_b (dl_b (dl_b (dl_b (dl_b dkL_law_1006).2).2).2).2).2).1
theorem dL_law_1014 : decode cL_law 1014 = .ok (.goto 282, 3) := dq_i167 (dl_b (dl_b (dl_b (dl_b (dl_b (dl_b (dl_b dkL_law_1006).2).2).2).2).2).2).1
theorem dL_law_1017 : decode cL_law 1017 = .ok (.aload_n 1, 1) := dq_i43 (dl_b (dl_b (dl_b (dl_b (dl_b (dl_b (dl_b (dl_b dkL_law_1006).2).2).2).2).2).2).2).1
theorem dL_law_1018 : decode cL_law 1018 = .ok (.aload_n 0, 1) := dq_i42 (dl_b (dl_b (dl_b (dl_b (dl_b (dl_b (dl_b (dl_b (dl_b dkL_law_1006).2).2).2).2).2).2).2).2).1
theorem dL_law_1019 : decode cL_law 1019 = .ok (.iload_n 3, 1) := dq_i29 (dl_b (dl_b (dl_b (dl_b (dl_b (dl_b (dl_b (dl_b (dl_b dkL_law_1006).2).2).2).2).2).2).2).2).2
theorem dkL_law_1020 : (dq_0 cL_law 1020 4 && (dq_0 cL_law 1021 96 && (dq_0 cL_law 1022 46 && (dq_2 cL_law 1023 182 112 && (dq_0 cL_law 1026 87 && (dq_0 cL_law 1027 44 && (dq_0 cL_law 1028 42 && (dq_0 cL_law 1029 29 && (dq_0 cL_law 1030 4 && (dq_0 cL_law 1031 96)))))))))) = true := by decide +kernel
theorem dL_law_1020 : decode cL_law 1020 = .ok (.iconst 1, 1) := dq_i4 (dl_b dkL_law_1020).1
theorem dL_law_1021 : decode cL_law 1021 = .ok (.iadd, 1) := dq_i96 (dl_b (dl_b dkL_law_1020).2).1
theorem dL_law_1022 : decode cL_law 1022 = .ok (.iaload, 1) := dq_i46 (dl_b (dl_b (dl_b dkL_law_1020).2).2).1
theorem dL_law_1023 : decode cL_law 1023 = .ok (.invokevirtual 112, 3) := dq_i182 (dl_b (dl_b (dl_b (dl_b dkL_law_1020).2).2).2).1
theorem dL_law_1026 : decode cL_law 1026 = .ok (.pop, 1) := dq_i87 (dl_b (dl_b (dl_b (dl_b (dl_b dkL_law_1020).2).2).2).2).1
theorem dL_law_1027 : decode cL_law 1027 = .ok (.aload_n 2, 1) := dq_i44 (dl_b (dl_b (dl_b (dl_b (dl_b (dl_b dkL_law_1020).2).2).2).2).2).1
theorem dL_law_1028 : decode cL_law 1028 = .ok (.aload_n 0, 1) := dq_i42 (dl_b (dl_b (dl_b (dl_b (dl_b (dl_b (dl_b dkL_law_1020).2).2).2).2).2).2).1
theorem dL_law_1029 : decode cL_law 1029 = .ok (.iload_n 3, 1) := dq_i29 (dl_b (dl_b (dl_b (dl_b (dl_b (dl_b (dl_b (dl_b dkL_law_1020).2).2).2).2).2).2).2).1
theorem dL_law_1030 : decode cL_law 1030 = .ok (.iconst 1, 1) := dq_i4 (dl_b (dl_b (dl_b (dl_b (dl_b (dl_b (dl_b (dl_b (dl_b dkL_law_1020).2).2).2).2).2).2).2).2).1
theorem dL_law_1031 : decode cL_law 1031 = .ok (.iadd, 1) := dq_i96 (dl_b (dl_b (dl_b (dl_b (dl_b (dl_b (dl_b (dl_b (dl_b dkL_law_1020).2).2).2).2).2).2).2).2).2
theorem dkL_law_1032 : (dq_0 cL_law 1032 46 && (dq_2 cL_law 1033 182 115 && (dq_0 cL_law 1036 87 && (dq_4 cL_law 1037 167 259 && (dq_0 cL_law 1040 43 && (dq_0 cL_law 1041 42 && (dq_0 cL_law 1042 29 && (dq_0 cL_law 1043 4 && (dq_0 cL_law 1044 96 && (dq_0 cL_law 1045 46)))))))))) = true := by decide +kernel
theorem dL_law_1032 : decode cL_law 1032 = .ok (.iaload, 1) := dq_i46 (dl_b dkL_law_1032).1
theorem dL_law_1033 : decode cL_law 1033 = .ok (.invokevirtual 115, 3) := dq_i182 (dl_b (dl_b dkL_law_1032).2).1
theorem dL_law_1036 : decode cL_law 1036 = .ok (.pop, 1) := dq_i87 (dl_b (dl_b (dl_b dkL_law_1032).2).2).1
theorem dL_law_1037 : decode cL_law 1037 = .ok (.goto 259, 3) := dq_i167 (dl_b (dl_b (dl_b (dl_b dkL_law_1032).2).2).2).1
theorem dL_law_1040 : decode cL_law 1040 = .ok (.aload_n 1, 1) := dq_i43 (dl_b (dl_b (dl_b (dl_b (dl_b dkL_law_1032).2).2).2).2).1
theorem dL_law_1041 : decode cL_law 1041 = .ok (.aload_n 0, 1) := dq_i42 (dl_b (dl_b (dl_b (dl_b (dl_b (dl_b dkL_law_1032).2).2).2).2).2).1
theorem dL_law_1042 : decode cL_law 1042 = .ok (.iload_n 3, 1) := dq_i29 (dl_b (dl_b (dl_b (dl_b (dl_b (dl_b (dl_b dkL_law_1032).2).2).2).2).2).2).1
theorem dL_law_1043 : decode cL_law 1043 = .ok (.iconst 1, 1) := dq_i4 (dl_b (dl_b (dl_b (dl_b (dl_b (dl_b (dl_b (dl_b dkL_law_1032).2).2).2).2).2).2).2).1
theorem dL_law_1044 : decode cL_law 1044 = .ok (.iadd, 1) := dq_i96 (dl_b (dl_b (dl_b (dl_b (dl_b (dl_b (dl_b (dl_b (dl_b dkL_law_1032).2).2).2).2).2).2).2).2).1
theorem dL_law_1045 : decode cL_law 1045 = .ok (.iaload, 1) := dq_i46 (dl_b (dl_b (dl_b (dl_b (dl_b (dl_b (dl_b (dl_b (dl_b dkL_law_1032).2).2).2).2).2).2).2).2).2
theorem dkL_law_1046 : (dq_2 cL_law 1046 182 116 && (dq_0 cL_law 1049 87 && (dq_0 cL_law 1050 44 && (dq_0 cL_law 1051 42 && (dq_0 cL_law 1052 29 && (dq_0 cL_law 1053 4 && (dq_0 cL_law 1054 96 && (dq_0 cL_law 1055 46 && (dq_2 cL_law 1056 182 119 && (dq_0 cL_law 1059 87)))))))))) = true := by decide +kernel
theorem dL_law_1046 : decode cL_law 1046 = .ok (.invokevirtual 116, 3) := dq_i182 (dl_b dkL_law_1046).1
theorem dL_law_1049 : decode cL_law 1049 = .ok (.pop, 1) := dq_i87 (dl_b (dl_b dkL_law_1046).2).1
theorem dL_law_1050 : decode cL_law 1050 = .ok (.aload_n 2, 1) := dq_i44 (dl_b (dl_b (dl_b dkL_law_1046).2).2).1
theorem dL_law_1051 : decode cL_law 1051 = .ok (.aload_n 0, 1) := dq_i42 (dl_b (dl_b (dl_b (dl_b dkL_law_1046).2).2).2).1
theorem dL_law_1052 : decode cL_law 1052 = .ok (.iload_n 3, 1) := dq_i29 (dl_b (dl_b (dl_b (dl_b (dl_b dkL_law_1046).2).2).2).2).1
theorem dL_law_1053 : decode cL_law 1053 = .ok (.iconst 1, 1) := dq_i4 (dl_b (dl_b (dl_b (dl_b (dl_b (dl_b dkL_law_1046).2).2).2).2).2).1
theorem dL_law_1054 : decode cL_law 1054 = .ok (.iadd, 1) := dq_i96 (dl_b (dl_b (dl_b (dl_b (dl_b (dl_b (dl_b dkL_law_1046).2).2).2).2).2).2).1
theorem dL_law_1055 : decode cL_law 1055 = .ok (.iaload, 1) := dq_i46 (dl_b (dl_b (dl_b (dl_b (dl_b (dl_b (dl_b (dl_b dkL_law_1046).2).2).2).2).2).2).2).1
theorem dL_law_1056 : decode cL_law 1056 = .ok (.invokevirtual 119, 3) := dq_i182 (dl_b (dl_b (dl_b (dl_b (dl_b (dl_b (dl_b (dl_b (dl_b dkL_law_1046).2).2).2).2).2).2).2).2).1
theorem dL_law_1059 : decode cL_law 1059 = .ok (.pop, 1) := dq_i87 (dl_b (dl_b (dl_b (dl_b (dl_b (dl_b (dl_b (dl_b (dl_b dkL_law_1046).2).2).2).2).2).2).2).2).2
theorem dkL_law_1060 : (dq_4 cL_law 1060 167 236 && (dq_0 cL_law 1063 43 && (dq_0 cL_law 1064 42 && (dq_0 cL_law 1065 29 && (dq_0 cL_law 1066 4 && (dq_0 cL_law 1067 96 && (dq_0 cL_law 1068 46 && (dq_2 cL_law 1069 182 120 && (dq_0 cL_law 1072 87 && (dq_0 cL_law 1073 44)))))))))) = true := by decide +kernel
theorem dL_law_1060 : decode cL_law 1060 = .ok (.goto 236, 3) := dq_i167 (dl_b dkL_law_1060).1
theorem dL_law_1063 : decode cL_law 1063 = .ok (.aload_n 1, 1) := dq_i43 (dl_b (dl_b dkL_law_1060).2).1
theorem dL_law_1064 : decode cL_law 1064 = .ok (.aload_n 0, 1) := dq_i42 (dl_b (dl_b (dl_b dkL_law_1060).2).2).1
theorem dL_law_1065 : decode cL_law 1065 = .ok (.iload_n 3, 1) := dq_i29 (dl_b (dl_b (dl_b (dl_b dkL_law_1060).2).2).2).1
theorem dL_law_1066 : decode cL_law 1066 = .ok (.iconst 1, 1) := dq_i4 (dl_b (dl_b (dl_b (dl_b (dl_b dkL_law_1060).2).2).2).2).1
theorem dL_law_1067 : decode cL_law 1067 = .ok (.iadd, 1) := dq_i96 (dl_b (dl_b (dl_b (dl_b (dl_b (dl_b dkL_law_1060).2).2).2).2).2).1
theorem dL_law_1068 : decode cL_law 1068 = .ok (.iaload, 1) := dq_i46 (dl_b (dl_b (dl_b (dl_b (dl_b (dl_b (dl_b dkL_law_1060).2).2).2).2).2).2).1
theorem dL_law_1069 : decode cL_law 1069 = .ok (.invokevirtual 120, 3) := dq_i182 (dl_b (dl_b (dl_b (dl_b (dl_b (dl_b (dl_b (dl_b dkL_law_1060).2).2).2).2).2).2).2).1
theorem dL_law_1072 : decode cL_law 1072 = .ok (.pop, 1) := dq_i87 (dl_b (dl_b (dl_b (dl_b (dl_b (dl_b (dl_b (dl_b (dl_b dkL_law_1060).2).2).2).2).2).2).2).2).1
theorem dL_law_1073 : decode cL_law 1073 = .ok (.aload_n 2, 1) := dq_i44 (dl_b (dl_b (dl_b (dl_b (dl_b (dl_b (dl_b (dl_b (dl_b dkL_law_1060).2).2).2).2).2).2).2).2).2
theorem dkL_law_1074 : (dq_0 cL_law 1074 42 && (dq_0 cL_law 1075 29 && (dq_0 cL_law 1076 4 && (dq_0 cL_law 1077 96 && (dq_0 cL_law 1078 46 && (dq_2 cL_law 1079 182 123 && (dq_0 cL_law 1082 87 && (dq_4 cL_law 1083 167 213 && (dq_0 cL_law 1086 43 && (dq_0 cL_law 1087 42)))))))))) = true := by decide +kernel
theorem dL_law_1074 : decode cL_law 1074 = .ok (.aload_n 0, 1) := dq_i42 (dl_b dkL_law_1074).1
theorem dL_law_1075 : decode cL_law 1075 = .ok (.iload_n 3, 1) := dq_i29 (dl_b (dl_b dkL_law_1074).2).1
theorem dL_law_1076 : decode cL_law 1076 = .ok (.iconst 1, 1) := dq_i4 (dl_b (dl_b (dl_b dkL_law_1074).2).2).1
theorem dL_law_1077 : decode cL_law 1077 = .ok (.iadd, 1) := dq_i96 (dl_b (dl_b (dl_b (dl_b dkL_law_1074).2).2).2).1
theorem dL_law_1078 : decode cL_law 1078 = .ok (.iaload, 1) := dq_i46 (dl_b (dl_b (dl_b (dl_b (dl_b dkL_law_1074).2).2).2).2).1
theorem dL_law_1079 : decode cL_law 1079 = .ok (.invokevirtual 123, 3) := dq_i182 (dl_b (dl_b (dl_b (dl_b (dl_b (dl_b dkL_law_1074).2).2).2).2).2).1
theorem dL_law_1082 : decode cL_law 1082 = .ok (.pop, 1) := dq_i87 (dl_b (dl_b (dl_b (dl_b (dl_b (dl_b (dl_b dkL_law_1074).2).2).2).2).2).2).1
theorem dL_law_1083 : decode cL_law 1083 = .ok (.goto 213, 3) := dq_i167 (dl_b (dl_b (dl_b (dl_b (dl_b (dl_b (dl_b (dl_b dkL_law_1074).2).2).2).2).2).2).2).1
theorem dL_law_1086 : decode cL_law 1086 = .ok (.aload_n 1, 1) := dq_i43 (dl_b (dl_b (dl_b (dl_b (dl_b (dl_b (dl_b (dl_b (dl_b dkL_law_1074).2).2).2).2).2).2).2).2).1
theorem dL_law_1087 : decode cL_law 1087 = .ok (.aload_n 0, 1) := dq_i42 (dl_b (dl_b (dl_b (dl_b (dl_b (dl_b (dl_b (dl_b (dl_b dkL_law_1074).2).2).2).2).2).2).2).2).2
theorem dkL_law_1088 : (dq_0 cL_law 1088 29 && (dq_0 cL_law 1089 4 && (dq_0 cL_law 1090 96 && (dq_0 cL_law 1091 46 && (dq_0 cL_law 1092 42 && (dq_0 cL_law 1093 29 && (dq_0 cL_law 1094 5 && (dq_0 cL_law 1095 96 && (dq_0 cL_law 1096 46 && (dq_2 cL_law 1097 182 124)))))))))) = true := by decide +kernel
theorem dL_law_1088 : decode cL_law 1088 = .ok (.iload_n 3, 1) := dq_i29 (dl_b dkL_law_1088).1
theorem dL_law_1089 : decode cL_law 1089 = .ok (.iconst 1, 1) := dq_i4 (dl_b (dl_b dkL_law_1088).2).1
theorem dL_law_1090 : decode cL_law 1090 = .ok (.iadd, 1) := dq_i96 (dl_b (dl_b (dl_b dkL_law_1088).2).2).1
theorem dL_law_1091 : decode cL_law 1091 = .ok (.iaload, 1) := dq_i46 (dl_b (dl_b (dl_b (dl_b dkL_law_1088).2).2).2).1
theorem dL_law_1092 : decode cL_law 1092 = .ok (.aload_n 0, 1) := dq_i42 (dl_b (dl_b (dl_b (dl_b (dl_b dkL_law_1088).2).2).2).2).1
theorem dL_law_1093 : decode cL_law 1093 = .ok (.iload_n 3, 1) := dq_i29 (dl_b (dl_b (dl_b (dl_b (dl_b (dl_b dkL_law_1088).2).2).2).2).2).1
theorem dL_law_1094 : decode cL_law 1094 = .ok (.iconst 2, 1) := dq_i5 (dl_b (dl_b (dl_b (dl_b (dl_b (dl_b (dl_b dkL_law_1088).2).2).2).2).2).2).1
theorem dL_law_1095 : decode cL_law 1095 = .ok (.iadd, 1) := dq_i96 (dl_b (dl_b (dl_b (dl_b (dl_b (dl_b (dl_b (dl_b dkL_law_1088).2).2).2).2).2).2).2).1
theorem dL_law_1096 : decode cL_law 1096 = .ok (.iaload, 1) := dq_i46 (dl_b (dl_b (dl_b (dl_b (dl_b (dl_b (dl_b (dl_b (dl_b dkL_law_1088).2).2).2).2).2).2).2).2).1
theorem dL_law_1097 : decode cL_law 1097 = .ok (.invokevirtual 124, 3) := dq_i182 (dl_b (dl_b (dl_b (dl_b (dl_b (dl_b (dl_b (dl_b (dl_b dkL_law_1088).2).2).2).2).2).2).2).2).2
theorem dkL_law_1100 : (dq_0 cL_law 1100 87 && (dq_0 cL_law 1101 44 && (dq_0 cL_law 1102 42 && (dq_0 cL_law 1103 29 && (dq_0 cL_law 1104 4 && (dq_0 cL_law 1105 96 && (dq_0 cL_law 1106 46 && (dq_0 cL_law 1107 42 && (dq_0 cL_law 1108 29 && (dq_0 cL_law 1109 5)))))))))) = true := by decide +kernel
theorem dL_law_1100 : decode cL_law 1100 = .ok (.pop, 1) := dq_i87 (dl_b dkL_law_1100).1
theorem dL_law_1101 : decode cL_law 1101 = .ok (.aload_n 2, 1) := dq_i44 (dl_b (dl_b dkL_law_1100).2).1
theorem dL_law_1102 : decode cL_law 1102 = .ok (.aload_n 0, 1) := dq_i42 (dl_b (dl_b (dl_b dkL_law_1100).2).2).1
theorem dL_law_1103 : decode cL_law 1103 = .ok (.iload_n 3, 1) := dq_i29 (dl_b (dl_b (dl_b (dl_b dkL_law_1100).2).2).2).1
theorem dL_law_1104 : decode cL_law 1104 = .ok (.iconst 1, 1) := dq_i4 (dl_b (dl_b (dl_b (dl_b (dl_b dkL_law_1100).2).2).2).2).1
theorem dL_law_1105 : decode cL_law 1105 = .ok (.iadd, 1) := dq_i96 (dl_b (dl_b (dl_b (dl_b (dl_b (dl_b dkL_law_1100).2).2).2).2).2).1
theorem dL_law_1106 : decode cL_law 1106 = .ok (.iaload, 1) := dq_i46 (dl_b (dl_b (dl_b (dl_b (dl_b (dl_b (dl_b dkL_law_1100).2).2).2).2).2).2).1
theorem dL_law_1107 : decode cL_law 1107 = .ok (.aload_n 0, 1) := dq_i42 (dl_b (dl_b (dl_b (dl_b (dl_b (dl_b (dl_b (dl_b dkL_law_1100).2).2).2).2).2).2).2).1
theorem dL_law_1108 : decode cL_law 1108 = .ok (.iload_n 3, 1) := dq_i29 (dl_b (dl_b (dl_b (dl_b (dl_b (dl_b (dl_b (dl_b (dl_b dkL_law_1100).2).2).2).2).2).2).2).2).1
theorem dL_law_1109 : decode cL_law 1109 = .ok (.iconst 2, 1) := dq_i5 (dl_b (dl_b (dl_b (dl_b (dl_b (dl_b (dl_b (dl_b (dl_b dkL_law_1100).2).2).2).2).2).2).2).2).2
theorem dkL_law_1110 : (dq_0 cL_law 1110 96 && (dq_0 cL_law 1111 46 && (dq_2 cL_law 1112 182 127 && (dq_0 cL_law 1115 87 && (dq_4 cL_law 1116 167 180 && (dq_0 cL_law 1119 43 && (dq_0 cL_law 1120 42 && (dq_0 cL_law 1121 29 && (dq_0 cL_law 1122 4 && (dq_0 cL_law 1123 96)))))))))) = true := by decide +kernel
theorem dL_law_1110 : decode cL_law 1110 = .ok (.iadd, 1) := dq_i96 (dl_b dkL_law_1110).1
theorem dL_law_1111 : decode cL_law 1111 = .ok (.iaload, 1) := dq_i46 (dl_b (dl_b dkL_law_1110).2).1
theorem dL_law_1112 : decode cL_law 1112 = .ok (.invokevirtual 127, 3) := dq_i182 (dl_b (dl_b (dl_b dkL_law_1110).2).2).1
theorem dL_law_1115 : decode cL_law 1115 = .ok (.pop, 1) := dq_i87 (dl_b (dl_b (dl_b (dl_b dkL_law_1110).2).2).2).1
theorem dL_law_1116 : decode cL_law 1116 = .ok (.goto 180, 3) := dq_i167 (dl_b (dl_b (dl_b (dl_b (dl_b dkL_law_1110).2).2).2).2).1
theorem dL_law_1119 : decode cL_law 1119 = .ok (.aload_n 1, 1) := dq_i43 (dl_b (dl_b (dl_b (dl_b (dl_b (dl_b dkL_law_1110).2).2).2).2).2).1
theorem dL_law_1120 : decode cL_law 1120 = .ok (.aload_n 0, 1) := dq_i42 (dl_b (dl_b (dl_b (dl_b (dl_b (dl_b (dl_b dkL_law_1110).2).2).2).2).2).2).1
theorem dL_law_1121 : decode cL_law 1121 = .ok (.iload_n 3, 1) := dq_i29 (dl_b (dl_b (dl_b (dl_b (dl_b (dl_b (dl_b (dl_b dkL_law_1110).2).2).2).2).2).2).2).1
theorem dL_law_1122 : decode cL_law 1122 = .ok (.iconst 1, 1) := dq_i4 (dl_b (dl_b (dl_b (dl_b (dl_b (dl_b (dl_b (dl_b (dl_b dkL_law_1110).2).2).2).2).2).2).2).2).1
theorem dL_law_1123 : decode cL_law 1123 = .ok (.iadd, 1) := dq_i96 (dl_b (dl_b (dl_b (dl_b (dl_b (dl_b (dl_b (dl_b (dl_b dkL_law_1110).2).2).2).2).2).2).2).2).2
theorem dkL_law_1124 : (dq_0 cL_law 1124 46 && (dq_0 cL_law 1125 42 && (dq_0 cL_law 1126 29 && (dq_0 cL_law 1127 5 && (dq_0 cL_law 1128 96 && (dq_0 cL_law 1129 46 && (dq_4 cL_law 1130 153 7 && (dq_0 cL_law 1133 4 && (dq_4 cL_law 1134 167 4 && (dq_0 cL_law 1137 3)))))))))) = true := by decide +kernel
theorem dL_law_1124 : decode cL_law 1124 = .ok (.iaload, 1) := dq_i46 (dl_b dkL_law_1124).1
theorem dL_law_1125 : decode cL_law 1125 = .ok (.aload_n 0, 1) := dq_i42 (dl_b (dl_b dkL_law_1124).2).1
theorem dL_law_1126 : decode cL_law 1126 = .ok (.iload_n 3, 1) := dq_i29 (dl_b (dl_b (dl_b dkL_law_1124).2).2).1
theorem dL_law_1127 : decode cL_law 1127 = .ok (.iconst 2, 1) := dq_i5 (dl_b (dl_b (dl_b (dl_b dkL_law_1124).2).2).2).1
theorem dL_law_1128 : decode cL_law 1128 = .ok (.iadd, 1) := dq_i96 (dl_b (dl_b (dl_b (dl_b (dl_b dkL_law_1124).2).2).2).2).1
theorem dL_law_1129 : decode cL_law 1129 = .ok (.iaload, 1) := dq_i46 (dl_b (dl_b (dl_b (dl_b (dl_b (dl_b dkL_law_1124).2).2).2).2).2).1
theorem dL_law_1130 : decode cL_law 1130 = .ok (.ifCond .eq 7, 3) := dq_i153 (dl_b (dl_b (dl_b (dl_b (dl_b (dl_b (dl_b dkL_law_1124).2).2).2).2).2).2).1
theorem dL_law_1133 : decode cL_law 1133 = .ok (.iconst 1, 1) := dq_i4 (dl_b (dl_b (dl_b (dl_b (dl_b (dl_b (dl_b (dl_b dkL_law_1124).2).2).2).2).2).2).2).1
theorem dL_law_1134 : decode cL_law 1134 = .ok (.goto 4, 3) := dq_i167 (dl_b (dl_b (dl_b (dl_b (dl_b (dl_b (dl_b (dl_b (dl_b dkL_law_1124).2).2).2).2).2).2).2).2).1
theorem dL_law_1137 : decode cL_law 1137 = .ok (.iconst 0, 1) := dq_i3 (dl_b (dl_b (dl_b (dl_b (dl_b (dl_b (dl_b (dl_b (dl_b dkL_law_1124).2).2).2).2).2).2).2).2).2
theorem dkL_law_1138 : (dq_2 cL_law 1138 182 128 && (dq_0 cL_law 1141 87 && (dq_0 cL_law 1142 44 && (dq_0 cL_law 1143 42 && (dq_0 cL_law 1144 29 && (dq_0 cL_law 1145 4 && (dq_0 cL_law 1146 96 && (dq_0 cL_law 1147 46 && (dq_0 cL_law 1148 42 && (dq_0 cL_law 1149 29)))))))))) = true := by decide +kernel
theorem dL_law_1138 : decode cL_law 1138 = .ok (.invokevirtual 128, 3) := dq_i182 (dl_b dkL_law_1138).1
theorem dL_law_1141 : decode cL_law 1141 = .ok (.pop, 1) := dq_i87 (dl_b (dl_b dkL_law_1138).2).1
theorem dL_law_1142 : decode cL_law 1142 = .ok (.aload_n 2, 1) := dq_i44 (dl_b (dl_b (dl_b dkL_law_1138).2).2).1
theorem dL_law_1143 : decode cL_law 1143 = .ok (.aload_n 0, 1) := dq_i42 (dl_b (dl_b (dl_b (dl_b dkL_law_1138).2).2).2).1
theorem dL_law_1144 : decode cL_law 1144 = .ok (.iload_n 3, 1) := dq_i29 (dl_b (dl_b (dl_b (dl_b (dl_b dkL_law_1138).2).2).2).2).1
theorem dL_law_1145 : decode cL_law 1145 = .ok (.iconst 1, 1) := dq_i4 (dl_b (dl_b (dl_b (dl_b (dl_b (dl_b dkL_law_1138).2).2).2).2).2).1
theorem dL_law_1146 : decode cL_law 1146 = .ok (.iadd, 1) := dq_i96 (dl_b (dl_b (dl_b (dl_b (dl_b (dl_b (dl_b dkL_law_1138).2).2).2).2).2).2).1
theorem dL_law_1147 : decode cL_law 1147 = .ok (.iaload, 1) := dq_i46 (dl_b (dl_b (dl_b (dl_b (dl_b (dl_b (dl_b (dl_b dkL_law_1138).2).2).2).2).2).2).2).1
theorem dL_law_1148 : decode cL_law 1148 = .ok (.aload_n 0, 1) := dq_i42 (dl_b (dl_b (dl_b (dl_b (dl_b (dl_b (dl_b (dl_b (dl_b dkL_law_1138).2).2).2).2).2).2).2).2).1
theorem dL_law_1149 : decode cL_law 1149 = .ok (.iload_n 3, 1) := dq_i29 (dl_b (dl_b (dl_b (dl_b (dl_b (dl_b (dl_b (dl_b (dl_b dkL_law_1138).2).2).2).2).2).2).2).2).2
theorem dkL_law_1150 : (dq_0 cL_law 1150 5 && (dq_0 cL_law 1151 96 && (dq_0 cL_law 1152 46 && (dq_4 cL_law 1153 153 7 && (dq_0 cL_law 1156 4 && (dq_4 cL_law 1157 167 4 && (dq_0 cL_law 1160 3 && (dq_2 cL_law 1161 182 132 && (dq_0 cL_law 1164 87 && (dq_4 cL_law 1165 167 131)))))))))) = true := by decide +kernel
theorem dL_law_1150 : decode cL_law 1150 = .ok (.iconst 2, 1) := dq_i5 (dl_b dkL_law_1150).1
theorem dL_law_1151 : decode cL_law 1151 = .ok (.iadd, 1) := dq_i96 (dl_b (dl_b dkL_law_1150).2).1
theorem dL_law_1152 : decode cL_law 1152 = .ok (.iaload, 1) := dq_i46 (dl_b (dl_b (dl_b dkL_law_1150).2).2).1
theorem dL_law_1153 : decode cL_law 1153 = .ok (.ifCond .eq 7, 3) := dq_i153 (dl_b (dl_b (dl_b (dl_b dkL_law_1150).2).2).2).1
theorem dL_law_1156 : decode cL_law 1156 = .ok (.iconst 1, 1) := dq_i4 (dl_b (dl_b (dl_b (dl_b (dl_b dkL_law_1150).2).2).2).2).1
theorem dL_law_1157 : decode cL_law 1157 = .ok (.goto 4, 3) := dq_i167 (dl_b (dl_b (dl_b (dl_b (dl_b (dl_b dkL_law_1150).2).2).2).2).2).1
theorem dL_law_1160 : decode cL_law 1160 = .ok (.iconst 0, 1) := dq_i3 (dl_b (dl_b (dl_b (dl_b (dl_b (dl_b (dl_b dkL_law_1150).2).2).2).2).2).2).1
theorem dL_law_1161 : decode cL_law 1161 = .ok (.invokevirtual 132, 3) := dq_i182 (dl_b (dl_b (dl_b (dl_b (dl_b (dl_b (dl_b (dl_b dkL_law_1150).2).2).2).2).2).2).2).1
theorem dL_law_1164 : decode cL_law 1164 = .ok (.pop, 1) := dq_i87 (dl_b (dl_b (dl_b (dl_b (dl_b (dl_b (dl_b (dl_b (dl_b dkL_law_1150).2).2).2).2).2).2).2).2).1
theorem dL_law_1165 : decode cL_law 1165 = .ok (.goto 131, 3) := dq_i167 (dl_b (dl_b (dl_b (dl_b (dl_b (dl_b (dl_b (dl_b (dl_b dkL_law_1150).2).2).2).2).2).2).2).2).2
theorem dkL_law_1168 : (dq_0 cL_law 1168 43 && (dq_0 cL_law 1169 42 && (dq_0 cL_law 1170 29 && (dq_0 cL_law 1171 4 && (dq_0 cL_law 1172 96 && (dq_0 cL_law 1173 46 && (dq_0 cL_law 1174 42 && (dq_0 cL_law 1175 29 && (dq_0 cL_law 1176 5 && (dq_0 cL_law 1177 96)))))))))) = true := by decide +kernel
theorem dL_law_1168 : decode cL_law 1168 = .ok (.aload_n 1, 1) := dq_i43 (dl_b dkL_law_1168).1
theorem dL_law_1169 : decode cL_law 1169 = .ok (.aload_n 0, 1) := dq_i42 (dl_b (dl_b dkL_law_1168).2).1
theorem dL_law_1170 : decode cL_law 1170 = .ok (.iload_n 3, 1) := dq_i29 (dl_b (dl_b (dl_b dkL_law_1168).2).2).1
theorem dL_law_1171 : decode cL_law 1171 = .ok (.iconst 1, 1) := dq_i4 (dl_b (dl_b (dl_b (dl_b dkL_law_1168).2).2).2).1
theorem dL_law_1172 : decode cL_law 1172 = .ok (.iadd, 1) := dq_i96 (dl_b (dl_b (dl_b (dl_b (dl_b dkL_law_1168).2).2).2).2).1
theorem dL_law_1173 : decode cL_law 1173 = .ok (.iaload, 1) := dq_i46 (dl_b (dl_b (dl_b (dl_b (dl_b (dl_b dkL_law_1168).2).2).2).2).2).1
theorem dL_law_1174 : decode cL_law 1174 = .ok (.aload_n 0, 1) := dq_i42 (dl_b (dl_b (dl_b (dl_b (dl_b (dl_b (dl_b dkL_law_1168).2).2).2).2).2).2).1
theorem dL_law_1175 : decode cL_law 1175 = .ok (.iload_n 3, 1) := dq_i29 (dl_b (dl_b (dl_b (dl_b (dl_b (dl_b (dl_b (dl_b dkL_law_1168).2).2).2).2).2).2).2).1
theorem dL_law_1176 : decode cL_law 1176 = .ok (.iconst 2, 1) := dq_i5 (dl_b (dl_b (dl_b (dl_b (dl_b (dl_b (dl_b (dl_b (dl_b dkL_law_1168).2).2).2).2).2).2).2).2).1
theorem dL_law_1177 : decode cL_law 1177 = .ok (.iadd, 1) := dq_i96 (dl_b (dl_b (dl_b (dl_b (dl_b (dl_b (dl_b (dl_b (dl_b dkL_law_1168).2).2).2).2).2).2).2).2).2
theorem dkL_law_1178 : (dq_0 cL_law 1178 46 && (dq_4 cL_law 1179 153 7 && (dq_0 cL_law 1182 4 && (dq_4 cL_law 1183 167 4 && (dq_0 cL_law 1186 3 && (dq_2 cL_law 1187 182 133 && (dq_0 cL_law 1190 44 && (dq_0 cL_law 1191 42 && (dq_0 cL_law 1192 29 && (dq_0 cL_law 1193 4)))))))))) = true := by decide +kernel
theorem dL_law_1178 : decode cL_law 1178 = .ok (.iaload, 1) := dq_i46 (dl_b dkL_law_1178).1
theorem dL_law_1179 : decode cL_law 1179 = .ok (.ifCond .eq 7, 3) := dq_i153 (dl_b (dl_b dkL_law_1178).2).1
theorem dL_law_1182 : decode cL_law 1182 = .ok (.iconst 1, 1) := dq_i4 (dl_b (dl_b (dl_b dkL_law_1178).2).2).1
theorem dL_law_1183 : decode cL_law 1183 = .ok (.goto 4, 3) := dq_i167 (dl_b (dl_b (dl_b (dl_b dkL_law_1178).2).2).2).1
theorem dL_law_1186 : decode cL_law 1186 = .ok (.iconst 0, 1) := dq_i3 (dl_b (dl_b (dl_b (dl_b (dl_b dkL_law_1178).2).2).2).2).1
theorem dL_law_1187 : decode cL_law 1187 = .ok (.invokevirtual 133, 3) := dq_i182 (dl_b (dl_b (dl_b (dl_b (dl_b (dl_b dkL_law_1178).2).2).2).2).2).1
theorem dL_law_1190 : decode cL_law 1190 = .ok (.aload_n 2, 1) := dq_i44 (dl_b (dl_b (dl_b (dl_b (dl_b (dl_b (dl_b dkL_law_1178).2).2).2).2).2).2).1
theorem dL_law_1191 : decode cL_law 1191 = .ok (.aload_n 0, 1) := dq_i42 (dl_b (dl_b (dl_b (dl_b (dl_b (dl_b (dl_b (dl_b dkL_law_1178).2).2).2).2).2).2).2).1
theorem dL_law_1192 : decode cL_law 1192 = .ok (.iload_n 3, 1) := dq_i29 (dl_b (dl_b (dl_b (dl_b (dl_b (dl_b (dl_b (dl_b (dl_b dkL_law_1178).2).2).2).2).2).2).2).2).1
theorem dL_law_1193 : decode cL_law 1193 = .ok (.iconst 1, 1) := dq_i4 (dl_b (dl_b (dl_b (dl_b (dl_b (dl_b (dl_b (dl_b (dl_b dkL_law_1178).2).2).2).2).2).2).2).2).2
theorem dkL_law_1194 : (dq_0 cL_law 1194 96 && (dq_0 cL_law 1195 46 && (dq_0 cL_law 1196 42 && (dq_0 cL_law 1197 29 && (dq_0 cL_law 1198 5 && (dq_0 cL_law 1199 96 && (dq_0 cL_law 1200 46 && (dq_4 cL_law 1201 153 7 && (dq_0 cL_law 1204 4 && (dq_4 cL_law 1205 167 4)))))))))) = true := by decide +kernel
theorem dL_law_1194 : decode cL_law 1194 = .ok (.iadd, 1) := dq_i96 (dl_b dkL_law_1194).1
theorem dL_law_1195 : decode cL_law 1195 = .ok (.iaload, 1) := dq_i46 (dl_b (dl_b dkL_law_1194).2).1
theorem dL_law_1196 : decode cL_law 1196 = .ok (.aload_n 0, 1) := dq_i42 (dl_b (dl_b (dl_b dkL_law_1194).2).2).1
theorem dL_law_1197 : decode cL_law 1197 = .ok (.iload_n 3, 1) := dq_i29 (dl_b (dl_b (dl_b (dl_b dkL_law_1194).2).2).2).1
theorem dL_law_1198 : decode cL_law 1198 = .ok (.iconst 2, 1) := dq_i5 (dl_b (dl_b (dl_b (dl_b (dl_b dkL_law_1194).2).2).2).2).1
theorem dL_law_1199 : decode cL_law 1199 = .ok (.iadd, 1) := dq_i96 (dl_b (dl_b (dl_b (dl_b (dl_b (dl_b dkL_law_1194).2).2).2).2).2).1
theorem dL_law_1200 : decode cL_law 1200 = .ok (.iaload, 1) := dq_i46 (dl_b (dl_b (dl_b (dl_b (dl_b (dl_b (dl_b dkL_law_1194).2).2).2).2).2).2).1
theorem dL_law_1201 : decode cL_law 1201 = .ok (.ifCond .eq 7, 3) := dq_i153 (dl_b (dl_b (dl_b (dl_b (dl_b (dl_b (dl_b (dl_b dkL_law_1194).2).2).2).2).2).2).2).1
theorem dL_law_1204 : decode cL_law 1204 = .ok (.iconst 1, 1) := dq_i4 (dl_b (dl_b (dl_b (dl_b (dl_b (dl_b (dl_b (dl_b (dl_b dkL_law_1194).2).2).2).2).2).2).2).2).1
theorem dL_law_1205 : decode cL_law 1205 = .ok (.goto 4, 3) := dq_i167 (dl_b (dl_b (dl_b (dl_b (dl_b (dl_b (dl_b (dl_b (dl_b dkL_law_1194).2).2).2).2).2).2).2).2).2
theorem dkL_law_1208 : (dq_0 cL_law 1208 3 && (dq_2 cL_law 1209 182 136 && (dq_4 cL_law 1212 159 84 && (dq_0 cL_law 1217 43 && (dq_0 cL_law 1218 42 && (dq_0 cL_law 1219 29 && (dq_0 cL_law 1220 4 && (dq_0 cL_law 1221 96 && (dq_0 cL_law 1222 46 && (dq_0 cL_law 1223 42)))))))))) = true := by decide +kernel
theorem dL_law_1208 : decode cL_law 1208 = .ok (.iconst 0, 1) := dq_i3 (dl_b dkL_law_1208).1
theorem dL_law_1209 : decode cL_law 1209 = .ok (.invokevirtual 136, 3) := dq_i182 (dl_b (dl_b dkL_law_1208).2).1
theorem dL_law_1212 : decode cL_law 1212 = .ok (.if_icmp .eq 84, 3) := dq_i159 (dl_b (dl_b (dl_b dkL_law_1208).2).2).1
theorem dL_law_1217 : decode cL_law 1217 = .ok (.aload_n 1, 1) := dq_i43 (dl_b (dl_b (dl_b (dl_b dkL_law_1208).2).2).2).1
theorem dL_law_1218 : decode cL_law 1218 = .ok (.aload_n 0, 1) := dq_i42 (dl_b (dl_b (dl_b (dl_b (dl_b dkL_law_1208).2).2).2).2).1
theorem dL_law_1219 : decode cL_law 1219 = .ok (.iload_n 3, 1) := dq_i29 (dl_b (dl_b (dl_b (dl_b (dl_b (dl_b dkL_law_1208).2).2).2).2).2).1
theorem dL_law_1220 : decode cL_law 1220 = .ok (.iconst 1, 1) := dq_i4 (dl_b (dl_b (dl_b (dl_b (dl_b (dl_b (dl_b dkL_law_1208).2).2).2).2).2).2).1
theorem dL_law_1221 : decode cL_law 1221 = .ok (.iadd, 1) := dq_i96 (dl_b (dl_b (dl_b (dl_b (dl_b (dl_b (dl_b (dl_b dkL_law_1208).2).2).2).2).2).2).2).1
theorem dL_law_1222 : decode cL_law 1222 = .ok (.iaload, 1) := dq_i46 (dl_b (dl_b (dl_b (dl_b (dl_b (dl_b (dl_b (dl_b (dl_b dkL_law_1208).2).2).2).2).2).2).2).2).1
theorem dL_law_1223 : decode cL_law 1223 = .ok (.aload_n 0, 1) := dq_i42 (dl_b (dl_b (dl_b (dl_b (dl_b (dl_b (dl_b (dl_b (dl_b dkL_law_1208).2).2).2).2).2).2).2).2).2
theorem dkL_law_1224 : (dq_0 cL_law 1224 29 && (dq_0 cL_law 1225 5 && (dq_0 cL_law 1226 96 && (dq_0 cL_law 1227 46 && (dq_2 cL_law 1228 182 137 && (dq_0 cL_law 1231 87 && (dq_0 cL_law 1232 44 && (dq_0 cL_law 1233 42 && (dq_0 cL_law 1234 29 && (dq_0 cL_law 1235 4)))))))))) = true := by decide +kernel
theorem dL_law_1224 : decode cL_law 1224 = .ok (.iload_n 3, 1) := dq_i29 (dl_b dkL_law_1224).1
theorem dL_law_1225 : decode cL_law 1225 = .ok (.iconst 2, 1) := dq_i5 (dl_b (dl_b dkL_law_1224).2).1
theorem dL_law_1226 : decode cL_law 1226 = .ok (.iadd, 1) := dq_i96 (dl_b (dl_b (dl_b dkL_law_1224).2).2).1
theorem dL_law_1227 : decode cL_law 1227 = .ok (.iaload, 1) := dq_i46 (dl_b (dl_b (dl_b (dl_b dkL_law_1224).2).2).2).1
theorem dL_law_1228 : decode cL_law 1228 = .ok (.invokevirtual 137, 3) := dq_i182 (dl_b (dl_b (dl_b (dl_b (dl_b dkL_law_1224).2).2).2).2).1
theorem dL_law_1231 : decode cL_law 1231 = .ok (.pop, 1) := dq_i87 (dl_b (dl_b (dl_b (dl_b (dl_b (dl_b dkL_law_1224).2).2).2).2).2).1
theorem dL_law_1232 : decode cL_law 1232 = .ok (.aload_n 2, 1) := dq_i44 (dl_b (dl_b (dl_b (dl_b (dl_b (dl_b (dl_b dkL_law_1224).2).2).2).2).2).2).1
theorem dL_law_1233 : decode cL_law 1233 = .ok (.aload_n 0, 1) := dq_i42 (dl_b (dl_b (dl_b (dl_b (dl_b (dl_b (dl_b (dl_b dkL_law_1224).2).2).2).2).2).2).2).1
theorem dL_law_1234 : decode cL_law 1234 = .ok (.iload_n 3, 1) := dq_i29 (dl_b (dl_b (dl_b (dl_b (dl_b (dl_b (dl_b (dl_b (dl_b dkL_law_1224).2).2).2).2).2).2).2).2).1
theorem dL_law_1235 : decode cL_law 1235 = .ok (.iconst 1, 1) := dq_i4 (dl_b (dl_b (dl_b (dl_b (dl_b (dl_b (dl_b (dl_b (dl_b dkL_law_1224).2).2).2).2).2).2).2).2).2
theorem dkL_law_1236 : (dq_0 cL_law 1236 96 && (dq_0 cL_law 1237 46 && (dq_0 cL_law 1238 42 && (dq_0 cL_law 1239 29 && (dq_0 cL_law 1240 5 && (dq_0 cL_law 1241 96 && (dq_0 cL_law 1242 46 && (dq_2 cL_law 1243 182 140 && (dq_0 cL_law 1246 87 && (dq_4 cL_law 1247 167 49)))))))))) = true := by decide +kernel
theorem dL_law_1236 : decode cL_law 1236 = .ok (.iadd, 1) := dq_i96 (dl_b dkL_law_1236).1
theorem dL_law_1237 : decode cL_law 1237 = .ok (.iaload, 1) := dq_i46 (dl_b (dl_b dkL_law_1236).2).1
theorem dL_law_1238 : decode cL_law 1238 = .ok (.aload_n 0, 1) := dq_i42 (dl_b (dl_b (dl_b dkL_law_1236).2).2).1
theorem dL_law_1239 : decode cL_law 1239 = .ok (.iload_n 3, 1) := dq_i29 (dl_b (dl_b (dl_b (dl_b dkL_law_1236).2).2).2).1
theorem dL_law_1240 : decode cL_law 1240 = .ok (.iconst 2, 1) := dq_i5 (dl_b (dl_b (dl_b (dl_b (dl_b dkL_law_1236).2).2).2).2).1
theorem dL_law_1241 : decode cL_law 1241 = .ok (.iadd, 1) := dq_i96 (dl_b (dl_b (dl_b (dl_b (dl_b (dl_b dkL_law_1236).2).2).2).2).2).1
theorem dL_law_1242 : decode cL_law 1242 = .ok (.iaload, 1) := dq_i46 (dl_b (dl_b (dl_b (dl_b (dl_b (dl_b (dl_b dkL_law_1236).2).2).2).2).2).2).1
theorem dL_law_1243 : decode cL_law 1243 = .ok (.invokevirtual 140, 3) := dq_i182 (dl_b (dl_b (dl_b (dl_b (dl_b (dl_b (dl_b (dl_b dkL_law_1236).2).2).2).2).2).2).2).1
theorem dL_law_1246 : decode cL_law 1246 = .ok (.pop, 1) := dq_i87 (dl_b (dl_b (dl_b (dl_b (dl_b (dl_b (dl_b (dl_b (dl_b dkL_law_1236).2).2).2).2).2).2).2).2).1
theorem dL_law_1247 : decode cL_law 1247 = .ok (.goto 49, 3) := dq_i167 (dl_b (dl_b (dl_b (dl_b (dl_b (dl_b (dl_b (dl_b (dl_b dkL_law_1236).2).2).2).2).2).2).2).2).2
theorem dkL_law_1250 : (dq_0 cL_law 1250 43 && (dq_0 cL_law 1251 42 && (dq_0 cL_law 1252 29 && (dq_0 cL_law 1253 4 && (dq_0 cL_law 1254 96 && (dq_0 cL_law 1255 46 && (dq_2 cL_law 1256 182 141 && (dq_0 cL_law 1259 87 && (dq_0 cL_law 1260 44 && (dq_0 cL_law 1261 42)))))))))) = true := by decide +kernel
theorem dL_law_1250 : decode cL_law 1250 = .ok (.aload_n 1, 1) := dq_i43 (dl_b dkL_law_1250).1
theorem dL_law_1251 : decode cL_law 1251 = .ok (.aload_n 0, 1) := dq_i42 (dl_b (dl_b dkL_law_1250).2).1
theorem dL_law_1252 : decode cL_law 1252 = .ok (.iload_n 3, 1) := dq_i29 (dl_b (dl_b (dl_b dkL_law_1250).2).2).1
theorem dL_law_1253 : decode cL_law 1253 = .ok (.iconst 1, 1) := dq_i4 (dl_b (dl_b (dl_b (dl_b dkL_law_1250).2).2).2).1
theorem dL_law_1254 : decode cL_law 1254 = .ok (.iadd, 1) := dq_i96 (dl_b (dl_b (dl_b (dl_b (dl_b dkL_law_1250).2).2).2).2).1
theorem dL_law_1255 : decode cL_law 1255 = .ok (.iaload, 1) := dq_i46 (dl_b (dl_b (dl_b (dl_b (dl_b (dl_b dkL_law_1250).2).2).2).2).2).1
theorem dL_law_1256 : decode cL_law 1256 = .ok (.invokevirtual 141, 3) := dq_i182 (dl_b (dl_b (dl_b (dl_b (dl_b (dl_b (dl_b dkL_law_1250).2).2).2).2).2).2).1
theorem dL_law_1259 : decode cL_law 1259 = .ok (.pop, 1) := dq_i87 (dl_b (dl_b (dl_b (dl_b (dl_b (dl_b (dl_b (dl_b dkL_law_1250).2).2).2).2).2).2).2).1
theorem dL_law_1260 : decode cL_law 1260 = .ok (.aload_n 2, 1) := dq_i44 (dl_b (dl_b (dl_b (dl_b (dl_b (dl_b (dl_b (dl_b (dl_b dkL_law_1250).2).2).2).2).2).2).2).2).1
theorem dL_law_1261 : decode cL_law 1261 = .ok (.aload_n 0, 1) := dq_i42 (dl_b (dl_b (dl_b (dl_b (dl_b (dl_b (dl_b (dl_b (dl_b dkL_law_1250).2).2).2).2).2).2).2).2).2
theorem dkL_law_1262 : (dq_0 cL_law 1262 29 && (dq_0 cL_law 1263 4 && (dq_0 cL_law 1264 96 && (dq_0 cL_law 1265 46 && (dq_2 cL_law 1266 182 144 && (dq_0 cL_law 1269 87 && (dq_4 cL_law 1270 167 26 && (dq_0 cL_law 1273 43 && (dq_0 cL_law 1274 42 && (dq_0 cL_law 1275 29)))))))))) = true := by decide +kernel
theorem dL_law_1262 : decode cL_law 1262 = .ok (.iload_n 3, 1) := dq_i29 (dl_b dkL_law_1262).1
theorem dL_law_1263 : decode cL_law 1263 = .ok (.iconst 1, 1) := dq_i4 (dl_b (dl_b dkL_law_1262).2).1
theorem dL_law_1264 : decode cL_law 1264 = .ok (.iadd, 1) := dq_i96 (dl_b (dl_b (dl_b dkL_law_1262).2).2).1
theorem dL_law_1265 : decode cL_law 1265 = .ok (.iaload, 1) := dq_i46 (dl_b (dl_b (dl_b (dl_b dkL_law_1262).2).2).2).1
theorem dL_law_1266 : decode cL_law 1266 = .ok (.invokevirtual 144, 3) := dq_i182 (dl_b (dl_b (dl_b (dl_b (dl_b dkL_law_1262).2).2).2).2).1
theorem dL_law_1269 : decode cL_law 1269 = .ok (.pop, 1) := dq_i87 (dl_b (dl_b (dl_b (dl_b (dl_b (dl_b dkL_law_1262).2).2).2).2).2).1
theorem dL_law_1270 : decode cL_law 1270 = .ok (.goto 26, 3) := dq_i167 (dl_b (dl_b (dl_b (dl_b (dl_b (dl_b (dl_b dkL_law_1262).2).2).2).2).2).2).1
theorem dL_law_1273 : decode cL_law 1273 = .ok (.aload_n 1, 1) := dq_i43 (dl_b (dl_b (dl_b (dl_b (dl_b (dl_b (dl_b (dl_b dkL_law_1262).2).2).2).2).2).2).2).1
theorem dL_law_1274 : decode cL_law 1274 = .ok (.aload_n 0, 1) := dq_i42 (dl_b (dl_b (dl_b (dl_b (dl_b (dl_b (dl_b (dl_b (dl_b dkL_law_1262).2).2).2).2).2).2).2).2).1
theorem dL_law_1275 : decode cL_law 1275 = .ok (.iload_n 3, 1) := dq_i29 (dl_b (dl_b (dl_b (dl_b (dl_b (dl_b (dl_b (dl_b (dl_b dkL_law_1262).2).2).2).2).2).2).2).2).2
theorem dkL_law_1276 : (dq_0 cL_law 1276 4 && (dq_0 cL_law 1277 96 && (dq_0 cL_law 1278 46 && (dq_2 cL_law 1279 182 145 && (dq_0 cL_law 1282 87 && (dq_0 cL_law 1283 44 && (dq_0 cL_law 1284 42 && (dq_0 cL_law 1285 29 && (dq_0 cL_law 1286 4 && (dq_0 cL_law 1287 96)))))))))) = true := by decide +kernel
theorem dL_law_1276 : decode cL_law 1276 = .ok (.iconst 1, 1) := dq_i4 (dl_b dkL_law_1276).1
theorem dL_law_1277 : decode cL_law 1277 = .ok (.iadd, 1) := dq_i96 (dl_b (dl_b dkL_law_1276).2).1
theorem dL_law_1278 : decode cL_law 1278 = .ok (.iaload, 1) := dq_i46 (dl_b (dl_b (dl_b dkL_law_1276).2).2).1
theorem dL_law_1279 : decode cL_law 1279 = .ok (.invokevirtual 145, 3) := dq_i182 (dl_b (dl_b (dl_b (dl_b dkL_law_1276).2).2).2).1
theorem dL_law_1282 : decode cL_law 1282 = .ok (.pop, 1) := dq_i87 (dl_b (dl_b (dl_b (dl_b (dl_b dkL_law_1276).2).2).2).2).1
theorem dL_law_1283 : decode cL_law 1283 = .ok (.aload_n 2, 1) := dq_i44 (dl_b (dl_b (dl_b (dl_b (dl_b (dl_b dkL_law_1276).2).2).2).2).2).1
theorem dL_law_1284 : decode cL_law 1284 = .ok (.aload_n 0, 1) := dq_i42 (dl_b (dl_b (dl_b (dl_b (dl_b (dl_b (dl_b dkL_law_1276).2).2).2).2).2).2).1
theorem dL_law_1285 : decode cL_law 1285 = .ok (.iload_n 3, 1) := dq_i29 (dl_b (dl_b (dl_b (dl_b (dl_b (dl_b (dl_b (dl_b dkL_law_1276).2).2).2).2).2).2).2).1
theorem dL_law_1286 : decode cL_law 1286 = .ok (.iconst 1, 1) := dq_i4 (dl_b (dl_b (dl_b (dl_b (dl_b (dl_b (dl_b (dl_b (dl_b dkL_law_1276).2).2).2).2).2).2).2).2).1
theorem dL_law_1287 : decode cL_law 1287 = .ok (.iadd, 1) := dq_i96 (dl_b (dl_b (dl_b (dl_b (dl_b (dl_b (dl_b (dl_b (dl_b dkL_law_1276).2).2).2).2).2).2).2).2).2
theorem dkL_law_1288 : (dq_0 cL_law 1288 46 && (dq_2 cL_law 1289 182 148 && (dq_0 cL_law 1292 87 && (dq_4 cL_law 1293 167 3 && (dq_5 cL_law 1296 132 3 6 && (dq_4 cL_law 1299 167 (-1281) && (dq_0 cL_law 1302 4 && (dq_0 cL_law 1303 172)))))))) = true := by decide +kernel
theorem dL_law_1288 : decode cL_law 1288 = .ok (.iaload, 1) := dq_i46 (dl_b dkL_law_1288).1
theorem dL_law_1289 : decode cL_law 1289 = .ok (.invokevirtual 148, 3) := dq_i182 (dl_b (dl_b dkL_law_1288).2).1
theorem dL_law_1292 : decode cL_law 1292 = .ok (.pop, 1) := dq_i87 (dl_b (dl_b (dl_b dkL_law_1288).2).2).1
theorem dL_law_1293 : decode cL_law 1293 = .ok (.goto 3, 3) := dq_i167 (dl_b (dl_b (dl_b (dl_b dkL_law_1288).2).2).2).1
theorem dL_law_1296 : decode cL_law 1296 = .ok (.iinc 3 6, 3) := dq_i132 (dl_b (dl_b (dl_b (dl_b (dl_b dkL_law_1288).2).2).2).2).1
theorem dL_law_1299 : decode cL_law 1299 = .ok (.goto (-1281), 3) := dq_i167 (dl_b (dl_b (dl_b (dl_b (dl_b (dl_b dkL_law_1288).2).2).2).2).2).1
theorem dL_law_1302 : decode cL_law 1302 = .ok (.iconst 1, 1) := dq_i4 (dl_b (dl_b (dl_b (dl_b (dl_b (dl_b (dl_b dkL_law_1288).2).2).2).2).2).2).1
theorem dL_law_1303 : decode cL_law 1303 = .ok (.ireturn, 1) := dq_i172 (dl_b (dl_b (dl_b (dl_b (dl_b (dl_b (dl_b dkL_law_1288).2).2).2).2).2).2).2
