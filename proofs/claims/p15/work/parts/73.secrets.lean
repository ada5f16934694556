abbrev c_ME_keys : ByteArray := prog_15_method_19_code
abbrev y_ME_keys : MethodName := ⟨"LatticeKeysModel$Secrets", "keys", "(I[B[B[B)V"⟩
abbrev w_ME_keys : List Cond := Cond.code y_ME_keys c_ME_keys 8 none :: WG
theorem dME_keys_0 : decode c_ME_keys 0 = .ok (.getstatic 62, 3) := by decide +kernel
theorem dME_keys_3 : decode c_ME_keys 3 = .ok (.iload_n 1, 1) := by decide +kernel
theorem dME_keys_4 : decode c_ME_keys 4 = .ok (.iaload, 1) := by decide +kernel
theorem dME_keys_5 : decode c_ME_keys 5 = .ok (.istore 5, 2) := by decide +kernel
theorem dME_keys_7 : decode c_ME_keys 7 = .ok (.aload_n 0, 1) := by decide +kernel
theorem dME_keys_8 : decode c_ME_keys 8 = .ok (.getfield 58, 3) := by decide +kernel
theorem dME_keys_11 : decode c_ME_keys 11 = .ok (.bipush 72, 2) := by decide +kernel
theorem dME_keys_13 : decode c_ME_keys 13 = .ok (.bipush 6, 2) := by decide +kernel
theorem dME_keys_15 : decode c_ME_keys 15 = .ok (.invokevirtual 71, 3) := by decide +kernel
theorem dME_keys_18 : decode c_ME_keys 18 = .ok (.aload_n 0, 1) := by decide +kernel
theorem dME_keys_19 : decode c_ME_keys 19 = .ok (.getfield 58, 3) := by decide +kernel
theorem dME_keys_22 : decode c_ME_keys 22 = .ok (.aload_n 2, 1) := by decide +kernel
theorem dME_keys_23 : decode c_ME_keys 23 = .ok (.iconst 0, 1) := by decide +kernel
theorem dME_keys_24 : decode c_ME_keys 24 = .ok (.bipush 32, 2) := by decide +kernel
theorem dME_keys_26 : decode c_ME_keys 26 = .ok (.invokevirtual 77, 3) := by decide +kernel
theorem dME_keys_29 : decode c_ME_keys 29 = .ok (.aload_n 0, 1) := by decide +kernel
theorem dME_keys_30 : decode c_ME_keys 30 = .ok (.getfield 58, 3) := by decide +kernel
theorem dME_keys_33 : decode c_ME_keys 33 = .ok (.iload 5, 2) := by decide +kernel
theorem dME_keys_35 : decode c_ME_keys 35 = .ok (.invokevirtual 81, 3) := by decide +kernel
theorem dME_keys_38 : decode c_ME_keys 38 = .ok (.aload_n 0, 1) := by decide +kernel
theorem dME_keys_39 : decode c_ME_keys 39 = .ok (.getfield 58, 3) := by decide +kernel
theorem dME_keys_42 : decode c_ME_keys 42 = .ok (.invokevirtual 84, 3) := by decide +kernel
theorem dME_keys_45 : decode c_ME_keys 45 = .ok (.aload_n 0, 1) := by decide +kernel
theorem dME_keys_46 : decode c_ME_keys 46 = .ok (.getfield 58, 3) := by decide +kernel
theorem dME_keys_49 : decode c_ME_keys 49 = .ok (.aload_n 0, 1) := by decide +kernel
theorem dME_keys_50 : decode c_ME_keys 50 = .ok (.getfield 42, 3) := by decide +kernel
theorem dME_keys_53 : decode c_ME_keys 53 = .ok (.iconst 0, 1) := by decide +kernel
theorem dME_keys_54 : decode c_ME_keys 54 = .ok (.bipush 64, 2) := by decide +kernel
theorem dME_keys_56 : decode c_ME_keys 56 = .ok (.invokevirtual 98, 3) := by decide +kernel
theorem dME_keys_59 : decode c_ME_keys 59 = .ok (.aload_n 0, 1) := by decide +kernel
theorem dME_keys_60 : decode c_ME_keys 60 = .ok (.aload_n 0, 1) := by decide +kernel
theorem dME_keys_61 : decode c_ME_keys 61 = .ok (.getfield 42, 3) := by decide +kernel
theorem dME_keys_64 : decode c_ME_keys 64 = .ok (.iconst 0, 1) := by decide +kernel
theorem dME_keys_65 : decode c_ME_keys 65 = .ok (.iload 5, 2) := by decide +kernel
theorem dME_keys_67 : decode c_ME_keys 67 = .ok (.invokevirtual 124, 3) := by decide +kernel
theorem dME_keys_70 : decode c_ME_keys 70 = .ok (.iconst 0, 1) := by decide +kernel
theorem dME_keys_71 : decode c_ME_keys 71 = .ok (.istore 6, 2) := by decide +kernel
theorem dME_keys_73 : decode c_ME_keys 73 = .ok (.iload 6, 2) := by decide +kernel
theorem dME_keys_75 : decode c_ME_keys 75 = .ok (.iload 5, 2) := by decide +kernel
theorem dME_keys_77 : decode c_ME_keys 77 = .ok (.if_icmp .ge 82, 3) := by decide +kernel
theorem dME_keys_80 : decode c_ME_keys 80 = .ok (.aload_n 0, 1) := by decide +kernel
theorem dME_keys_81 : decode c_ME_keys 81 = .ok (.aload_n 0, 1) := by decide +kernel
theorem dME_keys_82 : decode c_ME_keys 82 = .ok (.getfield 23, 3) := by decide +kernel
theorem dME_keys_85 : decode c_ME_keys 85 = .ok (.iload 6, 2) := by decide +kernel
theorem dME_keys_87 : decode c_ME_keys 87 = .ok (.aaload, 1) := by decide +kernel
theorem dME_keys_88 : decode c_ME_keys 88 = .ok (.aload_n 0, 1) := by decide +kernel
theorem dME_keys_89 : decode c_ME_keys 89 = .ok (.getfield 42, 3) := by decide +kernel
theorem dME_keys_92 : decode c_ME_keys 92 = .ok (.bipush 32, 2) := by decide +kernel
theorem dME_keys_94 : decode c_ME_keys 94 = .ok (.iload 6, 2) := by decide +kernel
theorem dME_keys_96 : decode c_ME_keys 96 = .ok (.getstatic 127, 3) := by decide +kernel
theorem dME_keys_99 : decode c_ME_keys 99 = .ok (.iload_n 1, 1) := by decide +kernel
theorem dME_keys_100 : decode c_ME_keys 100 = .ok (.iaload, 1) := by decide +kernel
theorem dME_keys_101 : decode c_ME_keys 101 = .ok (.invokevirtual 130, 3) := by decide +kernel
theorem dME_keys_104 : decode c_ME_keys 104 = .ok (.aload_n 0, 1) := by decide +kernel
theorem dME_keys_105 : decode c_ME_keys 105 = .ok (.aload_n 0, 1) := by decide +kernel
theorem dME_keys_106 : decode c_ME_keys 106 = .ok (.getfield 26, 3) := by decide +kernel
theorem dME_keys_109 : decode c_ME_keys 109 = .ok (.iload 6, 2) := by decide +kernel
theorem dME_keys_111 : decode c_ME_keys 111 = .ok (.aaload, 1) := by decide +kernel
theorem dME_keys_112 : decode c_ME_keys 112 = .ok (.aload_n 0, 1) := by decide +kernel
theorem dME_keys_113 : decode c_ME_keys 113 = .ok (.getfield 42, 3) := by decide +kernel
theorem dME_keys_116 : decode c_ME_keys 116 = .ok (.bipush 32, 2) := by decide +kernel
theorem dME_keys_118 : decode c_ME_keys 118 = .ok (.iload 5, 2) := by decide +kernel
theorem dME_keys_120 : decode c_ME_keys 120 = .ok (.iload 6, 2) := by decide +kernel
theorem dME_keys_122 : decode c_ME_keys 122 = .ok (.iadd, 1) := by decide +kernel
theorem dME_keys_123 : decode c_ME_keys 123 = .ok (.getstatic 127, 3) := by decide +kernel
theorem dME_keys_126 : decode c_ME_keys 126 = .ok (.iload_n 1, 1) := by decide +kernel
theorem dME_keys_127 : decode c_ME_keys 127 = .ok (.iaload, 1) := by decide +kernel
theorem dME_keys_128 : decode c_ME_keys 128 = .ok (.invokevirtual 130, 3) := by decide +kernel
theorem dME_keys_131 : decode c_ME_keys 131 = .ok (.aload_n 0, 1) := by decide +kernel
theorem dME_keys_132 : decode c_ME_keys 132 = .ok (.aload_n 0, 1) := by decide +kernel
theorem dME_keys_133 : decode c_ME_keys 133 = .ok (.getfield 23, 3) := by decide +kernel
theorem dME_keys_136 : decode c_ME_keys 136 = .ok (.iload 6, 2) := by decide +kernel
theorem dME_keys_138 : decode c_ME_keys 138 = .ok (.aaload, 1) := by decide +kernel
theorem dME_keys_139 : decode c_ME_keys 139 = .ok (.invokevirtual 134, 3) := by decide +kernel
theorem dME_keys_142 : decode c_ME_keys 142 = .ok (.aload_n 0, 1) := by decide +kernel
theorem dME_keys_143 : decode c_ME_keys 143 = .ok (.aload_n 0, 1) := by decide +kernel
theorem dME_keys_144 : decode c_ME_keys 144 = .ok (.getfield 26, 3) := by decide +kernel
theorem dME_keys_147 : decode c_ME_keys 147 = .ok (.iload 6, 2) := by decide +kernel
theorem dME_keys_149 : decode c_ME_keys 149 = .ok (.aaload, 1) := by decide +kernel
theorem dME_keys_150 : decode c_ME_keys 150 = .ok (.invokevirtual 134, 3) := by decide +kernel
theorem dME_keys_153 : decode c_ME_keys 153 = .ok (.iinc 6 1, 3) := by decide +kernel
theorem dME_keys_156 : decode c_ME_keys 156 = .ok (.goto (-83), 3) := by decide +kernel
theorem dME_keys_159 : decode c_ME_keys 159 = .ok (.iconst 0, 1) := by decide +kernel
theorem dME_keys_160 : decode c_ME_keys 160 = .ok (.istore 6, 2) := by decide +kernel
theorem dME_keys_162 : decode c_ME_keys 162 = .ok (.iload 6, 2) := by decide +kernel
theorem dME_keys_164 : decode c_ME_keys 164 = .ok (.iload 5, 2) := by decide +kernel
theorem dME_keys_166 : decode c_ME_keys 166 = .ok (.if_icmp .ge 94, 3) := by decide +kernel
theorem dME_keys_169 : decode c_ME_keys 169 = .ok (.iconst 0, 1) := by decide +kernel
theorem dME_keys_170 : decode c_ME_keys 170 = .ok (.istore 7, 2) := by decide +kernel
theorem dME_keys_172 : decode c_ME_keys 172 = .ok (.iload 7, 2) := by decide +kernel
theorem dME_keys_174 : decode c_ME_keys 174 = .ok (.iload 5, 2) := by decide +kernel
theorem dME_keys_176 : decode c_ME_keys 176 = .ok (.if_icmp .ge 39, 3) := by decide +kernel
theorem dME_keys_179 : decode c_ME_keys 179 = .ok (.aload_n 0, 1) := by decide +kernel
theorem dME_keys_180 : decode c_ME_keys 180 = .ok (.aload_n 0, 1) := by decide +kernel
theorem dME_keys_181 : decode c_ME_keys 181 = .ok (.getfield 20, 3) := by decide +kernel
theorem dME_keys_184 : decode c_ME_keys 184 = .ok (.iconst 4, 1) := by decide +kernel
theorem dME_keys_185 : decode c_ME_keys 185 = .ok (.iload 6, 2) := by decide +kernel
theorem dME_keys_187 : decode c_ME_keys 187 = .ok (.imul, 1) := by decide +kernel
theorem dME_keys_188 : decode c_ME_keys 188 = .ok (.iload 7, 2) := by decide +kernel
theorem dME_keys_190 : decode c_ME_keys 190 = .ok (.iadd, 1) := by decide +kernel
theorem dME_keys_191 : decode c_ME_keys 191 = .ok (.aaload, 1) := by decide +kernel
theorem dME_keys_192 : decode c_ME_keys 192 = .ok (.aload_n 0, 1) := by decide +kernel
theorem dME_keys_193 : decode c_ME_keys 193 = .ok (.getfield 23, 3) := by decide +kernel
theorem dME_keys_196 : decode c_ME_keys 196 = .ok (.iload 7, 2) := by decide +kernel
theorem dME_keys_198 : decode c_ME_keys 198 = .ok (.aaload, 1) := by decide +kernel
theorem dME_keys_199 : decode c_ME_keys 199 = .ok (.aload_n 0, 1) := by decide +kernel
theorem dME_keys_200 : decode c_ME_keys 200 = .ok (.getfield 26, 3) := by decide +kernel
theorem dME_keys_203 : decode c_ME_keys 203 = .ok (.iload 6, 2) := by decide +kernel
theorem dME_keys_205 : decode c_ME_keys 205 = .ok (.aaload, 1) := by decide +kernel
theorem dME_keys_206 : decode c_ME_keys 206 = .ok (.invokevirtual 136, 3) := by decide +kernel
theorem dME_keys_209 : decode c_ME_keys 209 = .ok (.iinc 7 1, 3) := by decide +kernel
theorem dME_keys_212 : decode c_ME_keys 212 = .ok (.goto (-40), 3) := by decide +kernel
theorem dME_keys_215 : decode c_ME_keys 215 = .ok (.aload_n 0, 1) := by decide +kernel
theorem dME_keys_216 : decode c_ME_keys 216 = .ok (.getfield 26, 3) := by decide +kernel
theorem dME_keys_219 : decode c_ME_keys 219 = .ok (.iload 6, 2) := by decide +kernel
theorem dME_keys_221 : decode c_ME_keys 221 = .ok (.aaload, 1) := by decide +kernel
theorem dME_keys_222 : decode c_ME_keys 222 = .ok (.aload_n 3, 1) := by decide +kernel
theorem dME_keys_223 : decode c_ME_keys 223 = .ok (.sipush 384, 3) := by decide +kernel
theorem dME_keys_226 : decode c_ME_keys 226 = .ok (.iload 6, 2) := by decide +kernel
theorem dME_keys_228 : decode c_ME_keys 228 = .ok (.imul, 1) := by decide +kernel
theorem dME_keys_229 : decode c_ME_keys 229 = .ok (.bipush 12, 2) := by decide +kernel
theorem dME_keys_231 : decode c_ME_keys 231 = .ok (.invokestatic 140, 3) := by decide +kernel
theorem dME_keys_234 : decode c_ME_keys 234 = .ok (.aload_n 0, 1) := by decide +kernel
theorem dME_keys_235 : decode c_ME_keys 235 = .ok (.getfield 23, 3) := by decide +kernel
theorem dME_keys_238 : decode c_ME_keys 238 = .ok (.iload 6, 2) := by decide +kernel
theorem dME_keys_240 : decode c_ME_keys 240 = .ok (.aaload, 1) := by decide +kernel
theorem dME_keys_241 : decode c_ME_keys 241 = .ok (.aload 4, 2) := by decide +kernel
theorem dME_keys_243 : decode c_ME_keys 243 = .ok (.sipush 384, 3) := by decide +kernel
theorem dME_keys_246 : decode c_ME_keys 246 = .ok (.iload 6, 2) := by decide +kernel
theorem dME_keys_248 : decode c_ME_keys 248 = .ok (.imul, 1) := by decide +kernel
theorem dME_keys_249 : decode c_ME_keys 249 = .ok (.bipush 12, 2) := by decide +kernel
theorem dME_keys_251 : decode c_ME_keys 251 = .ok (.invokestatic 140, 3) := by decide +kernel
theorem dME_keys_254 : decode c_ME_keys 254 = .ok (.iinc 6 1, 3) := by decide +kernel
theorem dME_keys_257 : decode c_ME_keys 257 = .ok (.goto (-95), 3) := by decide +kernel
theorem dME_keys_260 : decode c_ME_keys 260 = .ok (.iconst 0, 1) := by decide +kernel
theorem dME_keys_261 : decode c_ME_keys 261 = .ok (.istore 6, 2) := by decide +kernel
theorem dME_keys_263 : decode c_ME_keys 263 = .ok (.iload 6, 2) := by decide +kernel
theorem dME_keys_265 : decode c_ME_keys 265 = .ok (.bipush 32, 2) := by decide +kernel
theorem dME_keys_267 : decode c_ME_keys 267 = .ok (.if_icmp .ge 27, 3) := by decide +kernel
theorem dME_keys_270 : decode c_ME_keys 270 = .ok (.aload_n 3, 1) := by decide +kernel
theorem dME_keys_271 : decode c_ME_keys 271 = .ok (.sipush 384, 3) := by decide +kernel
theorem dME_keys_274 : decode c_ME_keys 274 = .ok (.iload 5, 2) := by decide +kernel
theorem dME_keys_276 : decode c_ME_keys 276 = .ok (.imul, 1) := by decide +kernel
theorem dME_keys_277 : decode c_ME_keys 277 = .ok (.iload 6, 2) := by decide +kernel
theorem dME_keys_279 : decode c_ME_keys 279 = .ok (.iadd, 1) := by decide +kernel
theorem dME_keys_280 : decode c_ME_keys 280 = .ok (.aload_n 0, 1) := by decide +kernel
theorem dME_keys_281 : decode c_ME_keys 281 = .ok (.getfield 42, 3) := by decide +kernel
theorem dME_keys_284 : decode c_ME_keys 284 = .ok (.iload 6, 2) := by decide +kernel
theorem dME_keys_286 : decode c_ME_keys 286 = .ok (.baload, 1) := by decide +kernel
theorem dME_keys_287 : decode c_ME_keys 287 = .ok (.bastore, 1) := by decide +kernel
theorem dME_keys_288 : decode c_ME_keys 288 = .ok (.iinc 6 1, 3) := by decide +kernel
theorem dME_keys_291 : decode c_ME_keys 291 = .ok (.goto (-28), 3) := by decide +kernel
theorem dME_keys_294 : decode c_ME_keys 294 = .ok (.iconst 0, 1) := by decide +kernel
theorem dME_keys_295 : decode c_ME_keys 295 = .ok (.istore 6, 2) := by decide +kernel
theorem dME_keys_297 : decode c_ME_keys 297 = .ok (.iload 6, 2) := by decide +kernel
theorem dME_keys_299 : decode c_ME_keys 299 = .ok (.iload_n 1, 1) := by decide +kernel
theorem dME_keys_300 : decode c_ME_keys 300 = .ok (.invokestatic 144, 3) := by decide +kernel
theorem dME_keys_303 : decode c_ME_keys 303 = .ok (.if_icmp .ge 25, 3) := by decide +kernel
theorem dME_keys_306 : decode c_ME_keys 306 = .ok (.aload 4, 2) := by decide +kernel
theorem dME_keys_308 : decode c_ME_keys 308 = .ok (.sipush 384, 3) := by decide +kernel
theorem dME_keys_311 : decode c_ME_keys 311 = .ok (.iload 5, 2) := by decide +kernel
theorem dME_keys_313 : decode c_ME_keys 313 = .ok (.imul, 1) := by decide +kernel
theorem dME_keys_314 : decode c_ME_keys 314 = .ok (.iload 6, 2) := by decide +kernel
theorem dME_keys_316 : decode c_ME_keys 316 = .ok (.iadd, 1) := by decide +kernel
theorem dME_keys_317 : decode c_ME_keys 317 = .ok (.aload_n 3, 1) := by decide +kernel
theorem dME_keys_318 : decode c_ME_keys 318 = .ok (.iload 6, 2) := by decide +kernel
theorem dME_keys_320 : decode c_ME_keys 320 = .ok (.baload, 1) := by decide +kernel
theorem dME_keys_321 : decode c_ME_keys 321 = .ok (.bastore, 1) := by decide +kernel
theorem dME_keys_322 : decode c_ME_keys 322 = .ok (.iinc 6 1, 3) := by decide +kernel
theorem dME_keys_325 : decode c_ME_keys 325 = .ok (.goto (-28), 3) := by decide +kernel
theorem dME_keys_328 : decode c_ME_keys 328 = .ok (.aload_n 0, 1) := by decide +kernel
theorem dME_keys_329 : decode c_ME_keys 329 = .ok (.aload_n 3, 1) := by decide +kernel
theorem dME_keys_330 : decode c_ME_keys 330 = .ok (.iconst 0, 1) := by decide +kernel
theorem dME_keys_331 : decode c_ME_keys 331 = .ok (.iload_n 1, 1) := by decide +kernel
theorem dME_keys_332 : decode c_ME_keys 332 = .ok (.invokestatic 144, 3) := by decide +kernel
theorem dME_keys_335 : decode c_ME_keys 335 = .ok (.aload 4, 2) := by decide +kernel
theorem dME_keys_337 : decode c_ME_keys 337 = .ok (.sipush 768, 3) := by decide +kernel
theorem dME_keys_340 : decode c_ME_keys 340 = .ok (.iload 5, 2) := by decide +kernel
theorem dME_keys_342 : decode c_ME_keys 342 = .ok (.imul, 1) := by decide +kernel
theorem dME_keys_343 : decode c_ME_keys 343 = .ok (.bipush 32, 2) := by decide +kernel
theorem dME_keys_345 : decode c_ME_keys 345 = .ok (.iadd, 1) := by decide +kernel
theorem dME_keys_346 : decode c_ME_keys 346 = .ok (.invokevirtual 148, 3) := by decide +kernel
theorem dME_keys_349 : decode c_ME_keys 349 = .ok (.iconst 0, 1) := by decide +kernel
theorem dME_keys_350 : decode c_ME_keys 350 = .ok (.istore 6, 2) := by decide +kernel
theorem dME_keys_352 : decode c_ME_keys 352 = .ok (.iload 6, 2) := by decide +kernel
theorem dME_keys_354 : decode c_ME_keys 354 = .ok (.bipush 32, 2) := by decide +kernel
theorem dME_keys_356 : decode c_ME_keys 356 = .ok (.if_icmp .ge 31, 3) := by decide +kernel
theorem dME_keys_359 : decode c_ME_keys 359 = .ok (.aload 4, 2) := by decide +kernel
theorem dME_keys_361 : decode c_ME_keys 361 = .ok (.sipush 768, 3) := by decide +kernel
theorem dME_keys_364 : decode c_ME_keys 364 = .ok (.iload 5, 2) := by decide +kernel
theorem dME_keys_366 : decode c_ME_keys 366 = .ok (.imul, 1) := by decide +kernel
theorem dME_keys_367 : decode c_ME_keys 367 = .ok (.bipush 64, 2) := by decide +kernel
theorem dME_keys_369 : decode c_ME_keys 369 = .ok (.iadd, 1) := by decide +kernel
theorem dME_keys_370 : decode c_ME_keys 370 = .ok (.iload 6, 2) := by decide +kernel
theorem dME_keys_372 : decode c_ME_keys 372 = .ok (.iadd, 1) := by decide +kernel
theorem dME_keys_373 : decode c_ME_keys 373 = .ok (.aload_n 2, 1) := by decide +kernel
theorem dME_keys_374 : decode c_ME_keys 374 = .ok (.bipush 32, 2) := by decide +kernel
theorem dME_keys_376 : decode c_ME_keys 376 = .ok (.iload 6, 2) := by decide +kernel
theorem dME_keys_378 : decode c_ME_keys 378 = .ok (.iadd, 1) := by decide +kernel
theorem dME_keys_379 : decode c_ME_keys 379 = .ok (.baload, 1) := by decide +kernel
theorem dME_keys_380 : decode c_ME_keys 380 = .ok (.bastore, 1) := by decide +kernel
theorem dME_keys_381 : decode c_ME_keys 381 = .ok (.iinc 6 1, 3) := by decide +kernel
theorem dME_keys_384 : decode c_ME_keys 384 = .ok (.goto (-32), 3) := by decide +kernel
theorem dME_keys_387 : decode c_ME_keys 387 = .ok (.return_, 1) := by decide +kernel
abbrev c_ME_encrypt : ByteArray := prog_15_method_20_code
abbrev y_ME_encrypt : MethodName := ⟨"LatticeKeysModel$Secrets", "encrypt", "(I[BI[B[B)V"⟩
abbrev w_ME_encrypt : List Cond := Cond.code y_ME_encrypt c_ME_encrypt 9 none :: WG
theorem dME_encrypt_0 : decode c_ME_encrypt 0 = .ok (.getstatic 62, 3) := by decide +kernel
theorem dME_encrypt_3 : decode c_ME_encrypt 3 = .ok (.iload_n 1, 1) := by decide +kernel
theorem dME_encrypt_4 : decode c_ME_encrypt 4 = .ok (.iaload, 1) := by decide +kernel
theorem dME_encrypt_5 : decode c_ME_encrypt 5 = .ok (.istore 6, 2) := by decide +kernel
theorem dME_encrypt_7 : decode c_ME_encrypt 7 = .ok (.aload_n 0, 1) := by decide +kernel
theorem dME_encrypt_8 : decode c_ME_encrypt 8 = .ok (.aload_n 2, 1) := by decide +kernel
theorem dME_encrypt_9 : decode c_ME_encrypt 9 = .ok (.iload_n 3, 1) := by decide +kernel
theorem dME_encrypt_10 : decode c_ME_encrypt 10 = .ok (.sipush 384, 3) := by decide +kernel
theorem dME_encrypt_13 : decode c_ME_encrypt 13 = .ok (.iload 6, 2) := by decide +kernel
theorem dME_encrypt_15 : decode c_ME_encrypt 15 = .ok (.imul, 1) := by decide +kernel
theorem dME_encrypt_16 : decode c_ME_encrypt 16 = .ok (.iadd, 1) := by decide +kernel
theorem dME_encrypt_17 : decode c_ME_encrypt 17 = .ok (.iload 6, 2) := by decide +kernel
theorem dME_encrypt_19 : decode c_ME_encrypt 19 = .ok (.invokevirtual 124, 3) := by decide +kernel
theorem dME_encrypt_22 : decode c_ME_encrypt 22 = .ok (.iconst 0, 1) := by decide +kernel
theorem dME_encrypt_23 : decode c_ME_encrypt 23 = .ok (.istore 7, 2) := by decide +kernel
theorem dME_encrypt_25 : decode c_ME_encrypt 25 = .ok (.iload 7, 2) := by decide +kernel
theorem dME_encrypt_27 : decode c_ME_encrypt 27 = .ok (.iload 6, 2) := by decide +kernel
theorem dME_encrypt_29 : decode c_ME_encrypt 29 = .ok (.if_icmp .ge 98, 3) := by decide +kernel
theorem dME_encrypt_32 : decode c_ME_encrypt 32 = .ok (.aload_n 2, 1) := by decide +kernel
theorem dME_encrypt_33 : decode c_ME_encrypt 33 = .ok (.iload_n 3, 1) := by decide +kernel
theorem dME_encrypt_34 : decode c_ME_encrypt 34 = .ok (.sipush 384, 3) := by decide +kernel
theorem dME_encrypt_37 : decode c_ME_encrypt 37 = .ok (.iload 7, 2) := by decide +kernel
theorem dME_encrypt_39 : decode c_ME_encrypt 39 = .ok (.imul, 1) := by decide +kernel
theorem dME_encrypt_40 : decode c_ME_encrypt 40 = .ok (.iadd, 1) := by decide +kernel
theorem dME_encrypt_41 : decode c_ME_encrypt 41 = .ok (.bipush 12, 2) := by decide +kernel
theorem dME_encrypt_43 : decode c_ME_encrypt 43 = .ok (.aload_n 0, 1) := by decide +kernel
theorem dME_encrypt_44 : decode c_ME_encrypt 44 = .ok (.getfield 29, 3) := by decide +kernel
theorem dME_encrypt_47 : decode c_ME_encrypt 47 = .ok (.iload 7, 2) := by decide +kernel
theorem dME_encrypt_49 : decode c_ME_encrypt 49 = .ok (.aaload, 1) := by decide +kernel
theorem dME_encrypt_50 : decode c_ME_encrypt 50 = .ok (.invokestatic 151, 3) := by decide +kernel
theorem dME_encrypt_53 : decode c_ME_encrypt 53 = .ok (.aload_n 0, 1) := by decide +kernel
theorem dME_encrypt_54 : decode c_ME_encrypt 54 = .ok (.getfield 29, 3) := by decide +kernel
theorem dME_encrypt_57 : decode c_ME_encrypt 57 = .ok (.iload 7, 2) := by decide +kernel
theorem dME_encrypt_59 : decode c_ME_encrypt 59 = .ok (.aaload, 1) := by decide +kernel
theorem dME_encrypt_60 : decode c_ME_encrypt 60 = .ok (.invokestatic 155, 3) := by decide +kernel
theorem dME_encrypt_63 : decode c_ME_encrypt 63 = .ok (.aload_n 0, 1) := by decide +kernel
theorem dME_encrypt_64 : decode c_ME_encrypt 64 = .ok (.aload_n 0, 1) := by decide +kernel
theorem dME_encrypt_65 : decode c_ME_encrypt 65 = .ok (.getfield 23, 3) := by decide +kernel
theorem dME_encrypt_68 : decode c_ME_encrypt 68 = .ok (.iload 7, 2) := by decide +kernel
theorem dME_encrypt_70 : decode c_ME_encrypt 70 = .ok (.aaload, 1) := by decide +kernel
theorem dME_encrypt_71 : decode c_ME_encrypt 71 = .ok (.aload_n 0, 1) := by decide +kernel
theorem dME_encrypt_72 : decode c_ME_encrypt 72 = .ok (.getfield 42, 3) := by decide +kernel
theorem dME_encrypt_75 : decode c_ME_encrypt 75 = .ok (.bipush 32, 2) := by decide +kernel
theorem dME_encrypt_77 : decode c_ME_encrypt 77 = .ok (.iload 7, 2) := by decide +kernel
theorem dME_encrypt_79 : decode c_ME_encrypt 79 = .ok (.getstatic 127, 3) := by decide +kernel
theorem dME_encrypt_82 : decode c_ME_encrypt 82 = .ok (.iload_n 1, 1) := by decide +kernel
theorem dME_encrypt_83 : decode c_ME_encrypt 83 = .ok (.iaload, 1) := by decide +kernel
theorem dME_encrypt_84 : decode c_ME_encrypt 84 = .ok (.invokevirtual 130, 3) := by decide +kernel
theorem dME_encrypt_87 : decode c_ME_encrypt 87 = .ok (.aload_n 0, 1) := by decide +kernel
theorem dME_encrypt_88 : decode c_ME_encrypt 88 = .ok (.aload_n 0, 1) := by decide +kernel
theorem dME_encrypt_89 : decode c_ME_encrypt 89 = .ok (.getfield 26, 3) := by decide +kernel
theorem dME_encrypt_92 : decode c_ME_encrypt 92 = .ok (.iload 7, 2) := by decide +kernel
theorem dME_encrypt_94 : decode c_ME_encrypt 94 = .ok (.aaload, 1) := by decide +kernel
theorem dME_encrypt_95 : decode c_ME_encrypt 95 = .ok (.aload_n 0, 1) := by decide +kernel
theorem dME_encrypt_96 : decode c_ME_encrypt 96 = .ok (.getfield 42, 3) := by decide +kernel
theorem dME_encrypt_99 : decode c_ME_encrypt 99 = .ok (.bipush 32, 2) := by decide +kernel
theorem dME_encrypt_101 : decode c_ME_encrypt 101 = .ok (.iload 6, 2) := by decide +kernel
theorem dME_encrypt_103 : decode c_ME_encrypt 103 = .ok (.iload 7, 2) := by decide +kernel
theorem dME_encrypt_105 : decode c_ME_encrypt 105 = .ok (.iadd, 1) := by decide +kernel
theorem dME_encrypt_106 : decode c_ME_encrypt 106 = .ok (.iconst 2, 1) := by decide +kernel
theorem dME_encrypt_107 : decode c_ME_encrypt 107 = .ok (.invokevirtual 130, 3) := by decide +kernel
theorem dME_encrypt_110 : decode c_ME_encrypt 110 = .ok (.aload_n 0, 1) := by decide +kernel
theorem dME_encrypt_111 : decode c_ME_encrypt 111 = .ok (.aload_n 0, 1) := by decide +kernel
theorem dME_encrypt_112 : decode c_ME_encrypt 112 = .ok (.getfield 23, 3) := by decide +kernel
theorem dME_encrypt_115 : decode c_ME_encrypt 115 = .ok (.iload 7, 2) := by decide +kernel
theorem dME_encrypt_117 : decode c_ME_encrypt 117 = .ok (.aaload, 1) := by decide +kernel
theorem dME_encrypt_118 : decode c_ME_encrypt 118 = .ok (.invokevirtual 134, 3) := by decide +kernel
theorem dME_encrypt_121 : decode c_ME_encrypt 121 = .ok (.iinc 7 1, 3) := by decide +kernel
theorem dME_encrypt_124 : decode c_ME_encrypt 124 = .ok (.goto (-99), 3) := by decide +kernel
theorem dME_encrypt_127 : decode c_ME_encrypt 127 = .ok (.iconst 0, 1) := by decide +kernel
theorem dME_encrypt_128 : decode c_ME_encrypt 128 = .ok (.istore 7, 2) := by decide +kernel
theorem dME_encrypt_130 : decode c_ME_encrypt 130 = .ok (.iload 7, 2) := by decide +kernel
theorem dME_encrypt_132 : decode c_ME_encrypt 132 = .ok (.iload 6, 2) := by decide +kernel
theorem dME_encrypt_134 : decode c_ME_encrypt 134 = .ok (.if_icmp .ge 118, 3) := by decide +kernel
theorem dME_encrypt_137 : decode c_ME_encrypt 137 = .ok (.aload_n 0, 1) := by decide +kernel
theorem dME_encrypt_138 : decode c_ME_encrypt 138 = .ok (.getfield 32, 3) := by decide +kernel
theorem dME_encrypt_141 : decode c_ME_encrypt 141 = .ok (.invokestatic 158, 3) := by decide +kernel
theorem dME_encrypt_144 : decode c_ME_encrypt 144 = .ok (.iconst 0, 1) := by decide +kernel
theorem dME_encrypt_145 : decode c_ME_encrypt 145 = .ok (.istore 8, 2) := by decide +kernel
theorem dME_encrypt_147 : decode c_ME_encrypt 147 = .ok (.iload 8, 2) := by decide +kernel
theorem dME_encrypt_149 : decode c_ME_encrypt 149 = .ok (.iload 6, 2) := by decide +kernel
theorem dME_encrypt_151 : decode c_ME_encrypt 151 = .ok (.if_icmp .ge 36, 3) := by decide +kernel
theorem dME_encrypt_154 : decode c_ME_encrypt 154 = .ok (.aload_n 0, 1) := by decide +kernel
theorem dME_encrypt_155 : decode c_ME_encrypt 155 = .ok (.aload_n 0, 1) := by decide +kernel
theorem dME_encrypt_156 : decode c_ME_encrypt 156 = .ok (.getfield 20, 3) := by decide +kernel
theorem dME_encrypt_159 : decode c_ME_encrypt 159 = .ok (.iconst 4, 1) := by decide +kernel
theorem dME_encrypt_160 : decode c_ME_encrypt 160 = .ok (.iload 8, 2) := by decide +kernel
theorem dME_encrypt_162 : decode c_ME_encrypt 162 = .ok (.imul, 1) := by decide +kernel
theorem dME_encrypt_163 : decode c_ME_encrypt 163 = .ok (.iload 7, 2) := by decide +kernel
theorem dME_encrypt_165 : decode c_ME_encrypt 165 = .ok (.iadd, 1) := by decide +kernel
theorem dME_encrypt_166 : decode c_ME_encrypt 166 = .ok (.aaload, 1) := by decide +kernel
theorem dME_encrypt_167 : decode c_ME_encrypt 167 = .ok (.aload_n 0, 1) := by decide +kernel
theorem dME_encrypt_168 : decode c_ME_encrypt 168 = .ok (.getfield 23, 3) := by decide +kernel
theorem dME_encrypt_171 : decode c_ME_encrypt 171 = .ok (.iload 8, 2) := by decide +kernel
theorem dME_encrypt_173 : decode c_ME_encrypt 173 = .ok (.aaload, 1) := by decide +kernel
theorem dME_encrypt_174 : decode c_ME_encrypt 174 = .ok (.aload_n 0, 1) := by decide +kernel
theorem dME_encrypt_175 : decode c_ME_encrypt 175 = .ok (.getfield 32, 3) := by decide +kernel
theorem dME_encrypt_178 : decode c_ME_encrypt 178 = .ok (.invokevirtual 136, 3) := by decide +kernel
theorem dME_encrypt_181 : decode c_ME_encrypt 181 = .ok (.iinc 8 1, 3) := by decide +kernel
theorem dME_encrypt_184 : decode c_ME_encrypt 184 = .ok (.goto (-37), 3) := by decide +kernel
theorem dME_encrypt_187 : decode c_ME_encrypt 187 = .ok (.aload_n 0, 1) := by decide +kernel
theorem dME_encrypt_188 : decode c_ME_encrypt 188 = .ok (.aload_n 0, 1) := by decide +kernel
theorem dME_encrypt_189 : decode c_ME_encrypt 189 = .ok (.getfield 32, 3) := by decide +kernel
theorem dME_encrypt_192 : decode c_ME_encrypt 192 = .ok (.invokevirtual 161, 3) := by decide +kernel
theorem dME_encrypt_195 : decode c_ME_encrypt 195 = .ok (.aload_n 0, 1) := by decide +kernel
theorem dME_encrypt_196 : decode c_ME_encrypt 196 = .ok (.getfield 32, 3) := by decide +kernel
theorem dME_encrypt_199 : decode c_ME_encrypt 199 = .ok (.aload_n 0, 1) := by decide +kernel
theorem dME_encrypt_200 : decode c_ME_encrypt 200 = .ok (.getfield 26, 3) := by decide +kernel
theorem dME_encrypt_203 : decode c_ME_encrypt 203 = .ok (.iload 7, 2) := by decide +kernel
theorem dME_encrypt_205 : decode c_ME_encrypt 205 = .ok (.aaload, 1) := by decide +kernel
theorem dME_encrypt_206 : decode c_ME_encrypt 206 = .ok (.invokestatic 163, 3) := by decide +kernel
theorem dME_encrypt_209 : decode c_ME_encrypt 209 = .ok (.aload_n 0, 1) := by decide +kernel
theorem dME_encrypt_210 : decode c_ME_encrypt 210 = .ok (.getfield 32, 3) := by decide +kernel
theorem dME_encrypt_213 : decode c_ME_encrypt 213 = .ok (.getstatic 65, 3) := by decide +kernel
theorem dME_encrypt_216 : decode c_ME_encrypt 216 = .ok (.iload_n 1, 1) := by decide +kernel
theorem dME_encrypt_217 : decode c_ME_encrypt 217 = .ok (.iaload, 1) := by decide +kernel
theorem dME_encrypt_218 : decode c_ME_encrypt 218 = .ok (.invokestatic 167, 3) := by decide +kernel
theorem dME_encrypt_221 : decode c_ME_encrypt 221 = .ok (.aload_n 0, 1) := by decide +kernel
theorem dME_encrypt_222 : decode c_ME_encrypt 222 = .ok (.getfield 32, 3) := by decide +kernel
theorem dME_encrypt_225 : decode c_ME_encrypt 225 = .ok (.aload 5, 2) := by decide +kernel
theorem dME_encrypt_227 : decode c_ME_encrypt 227 = .ok (.bipush 32, 2) := by decide +kernel
theorem dME_encrypt_229 : decode c_ME_encrypt 229 = .ok (.getstatic 65, 3) := by decide +kernel
theorem dME_encrypt_232 : decode c_ME_encrypt 232 = .ok (.iload_n 1, 1) := by decide +kernel
theorem dME_encrypt_233 : decode c_ME_encrypt 233 = .ok (.iaload, 1) := by decide +kernel
theorem dME_encrypt_234 : decode c_ME_encrypt 234 = .ok (.imul, 1) := by decide +kernel
theorem dME_encrypt_235 : decode c_ME_encrypt 235 = .ok (.iload 7, 2) := by decide +kernel
theorem dME_encrypt_237 : decode c_ME_encrypt 237 = .ok (.imul, 1) := by decide +kernel
theorem dME_encrypt_238 : decode c_ME_encrypt 238 = .ok (.getstatic 65, 3) := by decide +kernel
theorem dME_encrypt_241 : decode c_ME_encrypt 241 = .ok (.iload_n 1, 1) := by decide +kernel
theorem dME_encrypt_242 : decode c_ME_encrypt 242 = .ok (.iaload, 1) := by decide +kernel
theorem dME_encrypt_243 : decode c_ME_encrypt 243 = .ok (.invokestatic 140, 3) := by decide +kernel
theorem dME_encrypt_246 : decode c_ME_encrypt 246 = .ok (.iinc 7 1, 3) := by decide +kernel
theorem dME_encrypt_249 : decode c_ME_encrypt 249 = .ok (.goto (-119), 3) := by decide +kernel
theorem dME_encrypt_252 : decode c_ME_encrypt 252 = .ok (.aload_n 0, 1) := by decide +kernel
theorem dME_encrypt_253 : decode c_ME_encrypt 253 = .ok (.getfield 32, 3) := by decide +kernel
theorem dME_encrypt_256 : decode c_ME_encrypt 256 = .ok (.invokestatic 158, 3) := by decide +kernel
theorem dME_encrypt_259 : decode c_ME_encrypt 259 = .ok (.iconst 0, 1) := by decide +kernel
theorem dME_encrypt_260 : decode c_ME_encrypt 260 = .ok (.istore 7, 2) := by decide +kernel
theorem dME_encrypt_262 : decode c_ME_encrypt 262 = .ok (.iload 7, 2) := by decide +kernel
theorem dME_encrypt_264 : decode c_ME_encrypt 264 = .ok (.iload 6, 2) := by decide +kernel
theorem dME_encrypt_266 : decode c_ME_encrypt 266 = .ok (.if_icmp .ge 31, 3) := by decide +kernel
theorem dME_encrypt_269 : decode c_ME_encrypt 269 = .ok (.aload_n 0, 1) := by decide +kernel
theorem dME_encrypt_270 : decode c_ME_encrypt 270 = .ok (.aload_n 0, 1) := by decide +kernel
theorem dME_encrypt_271 : decode c_ME_encrypt 271 = .ok (.getfield 29, 3) := by decide +kernel
theorem dME_encrypt_274 : decode c_ME_encrypt 274 = .ok (.iload 7, 2) := by decide +kernel
theorem dME_encrypt_276 : decode c_ME_encrypt 276 = .ok (.aaload, 1) := by decide +kernel
theorem dME_encrypt_277 : decode c_ME_encrypt 277 = .ok (.aload_n 0, 1) := by decide +kernel
theorem dME_encrypt_278 : decode c_ME_encrypt 278 = .ok (.getfield 23, 3) := by decide +kernel
theorem dME_encrypt_281 : decode c_ME_encrypt 281 = .ok (.iload 7, 2) := by decide +kernel
theorem dME_encrypt_283 : decode c_ME_encrypt 283 = .ok (.aaload, 1) := by decide +kernel
theorem dME_encrypt_284 : decode c_ME_encrypt 284 = .ok (.aload_n 0, 1) := by decide +kernel
theorem dME_encrypt_285 : decode c_ME_encrypt 285 = .ok (.getfield 32, 3) := by decide +kernel
theorem dME_encrypt_288 : decode c_ME_encrypt 288 = .ok (.invokevirtual 136, 3) := by decide +kernel
theorem dME_encrypt_291 : decode c_ME_encrypt 291 = .ok (.iinc 7 1, 3) := by decide +kernel
theorem dME_encrypt_294 : decode c_ME_encrypt 294 = .ok (.goto (-32), 3) := by decide +kernel
theorem dME_encrypt_297 : decode c_ME_encrypt 297 = .ok (.aload_n 0, 1) := by decide +kernel
theorem dME_encrypt_298 : decode c_ME_encrypt 298 = .ok (.aload_n 0, 1) := by decide +kernel
theorem dME_encrypt_299 : decode c_ME_encrypt 299 = .ok (.getfield 32, 3) := by decide +kernel
theorem dME_encrypt_302 : decode c_ME_encrypt 302 = .ok (.invokevirtual 161, 3) := by decide +kernel
theorem dME_encrypt_305 : decode c_ME_encrypt 305 = .ok (.aload_n 0, 1) := by decide +kernel
theorem dME_encrypt_306 : decode c_ME_encrypt 306 = .ok (.aload_n 0, 1) := by decide +kernel
theorem dME_encrypt_307 : decode c_ME_encrypt 307 = .ok (.getfield 36, 3) := by decide +kernel
theorem dME_encrypt_310 : decode c_ME_encrypt 310 = .ok (.aload_n 0, 1) := by decide +kernel
theorem dME_encrypt_311 : decode c_ME_encrypt 311 = .ok (.getfield 42, 3) := by decide +kernel
theorem dME_encrypt_314 : decode c_ME_encrypt 314 = .ok (.bipush 32, 2) := by decide +kernel
theorem dME_encrypt_316 : decode c_ME_encrypt 316 = .ok (.iconst 2, 1) := by decide +kernel
theorem dME_encrypt_317 : decode c_ME_encrypt 317 = .ok (.iload 6, 2) := by decide +kernel
theorem dME_encrypt_319 : decode c_ME_encrypt 319 = .ok (.imul, 1) := by decide +kernel
theorem dME_encrypt_320 : decode c_ME_encrypt 320 = .ok (.iconst 2, 1) := by decide +kernel
theorem dME_encrypt_321 : decode c_ME_encrypt 321 = .ok (.invokevirtual 130, 3) := by decide +kernel
theorem dME_encrypt_324 : decode c_ME_encrypt 324 = .ok (.aload_n 0, 1) := by decide +kernel
theorem dME_encrypt_325 : decode c_ME_encrypt 325 = .ok (.getfield 32, 3) := by decide +kernel
theorem dME_encrypt_328 : decode c_ME_encrypt 328 = .ok (.aload_n 0, 1) := by decide +kernel
theorem dME_encrypt_329 : decode c_ME_encrypt 329 = .ok (.getfield 36, 3) := by decide +kernel
theorem dME_encrypt_332 : decode c_ME_encrypt 332 = .ok (.invokestatic 163, 3) := by decide +kernel
theorem dME_encrypt_335 : decode c_ME_encrypt 335 = .ok (.aload 4, 2) := by decide +kernel
theorem dME_encrypt_337 : decode c_ME_encrypt 337 = .ok (.iconst 0, 1) := by decide +kernel
theorem dME_encrypt_338 : decode c_ME_encrypt 338 = .ok (.iconst 1, 1) := by decide +kernel
theorem dME_encrypt_339 : decode c_ME_encrypt 339 = .ok (.aload_n 0, 1) := by decide +kernel
theorem dME_encrypt_340 : decode c_ME_encrypt 340 = .ok (.getfield 36, 3) := by decide +kernel
theorem dME_encrypt_343 : decode c_ME_encrypt 343 = .ok (.invokestatic 151, 3) := by decide +kernel
theorem dME_encrypt_346 : decode c_ME_encrypt 346 = .ok (.aload_n 0, 1) := by decide +kernel
theorem dME_encrypt_347 : decode c_ME_encrypt 347 = .ok (.getfield 36, 3) := by decide +kernel
theorem dME_encrypt_350 : decode c_ME_encrypt 350 = .ok (.iconst 1, 1) := by decide +kernel
theorem dME_encrypt_351 : decode c_ME_encrypt 351 = .ok (.invokestatic 171, 3) := by decide +kernel
theorem dME_encrypt_354 : decode c_ME_encrypt 354 = .ok (.aload_n 0, 1) := by decide +kernel
theorem dME_encrypt_355 : decode c_ME_encrypt 355 = .ok (.getfield 32, 3) := by decide +kernel
theorem dME_encrypt_358 : decode c_ME_encrypt 358 = .ok (.aload_n 0, 1) := by decide +kernel
theorem dME_encrypt_359 : decode c_ME_encrypt 359 = .ok (.getfield 36, 3) := by decide +kernel
theorem dME_encrypt_362 : decode c_ME_encrypt 362 = .ok (.invokestatic 163, 3) := by decide +kernel
theorem dME_encrypt_365 : decode c_ME_encrypt 365 = .ok (.aload_n 0, 1) := by decide +kernel
theorem dME_encrypt_366 : decode c_ME_encrypt 366 = .ok (.getfield 32, 3) := by decide +kernel
theorem dME_encrypt_369 : decode c_ME_encrypt 369 = .ok (.getstatic 68, 3) := by decide +kernel
theorem dME_encrypt_372 : decode c_ME_encrypt 372 = .ok (.iload_n 1, 1) := by decide +kernel
theorem dME_encrypt_373 : decode c_ME_encrypt 373 = .ok (.iaload, 1) := by decide +kernel
theorem dME_encrypt_374 : decode c_ME_encrypt 374 = .ok (.invokestatic 167, 3) := by decide +kernel
theorem dME_encrypt_377 : decode c_ME_encrypt 377 = .ok (.aload_n 0, 1) := by decide +kernel
theorem dME_encrypt_378 : decode c_ME_encrypt 378 = .ok (.getfield 32, 3) := by decide +kernel
theorem dME_encrypt_381 : decode c_ME_encrypt 381 = .ok (.aload 5, 2) := by decide +kernel
theorem dME_encrypt_383 : decode c_ME_encrypt 383 = .ok (.bipush 32, 2) := by decide +kernel
theorem dME_encrypt_385 : decode c_ME_encrypt 385 = .ok (.getstatic 65, 3) := by decide +kernel
theorem dME_encrypt_388 : decode c_ME_encrypt 388 = .ok (.iload_n 1, 1) := by decide +kernel
theorem dME_encrypt_389 : decode c_ME_encrypt 389 = .ok (.iaload, 1) := by decide +kernel
theorem dME_encrypt_390 : decode c_ME_encrypt 390 = .ok (.imul, 1) := by decide +kernel
theorem dME_encrypt_391 : decode c_ME_encrypt 391 = .ok (.iload 6, 2) := by decide +kernel
theorem dME_encrypt_393 : decode c_ME_encrypt 393 = .ok (.imul, 1) := by decide +kernel
theorem dME_encrypt_394 : decode c_ME_encrypt 394 = .ok (.getstatic 68, 3) := by decide +kernel
theorem dME_encrypt_397 : decode c_ME_encrypt 397 = .ok (.iload_n 1, 1) := by decide +kernel
theorem dME_encrypt_398 : decode c_ME_encrypt 398 = .ok (.iaload, 1) := by decide +kernel
theorem dME_encrypt_399 : decode c_ME_encrypt 399 = .ok (.invokestatic 140, 3) := by decide +kernel
theorem dME_encrypt_402 : decode c_ME_encrypt 402 = .ok (.return_, 1) := by decide +kernel
abbrev c_ME_seal : ByteArray := prog_15_method_22_code
abbrev y_ME_seal : MethodName := ⟨"LatticeKeysModel$Secrets", "seal", "(I[B[B[B)I"⟩
abbrev w_ME_seal : List Cond := Cond.code y_ME_seal c_ME_seal 7 (some .int) :: WG
theorem dME_seal_0 : decode c_ME_seal 0 = .ok (.aload_n 0, 1) := by decide +kernel
theorem dME_seal_1 : decode c_ME_seal 1 = .ok (.aload_n 2, 1) := by decide +kernel
theorem dME_seal_2 : decode c_ME_seal 2 = .ok (.iconst 0, 1) := by decide +kernel
theorem dME_seal_3 : decode c_ME_seal 3 = .ok (.iload_n 1, 1) := by decide +kernel
theorem dME_seal_4 : decode c_ME_seal 4 = .ok (.invokestatic 144, 3) := by decide +kernel
theorem dME_seal_7 : decode c_ME_seal 7 = .ok (.aload_n 0, 1) := by decide +kernel
theorem dME_seal_8 : decode c_ME_seal 8 = .ok (.getfield 49, 3) := by decide +kernel
theorem dME_seal_11 : decode c_ME_seal 11 = .ok (.iconst 0, 1) := by decide +kernel
theorem dME_seal_12 : decode c_ME_seal 12 = .ok (.invokevirtual 148, 3) := by decide +kernel
theorem dME_seal_15 : decode c_ME_seal 15 = .ok (.aload_n 0, 1) := by decide +kernel
theorem dME_seal_16 : decode c_ME_seal 16 = .ok (.aload_n 3, 1) := by decide +kernel
theorem dME_seal_17 : decode c_ME_seal 17 = .ok (.invokevirtual 174, 3) := by decide +kernel
theorem dME_seal_20 : decode c_ME_seal 20 = .ok (.aload_n 0, 1) := by decide +kernel
theorem dME_seal_21 : decode c_ME_seal 21 = .ok (.iload_n 1, 1) := by decide +kernel
theorem dME_seal_22 : decode c_ME_seal 22 = .ok (.aload_n 2, 1) := by decide +kernel
theorem dME_seal_23 : decode c_ME_seal 23 = .ok (.iconst 0, 1) := by decide +kernel
theorem dME_seal_24 : decode c_ME_seal 24 = .ok (.aload_n 3, 1) := by decide +kernel
theorem dME_seal_25 : decode c_ME_seal 25 = .ok (.aload 4, 2) := by decide +kernel
theorem dME_seal_27 : decode c_ME_seal 27 = .ok (.invokevirtual 178, 3) := by decide +kernel
theorem dME_seal_30 : decode c_ME_seal 30 = .ok (.iload_n 1, 1) := by decide +kernel
theorem dME_seal_31 : decode c_ME_seal 31 = .ok (.invokestatic 182, 3) := by decide +kernel
theorem dME_seal_34 : decode c_ME_seal 34 = .ok (.istore 5, 2) := by decide +kernel
theorem dME_seal_36 : decode c_ME_seal 36 = .ok (.iconst 0, 1) := by decide +kernel
theorem dME_seal_37 : decode c_ME_seal 37 = .ok (.istore 6, 2) := by decide +kernel
theorem dME_seal_39 : decode c_ME_seal 39 = .ok (.iload 6, 2) := by decide +kernel
theorem dME_seal_41 : decode c_ME_seal 41 = .ok (.bipush 32, 2) := by decide +kernel
theorem dME_seal_43 : decode c_ME_seal 43 = .ok (.if_icmp .ge 24, 3) := by decide +kernel
theorem dME_seal_46 : decode c_ME_seal 46 = .ok (.aload 4, 2) := by decide +kernel
theorem dME_seal_48 : decode c_ME_seal 48 = .ok (.iload 5, 2) := by decide +kernel
theorem dME_seal_50 : decode c_ME_seal 50 = .ok (.iload 6, 2) := by decide +kernel
theorem dME_seal_52 : decode c_ME_seal 52 = .ok (.iadd, 1) := by decide +kernel
theorem dME_seal_53 : decode c_ME_seal 53 = .ok (.aload_n 0, 1) := by decide +kernel
theorem dME_seal_54 : decode c_ME_seal 54 = .ok (.getfield 42, 3) := by decide +kernel
theorem dME_seal_57 : decode c_ME_seal 57 = .ok (.iload 6, 2) := by decide +kernel
theorem dME_seal_59 : decode c_ME_seal 59 = .ok (.baload, 1) := by decide +kernel
theorem dME_seal_60 : decode c_ME_seal 60 = .ok (.bastore, 1) := by decide +kernel
theorem dME_seal_61 : decode c_ME_seal 61 = .ok (.iinc 6 1, 3) := by decide +kernel
theorem dME_seal_64 : decode c_ME_seal 64 = .ok (.goto (-25), 3) := by decide +kernel
theorem dME_seal_67 : decode c_ME_seal 67 = .ok (.iload 5, 2) := by decide +kernel
theorem dME_seal_69 : decode c_ME_seal 69 = .ok (.bipush 32, 2) := by decide +kernel
theorem dME_seal_71 : decode c_ME_seal 71 = .ok (.iadd, 1) := by decide +kernel
theorem dME_seal_72 : decode c_ME_seal 72 = .ok (.ireturn, 1) := by decide +kernel
abbrev c_ME_open : ByteArray := prog_15_method_23_code
abbrev y_ME_open : MethodName := ⟨"LatticeKeysModel$Secrets", "open", "(I[B[B[B)V"⟩
abbrev w_ME_open : List Cond := Cond.code y_ME_open c_ME_open 9 none :: WG
theorem dME_open_0 : decode c_ME_open 0 = .ok (.getstatic 62, 3) := by decide +kernel
theorem dME_open_3 : decode c_ME_open 3 = .ok (.iload_n 1, 1) := by decide +kernel
theorem dME_open_4 : decode c_ME_open 4 = .ok (.iaload, 1) := by decide +kernel
theorem dME_open_5 : decode c_ME_open 5 = .ok (.istore 5, 2) := by decide +kernel
theorem dME_open_7 : decode c_ME_open 7 = .ok (.iload_n 1, 1) := by decide +kernel
theorem dME_open_8 : decode c_ME_open 8 = .ok (.invokestatic 182, 3) := by decide +kernel
theorem dME_open_11 : decode c_ME_open 11 = .ok (.istore 6, 2) := by decide +kernel
theorem dME_open_13 : decode c_ME_open 13 = .ok (.aload_n 0, 1) := by decide +kernel
theorem dME_open_14 : decode c_ME_open 14 = .ok (.getfield 32, 3) := by decide +kernel
theorem dME_open_17 : decode c_ME_open 17 = .ok (.invokestatic 158, 3) := by decide +kernel
theorem dME_open_20 : decode c_ME_open 20 = .ok (.iconst 0, 1) := by decide +kernel
theorem dME_open_21 : decode c_ME_open 21 = .ok (.istore 7, 2) := by decide +kernel
theorem dME_open_23 : decode c_ME_open 23 = .ok (.iload 7, 2) := by decide +kernel
theorem dME_open_25 : decode c_ME_open 25 = .ok (.iload 5, 2) := by decide +kernel
theorem dME_open_27 : decode c_ME_open 27 = .ok (.if_icmp .ge 113, 3) := by decide +kernel
theorem dME_open_30 : decode c_ME_open 30 = .ok (.aload_n 3, 1) := by decide +kernel
theorem dME_open_31 : decode c_ME_open 31 = .ok (.bipush 32, 2) := by decide +kernel
theorem dME_open_33 : decode c_ME_open 33 = .ok (.getstatic 65, 3) := by decide +kernel
theorem dME_open_36 : decode c_ME_open 36 = .ok (.iload_n 1, 1) := by decide +kernel
theorem dME_open_37 : decode c_ME_open 37 = .ok (.iaload, 1) := by decide +kernel
theorem dME_open_38 : decode c_ME_open 38 = .ok (.imul, 1) := by decide +kernel
theorem dME_open_39 : decode c_ME_open 39 = .ok (.iload 7, 2) := by decide +kernel
theorem dME_open_41 : decode c_ME_open 41 = .ok (.imul, 1) := by decide +kernel
theorem dME_open_42 : decode c_ME_open 42 = .ok (.getstatic 65, 3) := by decide +kernel
theorem dME_open_45 : decode c_ME_open 45 = .ok (.iload_n 1, 1) := by decide +kernel
theorem dME_open_46 : decode c_ME_open 46 = .ok (.iaload, 1) := by decide +kernel
theorem dME_open_47 : decode c_ME_open 47 = .ok (.aload_n 0, 1) := by decide +kernel
theorem dME_open_48 : decode c_ME_open 48 = .ok (.getfield 23, 3) := by decide +kernel
theorem dME_open_51 : decode c_ME_open 51 = .ok (.iload 7, 2) := by decide +kernel
theorem dME_open_53 : decode c_ME_open 53 = .ok (.aaload, 1) := by decide +kernel
theorem dME_open_54 : decode c_ME_open 54 = .ok (.invokestatic 151, 3) := by decide +kernel
theorem dME_open_57 : decode c_ME_open 57 = .ok (.aload_n 0, 1) := by decide +kernel
theorem dME_open_58 : decode c_ME_open 58 = .ok (.getfield 23, 3) := by decide +kernel
theorem dME_open_61 : decode c_ME_open 61 = .ok (.iload 7, 2) := by decide +kernel
theorem dME_open_63 : decode c_ME_open 63 = .ok (.aaload, 1) := by decide +kernel
theorem dME_open_64 : decode c_ME_open 64 = .ok (.getstatic 65, 3) := by decide +kernel
theorem dME_open_67 : decode c_ME_open 67 = .ok (.iload_n 1, 1) := by decide +kernel
theorem dME_open_68 : decode c_ME_open 68 = .ok (.iaload, 1) := by decide +kernel
theorem dME_open_69 : decode c_ME_open 69 = .ok (.invokestatic 171, 3) := by decide +kernel
theorem dME_open_72 : decode c_ME_open 72 = .ok (.aload_n 0, 1) := by decide +kernel
theorem dME_open_73 : decode c_ME_open 73 = .ok (.aload_n 0, 1) := by decide +kernel
theorem dME_open_74 : decode c_ME_open 74 = .ok (.getfield 23, 3) := by decide +kernel
theorem dME_open_77 : decode c_ME_open 77 = .ok (.iload 7, 2) := by decide +kernel
theorem dME_open_79 : decode c_ME_open 79 = .ok (.aaload, 1) := by decide +kernel
theorem dME_open_80 : decode c_ME_open 80 = .ok (.invokevirtual 134, 3) := by decide +kernel
theorem dME_open_83 : decode c_ME_open 83 = .ok (.aload_n 2, 1) := by decide +kernel
theorem dME_open_84 : decode c_ME_open 84 = .ok (.sipush 384, 3) := by decide +kernel
theorem dME_open_87 : decode c_ME_open 87 = .ok (.iload 7, 2) := by decide +kernel
theorem dME_open_89 : decode c_ME_open 89 = .ok (.imul, 1) := by decide +kernel
theorem dME_open_90 : decode c_ME_open 90 = .ok (.bipush 12, 2) := by decide +kernel
theorem dME_open_92 : decode c_ME_open 92 = .ok (.aload_n 0, 1) := by decide +kernel
theorem dME_open_93 : decode c_ME_open 93 = .ok (.getfield 26, 3) := by decide +kernel
theorem dME_open_96 : decode c_ME_open 96 = .ok (.iload 7, 2) := by decide +kernel
theorem dME_open_98 : decode c_ME_open 98 = .ok (.aaload, 1) := by decide +kernel
theorem dME_open_99 : decode c_ME_open 99 = .ok (.invokestatic 151, 3) := by decide +kernel
theorem dME_open_102 : decode c_ME_open 102 = .ok (.aload_n 0, 1) := by decide +kernel
theorem dME_open_103 : decode c_ME_open 103 = .ok (.getfield 26, 3) := by decide +kernel
theorem dME_open_106 : decode c_ME_open 106 = .ok (.iload 7, 2) := by decide +kernel
theorem dME_open_108 : decode c_ME_open 108 = .ok (.aaload, 1) := by decide +kernel
theorem dME_open_109 : decode c_ME_open 109 = .ok (.invokestatic 155, 3) := by decide +kernel
theorem dME_open_112 : decode c_ME_open 112 = .ok (.aload_n 0, 1) := by decide +kernel
theorem dME_open_113 : decode c_ME_open 113 = .ok (.aload_n 0, 1) := by decide +kernel
theorem dME_open_114 : decode c_ME_open 114 = .ok (.getfield 26, 3) := by decide +kernel
theorem dME_open_117 : decode c_ME_open 117 = .ok (.iload 7, 2) := by decide +kernel
theorem dME_open_119 : decode c_ME_open 119 = .ok (.aaload, 1) := by decide +kernel
theorem dME_open_120 : decode c_ME_open 120 = .ok (.aload_n 0, 1) := by decide +kernel
theorem dME_open_121 : decode c_ME_open 121 = .ok (.getfield 23, 3) := by decide +kernel
theorem dME_open_124 : decode c_ME_open 124 = .ok (.iload 7, 2) := by decide +kernel
theorem dME_open_126 : decode c_ME_open 126 = .ok (.aaload, 1) := by decide +kernel
theorem dME_open_127 : decode c_ME_open 127 = .ok (.aload_n 0, 1) := by decide +kernel
theorem dME_open_128 : decode c_ME_open 128 = .ok (.getfield 32, 3) := by decide +kernel
theorem dME_open_131 : decode c_ME_open 131 = .ok (.invokevirtual 136, 3) := by decide +kernel
theorem dME_open_134 : decode c_ME_open 134 = .ok (.iinc 7 1, 3) := by decide +kernel
theorem dME_open_137 : decode c_ME_open 137 = .ok (.goto (-114), 3) := by decide +kernel
theorem dME_open_140 : decode c_ME_open 140 = .ok (.aload_n 0, 1) := by decide +kernel
theorem dME_open_141 : decode c_ME_open 141 = .ok (.aload_n 0, 1) := by decide +kernel
theorem dME_open_142 : decode c_ME_open 142 = .ok (.getfield 32, 3) := by decide +kernel
theorem dME_open_145 : decode c_ME_open 145 = .ok (.invokevirtual 161, 3) := by decide +kernel
theorem dME_open_148 : decode c_ME_open 148 = .ok (.aload_n 3, 1) := by decide +kernel
theorem dME_open_149 : decode c_ME_open 149 = .ok (.bipush 32, 2) := by decide +kernel
theorem dME_open_151 : decode c_ME_open 151 = .ok (.getstatic 65, 3) := by decide +kernel
theorem dME_open_154 : decode c_ME_open 154 = .ok (.iload_n 1, 1) := by decide +kernel
theorem dME_open_155 : decode c_ME_open 155 = .ok (.iaload, 1) := by decide +kernel
theorem dME_open_156 : decode c_ME_open 156 = .ok (.imul, 1) := by decide +kernel
theorem dME_open_157 : decode c_ME_open 157 = .ok (.iload 5, 2) := by decide +kernel
theorem dME_open_159 : decode c_ME_open 159 = .ok (.imul, 1) := by decide +kernel
theorem dME_open_160 : decode c_ME_open 160 = .ok (.getstatic 68, 3) := by decide +kernel
theorem dME_open_163 : decode c_ME_open 163 = .ok (.iload_n 1, 1) := by decide +kernel
theorem dME_open_164 : decode c_ME_open 164 = .ok (.iaload, 1) := by decide +kernel
theorem dME_open_165 : decode c_ME_open 165 = .ok (.aload_n 0, 1) := by decide +kernel
theorem dME_open_166 : decode c_ME_open 166 = .ok (.getfield 36, 3) := by decide +kernel
theorem dME_open_169 : decode c_ME_open 169 = .ok (.invokestatic 151, 3) := by decide +kernel
theorem dME_open_172 : decode c_ME_open 172 = .ok (.aload_n 0, 1) := by decide +kernel
theorem dME_open_173 : decode c_ME_open 173 = .ok (.getfield 36, 3) := by decide +kernel
theorem dME_open_176 : decode c_ME_open 176 = .ok (.getstatic 68, 3) := by decide +kernel
theorem dME_open_179 : decode c_ME_open 179 = .ok (.iload_n 1, 1) := by decide +kernel
theorem dME_open_180 : decode c_ME_open 180 = .ok (.iaload, 1) := by decide +kernel
theorem dME_open_181 : decode c_ME_open 181 = .ok (.invokestatic 171, 3) := by decide +kernel
theorem dME_open_184 : decode c_ME_open 184 = .ok (.iconst 0, 1) := by decide +kernel
theorem dME_open_185 : decode c_ME_open 185 = .ok (.istore 7, 2) := by decide +kernel
theorem dME_open_187 : decode c_ME_open 187 = .ok (.iload 7, 2) := by decide +kernel
theorem dME_open_189 : decode c_ME_open 189 = .ok (.sipush 256, 3) := by decide +kernel
theorem dME_open_192 : decode c_ME_open 192 = .ok (.if_icmp .ge 39, 3) := by decide +kernel
theorem dME_open_195 : decode c_ME_open 195 = .ok (.aload_n 0, 1) := by decide +kernel
theorem dME_open_196 : decode c_ME_open 196 = .ok (.getfield 36, 3) := by decide +kernel
theorem dME_open_199 : decode c_ME_open 199 = .ok (.iload 7, 2) := by decide +kernel
theorem dME_open_201 : decode c_ME_open 201 = .ok (.aload_n 0, 1) := by decide +kernel
theorem dME_open_202 : decode c_ME_open 202 = .ok (.getfield 36, 3) := by decide +kernel
theorem dME_open_205 : decode c_ME_open 205 = .ok (.iload 7, 2) := by decide +kernel
theorem dME_open_207 : decode c_ME_open 207 = .ok (.iaload, 1) := by decide +kernel
theorem dME_open_208 : decode c_ME_open 208 = .ok (.aload_n 0, 1) := by decide +kernel
theorem dME_open_209 : decode c_ME_open 209 = .ok (.getfield 32, 3) := by decide +kernel
theorem dME_open_212 : decode c_ME_open 212 = .ok (.iload 7, 2) := by decide +kernel
theorem dME_open_214 : decode c_ME_open 214 = .ok (.iaload, 1) := by decide +kernel
theorem dME_open_215 : decode c_ME_open 215 = .ok (.isub, 1) := by decide +kernel
theorem dME_open_216 : decode c_ME_open 216 = .ok (.sipush 3329, 3) := by decide +kernel
theorem dME_open_219 : decode c_ME_open 219 = .ok (.iadd, 1) := by decide +kernel
theorem dME_open_220 : decode c_ME_open 220 = .ok (.sipush 3329, 3) := by decide +kernel
theorem dME_open_223 : decode c_ME_open 223 = .ok (.irem, 1) := by decide +kernel
theorem dME_open_224 : decode c_ME_open 224 = .ok (.iastore, 1) := by decide +kernel
theorem dME_open_225 : decode c_ME_open 225 = .ok (.iinc 7 1, 3) := by decide +kernel
theorem dME_open_228 : decode c_ME_open 228 = .ok (.goto (-41), 3) := by decide +kernel
theorem dME_open_231 : decode c_ME_open 231 = .ok (.aload_n 0, 1) := by decide +kernel
theorem dME_open_232 : decode c_ME_open 232 = .ok (.getfield 36, 3) := by decide +kernel
theorem dME_open_235 : decode c_ME_open 235 = .ok (.iconst 1, 1) := by decide +kernel
theorem dME_open_236 : decode c_ME_open 236 = .ok (.invokestatic 167, 3) := by decide +kernel
theorem dME_open_239 : decode c_ME_open 239 = .ok (.aload_n 0, 1) := by decide +kernel
theorem dME_open_240 : decode c_ME_open 240 = .ok (.getfield 36, 3) := by decide +kernel
theorem dME_open_243 : decode c_ME_open 243 = .ok (.aload_n 0, 1) := by decide +kernel
theorem dME_open_244 : decode c_ME_open 244 = .ok (.getfield 52, 3) := by decide +kernel
theorem dME_open_247 : decode c_ME_open 247 = .ok (.iconst 0, 1) := by decide +kernel
theorem dME_open_248 : decode c_ME_open 248 = .ok (.iconst 1, 1) := by decide +kernel
theorem dME_open_249 : decode c_ME_open 249 = .ok (.invokestatic 140, 3) := by decide +kernel
theorem dME_open_252 : decode c_ME_open 252 = .ok (.iconst 0, 1) := by decide +kernel
theorem dME_open_253 : decode c_ME_open 253 = .ok (.istore 7, 2) := by decide +kernel
theorem dME_open_255 : decode c_ME_open 255 = .ok (.iload 7, 2) := by decide +kernel
theorem dME_open_257 : decode c_ME_open 257 = .ok (.bipush 32, 2) := by decide +kernel
theorem dME_open_259 : decode c_ME_open 259 = .ok (.if_icmp .ge 30, 3) := by decide +kernel
theorem dME_open_262 : decode c_ME_open 262 = .ok (.aload_n 0, 1) := by decide +kernel
theorem dME_open_263 : decode c_ME_open 263 = .ok (.getfield 49, 3) := by decide +kernel
theorem dME_open_266 : decode c_ME_open 266 = .ok (.iload 7, 2) := by decide +kernel
theorem dME_open_268 : decode c_ME_open 268 = .ok (.aload_n 2, 1) := by decide +kernel
theorem dME_open_269 : decode c_ME_open 269 = .ok (.sipush 768, 3) := by decide +kernel
theorem dME_open_272 : decode c_ME_open 272 = .ok (.iload 5, 2) := by decide +kernel
theorem dME_open_274 : decode c_ME_open 274 = .ok (.imul, 1) := by decide +kernel
theorem dME_open_275 : decode c_ME_open 275 = .ok (.bipush 32, 2) := by decide +kernel
theorem dME_open_277 : decode c_ME_open 277 = .ok (.iadd, 1) := by decide +kernel
theorem dME_open_278 : decode c_ME_open 278 = .ok (.iload 7, 2) := by decide +kernel
theorem dME_open_280 : decode c_ME_open 280 = .ok (.iadd, 1) := by decide +kernel
theorem dME_open_281 : decode c_ME_open 281 = .ok (.baload, 1) := by decide +kernel
theorem dME_open_282 : decode c_ME_open 282 = .ok (.bastore, 1) := by decide +kernel
theorem dME_open_283 : decode c_ME_open 283 = .ok (.iinc 7 1, 3) := by decide +kernel
theorem dME_open_286 : decode c_ME_open 286 = .ok (.goto (-31), 3) := by decide +kernel
theorem dME_open_289 : decode c_ME_open 289 = .ok (.aload_n 0, 1) := by decide +kernel
theorem dME_open_290 : decode c_ME_open 290 = .ok (.aload_n 0, 1) := by decide +kernel
theorem dME_open_291 : decode c_ME_open 291 = .ok (.getfield 52, 3) := by decide +kernel
theorem dME_open_294 : decode c_ME_open 294 = .ok (.invokevirtual 174, 3) := by decide +kernel
theorem dME_open_297 : decode c_ME_open 297 = .ok (.aload_n 0, 1) := by decide +kernel
theorem dME_open_298 : decode c_ME_open 298 = .ok (.iload_n 1, 1) := by decide +kernel
theorem dME_open_299 : decode c_ME_open 299 = .ok (.aload_n 2, 1) := by decide +kernel
theorem dME_open_300 : decode c_ME_open 300 = .ok (.sipush 384, 3) := by decide +kernel
theorem dME_open_303 : decode c_ME_open 303 = .ok (.iload 5, 2) := by decide +kernel
theorem dME_open_305 : decode c_ME_open 305 = .ok (.imul, 1) := by decide +kernel
theorem dME_open_306 : decode c_ME_open 306 = .ok (.aload_n 0, 1) := by decide +kernel
theorem dME_open_307 : decode c_ME_open 307 = .ok (.getfield 52, 3) := by decide +kernel
theorem dME_open_310 : decode c_ME_open 310 = .ok (.aload_n 0, 1) := by decide +kernel
theorem dME_open_311 : decode c_ME_open 311 = .ok (.getfield 55, 3) := by decide +kernel
theorem dME_open_314 : decode c_ME_open 314 = .ok (.invokevirtual 178, 3) := by decide +kernel
theorem dME_open_317 : decode c_ME_open 317 = .ok (.iconst 1, 1) := by decide +kernel
theorem dME_open_318 : decode c_ME_open 318 = .ok (.istore 7, 2) := by decide +kernel
theorem dME_open_320 : decode c_ME_open 320 = .ok (.iconst 0, 1) := by decide +kernel
theorem dME_open_321 : decode c_ME_open 321 = .ok (.istore 8, 2) := by decide +kernel
theorem dME_open_323 : decode c_ME_open 323 = .ok (.iload 8, 2) := by decide +kernel
theorem dME_open_325 : decode c_ME_open 325 = .ok (.iload 6, 2) := by decide +kernel
theorem dME_open_327 : decode c_ME_open 327 = .ok (.if_icmp .ge 33, 3) := by decide +kernel
theorem dME_open_330 : decode c_ME_open 330 = .ok (.iload 7, 2) := by decide +kernel
theorem dME_open_332 : decode c_ME_open 332 = .ok (.aload_n 0, 1) := by decide +kernel
theorem dME_open_333 : decode c_ME_open 333 = .ok (.getfield 55, 3) := by decide +kernel
theorem dME_open_336 : decode c_ME_open 336 = .ok (.iload 8, 2) := by decide +kernel
theorem dME_open_338 : decode c_ME_open 338 = .ok (.baload, 1) := by decide +kernel
theorem dME_open_339 : decode c_ME_open 339 = .ok (.aload_n 3, 1) := by decide +kernel
theorem dME_open_340 : decode c_ME_open 340 = .ok (.iload 8, 2) := by decide +kernel
theorem dME_open_342 : decode c_ME_open 342 = .ok (.baload, 1) := by decide +kernel
theorem dME_open_343 : decode c_ME_open 343 = .ok (.if_icmp .ne 7, 3) := by decide +kernel
theorem dME_open_346 : decode c_ME_open 346 = .ok (.iconst 1, 1) := by decide +kernel
theorem dME_open_347 : decode c_ME_open 347 = .ok (.goto 4, 3) := by decide +kernel
theorem dME_open_350 : decode c_ME_open 350 = .ok (.iconst 0, 1) := by decide +kernel
theorem dME_open_351 : decode c_ME_open 351 = .ok (.iand, 1) := by decide +kernel
theorem dME_open_352 : decode c_ME_open 352 = .ok (.istore 7, 2) := by decide +kernel
theorem dME_open_354 : decode c_ME_open 354 = .ok (.iinc 8 1, 3) := by decide +kernel
theorem dME_open_357 : decode c_ME_open 357 = .ok (.goto (-34), 3) := by decide +kernel
theorem dME_open_360 : decode c_ME_open 360 = .ok (.iconst 0, 1) := by decide +kernel
theorem dME_open_361 : decode c_ME_open 361 = .ok (.istore 8, 2) := by decide +kernel
theorem dME_open_363 : decode c_ME_open 363 = .ok (.iload 8, 2) := by decide +kernel
theorem dME_open_365 : decode c_ME_open 365 = .ok (.bipush 32, 2) := by decide +kernel
theorem dME_open_367 : decode c_ME_open 367 = .ok (.if_icmp .ge 21, 3) := by decide +kernel
theorem dME_open_370 : decode c_ME_open 370 = .ok (.aload 4, 2) := by decide +kernel
theorem dME_open_372 : decode c_ME_open 372 = .ok (.iload 8, 2) := by decide +kernel
theorem dME_open_374 : decode c_ME_open 374 = .ok (.aload_n 0, 1) := by decide +kernel
theorem dME_open_375 : decode c_ME_open 375 = .ok (.getfield 42, 3) := by decide +kernel
theorem dME_open_378 : decode c_ME_open 378 = .ok (.iload 8, 2) := by decide +kernel
theorem dME_open_380 : decode c_ME_open 380 = .ok (.baload, 1) := by decide +kernel
theorem dME_open_381 : decode c_ME_open 381 = .ok (.bastore, 1) := by decide +kernel
theorem dME_open_382 : decode c_ME_open 382 = .ok (.iinc 8 1, 3) := by decide +kernel
theorem dME_open_385 : decode c_ME_open 385 = .ok (.goto (-22), 3) := by decide +kernel
theorem dME_open_388 : decode c_ME_open 388 = .ok (.iload 7, 2) := by decide +kernel
theorem dME_open_390 : decode c_ME_open 390 = .ok (.ifCond .eq 4, 3) := by decide +kernel
theorem dME_open_393 : decode c_ME_open 393 = .ok (.return_, 1) := by decide +kernel
theorem dME_open_394 : decode c_ME_open 394 = .ok (.aload_n 0, 1) := by decide +kernel
theorem dME_open_395 : decode c_ME_open 395 = .ok (.getfield 58, 3) := by decide +kernel
theorem dME_open_398 : decode c_ME_open 398 = .ok (.invokevirtual 95, 3) := by decide +kernel
theorem dME_open_401 : decode c_ME_open 401 = .ok (.aload_n 0, 1) := by decide +kernel
theorem dME_open_402 : decode c_ME_open 402 = .ok (.getfield 58, 3) := by decide +kernel
theorem dME_open_405 : decode c_ME_open 405 = .ok (.aload_n 2, 1) := by decide +kernel
theorem dME_open_406 : decode c_ME_open 406 = .ok (.sipush 768, 3) := by decide +kernel
theorem dME_open_409 : decode c_ME_open 409 = .ok (.iload 5, 2) := by decide +kernel
theorem dME_open_411 : decode c_ME_open 411 = .ok (.imul, 1) := by decide +kernel
theorem dME_open_412 : decode c_ME_open 412 = .ok (.bipush 64, 2) := by decide +kernel
theorem dME_open_414 : decode c_ME_open 414 = .ok (.iadd, 1) := by decide +kernel
theorem dME_open_415 : decode c_ME_open 415 = .ok (.bipush 32, 2) := by decide +kernel
theorem dME_open_417 : decode c_ME_open 417 = .ok (.invokevirtual 77, 3) := by decide +kernel
theorem dME_open_420 : decode c_ME_open 420 = .ok (.aload_n 0, 1) := by decide +kernel
theorem dME_open_421 : decode c_ME_open 421 = .ok (.getfield 58, 3) := by decide +kernel
theorem dME_open_424 : decode c_ME_open 424 = .ok (.aload_n 3, 1) := by decide +kernel
theorem dME_open_425 : decode c_ME_open 425 = .ok (.iconst 0, 1) := by decide +kernel
theorem dME_open_426 : decode c_ME_open 426 = .ok (.iload 6, 2) := by decide +kernel
theorem dME_open_428 : decode c_ME_open 428 = .ok (.invokevirtual 77, 3) := by decide +kernel
theorem dME_open_431 : decode c_ME_open 431 = .ok (.aload_n 0, 1) := by decide +kernel
theorem dME_open_432 : decode c_ME_open 432 = .ok (.getfield 58, 3) := by decide +kernel
theorem dME_open_435 : decode c_ME_open 435 = .ok (.invokevirtual 84, 3) := by decide +kernel
theorem dME_open_438 : decode c_ME_open 438 = .ok (.aload_n 0, 1) := by decide +kernel
theorem dME_open_439 : decode c_ME_open 439 = .ok (.getfield 58, 3) := by decide +kernel
theorem dME_open_442 : decode c_ME_open 442 = .ok (.aload 4, 2) := by decide +kernel
theorem dME_open_444 : decode c_ME_open 444 = .ok (.iconst 0, 1) := by decide +kernel
theorem dME_open_445 : decode c_ME_open 445 = .ok (.bipush 32, 2) := by decide +kernel
theorem dME_open_447 : decode c_ME_open 447 = .ok (.invokevirtual 98, 3) := by decide +kernel
theorem dME_open_450 : decode c_ME_open 450 = .ok (.return_, 1) := by decide +kernel
abbrev c_ME_goodOpen : ByteArray := prog_15_method_24_code
abbrev y_ME_goodOpen : MethodName := ⟨"LatticeKeysModel$Secrets", "goodOpen", "(I[B)Z"⟩
abbrev w_ME_goodOpen : List Cond := Cond.code y_ME_goodOpen c_ME_goodOpen 4 (some .boolean) :: WG
theorem dME_goodOpen_0 : decode c_ME_goodOpen 0 = .ok (.iconst 0, 1) := by decide +kernel
theorem dME_goodOpen_1 : decode c_ME_goodOpen 1 = .ok (.istore_n 3, 1) := by decide +kernel
theorem dME_goodOpen_2 : decode c_ME_goodOpen 2 = .ok (.iload_n 3, 1) := by decide +kernel
theorem dME_goodOpen_3 : decode c_ME_goodOpen 3 = .ok (.sipush 256, 3) := by decide +kernel
theorem dME_goodOpen_6 : decode c_ME_goodOpen 6 = .ok (.getstatic 62, 3) := by decide +kernel
theorem dME_goodOpen_9 : decode c_ME_goodOpen 9 = .ok (.iload_n 1, 1) := by decide +kernel
theorem dME_goodOpen_10 : decode c_ME_goodOpen 10 = .ok (.iaload, 1) := by decide +kernel
theorem dME_goodOpen_11 : decode c_ME_goodOpen 11 = .ok (.imul, 1) := by decide +kernel
theorem dME_goodOpen_12 : decode c_ME_goodOpen 12 = .ok (.if_icmp .ge 27, 3) := by decide +kernel
theorem dME_goodOpen_15 : decode c_ME_goodOpen 15 = .ok (.aload_n 2, 1) := by decide +kernel
theorem dME_goodOpen_16 : decode c_ME_goodOpen 16 = .ok (.bipush 12, 2) := by decide +kernel
theorem dME_goodOpen_18 : decode c_ME_goodOpen 18 = .ok (.iload_n 3, 1) := by decide +kernel
theorem dME_goodOpen_19 : decode c_ME_goodOpen 19 = .ok (.imul, 1) := by decide +kernel
theorem dME_goodOpen_20 : decode c_ME_goodOpen 20 = .ok (.bipush 12, 2) := by decide +kernel
theorem dME_goodOpen_22 : decode c_ME_goodOpen 22 = .ok (.invokestatic 101, 3) := by decide +kernel
theorem dME_goodOpen_25 : decode c_ME_goodOpen 25 = .ok (.sipush 3329, 3) := by decide +kernel
theorem dME_goodOpen_28 : decode c_ME_goodOpen 28 = .ok (.if_icmp .lt 5, 3) := by decide +kernel
theorem dME_goodOpen_31 : decode c_ME_goodOpen 31 = .ok (.iconst 0, 1) := by decide +kernel
theorem dME_goodOpen_32 : decode c_ME_goodOpen 32 = .ok (.ireturn, 1) := by decide +kernel
theorem dME_goodOpen_33 : decode c_ME_goodOpen 33 = .ok (.iinc 3 1, 3) := by decide +kernel
theorem dME_goodOpen_36 : decode c_ME_goodOpen 36 = .ok (.goto (-34), 3) := by decide +kernel
theorem dME_goodOpen_39 : decode c_ME_goodOpen 39 = .ok (.iconst 1, 1) := by decide +kernel
theorem dME_goodOpen_40 : decode c_ME_goodOpen 40 = .ok (.ireturn, 1) := by decide +kernel
abbrev c_ME_goodHidden : ByteArray := prog_15_method_25_code
abbrev y_ME_goodHidden : MethodName := ⟨"LatticeKeysModel$Secrets", "goodHidden", "(I[B)Z"⟩
abbrev w_ME_goodHidden : List Cond := Cond.code y_ME_goodHidden c_ME_goodHidden 5 (some .boolean) :: WG
theorem dME_goodHidden_0 : decode c_ME_goodHidden 0 = .ok (.getstatic 62, 3) := by decide +kernel
theorem dME_goodHidden_3 : decode c_ME_goodHidden 3 = .ok (.iload_n 1, 1) := by decide +kernel
theorem dME_goodHidden_4 : decode c_ME_goodHidden 4 = .ok (.iaload, 1) := by decide +kernel
theorem dME_goodHidden_5 : decode c_ME_goodHidden 5 = .ok (.istore_n 3, 1) := by decide +kernel
theorem dME_goodHidden_6 : decode c_ME_goodHidden 6 = .ok (.aload_n 0, 1) := by decide +kernel
theorem dME_goodHidden_7 : decode c_ME_goodHidden 7 = .ok (.aload_n 2, 1) := by decide +kernel
theorem dME_goodHidden_8 : decode c_ME_goodHidden 8 = .ok (.sipush 384, 3) := by decide +kernel
theorem dME_goodHidden_11 : decode c_ME_goodHidden 11 = .ok (.iload_n 3, 1) := by decide +kernel
theorem dME_goodHidden_12 : decode c_ME_goodHidden 12 = .ok (.imul, 1) := by decide +kernel
theorem dME_goodHidden_13 : decode c_ME_goodHidden 13 = .ok (.iload_n 1, 1) := by decide +kernel
theorem dME_goodHidden_14 : decode c_ME_goodHidden 14 = .ok (.invokestatic 144, 3) := by decide +kernel
theorem dME_goodHidden_17 : decode c_ME_goodHidden 17 = .ok (.aload_n 0, 1) := by decide +kernel
theorem dME_goodHidden_18 : decode c_ME_goodHidden 18 = .ok (.getfield 49, 3) := by decide +kernel
theorem dME_goodHidden_21 : decode c_ME_goodHidden 21 = .ok (.iconst 0, 1) := by decide +kernel
theorem dME_goodHidden_22 : decode c_ME_goodHidden 22 = .ok (.invokevirtual 148, 3) := by decide +kernel
theorem dME_goodHidden_25 : decode c_ME_goodHidden 25 = .ok (.iconst 0, 1) := by decide +kernel
theorem dME_goodHidden_26 : decode c_ME_goodHidden 26 = .ok (.istore 4, 2) := by decide +kernel
theorem dME_goodHidden_28 : decode c_ME_goodHidden 28 = .ok (.iload 4, 2) := by decide +kernel
theorem dME_goodHidden_30 : decode c_ME_goodHidden 30 = .ok (.bipush 32, 2) := by decide +kernel
theorem dME_goodHidden_32 : decode c_ME_goodHidden 32 = .ok (.if_icmp .ge 34, 3) := by decide +kernel
theorem dME_goodHidden_35 : decode c_ME_goodHidden 35 = .ok (.aload_n 0, 1) := by decide +kernel
theorem dME_goodHidden_36 : decode c_ME_goodHidden 36 = .ok (.getfield 49, 3) := by decide +kernel
theorem dME_goodHidden_39 : decode c_ME_goodHidden 39 = .ok (.iload 4, 2) := by decide +kernel
theorem dME_goodHidden_41 : decode c_ME_goodHidden 41 = .ok (.baload, 1) := by decide +kernel
theorem dME_goodHidden_42 : decode c_ME_goodHidden 42 = .ok (.aload_n 2, 1) := by decide +kernel
theorem dME_goodHidden_43 : decode c_ME_goodHidden 43 = .ok (.sipush 768, 3) := by decide +kernel
theorem dME_goodHidden_46 : decode c_ME_goodHidden 46 = .ok (.iload_n 3, 1) := by decide +kernel
theorem dME_goodHidden_47 : decode c_ME_goodHidden 47 = .ok (.imul, 1) := by decide +kernel
theorem dME_goodHidden_48 : decode c_ME_goodHidden 48 = .ok (.bipush 32, 2) := by decide +kernel
theorem dME_goodHidden_50 : decode c_ME_goodHidden 50 = .ok (.iadd, 1) := by decide +kernel
theorem dME_goodHidden_51 : decode c_ME_goodHidden 51 = .ok (.iload 4, 2) := by decide +kernel
theorem dME_goodHidden_53 : decode c_ME_goodHidden 53 = .ok (.iadd, 1) := by decide +kernel
theorem dME_goodHidden_54 : decode c_ME_goodHidden 54 = .ok (.baload, 1) := by decide +kernel
theorem dME_goodHidden_55 : decode c_ME_goodHidden 55 = .ok (.if_icmp .eq 5, 3) := by decide +kernel
theorem dME_goodHidden_58 : decode c_ME_goodHidden 58 = .ok (.iconst 0, 1) := by decide +kernel
theorem dME_goodHidden_59 : decode c_ME_goodHidden 59 = .ok (.ireturn, 1) := by decide +kernel
theorem dME_goodHidden_60 : decode c_ME_goodHidden 60 = .ok (.iinc 4 1, 3) := by decide +kernel
theorem dME_goodHidden_63 : decode c_ME_goodHidden 63 = .ok (.goto (-35), 3) := by decide +kernel
theorem dME_goodHidden_66 : decode c_ME_goodHidden 66 = .ok (.iconst 1, 1) := by decide +kernel
theorem dME_goodHidden_67 : decode c_ME_goodHidden 67 = .ok (.ireturn, 1) := by decide +kernel
set_option maxHeartbeats 400000 in
set_option maxRecDepth 100000 in
theorem t_ME_keys_0 (l : Launch) (g : Gd) (sz : Nat) (T : Ty) (xs : List Nat) (pl : va_W) (hO : okx g T xs pl) (hU : uni T) (hc0 : clo T xs 0) (hc9 : clo T xs 9) (h0 sd ek dk n : Nat) (k_h0 : T h0 = some (23, 0)) (k_sd : T sd = some (1, n)) (k_ek : T ek = some (1, 2592)) (k_dk : T dk = some (1, 4896)) (h1 : 64 ≤ n) (h2 : n < 65536)  : Met l y_ME_keys w_ME_keys ({ frames := 5, cells := 0, slots := 0, locals := 126 } : Room) (va_Pc [.ref h0, .int (nI 0), .ref sd, .ref ek, .ref dk] (pr (en g) g.1 vcl sz ([] ++ pl))) (va_Qv (fun (u : va_W) => (True) ∧ okx g T xs u) (po g.1 vcl (va_A ([] ++ pl) sz) (fun (u : va_W) => [] ++ u)) (va_A ([] ++ pl) sz)) 0 0 (va_A ([] ++ pl) sz) := by
  refine mc_entry (cc := c_ME_keys) (maxL := 8) (ret := none) (by decide) rfl (Nat.le_of_ble_eq_true rfl) ?_
  intro p e s m args below meth c ls F hr hlk hnm hsz hP hD hE hA hl
  obtain ⟨hx, hb, hml, hown, hts⟩ := id F
  have hK := hE.1
  generalize va_A ([] ++ pl) sz = A at hD hE hA ⊢
  have hS : va_S A s.heap s.heap [] := va_S.rf
  have hl : lv_has ls 8 [(0, .ref h0), (1, .int (nI 0)), (2, .ref sd), (3, .ref ek), (4, .ref dk)] := hl
  refine va_gets hx hb (hE.2.1 19 _ rfl).1 hS hown (hts _ (wg_t kw_1605)) (fun _ h9 => h9) dME_keys_0 ?_
  refine lv_iload_n hx hb dME_keys_3 rfl (lv_at hl 1 rfl) ?_
  refine va_ti (v := .int (nI 2)) hx hb (hE.2.1 19 _ rfl).2 hS (vp_in_nI (by decide) (by decide)) (by decide +kernel) dME_keys_4 ?_
  refine lv_istore (lv' := [(5, .int (nI 2)), (0, .ref h0), (1, .int (nI 0)), (2, .ref sd), (3, .ref ek), (4, .ref dk)]) hx hb dME_keys_5 hl (by decide) rfl (fun ls hl => ?_)
  refine lv_aload_n hx hb dME_keys_7 rfl (lv_at hl 1 rfl) ?_
  refine ty_get (ci := 11) (C := "LatticeKeysModel$Secrets") (TT := T_ME) (N := 14) (kd := (23, 0)) hx hb hts (wg_ft i_ME) hown hK hO k_h0 (nxg hc0 k_h0 rfl) hP (fun _ h9 => h9) rfl 0 (by decide) (hts _ (wg_t kw_1379)) (fun _ h9 => h9) (cd := (3, 20, 0)) rfl dME_keys_8 (fun v21 hv21 => ?_)
  obtain ⟨r21, rfl, kr21⟩ := (show ∃ r : Nat, v21 = .ref r ∧ T r = some (20, 0) from hv21)
  refine lv_bipush (v := nI 72) hx hb dME_keys_11 (by decide) ?_
  refine lv_bipush (v := nI 6) hx hb dME_keys_13 (by decide) ?_
  obtain ⟨e21, pl, hP, hD, hk21, hO⟩ := open1 hP hD hO kr21 (nxg hc9 kr21 rfl)
  obtain ⟨am21, am22, am23, am24, am25, rt21, ps21, x21, rfl, km21, km22, km23, km24, km25, hr21, hr22, hr23⟩ := hk21
  obtain ⟨e22, pl, hP, hD, hk22, hO⟩ := open1 hP hD hO km21 (nmc (knd_ne km21 kr21 (by decide)) (nxg hc9 km21 rfl))
  obtain ⟨f21, rfl⟩ := hk22
  obtain ⟨e23, pl, hP, hD, hk23, hO⟩ := open1 hP hD hO km22 (nmc (knd_ne km22 km21 (by decide)) (nmc (knd_ne km22 kr21 (by decide)) (nxg hc9 km22 rfl)))
  obtain ⟨f22, rfl⟩ := hk23
  obtain ⟨e24, pl, hP, hD, hk24, hO⟩ := open1 hP hD hO km23 (nmc (knd_ne km23 km22 (by decide)) (nmc (knd_ne km23 km21 (by decide)) (nmc (knd_ne km23 kr21 (by decide)) (nxg hc9 km23 rfl))))
  obtain ⟨f23, rfl⟩ := hk24
  obtain ⟨e25, pl, hP, hD, hk25, hO⟩ := open1 hP hD hO km24 (nmc (knd_ne km24 km23 (by decide)) (nmc (knd_ne km24 km22 (by decide)) (nmc (knd_ne km24 km21 (by decide)) (nmc (knd_ne km24 kr21 (by decide)) (nxg hc9 km24 rfl)))))
  obtain ⟨f24, rfl⟩ := hk25
  obtain ⟨e26, pl, hP, hD, hk26, hO⟩ := open1 hP hD hO km25 (nmc (knd_ne km25 km24 (by decide)) (nmc (knd_ne km25 km23 (by decide)) (nmc (knd_ne km25 km22 (by decide)) (nmc (knd_ne km25 km21 (by decide)) (nmc (knd_ne km25 kr21 (by decide)) (nxg hc9 km25 rfl))))))
  obtain ⟨f25, rfl⟩ := hk26
  have hP : va_P g.1 vcl ([(r21, .inr (9, [.ref am21, .ref am22, .ref am23, .ref am24, .ref am25, .int (nI rt21), .int (nI ps21), .int x21])), (am21, .inl (g.2.1 2, 25, .inr (.inl f21))), (am22, .inl (g.2.1 2, 25, .inr (.inl f22))), (am23, .inl (g.2.1 2, 5, .inr (.inl f23))), (am24, .inl (g.2.1 2, 24, .inr (.inl f24))), (am25, .inl (g.2.1 0, 25, .inl f25))] ++ pl) _ := hP
  have hD : va_D _ ([(r21, .inr (9, [.ref am21, .ref am22, .ref am23, .ref am24, .ref am25, .int (nI rt21), .int (nI ps21), .int x21])), (am21, .inl (g.2.1 2, 25, .inr (.inl f21))), (am22, .inl (g.2.1 2, 25, .inr (.inl f22))), (am23, .inl (g.2.1 2, 5, .inr (.inl f23))), (am24, .inl (g.2.1 2, 24, .inr (.inl f24))), (am25, .inl (g.2.1 0, 25, .inl f25))] ++ pl) := hD
  refine mp_v (cx := [(r21, .inr (9, [.ref am21, .ref am22, .ref am23, .ref am24, .ref am25, .int (nI rt21), .int (nI ps21), .int x21])), (am21, .inl (g.2.1 2, 25, .inr (.inl f21))), (am22, .inl (g.2.1 2, 25, .inr (.inl f22))), (am23, .inl (g.2.1 2, 5, .inr (.inl f23))), (am24, .inl (g.2.1 2, 24, .inr (.inl f24))), (am25, .inl (g.2.1 0, 25, .inl f25))]) (wr := []) hP hD hS hA [0, 1, 2, 3, 4, 5] [] rfl rfl rfl (by decide) (va_runV (As := [.int (nI 72), .int (nI 6)]) (rest := []) F (t_MS_begin l g _ T (am25 :: (am24 :: (am23 :: (am22 :: (am21 :: (r21 :: xs)))))) pl hO hU  72 (nI 6) r21 am21 am22 am23 am24 am25 rt21 ps21 x21 f21 f22 f23 f24 f25 (by omega)) (cwV 2 hts (wg_app (wg_c kw_1607 (wg_c kw_1608 (wg_c kw_1609 (wg_c kw_10 wg_n)))) kw_1610) rfl rfl rfl (by decide +kernel) ⟨by decide, by decide⟩) (pp_V (en_ok g) (q0 := 0) hK hP hD hS hA hE [0, 1, 2, 3, 4, 5] rfl rfl rfl rfl) rfl rfl hl.1 rfl (lv_room (Nat.le_of_ble_eq_true rfl)) dME_keys_15 ⟨by omega, by omega⟩) (fun  u21 H locs hu21 hP hD hS => ?_)
  obtain ⟨u22, pl⟩ := u21
  obtain ⟨hq21, hO⟩ := hu21
  obtain ⟨ps22, f26, f27, f28⟩ := u22
  have hP : va_P g.1 vcl ([(r21, .inr (9, [.ref am21, .ref am22, .ref am23, .ref am24, .ref am25, .int (nI 72), .int (nI ps22), .int (nI 6)])), (am21, .inl (g.2.1 2, 25, .inr (.inl f26))), (am22, .inl (g.2.1 2, 25, .inr (.inl f27))), (am23, .inl (g.2.1 2, 5, .inr (.inl f28))), (am24, .inl (g.2.1 2, 24, .inr (.inl f24))), (am25, .inl (g.2.1 0, 25, .inl f25))] ++ pl) _ := hP
  have hD : va_D _ ([(r21, .inr (9, [.ref am21, .ref am22, .ref am23, .ref am24, .ref am25, .int (nI 72), .int (nI ps22), .int (nI 6)])), (am21, .inl (g.2.1 2, 25, .inr (.inl f26))), (am22, .inl (g.2.1 2, 25, .inr (.inl f27))), (am23, .inl (g.2.1 2, 5, .inr (.inl f28))), (am24, .inl (g.2.1 2, 24, .inr (.inl f24))), (am25, .inl (g.2.1 0, 25, .inl f25))] ++ pl) := hD
  have hq21 : ps22 ≤ 72 := hq21
  refine W.widen (k := 0) (n := 0) (by omega) (by omega) ?_
  refine lv_aload_n hx hb dME_keys_18 rfl (lv_at hl 1 rfl) ?_
  refine ty_get (ci := 11) (C := "LatticeKeysModel$Secrets") (TT := T_ME) (N := 14) (kd := (23, 0)) hx hb hts (wg_ft i_ME) hown hK hO k_h0 (nxg (clo_cons (clo_cons (clo_cons (clo_cons (clo_cons (clo_cons hc0 kr21 (by decide)) km21 (by decide)) km22 (by decide)) km23 (by decide)) km24 (by decide)) km25 (by decide)) k_h0 rfl) hP (fun _ h9 => h9) rfl 0 (by decide) (hts _ (wg_t kw_1379)) (fun _ h9 => h9) (cd := (3, 20, 0)) rfl dME_keys_19 (fun v22 hv22 => ?_)
  obtain ⟨r22, rfl, kr22⟩ := (show ∃ r : Nat, v22 = .ref r ∧ T r = some (20, 0) from hv22)
  obtain rfl : r21 = r22 := hU _ _ _ (by decide) kr21 kr22
  refine lv_aload_n hx hb dME_keys_22 rfl (lv_at hl 3 rfl) ?_
  refine lv_iconst (v := nI 0) hx hb dME_keys_23 (by decide) ?_
  refine lv_bipush (v := nI 32) hx hb dME_keys_24 (by decide) ?_
  refine mp_v (cx := [(r21, .inr (9, [.ref am21, .ref am22, .ref am23, .ref am24, .ref am25, .int (nI 72), .int (nI ps22), .int (nI 6)])), (am21, .inl (g.2.1 2, 25, .inr (.inl f26))), (am22, .inl (g.2.1 2, 25, .inr (.inl f27))), (am23, .inl (g.2.1 2, 5, .inr (.inl f28))), (am24, .inl (g.2.1 2, 24, .inr (.inl f24))), (am25, .inl (g.2.1 0, 25, .inl f25))]) (wr := []) hP hD hS hA [0, 1, 2, 3, 4, 5] [] rfl rfl rfl (by decide) (va_runV (As := [.ref sd, .int (nI 0), .int (nI 32)]) (rest := []) F (t_MS_puts l g _ T (am25 :: (am24 :: (am23 :: (am22 :: (am21 :: (r21 :: xs)))))) pl hO hU (clo_cons (clo_cons (clo_cons (clo_cons (clo_cons (clo_cons hc0 kr21 (by decide)) km21 (by decide)) km22 (by decide)) km23 (by decide)) km24 (by decide)) km25 (by decide)) sd n 0 32 r21 am21 am22 am23 am24 am25 72 ps22 (nI 6) f26 f27 f28 f24 f25 k_sd (by omega) (by omega) (by omega) (by omega)) (cwV 3 hts (wg_app (wg_c kw_1611 (wg_c kw_1612 (wg_c kw_1613 (wg_c kw_10 wg_n)))) kw_1614) rfl rfl rfl (by decide +kernel) ⟨by decide, by decide⟩) (pp_V (en_ok g) (q0 := 0) hK hP hD hS hA hE [0, 1, 2, 3, 4, 5] rfl rfl rfl rfl) rfl rfl hl.1 rfl (lv_room (Nat.le_of_ble_eq_true rfl)) dME_keys_26 ⟨by omega, by omega⟩) (fun  u23 H locs hu22 hP hD hS => ?_)
  obtain ⟨u24, pl⟩ := u23
  obtain ⟨hq22, hO⟩ := hu22
  obtain ⟨ps23, f29, f30, f31⟩ := u24
  have hP : va_P g.1 vcl ([(r21, .inr (9, [.ref am21, .ref am22, .ref am23, .ref am24, .ref am25, .int (nI 72), .int (nI ps23), .int (nI 6)])), (am21, .inl (g.2.1 2, 25, .inr (.inl f29))), (am22, .inl (g.2.1 2, 25, .inr (.inl f30))), (am23, .inl (g.2.1 2, 5, .inr (.inl f31))), (am24, .inl (g.2.1 2, 24, .inr (.inl f24))), (am25, .inl (g.2.1 0, 25, .inl f25))] ++ pl) _ := hP
  have hD : va_D _ ([(r21, .inr (9, [.ref am21, .ref am22, .ref am23, .ref am24, .ref am25, .int (nI 72), .int (nI ps23), .int (nI 6)])), (am21, .inl (g.2.1 2, 25, .inr (.inl f29))), (am22, .inl (g.2.1 2, 25, .inr (.inl f30))), (am23, .inl (g.2.1 2, 5, .inr (.inl f31))), (am24, .inl (g.2.1 2, 24, .inr (.inl f24))), (am25, .inl (g.2.1 0, 25, .inl f25))] ++ pl) := hD
  have hq22 : ps23 ≤ 72 := hq22
  refine W.widen (k := 0) (n := 0) (by omega) (by omega) ?_
  refine lv_aload_n hx hb dME_keys_29 rfl (lv_at hl 1 rfl) ?_
  refine ty_get (ci := 11) (C := "LatticeKeysModel$Secrets") (TT := T_ME) (N := 14) (kd := (23, 0)) hx hb hts (wg_ft i_ME) hown hK hO k_h0 (nxg (clo_cons (clo_cons (clo_cons (clo_cons (clo_cons (clo_cons hc0 kr21 (by decide)) km21 (by decide)) km22 (by decide)) km23 (by decide)) km24 (by decide)) km25 (by decide)) k_h0 rfl) hP (fun _ h9 => h9) rfl 0 (by decide) (hts _ (wg_t kw_1379)) (fun _ h9 => h9) (cd := (3, 20, 0)) rfl dME_keys_30 (fun v23 hv23 => ?_)
  obtain ⟨r23, rfl, kr23⟩ := (show ∃ r : Nat, v23 = .ref r ∧ T r = some (20, 0) from hv23)
  obtain rfl : r21 = r23 := hU _ _ _ (by decide) kr21 kr23
  refine lv_iload hx hb dME_keys_33 (lv_at hl 0 rfl) ?_
  refine mp_v (cx := [(r21, .inr (9, [.ref am21, .ref am22, .ref am23, .ref am24, .ref am25, .int (nI 72), .int (nI ps23), .int (nI 6)])), (am21, .inl (g.2.1 2, 25, .inr (.inl f29))), (am22, .inl (g.2.1 2, 25, .inr (.inl f30))), (am23, .inl (g.2.1 2, 5, .inr (.inl f31))), (am24, .inl (g.2.1 2, 24, .inr (.inl f24))), (am25, .inl (g.2.1 0, 25, .inl f25))]) (wr := []) hP hD hS hA [0, 1, 2, 3, 4, 5] [] rfl rfl rfl (by decide) (va_runV (As := [.int (nI 2)]) (rest := []) F (t_MS_put l g _ T (am25 :: (am24 :: (am23 :: (am22 :: (am21 :: (r21 :: xs)))))) pl hO hU  (nI 2) r21 am21 am22 am23 am24 am25 72 ps23 (nI 6) f29 f30 f31 f24 f25 (by omega) (by omega)) (cwV 1 hts (wg_app (wg_c kw_1632 (wg_c kw_1616 (wg_c kw_1617 (wg_c kw_10 wg_n)))) kw_1618) rfl rfl rfl (by decide +kernel) ⟨by decide, by decide⟩) (pp_V (en_ok g) (q0 := 0) hK hP hD hS hA hE [0, 1, 2, 3, 4, 5] rfl rfl rfl rfl) rfl rfl hl.1 rfl (lv_room (Nat.le_of_ble_eq_true rfl)) dME_keys_35 ⟨by omega, by omega⟩) (fun  u25 H locs hu23 hP hD hS => ?_)
  obtain ⟨u26, pl⟩ := u25
  obtain ⟨hq23, hO⟩ := hu23
  obtain ⟨ps24, f32, f33, f34⟩ := u26
  have hP : va_P g.1 vcl ([(r21, .inr (9, [.ref am21, .ref am22, .ref am23, .ref am24, .ref am25, .int (nI 72), .int (nI ps24), .int (nI 6)])), (am21, .inl (g.2.1 2, 25, .inr (.inl f32))), (am22, .inl (g.2.1 2, 25, .inr (.inl f33))), (am23, .inl (g.2.1 2, 5, .inr (.inl f34))), (am24, .inl (g.2.1 2, 24, .inr (.inl f24))), (am25, .inl (g.2.1 0, 25, .inl f25))] ++ pl) _ := hP
  have hD : va_D _ ([(r21, .inr (9, [.ref am21, .ref am22, .ref am23, .ref am24, .ref am25, .int (nI 72), .int (nI ps24), .int (nI 6)])), (am21, .inl (g.2.1 2, 25, .inr (.inl f32))), (am22, .inl (g.2.1 2, 25, .inr (.inl f33))), (am23, .inl (g.2.1 2, 5, .inr (.inl f34))), (am24, .inl (g.2.1 2, 24, .inr (.inl f24))), (am25, .inl (g.2.1 0, 25, .inl f25))] ++ pl) := hD
  have hq23 : ps24 ≤ 72 := hq23
  refine W.widen (k := 0) (n := 0) (by omega) (by omega) ?_
  refine lv_aload_n hx hb dME_keys_38 rfl (lv_at hl 1 rfl) ?_
  refine ty_get (ci := 11) (C := "LatticeKeysModel$Secrets") (TT := T_ME) (N := 14) (kd := (23, 0)) hx hb hts (wg_ft i_ME) hown hK hO k_h0 (nxg (clo_cons (clo_cons (clo_cons (clo_cons (clo_cons (clo_cons hc0 kr21 (by decide)) km21 (by decide)) km22 (by decide)) km23 (by decide)) km24 (by decide)) km25 (by decide)) k_h0 rfl) hP (fun _ h9 => h9) rfl 0 (by decide) (hts _ (wg_t kw_1379)) (fun _ h9 => h9) (cd := (3, 20, 0)) rfl dME_keys_39 (fun v24 hv24 => ?_)
  obtain ⟨r24, rfl, kr24⟩ := (show ∃ r : Nat, v24 = .ref r ∧ T r = some (20, 0) from hv24)
  obtain rfl : r21 = r24 := hU _ _ _ (by decide) kr21 kr24
  refine mp_v (cx := [(r21, .inr (9, [.ref am21, .ref am22, .ref am23, .ref am24, .ref am25, .int (nI 72), .int (nI ps24), .int (nI 6)])), (am21, .inl (g.2.1 2, 25, .inr (.inl f32))), (am22, .inl (g.2.1 2, 25, .inr (.inl f33))), (am23, .inl (g.2.1 2, 5, .inr (.inl f34))), (am24, .inl (g.2.1 2, 24, .inr (.inl f24))), (am25, .inl (g.2.1 0, 25, .inl f25))]) (wr := []) hP hD hS hA [0, 1, 2, 3, 4, 5] [] rfl rfl rfl (by decide) (va_runV (As := []) (rest := []) F (t_MS_end l g _ T (am25 :: (am24 :: (am23 :: (am22 :: (am21 :: (r21 :: xs)))))) pl hO hU  r21 am21 am22 am23 am24 am25 72 ps24 (nI 6) f32 f33 f34 f24 f25 (by omega) (by omega)) (cwV 0 hts (wg_app (wg_c kw_1633 (wg_c kw_1634 (wg_c kw_1635 (wg_c kw_10 wg_n)))) kw_1636) rfl rfl rfl (by decide +kernel) ⟨by decide, by decide⟩) (pp_V (en_ok g) (q0 := 0) hK hP hD hS hA hE [0, 1, 2, 3, 4, 5] rfl rfl rfl rfl) rfl rfl hl.1 rfl (lv_room (Nat.le_of_ble_eq_true rfl)) dME_keys_42 ⟨by omega, by omega⟩) (fun  u27 H locs hu24 hP hD hS => ?_)
  obtain ⟨u28, pl⟩ := u27
  obtain ⟨hq24, hO⟩ := hu24
  obtain ⟨ps25, f35, f36, f37⟩ := u28
  have hP : va_P g.1 vcl ([(r21, .inr (9, [.ref am21, .ref am22, .ref am23, .ref am24, .ref am25, .int (nI 72), .int (nI ps25), .int (nI 6)])), (am21, .inl (g.2.1 2, 25, .inr (.inl f35))), (am22, .inl (g.2.1 2, 25, .inr (.inl f36))), (am23, .inl (g.2.1 2, 5, .inr (.inl f37))), (am24, .inl (g.2.1 2, 24, .inr (.inl f24))), (am25, .inl (g.2.1 0, 25, .inl f25))] ++ pl) _ := hP
  have hD : va_D _ ([(r21, .inr (9, [.ref am21, .ref am22, .ref am23, .ref am24, .ref am25, .int (nI 72), .int (nI ps25), .int (nI 6)])), (am21, .inl (g.2.1 2, 25, .inr (.inl f35))), (am22, .inl (g.2.1 2, 25, .inr (.inl f36))), (am23, .inl (g.2.1 2, 5, .inr (.inl f37))), (am24, .inl (g.2.1 2, 24, .inr (.inl f24))), (am25, .inl (g.2.1 0, 25, .inl f25))] ++ pl) := hD
  have hq24 : ps25 ≤ 72 := hq24
  refine W.widen (k := 0) (n := 0) (by omega) (by omega) ?_
  refine lv_aload_n hx hb dME_keys_45 rfl (lv_at hl 1 rfl) ?_
  refine ty_get (ci := 11) (C := "LatticeKeysModel$Secrets") (TT := T_ME) (N := 14) (kd := (23, 0)) hx hb hts (wg_ft i_ME) hown hK hO k_h0 (nxg (clo_cons (clo_cons (clo_cons (clo_cons (clo_cons (clo_cons hc0 kr21 (by decide)) km21 (by decide)) km22 (by decide)) km23 (by decide)) km24 (by decide)) km25 (by decide)) k_h0 rfl) hP (fun _ h9 => h9) rfl 0 (by decide) (hts _ (wg_t kw_1379)) (fun _ h9 => h9) (cd := (3, 20, 0)) rfl dME_keys_46 (fun v25 hv25 => ?_)
  obtain ⟨r25, rfl, kr25⟩ := (show ∃ r : Nat, v25 = .ref r ∧ T r = some (20, 0) from hv25)
  obtain rfl : r21 = r25 := hU _ _ _ (by decide) kr21 kr25
  refine lv_aload_n hx hb dME_keys_49 rfl (lv_at hl 1 rfl) ?_
  refine ty_get (ci := 11) (C := "LatticeKeysModel$Secrets") (TT := T_ME) (N := 14) (kd := (23, 0)) hx hb hts (wg_ft i_ME) hown hK hO k_h0 (nxg (clo_cons (clo_cons (clo_cons (clo_cons (clo_cons (clo_cons hc0 kr21 (by decide)) km21 (by decide)) km22 (by decide)) km23 (by decide)) km24 (by decide)) km25 (by decide)) k_h0 rfl) hP (fun _ h9 => h9) rfl 9 (by decide) (hts _ (wg_t kw_1388)) (fun _ h9 => h9) (cd := (3, 1, 64)) rfl dME_keys_50 (fun v26 hv26 => ?_)
  obtain ⟨r26, rfl, kr26⟩ := (show ∃ r : Nat, v26 = .ref r ∧ T r = some (1, 64) from hv26)
  refine lv_iconst (v := nI 0) hx hb dME_keys_53 (by decide) ?_
  refine lv_bipush (v := nI 64) hx hb dME_keys_54 (by decide) ?_
  refine mp_v (cx := [(r21, .inr (9, [.ref am21, .ref am22, .ref am23, .ref am24, .ref am25, .int (nI 72), .int (nI ps25), .int (nI 6)])), (am21, .inl (g.2.1 2, 25, .inr (.inl f35))), (am22, .inl (g.2.1 2, 25, .inr (.inl f36))), (am23, .inl (g.2.1 2, 5, .inr (.inl f37))), (am24, .inl (g.2.1 2, 24, .inr (.inl f24))), (am25, .inl (g.2.1 0, 25, .inl f25))]) (wr := []) hP hD hS hA [0, 1, 2, 3, 4, 5] [] rfl rfl rfl (by decide) (va_runV (As := [.ref r26, .int (nI 0), .int (nI 64)]) (rest := []) F (t_MS_take l g _ T (am25 :: (am24 :: (am23 :: (am22 :: (am21 :: (r21 :: xs)))))) pl hO hU (clo_cons (clo_cons (clo_cons (clo_cons (clo_cons (clo_cons hc0 kr21 (by decide)) km21 (by decide)) km22 (by decide)) km23 (by decide)) km24 (by decide)) km25 (by decide)) r26 64 0 64 r21 am21 am22 am23 am24 am25 72 ps25 (nI 6) f35 f36 f37 f24 f25 kr26 (by omega) (by omega) (by omega) (by omega)) (cwV 3 hts (wg_app (wg_c kw_1637 (wg_c kw_1638 (wg_c kw_1639 (wg_c kw_10 wg_n)))) kw_1640) rfl rfl rfl (by decide +kernel) ⟨by decide, by decide⟩) (pp_V (en_ok g) (q0 := 0) hK hP hD hS hA hE [0, 1, 2, 3, 4, 5] rfl rfl rfl rfl) rfl rfl hl.1 rfl (lv_room (Nat.le_of_ble_eq_true rfl)) dME_keys_56 ⟨by omega, by omega⟩) (fun  u29 H locs hu25 hP hD hS => ?_)
  obtain ⟨u30, pl⟩ := u29
  obtain ⟨hq25, hO⟩ := hu25
  obtain ⟨ps26, f38, f39, f40⟩ := u30
  have hP : va_P g.1 vcl ([(r21, .inr (9, [.ref am21, .ref am22, .ref am23, .ref am24, .ref am25, .int (nI 72), .int (nI ps26), .int (nI 6)])), (am21, .inl (g.2.1 2, 25, .inr (.inl f38))), (am22, .inl (g.2.1 2, 25, .inr (.inl f39))), (am23, .inl (g.2.1 2, 5, .inr (.inl f40))), (am24, .inl (g.2.1 2, 24, .inr (.inl f24))), (am25, .inl (g.2.1 0, 25, .inl f25))] ++ pl) _ := hP
  have hD : va_D _ ([(r21, .inr (9, [.ref am21, .ref am22, .ref am23, .ref am24, .ref am25, .int (nI 72), .int (nI ps26), .int (nI 6)])), (am21, .inl (g.2.1 2, 25, .inr (.inl f38))), (am22, .inl (g.2.1 2, 25, .inr (.inl f39))), (am23, .inl (g.2.1 2, 5, .inr (.inl f40))), (am24, .inl (g.2.1 2, 24, .inr (.inl f24))), (am25, .inl (g.2.1 0, 25, .inl f25))] ++ pl) := hD
  have hq25 : ps26 ≤ 72 := hq25
  refine W.widen (k := 0) (n := 0) (by omega) (by omega) ?_
  refine lv_aload_n hx hb dME_keys_59 rfl (lv_at hl 1 rfl) ?_
  refine lv_aload_n hx hb dME_keys_60 rfl (lv_at hl 1 rfl) ?_
  refine ty_get (ci := 11) (C := "LatticeKeysModel$Secrets") (TT := T_ME) (N := 14) (kd := (23, 0)) hx hb hts (wg_ft i_ME) hown hK hO k_h0 (nxg (clo_cons (clo_cons (clo_cons (clo_cons (clo_cons (clo_cons hc0 kr21 (by decide)) km21 (by decide)) km22 (by decide)) km23 (by decide)) km24 (by decide)) km25 (by decide)) k_h0 rfl) hP (fun _ h9 => h9) rfl 9 (by decide) (hts _ (wg_t kw_1388)) (fun _ h9 => h9) (cd := (3, 1, 64)) rfl dME_keys_61 (fun v27 hv27 => ?_)
  obtain ⟨r27, rfl, kr27⟩ := (show ∃ r : Nat, v27 = .ref r ∧ T r = some (1, 64) from hv27)
  refine lv_iconst (v := nI 0) hx hb dME_keys_64 (by decide) ?_
  refine lv_iload hx hb dME_keys_65 (lv_at hl 0 rfl) ?_
  have hO := close1 (e := .inl (g.2.1 0, 25, .inl f25)) hO km25 ⟨_, rfl⟩
  have hO := close1 (e := .inl (g.2.1 2, 24, .inr (.inl f24))) hO km24 ⟨_, rfl⟩
  have hO := close1 (e := .inl (g.2.1 2, 5, .inr (.inl f40))) hO km23 ⟨_, rfl⟩
  have hO := close1 (e := .inl (g.2.1 2, 25, .inr (.inl f39))) hO km22 ⟨_, rfl⟩
  have hO := close1 (e := .inl (g.2.1 2, 25, .inr (.inl f38))) hO km21 ⟨_, rfl⟩
  have hO := close1 (e := .inr (9, [.ref am21, .ref am22, .ref am23, .ref am24, .ref am25, .int (nI 72), .int (nI ps26), .int (nI 6)])) hO kr21 ⟨_, _, _, _, _, _, _, _, rfl, km21, km22, km23, km24, km25, by omega, by omega, by omega⟩
  have hO : okx g T xs ((r21, .inr (9, [.ref am21, .ref am22, .ref am23, .ref am24, .ref am25, .int (nI 72), .int (nI ps26), .int (nI 6)])) :: (am21, .inl (g.2.1 2, 25, .inr (.inl f38))) :: (am22, .inl (g.2.1 2, 25, .inr (.inl f39))) :: (am23, .inl (g.2.1 2, 5, .inr (.inl f40))) :: (am24, .inl (g.2.1 2, 24, .inr (.inl f24))) :: (am25, .inl (g.2.1 0, 25, .inl f25)) :: pl) := hO
  have hP : va_P g.1 vcl ([] ++ ((r21, .inr (9, [.ref am21, .ref am22, .ref am23, .ref am24, .ref am25, .int (nI 72), .int (nI ps26), .int (nI 6)])) :: (am21, .inl (g.2.1 2, 25, .inr (.inl f38))) :: (am22, .inl (g.2.1 2, 25, .inr (.inl f39))) :: (am23, .inl (g.2.1 2, 5, .inr (.inl f40))) :: (am24, .inl (g.2.1 2, 24, .inr (.inl f24))) :: (am25, .inl (g.2.1 0, 25, .inl f25)) :: pl)) _ := hP
  have hD : va_D _ ([] ++ ((r21, .inr (9, [.ref am21, .ref am22, .ref am23, .ref am24, .ref am25, .int (nI 72), .int (nI ps26), .int (nI 6)])) :: (am21, .inl (g.2.1 2, 25, .inr (.inl f38))) :: (am22, .inl (g.2.1 2, 25, .inr (.inl f39))) :: (am23, .inl (g.2.1 2, 5, .inr (.inl f40))) :: (am24, .inl (g.2.1 2, 24, .inr (.inl f24))) :: (am25, .inl (g.2.1 0, 25, .inl f25)) :: pl)) := hD
  generalize ((r21, .inr (9, [.ref am21, .ref am22, .ref am23, .ref am24, .ref am25, .int (nI 72), .int (nI ps26), .int (nI 6)])) :: (am21, .inl (g.2.1 2, 25, .inr (.inl f38))) :: (am22, .inl (g.2.1 2, 25, .inr (.inl f39))) :: (am23, .inl (g.2.1 2, 5, .inr (.inl f40))) :: (am24, .inl (g.2.1 2, 24, .inr (.inl f24))) :: (am25, .inl (g.2.1 0, 25, .inl f25)) :: pl) = pl at hO hP hD
  refine mp_v (cx := []) (wr := []) hP hD hS hA [] [] rfl rfl rfl (by decide) (va_runV (As := [.ref r27, .int (nI 0), .int (nI 2)]) (rest := []) F (t_ME_expand_2 l g _ T xs pl hO hU hc0 hc9 h0 r27 64 0 k_h0 kr27 (by omega) (by omega)) (cwV 3 hts (wg_app (wg_c kw_1645 (wg_c kw_1647 (wg_c ks_54 (wg_c kw_11 wg_n)))) kw_1648) rfl rfl rfl (by decide +kernel) ⟨by decide, by decide⟩) (pp_VT (en_ok g) (ci := 11) (kd := (23, 0)) hK hO k_h0 (nxg hc0 k_h0 rfl) (fun _ h9 => ko1 h9) hP hD hS hA hE [] rfl rfl rfl) rfl rfl hl.1 rfl (lv_room (Nat.le_of_ble_eq_true rfl)) dME_keys_67 ⟨by omega, by omega⟩) (fun  pl H locs hu26 hP hD hS => ?_)
  obtain ⟨hq26, hO⟩ := hu26
  have hP : va_P g.1 vcl ([] ++ pl) _ := hP
  have hD : va_D _ ([] ++ pl) := hD
  refine W.widen (k := 0) (n := 0) (by omega) (by omega) ?_
  refine lv_iconst (v := nI 0) hx hb dME_keys_70 (by decide) ?_
  refine lv_istore (lv' := [(6, .int (nI 0)), (5, .int (nI 2)), (0, .ref h0), (1, .int (nI 0)), (2, .ref sd), (3, .ref ek), (4, .ref dk)]) hx hb dME_keys_71 hl (by decide) rfl (fun ls hl => ?_)
  have lp21 : ∀ (n21 : Nat) (i21 : Nat) (pl : va_W) (ls : Array Slot) (H : Heap) (locs : List Loc), n21 + i21 = 2 → lv_has ls 8 [(6, .int (nI i21)), (5, .int (nI 2)), (0, .ref h0), (1, .int (nI 0)), (2, .ref sd), (3, .ref ek), (4, .ref dk)] → okx g T xs pl → va_P g.1 vcl ([] ++ pl) H → va_D A ([] ++ pl) → va_S A s.heap H locs → W p l e ({ frames := 5, cells := 0, slots := 0, locals := 126 } : Room) s m args below meth c H locs 0 0 (MQ below (va_Qv (fun (u : va_W) => (True) ∧ okx g T xs u) (po g.1 vcl A (fun (u : va_W) => [] ++ u)) A) args s 0 0 A) (F0 m 73 ls []) := by
    intro n21
    induction n21 with
    | zero =>
      intro i21 pl ls H locs hm21  hl hO hP hD hS
      refine lv_iload hx hb dME_keys_73 (lv_at hl 0 rfl) ?_
      refine lv_iload hx hb dME_keys_75 (lv_at hl 1 rfl) ?_
      refine mi_ge (tgt := 159) hx hb dME_keys_77 (by decide) (by omega) (by omega) (fun h21 => ?_) (fun h21 => absurd h21 (by omega))
      refine lv_iconst (v := nI 0) hx hb dME_keys_159 (by decide) ?_
      refine lv_istore (lv' := [(6, .int (nI 0)), (5, .int (nI 2)), (0, .ref h0), (1, .int (nI 0)), (2, .ref sd), (3, .ref ek), (4, .ref dk)]) hx hb dME_keys_160 hl (by decide) rfl (fun ls hl => ?_)
      have lp22 : ∀ (n22 : Nat) (i22 : Nat) (pl : va_W) (ls : Array Slot) (H : Heap) (locs : List Loc), n22 + i22 = 2 → lv_has ls 8 [(6, .int (nI i22)), (5, .int (nI 2)), (0, .ref h0), (1, .int (nI 0)), (2, .ref sd), (3, .ref ek), (4, .ref dk)] → okx g T xs pl → va_P g.1 vcl ([] ++ pl) H → va_D A ([] ++ pl) → va_S A s.heap H locs → W p l e ({ frames := 5, cells := 0, slots := 0, locals := 126 } : Room) s m args below meth c H locs 0 0 (MQ below (va_Qv (fun (u : va_W) => (True) ∧ okx g T xs u) (po g.1 vcl A (fun (u : va_W) => [] ++ u)) A) args s 0 0 A) (F0 m 162 ls []) := by
        intro n22
        induction n22 with
        | zero =>
          intro i22 pl ls H locs hm22  hl hO hP hD hS
          refine lv_iload hx hb dME_keys_162 (lv_at hl 0 rfl) ?_
          refine lv_iload hx hb dME_keys_164 (lv_at hl 1 rfl) ?_
          refine mi_ge (tgt := 260) hx hb dME_keys_166 (by decide) (by omega) (by omega) (fun h22 => ?_) (fun h22 => absurd h22 (by omega))
          refine lv_iconst (v := nI 0) hx hb dME_keys_260 (by decide) ?_
          refine lv_istore (lv' := [(6, .int (nI 0)), (5, .int (nI 2)), (0, .ref h0), (1, .int (nI 0)), (2, .ref sd), (3, .ref ek), (4, .ref dk)]) hx hb dME_keys_261 hl (by decide) rfl (fun ls hl => ?_)
          have lp23 : ∀ (n23 : Nat) (i23 : Nat) (pl : va_W) (ls : Array Slot) (H : Heap) (locs : List Loc), n23 + i23 = 32 → lv_has ls 8 [(6, .int (nI i23)), (5, .int (nI 2)), (0, .ref h0), (1, .int (nI 0)), (2, .ref sd), (3, .ref ek), (4, .ref dk)] → okx g T xs pl → va_P g.1 vcl ([] ++ pl) H → va_D A ([] ++ pl) → va_S A s.heap H locs → W p l e ({ frames := 5, cells := 0, slots := 0, locals := 126 } : Room) s m args below meth c H locs 0 0 (MQ below (va_Qv (fun (u : va_W) => (True) ∧ okx g T xs u) (po g.1 vcl A (fun (u : va_W) => [] ++ u)) A) args s 0 0 A) (F0 m 263 ls []) := by
            intro n23
            induction n23 with
            | zero =>
              intro i23 pl ls H locs hm23  hl hO hP hD hS
              refine lv_iload hx hb dME_keys_263 (lv_at hl 0 rfl) ?_
              refine lv_bipush (v := nI 32) hx hb dME_keys_265 (by decide) ?_
              refine mi_ge (tgt := 294) hx hb dME_keys_267 (by decide) (by omega) (by omega) (fun h23 => ?_) (fun h23 => absurd h23 (by omega))
              refine lv_iconst (v := nI 0) hx hb dME_keys_294 (by decide) ?_
              refine lv_istore (lv' := [(6, .int (nI 0)), (5, .int (nI 2)), (0, .ref h0), (1, .int (nI 0)), (2, .ref sd), (3, .ref ek), (4, .ref dk)]) hx hb dME_keys_295 hl (by decide) rfl (fun ls hl => ?_)
              have lp24 : ∀ (n24 : Nat) (i24 : Nat) (pl : va_W) (ls : Array Slot) (H : Heap) (locs : List Loc), n24 + i24 = 800 → lv_has ls 8 [(6, .int (nI i24)), (5, .int (nI 2)), (0, .ref h0), (1, .int (nI 0)), (2, .ref sd), (3, .ref ek), (4, .ref dk)] → okx g T xs pl → va_P g.1 vcl ([] ++ pl) H → va_D A ([] ++ pl) → va_S A s.heap H locs → W p l e ({ frames := 5, cells := 0, slots := 0, locals := 126 } : Room) s m args below meth c H locs 0 0 (MQ below (va_Qv (fun (u : va_W) => (True) ∧ okx g T xs u) (po g.1 vcl A (fun (u : va_W) => [] ++ u)) A) args s 0 0 A) (F0 m 297 ls []) := by
                intro n24
                induction n24 with
                | zero =>
                  intro i24 pl ls H locs hm24  hl hO hP hD hS
                  refine lv_iload hx hb dME_keys_297 (lv_at hl 0 rfl) ?_
                  refine lv_iload_n hx hb dME_keys_299 rfl (lv_at hl 3 rfl) ?_
                  refine mp_i (cx := []) (wr := []) hP hD hS hA [] [] rfl rfl rfl (by decide) (va_runS (As := [.int (nI 0)]) (rest := [.int (nI i24)]) F (t_ME_openSize_0 l g _ T xs pl hO hU  ) (va_cwS 1 hts (wg_app (wg_c kw_1691 (wg_c kw_1692 (wg_c kw_11 wg_n))) kw_1693) rfl rfl rfl (by decide +kernel) ⟨by decide, by decide⟩) (pp_S (en_ok g) hP hD hS hA hE [] rfl rfl) rfl rfl hl.1 rfl (lv_room (Nat.le_of_ble_eq_true rfl)) dME_keys_300 ⟨by omega, by omega⟩) (fun r28 pl H locs hu27 hP hD hS => ?_)
                  obtain ⟨hq27, hO⟩ := hu27
                  have hP : va_P g.1 vcl ([] ++ pl) _ := hP
                  have hD : va_D _ ([] ++ pl) := hD
                  obtain rfl := hq27
                  refine W.widen (k := 0) (n := 0) (by omega) (by omega) ?_
                  refine mi_ge (tgt := 328) hx hb dME_keys_303 (by decide) (by omega) (by omega) (fun h24 => ?_) (fun h24 => absurd h24 (by omega))
                  refine lv_aload_n hx hb dME_keys_328 rfl (lv_at hl 2 rfl) ?_
                  refine lv_aload_n hx hb dME_keys_329 rfl (lv_at hl 5 rfl) ?_
                  refine lv_iconst (v := nI 0) hx hb dME_keys_330 (by decide) ?_
                  refine lv_iload_n hx hb dME_keys_331 rfl (lv_at hl 3 rfl) ?_
                  refine mp_i (cx := []) (wr := []) hP hD hS hA [] [] rfl rfl rfl (by decide) (va_runS (As := [.int (nI 0)]) (rest := [.int (nI 0), .ref ek, .ref h0]) F (t_ME_openSize_0 l g _ T xs pl hO hU  ) (va_cwS 1 hts (wg_app (wg_c kw_1691 (wg_c kw_1692 (wg_c kw_11 wg_n))) kw_1693) rfl rfl rfl (by decide +kernel) ⟨by decide, by decide⟩) (pp_S (en_ok g) hP hD hS hA hE [] rfl rfl) rfl rfl hl.1 rfl (lv_room (Nat.le_of_ble_eq_true rfl)) dME_keys_332 ⟨by omega, by omega⟩) (fun r29 pl H locs hu28 hP hD hS => ?_)
                  obtain ⟨hq28, hO⟩ := hu28
                  have hP : va_P g.1 vcl ([] ++ pl) _ := hP
                  have hD : va_D _ ([] ++ pl) := hD
                  obtain rfl := hq28
                  refine W.widen (k := 0) (n := 0) (by omega) (by omega) ?_
                  refine lv_aload hx hb dME_keys_335 (lv_at hl 6 rfl) ?_
                  refine lv_sipush (v := nI 768) hx hb dME_keys_337 (by decide) ?_
                  refine lv_iload hx hb dME_keys_340 (lv_at hl 1 rfl) ?_
                  refine mi_imul hx hb dME_keys_342 ?_
                  refine mi_as (show nI (768 * 2) = nI 1536 from rfl) ?_
                  refine lv_bipush (v := nI 32) hx hb dME_keys_343 (by decide) ?_
                  refine mi_iadd hx hb dME_keys_345 ?_
                  refine mi_as (show nI (1536 + 32) = nI 1568 from rfl) ?_
                  refine mp_v (cx := []) (wr := []) hP hD hS hA [] [] rfl rfl rfl (by decide) (va_runV (As := [.ref ek, .int (nI 0), .int (nI 800), .ref dk, .int (nI 1568)]) (rest := []) F (t_ME_hash l g _ T xs pl hO hU hc0 hc9 h0 ek dk 2592 4896 0 800 1568 k_h0 k_ek k_dk (by omega) (by omega) (by omega) (by omega)) (cwV 5 hts (wg_app (wg_c kw_1694 (wg_c kw_1696 (wg_c ks_59 (wg_c kw_11 wg_n)))) kw_1697) rfl rfl rfl (by decide +kernel) ⟨by decide, by decide⟩) (pp_VT (en_ok g) (ci := 11) (kd := (23, 0)) hK hO k_h0 (nxg hc0 k_h0 rfl) (fun _ h9 => ko1 h9) hP hD hS hA hE [] rfl rfl rfl) rfl rfl hl.1 rfl (lv_room (Nat.le_of_ble_eq_true rfl)) dME_keys_346 ⟨by omega, by omega⟩) (fun  pl H locs hu29 hP hD hS => ?_)
                  obtain ⟨hq29, hO⟩ := hu29
                  have hP : va_P g.1 vcl ([] ++ pl) _ := hP
                  have hD : va_D _ ([] ++ pl) := hD
                  refine W.widen (k := 0) (n := 0) (by omega) (by omega) ?_
                  refine lv_iconst (v := nI 0) hx hb dME_keys_349 (by decide) ?_
                  refine lv_istore (lv' := [(6, .int (nI 0)), (5, .int (nI 2)), (0, .ref h0), (1, .int (nI 0)), (2, .ref sd), (3, .ref ek), (4, .ref dk)]) hx hb dME_keys_350 hl (by decide) rfl (fun ls hl => ?_)
                  have lp25 : ∀ (n25 : Nat) (i25 : Nat) (pl : va_W) (ls : Array Slot) (H : Heap) (locs : List Loc), n25 + i25 = 32 → lv_has ls 8 [(6, .int (nI i25)), (5, .int (nI 2)), (2, .ref sd), (4, .ref dk)] → okx g T xs pl → va_P g.1 vcl ([] ++ pl) H → va_D A ([] ++ pl) → va_S A s.heap H locs → W p l e ({ frames := 5, cells := 0, slots := 0, locals := 126 } : Room) s m args below meth c H locs 0 0 (MQ below (va_Qv (fun (u : va_W) => (True) ∧ okx g T xs u) (po g.1 vcl A (fun (u : va_W) => [] ++ u)) A) args s 0 0 A) (F0 m 352 ls []) := by
                    intro n25
                    induction n25 with
                    | zero =>
                      intro i25 pl ls H locs hm25  hl hO hP hD hS
                      refine lv_iload hx hb dME_keys_352 (lv_at hl 0 rfl) ?_
                      refine lv_bipush (v := nI 32) hx hb dME_keys_354 (by decide) ?_
                      refine mi_ge (tgt := 387) hx hb dME_keys_356 (by decide) (by omega) (by omega) (fun h25 => ?_) (fun h25 => absurd h25 (by omega))
                      exact mp_vret hx hb hr hlk hP hD hS pl ⟨trivial, hO⟩ [] rfl rfl rfl (by omega) (by omega) dME_keys_387
                    | succ n25 ih25 =>
                      intro i25 pl ls H locs hm25  hl hO hP hD hS
                      refine lv_iload hx hb dME_keys_352 (lv_at hl 0 rfl) ?_
                      refine lv_bipush (v := nI 32) hx hb dME_keys_354 (by decide) ?_
                      refine mi_ge (tgt := 387) hx hb dME_keys_356 (by decide) (by omega) (by omega) (fun h26 => absurd h26 (by omega)) (fun h26 => ?_)
                      refine lv_aload hx hb dME_keys_359 (lv_at hl 3 rfl) ?_
                      refine lv_sipush (v := nI 768) hx hb dME_keys_361 (by decide) ?_
                      refine lv_iload hx hb dME_keys_364 (lv_at hl 1 rfl) ?_
                      refine mi_imul hx hb dME_keys_366 ?_
                      refine mi_as (show nI (768 * 2) = nI 1536 from rfl) ?_
                      refine lv_bipush (v := nI 64) hx hb dME_keys_367 (by decide) ?_
                      refine mi_iadd hx hb dME_keys_369 ?_
                      refine mi_as (show nI (1536 + 64) = nI 1600 from rfl) ?_
                      refine lv_iload hx hb dME_keys_370 (lv_at hl 0 rfl) ?_
                      refine mi_iadd hx hb dME_keys_372 ?_
                      refine lv_aload_n hx hb dME_keys_373 rfl (lv_at hl 2 rfl) ?_
                      refine lv_bipush (v := nI 32) hx hb dME_keys_374 (by decide) ?_
                      refine lv_iload hx hb dME_keys_376 (lv_at hl 0 rfl) ?_
                      refine mi_iadd hx hb dME_keys_378 ?_
                      refine ty_bald hx hb hK hO k_sd (nxg hc0 k_sd rfl) hP (vp_in_nI (by omega) (by omega)) dME_keys_379 (fun z21 => ?_)
                      refine ty_bast hx hb hK hO k_dk (nxg hc0 k_dk rfl) hP hD hS (vp_in_nI (by omega) (by decide)) dME_keys_380 (fun pl H locs hO hP hD hS => ?_)
                      refine mi_iinc (k := 0) (x := i25) (d := 1) (y := i25 + 1) (lv' := [(6, .int (nI (i25 + 1))), (5, .int (nI 2)), (2, .ref sd), (4, .ref dk)]) hx hb dME_keys_381 hl rfl (by decide) rfl (by decide) rfl (fun ls hl => ?_)
                      refine lv_goto (tgt := 352) hx hb dME_keys_384 (by decide) ?_
                      exact ih25 (i25 + 1) pl ls H locs (by omega) (lv_sub hl [0, 1, 2, 3] rfl) hO hP hD hS
                  exact lp25 32 0 pl ls _ _ (by omega) (lv_sub hl [0, 1, 4, 6] rfl) hO hP hD hS
                | succ n24 ih24 =>
                  intro i24 pl ls H locs hm24  hl hO hP hD hS
                  refine lv_iload hx hb dME_keys_297 (lv_at hl 0 rfl) ?_
                  refine lv_iload_n hx hb dME_keys_299 rfl (lv_at hl 3 rfl) ?_
                  refine mp_i (cx := []) (wr := []) hP hD hS hA [] [] rfl rfl rfl (by decide) (va_runS (As := [.int (nI 0)]) (rest := [.int (nI i24)]) F (t_ME_openSize_0 l g _ T xs pl hO hU  ) (va_cwS 1 hts (wg_app (wg_c kw_1691 (wg_c kw_1692 (wg_c kw_11 wg_n))) kw_1693) rfl rfl rfl (by decide +kernel) ⟨by decide, by decide⟩) (pp_S (en_ok g) hP hD hS hA hE [] rfl rfl) rfl rfl hl.1 rfl (lv_room (Nat.le_of_ble_eq_true rfl)) dME_keys_300 ⟨by omega, by omega⟩) (fun r30 pl H locs hu30 hP hD hS => ?_)
                  obtain ⟨hq30, hO⟩ := hu30
                  have hP : va_P g.1 vcl ([] ++ pl) _ := hP
                  have hD : va_D _ ([] ++ pl) := hD
                  obtain rfl := hq30
                  refine W.widen (k := 0) (n := 0) (by omega) (by omega) ?_
                  refine mi_ge (tgt := 328) hx hb dME_keys_303 (by decide) (by omega) (by omega) (fun h27 => absurd h27 (by omega)) (fun h27 => ?_)
                  refine lv_aload hx hb dME_keys_306 (lv_at hl 6 rfl) ?_
                  refine lv_sipush (v := nI 384) hx hb dME_keys_308 (by decide) ?_
                  refine lv_iload hx hb dME_keys_311 (lv_at hl 1 rfl) ?_
                  refine mi_imul hx hb dME_keys_313 ?_
                  refine mi_as (show nI (384 * 2) = nI 768 from rfl) ?_
                  refine lv_iload hx hb dME_keys_314 (lv_at hl 0 rfl) ?_
                  refine mi_iadd hx hb dME_keys_316 ?_
                  refine lv_aload_n hx hb dME_keys_317 rfl (lv_at hl 5 rfl) ?_
                  refine lv_iload hx hb dME_keys_318 (lv_at hl 0 rfl) ?_
                  refine ty_bald hx hb hK hO k_ek (nxg hc0 k_ek rfl) hP (vp_in_nI (by omega) (by decide)) dME_keys_320 (fun z22 => ?_)
                  refine ty_bast hx hb hK hO k_dk (nxg hc0 k_dk rfl) hP hD hS (vp_in_nI (by omega) (by decide)) dME_keys_321 (fun pl H locs hO hP hD hS => ?_)
                  refine mi_iinc (k := 0) (x := i24) (d := 1) (y := i24 + 1) (lv' := [(6, .int (nI (i24 + 1))), (5, .int (nI 2)), (0, .ref h0), (1, .int (nI 0)), (2, .ref sd), (3, .ref ek), (4, .ref dk)]) hx hb dME_keys_322 hl rfl (by decide) rfl (by decide) rfl (fun ls hl => ?_)
                  refine lv_goto (tgt := 297) hx hb dME_keys_325 (by decide) ?_
                  exact ih24 (i24 + 1) pl ls H locs (by omega) (lv_sub hl [0, 1, 2, 3, 4, 5, 6] rfl) hO hP hD hS
              exact lp24 800 0 pl ls _ _ (by omega) (lv_sub hl [0, 1, 2, 3, 4, 5, 6] rfl) hO hP hD hS
            | succ n23 ih23 =>
              intro i23 pl ls H locs hm23  hl hO hP hD hS
              refine lv_iload hx hb dME_keys_263 (lv_at hl 0 rfl) ?_
              refine lv_bipush (v := nI 32) hx hb dME_keys_265 (by decide) ?_
              refine mi_ge (tgt := 294) hx hb dME_keys_267 (by decide) (by omega) (by omega) (fun h28 => absurd h28 (by omega)) (fun h28 => ?_)
              refine lv_aload_n hx hb dME_keys_270 rfl (lv_at hl 5 rfl) ?_
              refine lv_sipush (v := nI 384) hx hb dME_keys_271 (by decide) ?_
              refine lv_iload hx hb dME_keys_274 (lv_at hl 1 rfl) ?_
              refine mi_imul hx hb dME_keys_276 ?_
              refine mi_as (show nI (384 * 2) = nI 768 from rfl) ?_
              refine lv_iload hx hb dME_keys_277 (lv_at hl 0 rfl) ?_
              refine mi_iadd hx hb dME_keys_279 ?_
              refine lv_aload_n hx hb dME_keys_280 rfl (lv_at hl 2 rfl) ?_
              refine ty_get (ci := 11) (C := "LatticeKeysModel$Secrets") (TT := T_ME) (N := 14) (kd := (23, 0)) hx hb hts (wg_ft i_ME) hown hK hO k_h0 (nxg hc0 k_h0 rfl) hP (fun _ h9 => h9) rfl 9 (by decide) (hts _ (wg_t kw_1388)) (fun _ h9 => h9) (cd := (3, 1, 64)) rfl dME_keys_281 (fun v28 hv28 => ?_)
              obtain ⟨r31, rfl, kr28⟩ := (show ∃ r : Nat, v28 = .ref r ∧ T r = some (1, 64) from hv28)
              refine lv_iload hx hb dME_keys_284 (lv_at hl 0 rfl) ?_
              refine ty_bald hx hb hK hO kr28 (nxg hc0 kr28 rfl) hP (vp_in_nI (by omega) (by decide)) dME_keys_286 (fun z23 => ?_)
              refine ty_bast hx hb hK hO k_ek (nxg hc0 k_ek rfl) hP hD hS (vp_in_nI (by omega) (by decide)) dME_keys_287 (fun pl H locs hO hP hD hS => ?_)
              refine mi_iinc (k := 0) (x := i23) (d := 1) (y := i23 + 1) (lv' := [(6, .int (nI (i23 + 1))), (5, .int (nI 2)), (0, .ref h0), (1, .int (nI 0)), (2, .ref sd), (3, .ref ek), (4, .ref dk)]) hx hb dME_keys_288 hl rfl (by decide) rfl (by decide) rfl (fun ls hl => ?_)
              refine lv_goto (tgt := 263) hx hb dME_keys_291 (by decide) ?_
              exact ih23 (i23 + 1) pl ls H locs (by omega) (lv_sub hl [0, 1, 2, 3, 4, 5, 6] rfl) hO hP hD hS
          exact lp23 32 0 pl ls _ _ (by omega) (lv_sub hl [0, 1, 2, 3, 4, 5, 6] rfl) hO hP hD hS
        | succ n22 ih22 =>
          intro i22 pl ls H locs hm22  hl hO hP hD hS
          refine lv_iload hx hb dME_keys_162 (lv_at hl 0 rfl) ?_
          refine lv_iload hx hb dME_keys_164 (lv_at hl 1 rfl) ?_
          refine mi_ge (tgt := 260) hx hb dME_keys_166 (by decide) (by omega) (by omega) (fun h29 => absurd h29 (by omega)) (fun h29 => ?_)
          refine lv_iconst (v := nI 0) hx hb dME_keys_169 (by decide) ?_
          refine lv_istore (lv' := [(7, .int (nI 0)), (6, .int (nI i22)), (5, .int (nI 2)), (0, .ref h0), (1, .int (nI 0)), (2, .ref sd), (3, .ref ek), (4, .ref dk)]) hx hb dME_keys_170 hl (by decide) rfl (fun ls hl => ?_)
          have lp26 : ∀ (n26 : Nat) (i26 : Nat) (pl : va_W) (ls : Array Slot) (H : Heap) (locs : List Loc), n26 + i26 = 2 → lv_has ls 8 [(7, .int (nI i26)), (6, .int (nI i22)), (5, .int (nI 2)), (0, .ref h0), (1, .int (nI 0)), (2, .ref sd), (3, .ref ek), (4, .ref dk)] → okx g T xs pl → va_P g.1 vcl ([] ++ pl) H → va_D A ([] ++ pl) → va_S A s.heap H locs → W p l e ({ frames := 5, cells := 0, slots := 0, locals := 126 } : Room) s m args below meth c H locs 0 0 (MQ below (va_Qv (fun (u : va_W) => (True) ∧ okx g T xs u) (po g.1 vcl A (fun (u : va_W) => [] ++ u)) A) args s 0 0 A) (F0 m 172 ls []) := by
            intro n26
            induction n26 with
            | zero =>
              intro i26 pl ls H locs hm26  hl hO hP hD hS
              refine lv_iload hx hb dME_keys_172 (lv_at hl 0 rfl) ?_
              refine lv_iload hx hb dME_keys_174 (lv_at hl 2 rfl) ?_
              refine mi_ge (tgt := 215) hx hb dME_keys_176 (by decide) (by omega) (by omega) (fun h30 => ?_) (fun h30 => absurd h30 (by omega))
              refine lv_aload_n hx hb dME_keys_215 rfl (lv_at hl 3 rfl) ?_
              refine ty_get (ci := 11) (C := "LatticeKeysModel$Secrets") (TT := T_ME) (N := 14) (kd := (23, 0)) hx hb hts (wg_ft i_ME) hown hK hO k_h0 (nxg hc0 k_h0 rfl) hP (fun _ h9 => h9) rfl 4 (by decide) (hts _ (wg_t kw_1383)) (fun _ h9 => h9) (cd := (3, 3, 4)) rfl dME_keys_216 (fun v29 hv29 => ?_)
              obtain ⟨r32, rfl, kr29⟩ := (show ∃ r : Nat, v29 = .ref r ∧ T r = some (3, 4) from hv29)
              refine lv_iload hx hb dME_keys_219 (lv_at hl 1 rfl) ?_
              refine ty_aald3 hx hb hK hO kr29 (nxg hc0 kr29 rfl) hP (by omega) (by decide) dME_keys_221 (fun r33 kr30 => ?_)
              refine lv_aload_n hx hb dME_keys_222 rfl (lv_at hl 6 rfl) ?_
              refine lv_sipush (v := nI 384) hx hb dME_keys_223 (by decide) ?_
              refine lv_iload hx hb dME_keys_226 (lv_at hl 1 rfl) ?_
              refine mi_imul hx hb dME_keys_228 ?_
              refine lv_bipush (v := nI 12) hx hb dME_keys_229 (by decide) ?_
              refine mp_v (cx := []) (wr := []) hP hD hS hA [] [] rfl rfl rfl (by decide) (va_runS (As := [.ref r33, .ref ek, .int (nI (384 * i22)), .int (nI 12)]) (rest := []) F (t_ME_write_12 l g _ T xs pl hO hU hc0 r33 ek 2592 (384 * i22) kr30 k_ek (by omega) (by omega)) (va_cwS 4 hts (wg_app (wg_c kw_1685 (wg_c kw_1686 (wg_c kw_11 wg_n))) kw_1687) rfl rfl rfl (by decide +kernel) ⟨by decide, by decide⟩) (pp_S (en_ok g) hP hD hS hA hE [] rfl rfl) rfl rfl hl.1 rfl (lv_room (Nat.le_of_ble_eq_true rfl)) dME_keys_231 ⟨by omega, by omega⟩) (fun  pl H locs hu31 hP hD hS => ?_)
              obtain ⟨hq31, hO⟩ := hu31
              have hP : va_P g.1 vcl ([] ++ pl) _ := hP
              have hD : va_D _ ([] ++ pl) := hD
              refine W.widen (k := 0) (n := 0) (by omega) (by omega) ?_
              refine lv_aload_n hx hb dME_keys_234 rfl (lv_at hl 3 rfl) ?_
              refine ty_get (ci := 11) (C := "LatticeKeysModel$Secrets") (TT := T_ME) (N := 14) (kd := (23, 0)) hx hb hts (wg_ft i_ME) hown hK hO k_h0 (nxg hc0 k_h0 rfl) hP (fun _ h9 => h9) rfl 3 (by decide) (hts _ (wg_t kw_1382)) (fun _ h9 => h9) (cd := (3, 3, 4)) rfl dME_keys_235 (fun v30 hv30 => ?_)
              obtain ⟨r34, rfl, kr31⟩ := (show ∃ r : Nat, v30 = .ref r ∧ T r = some (3, 4) from hv30)
              refine lv_iload hx hb dME_keys_238 (lv_at hl 1 rfl) ?_
              refine ty_aald3 hx hb hK hO kr31 (nxg hc0 kr31 rfl) hP (by omega) (by decide) dME_keys_240 (fun r35 kr32 => ?_)
              refine lv_aload hx hb dME_keys_241 (lv_at hl 7 rfl) ?_
              refine lv_sipush (v := nI 384) hx hb dME_keys_243 (by decide) ?_
              refine lv_iload hx hb dME_keys_246 (lv_at hl 1 rfl) ?_
              refine mi_imul hx hb dME_keys_248 ?_
              refine lv_bipush (v := nI 12) hx hb dME_keys_249 (by decide) ?_
              refine mp_v (cx := []) (wr := []) hP hD hS hA [] [] rfl rfl rfl (by decide) (va_runS (As := [.ref r35, .ref dk, .int (nI (384 * i22)), .int (nI 12)]) (rest := []) F (t_ME_write_12 l g _ T xs pl hO hU hc0 r35 dk 4896 (384 * i22) kr32 k_dk (by omega) (by omega)) (va_cwS 4 hts (wg_app (wg_c kw_1685 (wg_c kw_1686 (wg_c kw_11 wg_n))) kw_1687) rfl rfl rfl (by decide +kernel) ⟨by decide, by decide⟩) (pp_S (en_ok g) hP hD hS hA hE [] rfl rfl) rfl rfl hl.1 rfl (lv_room (Nat.le_of_ble_eq_true rfl)) dME_keys_251 ⟨by omega, by omega⟩) (fun  pl H locs hu32 hP hD hS => ?_)
              obtain ⟨hq32, hO⟩ := hu32
              have hP : va_P g.1 vcl ([] ++ pl) _ := hP
              have hD : va_D _ ([] ++ pl) := hD
              refine W.widen (k := 0) (n := 0) (by omega) (by omega) ?_
              refine mi_iinc (k := 1) (x := i22) (d := 1) (y := i22 + 1) (lv' := [(6, .int (nI (i22 + 1))), (7, .int (nI i26)), (5, .int (nI 2)), (0, .ref h0), (1, .int (nI 0)), (2, .ref sd), (3, .ref ek), (4, .ref dk)]) hx hb dME_keys_254 hl rfl (by decide) rfl (by decide) rfl (fun ls hl => ?_)
              refine lv_goto (tgt := 162) hx hb dME_keys_257 (by decide) ?_
              exact ih22 (i22 + 1) pl ls H locs (by omega) (lv_sub hl [0, 2, 3, 4, 5, 6, 7] rfl) hO hP hD hS
            | succ n26 ih26 =>
              intro i26 pl ls H locs hm26  hl hO hP hD hS
              refine lv_iload hx hb dME_keys_172 (lv_at hl 0 rfl) ?_
              refine lv_iload hx hb dME_keys_174 (lv_at hl 2 rfl) ?_
              refine mi_ge (tgt := 215) hx hb dME_keys_176 (by decide) (by omega) (by omega) (fun h31 => absurd h31 (by omega)) (fun h31 => ?_)
              refine lv_aload_n hx hb dME_keys_179 rfl (lv_at hl 3 rfl) ?_
              refine lv_aload_n hx hb dME_keys_180 rfl (lv_at hl 3 rfl) ?_
              refine ty_get (ci := 11) (C := "LatticeKeysModel$Secrets") (TT := T_ME) (N := 14) (kd := (23, 0)) hx hb hts (wg_ft i_ME) hown hK hO k_h0 (nxg hc0 k_h0 rfl) hP (fun _ h9 => h9) rfl 2 (by decide) (hts _ (wg_t kw_1381)) (fun _ h9 => h9) (cd := (3, 3, 16)) rfl dME_keys_181 (fun v31 hv31 => ?_)
              obtain ⟨r36, rfl, kr33⟩ := (show ∃ r : Nat, v31 = .ref r ∧ T r = some (3, 16) from hv31)
              refine lv_iconst (v := nI 4) hx hb dME_keys_184 (by decide) ?_
              refine lv_iload hx hb dME_keys_185 (lv_at hl 1 rfl) ?_
              refine mi_imul hx hb dME_keys_187 ?_
              refine lv_iload hx hb dME_keys_188 (lv_at hl 0 rfl) ?_
              refine mi_iadd hx hb dME_keys_190 ?_
              refine ty_aald3 hx hb hK hO kr33 (nxg hc0 kr33 rfl) hP (by omega) (by decide) dME_keys_191 (fun r37 kr34 => ?_)
              refine lv_aload_n hx hb dME_keys_192 rfl (lv_at hl 3 rfl) ?_
              refine ty_get (ci := 11) (C := "LatticeKeysModel$Secrets") (TT := T_ME) (N := 14) (kd := (23, 0)) hx hb hts (wg_ft i_ME) hown hK hO k_h0 (nxg hc0 k_h0 rfl) hP (fun _ h9 => h9) rfl 3 (by decide) (hts _ (wg_t kw_1382)) (fun _ h9 => h9) (cd := (3, 3, 4)) rfl dME_keys_193 (fun v32 hv32 => ?_)
              obtain ⟨r38, rfl, kr35⟩ := (show ∃ r : Nat, v32 = .ref r ∧ T r = some (3, 4) from hv32)
              refine lv_iload hx hb dME_keys_196 (lv_at hl 0 rfl) ?_
              refine ty_aald3 hx hb hK hO kr35 (nxg hc0 kr35 rfl) hP (by omega) (by decide) dME_keys_198 (fun r39 kr36 => ?_)
              refine lv_aload_n hx hb dME_keys_199 rfl (lv_at hl 3 rfl) ?_
              refine ty_get (ci := 11) (C := "LatticeKeysModel$Secrets") (TT := T_ME) (N := 14) (kd := (23, 0)) hx hb hts (wg_ft i_ME) hown hK hO k_h0 (nxg hc0 k_h0 rfl) hP (fun _ h9 => h9) rfl 4 (by decide) (hts _ (wg_t kw_1383)) (fun _ h9 => h9) (cd := (3, 3, 4)) rfl dME_keys_200 (fun v33 hv33 => ?_)
              obtain ⟨r40, rfl, kr37⟩ := (show ∃ r : Nat, v33 = .ref r ∧ T r = some (3, 4) from hv33)
              refine lv_iload hx hb dME_keys_203 (lv_at hl 1 rfl) ?_
              refine ty_aald3 hx hb hK hO kr37 (nxg hc0 kr37 rfl) hP (by omega) (by decide) dME_keys_205 (fun r41 kr38 => ?_)
              refine mp_v (cx := []) (wr := []) hP hD hS hA [] [] rfl rfl rfl (by decide) (va_runV (As := [.ref r37, .ref r39, .ref r41]) (rest := []) F (t_ME_product l g _ T xs pl hO hU hc0 h0 r37 r39 r41 k_h0 kr34 kr36 kr38) (cwV 3 hts (wg_app (wg_c kw_1676 (wg_c kw_1678 (wg_c ks_58 (wg_c kw_11 wg_n)))) kw_1679) rfl rfl rfl (by decide +kernel) ⟨by decide, by decide⟩) (pp_VT (en_ok g) (ci := 11) (kd := (23, 0)) hK hO k_h0 (nxg hc0 k_h0 rfl) (fun _ h9 => ko1 h9) hP hD hS hA hE [] rfl rfl rfl) rfl rfl hl.1 rfl (lv_room (Nat.le_of_ble_eq_true rfl)) dME_keys_206 ⟨by omega, by omega⟩) (fun  pl H locs hu33 hP hD hS => ?_)
              obtain ⟨hq33, hO⟩ := hu33
              have hP : va_P g.1 vcl ([] ++ pl) _ := hP
              have hD : va_D _ ([] ++ pl) := hD
              refine W.widen (k := 0) (n := 0) (by omega) (by omega) ?_
              refine mi_iinc (k := 0) (x := i26) (d := 1) (y := i26 + 1) (lv' := [(7, .int (nI (i26 + 1))), (6, .int (nI i22)), (5, .int (nI 2)), (0, .ref h0), (1, .int (nI 0)), (2, .ref sd), (3, .ref ek), (4, .ref dk)]) hx hb dME_keys_209 hl rfl (by decide) rfl (by decide) rfl (fun ls hl => ?_)
              refine lv_goto (tgt := 172) hx hb dME_keys_212 (by decide) ?_
              exact ih26 (i26 + 1) pl ls H locs (by omega) (lv_sub hl [0, 1, 2, 3, 4, 5, 6, 7] rfl) hO hP hD hS
          exact lp26 2 0 pl ls _ _ (by omega) (lv_sub hl [0, 1, 2, 3, 4, 5, 6, 7] rfl) hO hP hD hS
      exact lp22 2 0 pl ls _ _ (by omega) (lv_sub hl [0, 1, 2, 3, 4, 5, 6] rfl) hO hP hD hS
    | succ n21 ih21 =>
      intro i21 pl ls H locs hm21  hl hO hP hD hS
      refine lv_iload hx hb dME_keys_73 (lv_at hl 0 rfl) ?_
      refine lv_iload hx hb dME_keys_75 (lv_at hl 1 rfl) ?_
      refine mi_ge (tgt := 159) hx hb dME_keys_77 (by decide) (by omega) (by omega) (fun h32 => absurd h32 (by omega)) (fun h32 => ?_)
      refine lv_aload_n hx hb dME_keys_80 rfl (lv_at hl 2 rfl) ?_
      refine lv_aload_n hx hb dME_keys_81 rfl (lv_at hl 2 rfl) ?_
      refine ty_get (ci := 11) (C := "LatticeKeysModel$Secrets") (TT := T_ME) (N := 14) (kd := (23, 0)) hx hb hts (wg_ft i_ME) hown hK hO k_h0 (nxg hc0 k_h0 rfl) hP (fun _ h9 => h9) rfl 3 (by decide) (hts _ (wg_t kw_1382)) (fun _ h9 => h9) (cd := (3, 3, 4)) rfl dME_keys_82 (fun v34 hv34 => ?_)
      obtain ⟨r42, rfl, kr39⟩ := (show ∃ r : Nat, v34 = .ref r ∧ T r = some (3, 4) from hv34)
      refine lv_iload hx hb dME_keys_85 (lv_at hl 0 rfl) ?_
      refine ty_aald3 hx hb hK hO kr39 (nxg hc0 kr39 rfl) hP (by omega) (by decide) dME_keys_87 (fun r43 kr40 => ?_)
      refine lv_aload_n hx hb dME_keys_88 rfl (lv_at hl 2 rfl) ?_
      refine ty_get (ci := 11) (C := "LatticeKeysModel$Secrets") (TT := T_ME) (N := 14) (kd := (23, 0)) hx hb hts (wg_ft i_ME) hown hK hO k_h0 (nxg hc0 k_h0 rfl) hP (fun _ h9 => h9) rfl 9 (by decide) (hts _ (wg_t kw_1388)) (fun _ h9 => h9) (cd := (3, 1, 64)) rfl dME_keys_89 (fun v35 hv35 => ?_)
      obtain ⟨r44, rfl, kr41⟩ := (show ∃ r : Nat, v35 = .ref r ∧ T r = some (1, 64) from hv35)
      refine lv_bipush (v := nI 32) hx hb dME_keys_92 (by decide) ?_
      refine lv_iload hx hb dME_keys_94 (lv_at hl 0 rfl) ?_
      refine va_gets hx hb (hE.2.1 20 _ rfl).1 hS hown (hts _ (wg_t kw_1654)) (fun _ h9 => h9) dME_keys_96 ?_
      refine lv_iload_n hx hb dME_keys_99 rfl (lv_at hl 3 rfl) ?_
      refine va_ti (v := .int (nI 3)) hx hb (hE.2.1 20 _ rfl).2 hS (vp_in_nI (by decide) (by decide)) (by decide +kernel) dME_keys_100 ?_
      refine mp_v (cx := []) (wr := []) hP hD hS hA [] [] rfl rfl rfl (by decide) (va_runV (As := [.ref r43, .ref r44, .int (nI 32), .int (nI i21), .int (nI 3)]) (rest := []) F (t_ME_noise_3 l g _ T xs pl hO hU hc0 hc9 h0 r43 r44 64 32 (nI i21) k_h0 kr40 kr41 (by omega) (by omega)) (cwV 5 hts (wg_app (wg_c kw_1656 (wg_c kw_1658 (wg_c ks_56 (wg_c kw_11 wg_n)))) kw_1659) rfl rfl rfl (by decide +kernel) ⟨by decide, by decide⟩) (pp_VT (en_ok g) (ci := 11) (kd := (23, 0)) hK hO k_h0 (nxg hc0 k_h0 rfl) (fun _ h9 => ko1 h9) hP hD hS hA hE [] rfl rfl rfl) rfl rfl hl.1 rfl (lv_room (Nat.le_of_ble_eq_true rfl)) dME_keys_101 ⟨by omega, by omega⟩) (fun  pl H locs hu34 hP hD hS => ?_)
      obtain ⟨hq34, hO⟩ := hu34
      have hP : va_P g.1 vcl ([] ++ pl) _ := hP
      have hD : va_D _ ([] ++ pl) := hD
      refine W.widen (k := 0) (n := 0) (by omega) (by omega) ?_
      refine lv_aload_n hx hb dME_keys_104 rfl (lv_at hl 2 rfl) ?_
      refine lv_aload_n hx hb dME_keys_105 rfl (lv_at hl 2 rfl) ?_
      refine ty_get (ci := 11) (C := "LatticeKeysModel$Secrets") (TT := T_ME) (N := 14) (kd := (23, 0)) hx hb hts (wg_ft i_ME) hown hK hO k_h0 (nxg hc0 k_h0 rfl) hP (fun _ h9 => h9) rfl 4 (by decide) (hts _ (wg_t kw_1383)) (fun _ h9 => h9) (cd := (3, 3, 4)) rfl dME_keys_106 (fun v36 hv36 => ?_)
      obtain ⟨r45, rfl, kr42⟩ := (show ∃ r : Nat, v36 = .ref r ∧ T r = some (3, 4) from hv36)
      refine lv_iload hx hb dME_keys_109 (lv_at hl 0 rfl) ?_
      refine ty_aald3 hx hb hK hO kr42 (nxg hc0 kr42 rfl) hP (by omega) (by decide) dME_keys_111 (fun r46 kr43 => ?_)
      refine lv_aload_n hx hb dME_keys_112 rfl (lv_at hl 2 rfl) ?_
      refine ty_get (ci := 11) (C := "LatticeKeysModel$Secrets") (TT := T_ME) (N := 14) (kd := (23, 0)) hx hb hts (wg_ft i_ME) hown hK hO k_h0 (nxg hc0 k_h0 rfl) hP (fun _ h9 => h9) rfl 9 (by decide) (hts _ (wg_t kw_1388)) (fun _ h9 => h9) (cd := (3, 1, 64)) rfl dME_keys_113 (fun v37 hv37 => ?_)
      obtain ⟨r47, rfl, kr44⟩ := (show ∃ r : Nat, v37 = .ref r ∧ T r = some (1, 64) from hv37)
      refine lv_bipush (v := nI 32) hx hb dME_keys_116 (by decide) ?_
      refine lv_iload hx hb dME_keys_118 (lv_at hl 1 rfl) ?_
      refine lv_iload hx hb dME_keys_120 (lv_at hl 0 rfl) ?_
      refine mi_iadd hx hb dME_keys_122 ?_
      refine va_gets hx hb (hE.2.1 20 _ rfl).1 hS hown (hts _ (wg_t kw_1654)) (fun _ h9 => h9) dME_keys_123 ?_
      refine lv_iload_n hx hb dME_keys_126 rfl (lv_at hl 3 rfl) ?_
      refine va_ti (v := .int (nI 3)) hx hb (hE.2.1 20 _ rfl).2 hS (vp_in_nI (by decide) (by decide)) (by decide +kernel) dME_keys_127 ?_
      refine mp_v (cx := []) (wr := []) hP hD hS hA [] [] rfl rfl rfl (by decide) (va_runV (As := [.ref r46, .ref r47, .int (nI 32), .int (nI (2 + i21)), .int (nI 3)]) (rest := []) F (t_ME_noise_3 l g _ T xs pl hO hU hc0 hc9 h0 r46 r47 64 32 (nI (2 + i21)) k_h0 kr43 kr44 (by omega) (by omega)) (cwV 5 hts (wg_app (wg_c kw_1656 (wg_c kw_1658 (wg_c ks_56 (wg_c kw_11 wg_n)))) kw_1659) rfl rfl rfl (by decide +kernel) ⟨by decide, by decide⟩) (pp_VT (en_ok g) (ci := 11) (kd := (23, 0)) hK hO k_h0 (nxg hc0 k_h0 rfl) (fun _ h9 => ko1 h9) hP hD hS hA hE [] rfl rfl rfl) rfl rfl hl.1 rfl (lv_room (Nat.le_of_ble_eq_true rfl)) dME_keys_128 ⟨by omega, by omega⟩) (fun  pl H locs hu35 hP hD hS => ?_)
      obtain ⟨hq35, hO⟩ := hu35
      have hP : va_P g.1 vcl ([] ++ pl) _ := hP
      have hD : va_D _ ([] ++ pl) := hD
      refine W.widen (k := 0) (n := 0) (by omega) (by omega) ?_
      refine lv_aload_n hx hb dME_keys_131 rfl (lv_at hl 2 rfl) ?_
      refine lv_aload_n hx hb dME_keys_132 rfl (lv_at hl 2 rfl) ?_
      refine ty_get (ci := 11) (C := "LatticeKeysModel$Secrets") (TT := T_ME) (N := 14) (kd := (23, 0)) hx hb hts (wg_ft i_ME) hown hK hO k_h0 (nxg hc0 k_h0 rfl) hP (fun _ h9 => h9) rfl 3 (by decide) (hts _ (wg_t kw_1382)) (fun _ h9 => h9) (cd := (3, 3, 4)) rfl dME_keys_133 (fun v38 hv38 => ?_)
      obtain ⟨r48, rfl, kr45⟩ := (show ∃ r : Nat, v38 = .ref r ∧ T r = some (3, 4) from hv38)
      refine lv_iload hx hb dME_keys_136 (lv_at hl 0 rfl) ?_
      refine ty_aald3 hx hb hK hO kr45 (nxg hc0 kr45 rfl) hP (by omega) (by decide) dME_keys_138 (fun r49 kr46 => ?_)
      refine mp_v (cx := []) (wr := []) hP hD hS hA [] [] rfl rfl rfl (by decide) (va_runV (As := [.ref r49]) (rest := []) F (t_ME_forth l g _ T xs pl hO hU hc0 h0 r49 k_h0 kr46) (cwV 1 hts (wg_app (wg_c kw_1668 (wg_c kw_1670 (wg_c ks_57 (wg_c kw_11 wg_n)))) kw_1671) rfl rfl rfl (by decide +kernel) ⟨by decide, by decide⟩) (pp_VT (en_ok g) (ci := 11) (kd := (23, 0)) hK hO k_h0 (nxg hc0 k_h0 rfl) (fun _ h9 => ko1 h9) hP hD hS hA hE [] rfl rfl rfl) rfl rfl hl.1 rfl (lv_room (Nat.le_of_ble_eq_true rfl)) dME_keys_139 ⟨by omega, by omega⟩) (fun  pl H locs hu36 hP hD hS => ?_)
      obtain ⟨hq36, hO⟩ := hu36
      have hP : va_P g.1 vcl ([] ++ pl) _ := hP
      have hD : va_D _ ([] ++ pl) := hD
      refine W.widen (k := 0) (n := 0) (by omega) (by omega) ?_
      refine lv_aload_n hx hb dME_keys_142 rfl (lv_at hl 2 rfl) ?_
      refine lv_aload_n hx hb dME_keys_143 rfl (lv_at hl 2 rfl) ?_
      refine ty_get (ci := 11) (C := "LatticeKeysModel$Secrets") (TT := T_ME) (N := 14) (kd := (23, 0)) hx hb hts (wg_ft i_ME) hown hK hO k_h0 (nxg hc0 k_h0 rfl) hP (fun _ h9 => h9) rfl 4 (by decide) (hts _ (wg_t kw_1383)) (fun _ h9 => h9) (cd := (3, 3, 4)) rfl dME_keys_144 (fun v39 hv39 => ?_)
      obtain ⟨r50, rfl, kr47⟩ := (show ∃ r : Nat, v39 = .ref r ∧ T r = some (3, 4) from hv39)
      refine lv_iload hx hb dME_keys_147 (lv_at hl 0 rfl) ?_
      refine ty_aald3 hx hb hK hO kr47 (nxg hc0 kr47 rfl) hP (by omega) (by decide) dME_keys_149 (fun r51 kr48 => ?_)
      refine mp_v (cx := []) (wr := []) hP hD hS hA [] [] rfl rfl rfl (by decide) (va_runV (As := [.ref r51]) (rest := []) F (t_ME_forth l g _ T xs pl hO hU hc0 h0 r51 k_h0 kr48) (cwV 1 hts (wg_app (wg_c kw_1668 (wg_c kw_1670 (wg_c ks_57 (wg_c kw_11 wg_n)))) kw_1671) rfl rfl rfl (by decide +kernel) ⟨by decide, by decide⟩) (pp_VT (en_ok g) (ci := 11) (kd := (23, 0)) hK hO k_h0 (nxg hc0 k_h0 rfl) (fun _ h9 => ko1 h9) hP hD hS hA hE [] rfl rfl rfl) rfl rfl hl.1 rfl (lv_room (Nat.le_of_ble_eq_true rfl)) dME_keys_150 ⟨by omega, by omega⟩) (fun  pl H locs hu37 hP hD hS => ?_)
      obtain ⟨hq37, hO⟩ := hu37
      have hP : va_P g.1 vcl ([] ++ pl) _ := hP
      have hD : va_D _ ([] ++ pl) := hD
      refine W.widen (k := 0) (n := 0) (by omega) (by omega) ?_
      refine mi_iinc (k := 0) (x := i21) (d := 1) (y := i21 + 1) (lv' := [(6, .int (nI (i21 + 1))), (5, .int (nI 2)), (0, .ref h0), (1, .int (nI 0)), (2, .ref sd), (3, .ref ek), (4, .ref dk)]) hx hb dME_keys_153 hl rfl (by decide) rfl (by decide) rfl (fun ls hl => ?_)
      refine lv_goto (tgt := 73) hx hb dME_keys_156 (by decide) ?_
      exact ih21 (i21 + 1) pl ls H locs (by omega) (lv_sub hl [0, 1, 2, 3, 4, 5, 6] rfl) hO hP hD hS
  exact lp21 2 0 pl ls _ _ (by omega) (lv_sub hl [0, 1, 2, 3, 4, 5, 6] rfl) hO hP hD hS
set_option maxHeartbeats 400000 in
set_option maxRecDepth 100000 in
theorem t_ME_keys_1 (l : Launch) (g : Gd) (sz : Nat) (T : Ty) (xs : List Nat) (pl : va_W) (hO : okx g T xs pl) (hU : uni T) (hc0 : clo T xs 0) (hc9 : clo T xs 9) (h0 sd ek dk n : Nat) (k_h0 : T h0 = some (23, 0)) (k_sd : T sd = some (1, n)) (k_ek : T ek = some (1, 2592)) (k_dk : T dk = some (1, 4896)) (h1 : 64 ≤ n) (h2 : n < 65536)  : Met l y_ME_keys w_ME_keys ({ frames := 5, cells := 0, slots := 0, locals := 126 } : Room) (va_Pc [.ref h0, .int (nI 1), .ref sd, .ref ek, .ref dk] (pr (en g) g.1 vcl sz ([] ++ pl))) (va_Qv (fun (u : va_W) => (True) ∧ okx g T xs u) (po g.1 vcl (va_A ([] ++ pl) sz) (fun (u : va_W) => [] ++ u)) (va_A ([] ++ pl) sz)) 0 0 (va_A ([] ++ pl) sz) := by
  refine mc_entry (cc := c_ME_keys) (maxL := 8) (ret := none) (by decide) rfl (Nat.le_of_ble_eq_true rfl) ?_
  intro p e s m args below meth c ls F hr hlk hnm hsz hP hD hE hA hl
  obtain ⟨hx, hb, hml, hown, hts⟩ := id F
  have hK := hE.1
  generalize va_A ([] ++ pl) sz = A at hD hE hA ⊢
  have hS : va_S A s.heap s.heap [] := va_S.rf
  have hl : lv_has ls 8 [(0, .ref h0), (1, .int (nI 1)), (2, .ref sd), (3, .ref ek), (4, .ref dk)] := hl
  refine va_gets hx hb (hE.2.1 19 _ rfl).1 hS hown (hts _ (wg_t kw_1605)) (fun _ h9 => h9) dME_keys_0 ?_
  refine lv_iload_n hx hb dME_keys_3 rfl (lv_at hl 1 rfl) ?_
  refine va_ti (v := .int (nI 3)) hx hb (hE.2.1 19 _ rfl).2 hS (vp_in_nI (by decide) (by decide)) (by decide +kernel) dME_keys_4 ?_
  refine lv_istore (lv' := [(5, .int (nI 3)), (0, .ref h0), (1, .int (nI 1)), (2, .ref sd), (3, .ref ek), (4, .ref dk)]) hx hb dME_keys_5 hl (by decide) rfl (fun ls hl => ?_)
  refine lv_aload_n hx hb dME_keys_7 rfl (lv_at hl 1 rfl) ?_
  refine ty_get (ci := 11) (C := "LatticeKeysModel$Secrets") (TT := T_ME) (N := 14) (kd := (23, 0)) hx hb hts (wg_ft i_ME) hown hK hO k_h0 (nxg hc0 k_h0 rfl) hP (fun _ h9 => h9) rfl 0 (by decide) (hts _ (wg_t kw_1379)) (fun _ h9 => h9) (cd := (3, 20, 0)) rfl dME_keys_8 (fun v21 hv21 => ?_)
  obtain ⟨r21, rfl, kr21⟩ := (show ∃ r : Nat, v21 = .ref r ∧ T r = some (20, 0) from hv21)
  refine lv_bipush (v := nI 72) hx hb dME_keys_11 (by decide) ?_
  refine lv_bipush (v := nI 6) hx hb dME_keys_13 (by decide) ?_
  obtain ⟨e21, pl, hP, hD, hk21, hO⟩ := open1 hP hD hO kr21 (nxg hc9 kr21 rfl)
  obtain ⟨am21, am22, am23, am24, am25, rt21, ps21, x21, rfl, km21, km22, km23, km24, km25, hr21, hr22, hr23⟩ := hk21
  obtain ⟨e22, pl, hP, hD, hk22, hO⟩ := open1 hP hD hO km21 (nmc (knd_ne km21 kr21 (by decide)) (nxg hc9 km21 rfl))
  obtain ⟨f21, rfl⟩ := hk22
  obtain ⟨e23, pl, hP, hD, hk23, hO⟩ := open1 hP hD hO km22 (nmc (knd_ne km22 km21 (by decide)) (nmc (knd_ne km22 kr21 (by decide)) (nxg hc9 km22 rfl)))
  obtain ⟨f22, rfl⟩ := hk23
  obtain ⟨e24, pl, hP, hD, hk24, hO⟩ := open1 hP hD hO km23 (nmc (knd_ne km23 km22 (by decide)) (nmc (knd_ne km23 km21 (by decide)) (nmc (knd_ne km23 kr21 (by decide)) (nxg hc9 km23 rfl))))
  obtain ⟨f23, rfl⟩ := hk24
  obtain ⟨e25, pl, hP, hD, hk25, hO⟩ := open1 hP hD hO km24 (nmc (knd_ne km24 km23 (by decide)) (nmc (knd_ne km24 km22 (by decide)) (nmc (knd_ne km24 km21 (by decide)) (nmc (knd_ne km24 kr21 (by decide)) (nxg hc9 km24 rfl)))))
  obtain ⟨f24, rfl⟩ := hk25
  obtain ⟨e26, pl, hP, hD, hk26, hO⟩ := open1 hP hD hO km25 (nmc (knd_ne km25 km24 (by decide)) (nmc (knd_ne km25 km23 (by decide)) (nmc (knd_ne km25 km22 (by decide)) (nmc (knd_ne km25 km21 (by decide)) (nmc (knd_ne km25 kr21 (by decide)) (nxg hc9 km25 rfl))))))
  obtain ⟨f25, rfl⟩ := hk26
  have hP : va_P g.1 vcl ([(r21, .inr (9, [.ref am21, .ref am22, .ref am23, .ref am24, .ref am25, .int (nI rt21), .int (nI ps21), .int x21])), (am21, .inl (g.2.1 2, 25, .inr (.inl f21))), (am22, .inl (g.2.1 2, 25, .inr (.inl f22))), (am23, .inl (g.2.1 2, 5, .inr (.inl f23))), (am24, .inl (g.2.1 2, 24, .inr (.inl f24))), (am25, .inl (g.2.1 0, 25, .inl f25))] ++ pl) _ := hP
  have hD : va_D _ ([(r21, .inr (9, [.ref am21, .ref am22, .ref am23, .ref am24, .ref am25, .int (nI rt21), .int (nI ps21), .int x21])), (am21, .inl (g.2.1 2, 25, .inr (.inl f21))), (am22, .inl (g.2.1 2, 25, .inr (.inl f22))), (am23, .inl (g.2.1 2, 5, .inr (.inl f23))), (am24, .inl (g.2.1 2, 24, .inr (.inl f24))), (am25, .inl (g.2.1 0, 25, .inl f25))] ++ pl) := hD
  refine mp_v (cx := [(r21, .inr (9, [.ref am21, .ref am22, .ref am23, .ref am24, .ref am25, .int (nI rt21), .int (nI ps21), .int x21])), (am21, .inl (g.2.1 2, 25, .inr (.inl f21))), (am22, .inl (g.2.1 2, 25, .inr (.inl f22))), (am23, .inl (g.2.1 2, 5, .inr (.inl f23))), (am24, .inl (g.2.1 2, 24, .inr (.inl f24))), (am25, .inl (g.2.1 0, 25, .inl f25))]) (wr := []) hP hD hS hA [0, 1, 2, 3, 4, 5] [] rfl rfl rfl (by decide) (va_runV (As := [.int (nI 72), .int (nI 6)]) (rest := []) F (t_MS_begin l g _ T (am25 :: (am24 :: (am23 :: (am22 :: (am21 :: (r21 :: xs)))))) pl hO hU  72 (nI 6) r21 am21 am22 am23 am24 am25 rt21 ps21 x21 f21 f22 f23 f24 f25 (by omega)) (cwV 2 hts (wg_app (wg_c kw_1607 (wg_c kw_1608 (wg_c kw_1609 (wg_c kw_10 wg_n)))) kw_1610) rfl rfl rfl (by decide +kernel) ⟨by decide, by decide⟩) (pp_V (en_ok g) (q0 := 0) hK hP hD hS hA hE [0, 1, 2, 3, 4, 5] rfl rfl rfl rfl) rfl rfl hl.1 rfl (lv_room (Nat.le_of_ble_eq_true rfl)) dME_keys_15 ⟨by omega, by omega⟩) (fun  u21 H locs hu21 hP hD hS => ?_)
  obtain ⟨u22, pl⟩ := u21
  obtain ⟨hq21, hO⟩ := hu21
  obtain ⟨ps22, f26, f27, f28⟩ := u22
  have hP : va_P g.1 vcl ([(r21, .inr (9, [.ref am21, .ref am22, .ref am23, .ref am24, .ref am25, .int (nI 72), .int (nI ps22), .int (nI 6)])), (am21, .inl (g.2.1 2, 25, .inr (.inl f26))), (am22, .inl (g.2.1 2, 25, .inr (.inl f27))), (am23, .inl (g.2.1 2, 5, .inr (.inl f28))), (am24, .inl (g.2.1 2, 24, .inr (.inl f24))), (am25, .inl (g.2.1 0, 25, .inl f25))] ++ pl) _ := hP
  have hD : va_D _ ([(r21, .inr (9, [.ref am21, .ref am22, .ref am23, .ref am24, .ref am25, .int (nI 72), .int (nI ps22), .int (nI 6)])), (am21, .inl (g.2.1 2, 25, .inr (.inl f26))), (am22, .inl (g.2.1 2, 25, .inr (.inl f27))), (am23, .inl (g.2.1 2, 5, .inr (.inl f28))), (am24, .inl (g.2.1 2, 24, .inr (.inl f24))), (am25, .inl (g.2.1 0, 25, .inl f25))] ++ pl) := hD
  have hq21 : ps22 ≤ 72 := hq21
  refine W.widen (k := 0) (n := 0) (by omega) (by omega) ?_
  refine lv_aload_n hx hb dME_keys_18 rfl (lv_at hl 1 rfl) ?_
  refine ty_get (ci := 11) (C := "LatticeKeysModel$Secrets") (TT := T_ME) (N := 14) (kd := (23, 0)) hx hb hts (wg_ft i_ME) hown hK hO k_h0 (nxg (clo_cons (clo_cons (clo_cons (clo_cons (clo_cons (clo_cons hc0 kr21 (by decide)) km21 (by decide)) km22 (by decide)) km23 (by decide)) km24 (by decide)) km25 (by decide)) k_h0 rfl) hP (fun _ h9 => h9) rfl 0 (by decide) (hts _ (wg_t kw_1379)) (fun _ h9 => h9) (cd := (3, 20, 0)) rfl dME_keys_19 (fun v22 hv22 => ?_)
  obtain ⟨r22, rfl, kr22⟩ := (show ∃ r : Nat, v22 = .ref r ∧ T r = some (20, 0) from hv22)
  obtain rfl : r21 = r22 := hU _ _ _ (by decide) kr21 kr22
  refine lv_aload_n hx hb dME_keys_22 rfl (lv_at hl 3 rfl) ?_
  refine lv_iconst (v := nI 0) hx hb dME_keys_23 (by decide) ?_
  refine lv_bipush (v := nI 32) hx hb dME_keys_24 (by decide) ?_
  refine mp_v (cx := [(r21, .inr (9, [.ref am21, .ref am22, .ref am23, .ref am24, .ref am25, .int (nI 72), .int (nI ps22), .int (nI 6)])), (am21, .inl (g.2.1 2, 25, .inr (.inl f26))), (am22, .inl (g.2.1 2, 25, .inr (.inl f27))), (am23, .inl (g.2.1 2, 5, .inr (.inl f28))), (am24, .inl (g.2.1 2, 24, .inr (.inl f24))), (am25, .inl (g.2.1 0, 25, .inl f25))]) (wr := []) hP hD hS hA [0, 1, 2, 3, 4, 5] [] rfl rfl rfl (by decide) (va_runV (As := [.ref sd, .int (nI 0), .int (nI 32)]) (rest := []) F (t_MS_puts l g _ T (am25 :: (am24 :: (am23 :: (am22 :: (am21 :: (r21 :: xs)))))) pl hO hU (clo_cons (clo_cons (clo_cons (clo_cons (clo_cons (clo_cons hc0 kr21 (by decide)) km21 (by decide)) km22 (by decide)) km23 (by decide)) km24 (by decide)) km25 (by decide)) sd n 0 32 r21 am21 am22 am23 am24 am25 72 ps22 (nI 6) f26 f27 f28 f24 f25 k_sd (by omega) (by omega) (by omega) (by omega)) (cwV 3 hts (wg_app (wg_c kw_1611 (wg_c kw_1612 (wg_c kw_1613 (wg_c kw_10 wg_n)))) kw_1614) rfl rfl rfl (by decide +kernel) ⟨by decide, by decide⟩) (pp_V (en_ok g) (q0 := 0) hK hP hD hS hA hE [0, 1, 2, 3, 4, 5] rfl rfl rfl rfl) rfl rfl hl.1 rfl (lv_room (Nat.le_of_ble_eq_true rfl)) dME_keys_26 ⟨by omega, by omega⟩) (fun  u23 H locs hu22 hP hD hS => ?_)
  obtain ⟨u24, pl⟩ := u23
  obtain ⟨hq22, hO⟩ := hu22
  obtain ⟨ps23, f29, f30, f31⟩ := u24
  have hP : va_P g.1 vcl ([(r21, .inr (9, [.ref am21, .ref am22, .ref am23, .ref am24, .ref am25, .int (nI 72), .int (nI ps23), .int (nI 6)])), (am21, .inl (g.2.1 2, 25, .inr (.inl f29))), (am22, .inl (g.2.1 2, 25, .inr (.inl f30))), (am23, .inl (g.2.1 2, 5, .inr (.inl f31))), (am24, .inl (g.2.1 2, 24, .inr (.inl f24))), (am25, .inl (g.2.1 0, 25, .inl f25))] ++ pl) _ := hP
  have hD : va_D _ ([(r21, .inr (9, [.ref am21, .ref am22, .ref am23, .ref am24, .ref am25, .int (nI 72), .int (nI ps23), .int (nI 6)])), (am21, .inl (g.2.1 2, 25, .inr (.inl f29))), (am22, .inl (g.2.1 2, 25, .inr (.inl f30))), (am23, .inl (g.2.1 2, 5, .inr (.inl f31))), (am24, .inl (g.2.1 2, 24, .inr (.inl f24))), (am25, .inl (g.2.1 0, 25, .inl f25))] ++ pl) := hD
  have hq22 : ps23 ≤ 72 := hq22
  refine W.widen (k := 0) (n := 0) (by omega) (by omega) ?_
  refine lv_aload_n hx hb dME_keys_29 rfl (lv_at hl 1 rfl) ?_
  refine ty_get (ci := 11) (C := "LatticeKeysModel$Secrets") (TT := T_ME) (N := 14) (kd := (23, 0)) hx hb hts (wg_ft i_ME) hown hK hO k_h0 (nxg (clo_cons (clo_cons (clo_cons (clo_cons (clo_cons (clo_cons hc0 kr21 (by decide)) km21 (by decide)) km22 (by decide)) km23 (by decide)) km24 (by decide)) km25 (by decide)) k_h0 rfl) hP (fun _ h9 => h9) rfl 0 (by decide) (hts _ (wg_t kw_1379)) (fun _ h9 => h9) (cd := (3, 20, 0)) rfl dME_keys_30 (fun v23 hv23 => ?_)
  obtain ⟨r23, rfl, kr23⟩ := (show ∃ r : Nat, v23 = .ref r ∧ T r = some (20, 0) from hv23)
  obtain rfl : r21 = r23 := hU _ _ _ (by decide) kr21 kr23
  refine lv_iload hx hb dME_keys_33 (lv_at hl 0 rfl) ?_
  refine mp_v (cx := [(r21, .inr (9, [.ref am21, .ref am22, .ref am23, .ref am24, .ref am25, .int (nI 72), .int (nI ps23), .int (nI 6)])), (am21, .inl (g.2.1 2, 25, .inr (.inl f29))), (am22, .inl (g.2.1 2, 25, .inr (.inl f30))), (am23, .inl (g.2.1 2, 5, .inr (.inl f31))), (am24, .inl (g.2.1 2, 24, .inr (.inl f24))), (am25, .inl (g.2.1 0, 25, .inl f25))]) (wr := []) hP hD hS hA [0, 1, 2, 3, 4, 5] [] rfl rfl rfl (by decide) (va_runV (As := [.int (nI 3)]) (rest := []) F (t_MS_put l g _ T (am25 :: (am24 :: (am23 :: (am22 :: (am21 :: (r21 :: xs)))))) pl hO hU  (nI 3) r21 am21 am22 am23 am24 am25 72 ps23 (nI 6) f29 f30 f31 f24 f25 (by omega) (by omega)) (cwV 1 hts (wg_app (wg_c kw_1632 (wg_c kw_1616 (wg_c kw_1617 (wg_c kw_10 wg_n)))) kw_1618) rfl rfl rfl (by decide +kernel) ⟨by decide, by decide⟩) (pp_V (en_ok g) (q0 := 0) hK hP hD hS hA hE [0, 1, 2, 3, 4, 5] rfl rfl rfl rfl) rfl rfl hl.1 rfl (lv_room (Nat.le_of_ble_eq_true rfl)) dME_keys_35 ⟨by omega, by omega⟩) (fun  u25 H locs hu23 hP hD hS => ?_)
  obtain ⟨u26, pl⟩ := u25
  obtain ⟨hq23, hO⟩ := hu23
  obtain ⟨ps24, f32, f33, f34⟩ := u26
  have hP : va_P g.1 vcl ([(r21, .inr (9, [.ref am21, .ref am22, .ref am23, .ref am24, .ref am25, .int (nI 72), .int (nI ps24), .int (nI 6)])), (am21, .inl (g.2.1 2, 25, .inr (.inl f32))), (am22, .inl (g.2.1 2, 25, .inr (.inl f33))), (am23, .inl (g.2.1 2, 5, .inr (.inl f34))), (am24, .inl (g.2.1 2, 24, .inr (.inl f24))), (am25, .inl (g.2.1 0, 25, .inl f25))] ++ pl) _ := hP
  have hD : va_D _ ([(r21, .inr (9, [.ref am21, .ref am22, .ref am23, .ref am24, .ref am25, .int (nI 72), .int (nI ps24), .int (nI 6)])), (am21, .inl (g.2.1 2, 25, .inr (.inl f32))), (am22, .inl (g.2.1 2, 25, .inr (.inl f33))), (am23, .inl (g.2.1 2, 5, .inr (.inl f34))), (am24, .inl (g.2.1 2, 24, .inr (.inl f24))), (am25, .inl (g.2.1 0, 25, .inl f25))] ++ pl) := hD
  have hq23 : ps24 ≤ 72 := hq23
  refine W.widen (k := 0) (n := 0) (by omega) (by omega) ?_
  refine lv_aload_n hx hb dME_keys_38 rfl (lv_at hl 1 rfl) ?_
  refine ty_get (ci := 11) (C := "LatticeKeysModel$Secrets") (TT := T_ME) (N := 14) (kd := (23, 0)) hx hb hts (wg_ft i_ME) hown hK hO k_h0 (nxg (clo_cons (clo_cons (clo_cons (clo_cons (clo_cons (clo_cons hc0 kr21 (by decide)) km21 (by decide)) km22 (by decide)) km23 (by decide)) km24 (by decide)) km25 (by decide)) k_h0 rfl) hP (fun _ h9 => h9) rfl 0 (by decide) (hts _ (wg_t kw_1379)) (fun _ h9 => h9) (cd := (3, 20, 0)) rfl dME_keys_39 (fun v24 hv24 => ?_)
  obtain ⟨r24, rfl, kr24⟩ := (show ∃ r : Nat, v24 = .ref r ∧ T r = some (20, 0) from hv24)
  obtain rfl : r21 = r24 := hU _ _ _ (by decide) kr21 kr24
  refine mp_v (cx := [(r21, .inr (9, [.ref am21, .ref am22, .ref am23, .ref am24, .ref am25, .int (nI 72), .int (nI ps24), .int (nI 6)])), (am21, .inl (g.2.1 2, 25, .inr (.inl f32))), (am22, .inl (g.2.1 2, 25, .inr (.inl f33))), (am23, .inl (g.2.1 2, 5, .inr (.inl f34))), (am24, .inl (g.2.1 2, 24, .inr (.inl f24))), (am25, .inl (g.2.1 0, 25, .inl f25))]) (wr := []) hP hD hS hA [0, 1, 2, 3, 4, 5] [] rfl rfl rfl (by decide) (va_runV (As := []) (rest := []) F (t_MS_end l g _ T (am25 :: (am24 :: (am23 :: (am22 :: (am21 :: (r21 :: xs)))))) pl hO hU  r21 am21 am22 am23 am24 am25 72 ps24 (nI 6) f32 f33 f34 f24 f25 (by omega) (by omega)) (cwV 0 hts (wg_app (wg_c kw_1633 (wg_c kw_1634 (wg_c kw_1635 (wg_c kw_10 wg_n)))) kw_1636) rfl rfl rfl (by decide +kernel) ⟨by decide, by decide⟩) (pp_V (en_ok g) (q0 := 0) hK hP hD hS hA hE [0, 1, 2, 3, 4, 5] rfl rfl rfl rfl) rfl rfl hl.1 rfl (lv_room (Nat.le_of_ble_eq_true rfl)) dME_keys_42 ⟨by omega, by omega⟩) (fun  u27 H locs hu24 hP hD hS => ?_)
  obtain ⟨u28, pl⟩ := u27
  obtain ⟨hq24, hO⟩ := hu24
  obtain ⟨ps25, f35, f36, f37⟩ := u28
  have hP : va_P g.1 vcl ([(r21, .inr (9, [.ref am21, .ref am22, .ref am23, .ref am24, .ref am25, .int (nI 72), .int (nI ps25), .int (nI 6)])), (am21, .inl (g.2.1 2, 25, .inr (.inl f35))), (am22, .inl (g.2.1 2, 25, .inr (.inl f36))), (am23, .inl (g.2.1 2, 5, .inr (.inl f37))), (am24, .inl (g.2.1 2, 24, .inr (.inl f24))), (am25, .inl (g.2.1 0, 25, .inl f25))] ++ pl) _ := hP
  have hD : va_D _ ([(r21, .inr (9, [.ref am21, .ref am22, .ref am23, .ref am24, .ref am25, .int (nI 72), .int (nI ps25), .int (nI 6)])), (am21, .inl (g.2.1 2, 25, .inr (.inl f35))), (am22, .inl (g.2.1 2, 25, .inr (.inl f36))), (am23, .inl (g.2.1 2, 5, .inr (.inl f37))), (am24, .inl (g.2.1 2, 24, .inr (.inl f24))), (am25, .inl (g.2.1 0, 25, .inl f25))] ++ pl) := hD
  have hq24 : ps25 ≤ 72 := hq24
  refine W.widen (k := 0) (n := 0) (by omega) (by omega) ?_
  refine lv_aload_n hx hb dME_keys_45 rfl (lv_at hl 1 rfl) ?_
  refine ty_get (ci := 11) (C := "LatticeKeysModel$Secrets") (TT := T_ME) (N := 14) (kd := (23, 0)) hx hb hts (wg_ft i_ME) hown hK hO k_h0 (nxg (clo_cons (clo_cons (clo_cons (clo_cons (clo_cons (clo_cons hc0 kr21 (by decide)) km21 (by decide)) km22 (by decide)) km23 (by decide)) km24 (by decide)) km25 (by decide)) k_h0 rfl) hP (fun _ h9 => h9) rfl 0 (by decide) (hts _ (wg_t kw_1379)) (fun _ h9 => h9) (cd := (3, 20, 0)) rfl dME_keys_46 (fun v25 hv25 => ?_)
  obtain ⟨r25, rfl, kr25⟩ := (show ∃ r : Nat, v25 = .ref r ∧ T r = some (20, 0) from hv25)
  obtain rfl : r21 = r25 := hU _ _ _ (by decide) kr21 kr25
  refine lv_aload_n hx hb dME_keys_49 rfl (lv_at hl 1 rfl) ?_
  refine ty_get (ci := 11) (C := "LatticeKeysModel$Secrets") (TT := T_ME) (N := 14) (kd := (23, 0)) hx hb hts (wg_ft i_ME) hown hK hO k_h0 (nxg (clo_cons (clo_cons (clo_cons (clo_cons (clo_cons (clo_cons hc0 kr21 (by decide)) km21 (by decide)) km22 (by decide)) km23 (by decide)) km24 (by decide)) km25 (by decide)) k_h0 rfl) hP (fun _ h9 => h9) rfl 9 (by decide) (hts _ (wg_t kw_1388)) (fun _ h9 => h9) (cd := (3, 1, 64)) rfl dME_keys_50 (fun v26 hv26 => ?_)
  obtain ⟨r26, rfl, kr26⟩ := (show ∃ r : Nat, v26 = .ref r ∧ T r = some (1, 64) from hv26)
  refine lv_iconst (v := nI 0) hx hb dME_keys_53 (by decide) ?_
  refine lv_bipush (v := nI 64) hx hb dME_keys_54 (by decide) ?_
  refine mp_v (cx := [(r21, .inr (9, [.ref am21, .ref am22, .ref am23, .ref am24, .ref am25, .int (nI 72), .int (nI ps25), .int (nI 6)])), (am21, .inl (g.2.1 2, 25, .inr (.inl f35))), (am22, .inl (g.2.1 2, 25, .inr (.inl f36))), (am23, .inl (g.2.1 2, 5, .inr (.inl f37))), (am24, .inl (g.2.1 2, 24, .inr (.inl f24))), (am25, .inl (g.2.1 0, 25, .inl f25))]) (wr := []) hP hD hS hA [0, 1, 2, 3, 4, 5] [] rfl rfl rfl (by decide) (va_runV (As := [.ref r26, .int (nI 0), .int (nI 64)]) (rest := []) F (t_MS_take l g _ T (am25 :: (am24 :: (am23 :: (am22 :: (am21 :: (r21 :: xs)))))) pl hO hU (clo_cons (clo_cons (clo_cons (clo_cons (clo_cons (clo_cons hc0 kr21 (by decide)) km21 (by decide)) km22 (by decide)) km23 (by decide)) km24 (by decide)) km25 (by decide)) r26 64 0 64 r21 am21 am22 am23 am24 am25 72 ps25 (nI 6) f35 f36 f37 f24 f25 kr26 (by omega) (by omega) (by omega) (by omega)) (cwV 3 hts (wg_app (wg_c kw_1637 (wg_c kw_1638 (wg_c kw_1639 (wg_c kw_10 wg_n)))) kw_1640) rfl rfl rfl (by decide +kernel) ⟨by decide, by decide⟩) (pp_V (en_ok g) (q0 := 0) hK hP hD hS hA hE [0, 1, 2, 3, 4, 5] rfl rfl rfl rfl) rfl rfl hl.1 rfl (lv_room (Nat.le_of_ble_eq_true rfl)) dME_keys_56 ⟨by omega, by omega⟩) (fun  u29 H locs hu25 hP hD hS => ?_)
  obtain ⟨u30, pl⟩ := u29
  obtain ⟨hq25, hO⟩ := hu25
  obtain ⟨ps26, f38, f39, f40⟩ := u30
  have hP : va_P g.1 vcl ([(r21, .inr (9, [.ref am21, .ref am22, .ref am23, .ref am24, .ref am25, .int (nI 72), .int (nI ps26), .int (nI 6)])), (am21, .inl (g.2.1 2, 25, .inr (.inl f38))), (am22, .inl (g.2.1 2, 25, .inr (.inl f39))), (am23, .inl (g.2.1 2, 5, .inr (.inl f40))), (am24, .inl (g.2.1 2, 24, .inr (.inl f24))), (am25, .inl (g.2.1 0, 25, .inl f25))] ++ pl) _ := hP
  have hD : va_D _ ([(r21, .inr (9, [.ref am21, .ref am22, .ref am23, .ref am24, .ref am25, .int (nI 72), .int (nI ps26), .int (nI 6)])), (am21, .inl (g.2.1 2, 25, .inr (.inl f38))), (am22, .inl (g.2.1 2, 25, .inr (.inl f39))), (am23, .inl (g.2.1 2, 5, .inr (.inl f40))), (am24, .inl (g.2.1 2, 24, .inr (.inl f24))), (am25, .inl (g.2.1 0, 25, .inl f25))] ++ pl) := hD
  have hq25 : ps26 ≤ 72 := hq25
  refine W.widen (k := 0) (n := 0) (by omega) (by omega) ?_
  refine lv_aload_n hx hb dME_keys_59 rfl (lv_at hl 1 rfl) ?_
  refine lv_aload_n hx hb dME_keys_60 rfl (lv_at hl 1 rfl) ?_
  refine ty_get (ci := 11) (C := "LatticeKeysModel$Secrets") (TT := T_ME) (N := 14) (kd := (23, 0)) hx hb hts (wg_ft i_ME) hown hK hO k_h0 (nxg (clo_cons (clo_cons (clo_cons (clo_cons (clo_cons (clo_cons hc0 kr21 (by decide)) km21 (by decide)) km22 (by decide)) km23 (by decide)) km24 (by decide)) km25 (by decide)) k_h0 rfl) hP (fun _ h9 => h9) rfl 9 (by decide) (hts _ (wg_t kw_1388)) (fun _ h9 => h9) (cd := (3, 1, 64)) rfl dME_keys_61 (fun v27 hv27 => ?_)
  obtain ⟨r27, rfl, kr27⟩ := (show ∃ r : Nat, v27 = .ref r ∧ T r = some (1, 64) from hv27)
  refine lv_iconst (v := nI 0) hx hb dME_keys_64 (by decide) ?_
  refine lv_iload hx hb dME_keys_65 (lv_at hl 0 rfl) ?_
  have hO := close1 (e := .inl (g.2.1 0, 25, .inl f25)) hO km25 ⟨_, rfl⟩
  have hO := close1 (e := .inl (g.2.1 2, 24, .inr (.inl f24))) hO km24 ⟨_, rfl⟩
  have hO := close1 (e := .inl (g.2.1 2, 5, .inr (.inl f40))) hO km23 ⟨_, rfl⟩
  have hO := close1 (e := .inl (g.2.1 2, 25, .inr (.inl f39))) hO km22 ⟨_, rfl⟩
  have hO := close1 (e := .inl (g.2.1 2, 25, .inr (.inl f38))) hO km21 ⟨_, rfl⟩
  have hO := close1 (e := .inr (9, [.ref am21, .ref am22, .ref am23, .ref am24, .ref am25, .int (nI 72), .int (nI ps26), .int (nI 6)])) hO kr21 ⟨_, _, _, _, _, _, _, _, rfl, km21, km22, km23, km24, km25, by omega, by omega, by omega⟩
  have hO : okx g T xs ((r21, .inr (9, [.ref am21, .ref am22, .ref am23, .ref am24, .ref am25, .int (nI 72), .int (nI ps26), .int (nI 6)])) :: (am21, .inl (g.2.1 2, 25, .inr (.inl f38))) :: (am22, .inl (g.2.1 2, 25, .inr (.inl f39))) :: (am23, .inl (g.2.1 2, 5, .inr (.inl f40))) :: (am24, .inl (g.2.1 2, 24, .inr (.inl f24))) :: (am25, .inl (g.2.1 0, 25, .inl f25)) :: pl) := hO
  have hP : va_P g.1 vcl ([] ++ ((r21, .inr (9, [.ref am21, .ref am22, .ref am23, .ref am24, .ref am25, .int (nI 72), .int (nI ps26), .int (nI 6)])) :: (am21, .inl (g.2.1 2, 25, .inr (.inl f38))) :: (am22, .inl (g.2.1 2, 25, .inr (.inl f39))) :: (am23, .inl (g.2.1 2, 5, .inr (.inl f40))) :: (am24, .inl (g.2.1 2, 24, .inr (.inl f24))) :: (am25, .inl (g.2.1 0, 25, .inl f25)) :: pl)) _ := hP
  have hD : va_D _ ([] ++ ((r21, .inr (9, [.ref am21, .ref am22, .ref am23, .ref am24, .ref am25, .int (nI 72), .int (nI ps26), .int (nI 6)])) :: (am21, .inl (g.2.1 2, 25, .inr (.inl f38))) :: (am22, .inl (g.2.1 2, 25, .inr (.inl f39))) :: (am23, .inl (g.2.1 2, 5, .inr (.inl f40))) :: (am24, .inl (g.2.1 2, 24, .inr (.inl f24))) :: (am25, .inl (g.2.1 0, 25, .inl f25)) :: pl)) := hD
  generalize ((r21, .inr (9, [.ref am21, .ref am22, .ref am23, .ref am24, .ref am25, .int (nI 72), .int (nI ps26), .int (nI 6)])) :: (am21, .inl (g.2.1 2, 25, .inr (.inl f38))) :: (am22, .inl (g.2.1 2, 25, .inr (.inl f39))) :: (am23, .inl (g.2.1 2, 5, .inr (.inl f40))) :: (am24, .inl (g.2.1 2, 24, .inr (.inl f24))) :: (am25, .inl (g.2.1 0, 25, .inl f25)) :: pl) = pl at hO hP hD
  refine mp_v (cx := []) (wr := []) hP hD hS hA [] [] rfl rfl rfl (by decide) (va_runV (As := [.ref r27, .int (nI 0), .int (nI 3)]) (rest := []) F (t_ME_expand_3 l g _ T xs pl hO hU hc0 hc9 h0 r27 64 0 k_h0 kr27 (by omega) (by omega)) (cwV 3 hts (wg_app (wg_c kw_1645 (wg_c kw_1647 (wg_c ks_54 (wg_c kw_11 wg_n)))) kw_1648) rfl rfl rfl (by decide +kernel) ⟨by decide, by decide⟩) (pp_VT (en_ok g) (ci := 11) (kd := (23, 0)) hK hO k_h0 (nxg hc0 k_h0 rfl) (fun _ h9 => ko1 h9) hP hD hS hA hE [] rfl rfl rfl) rfl rfl hl.1 rfl (lv_room (Nat.le_of_ble_eq_true rfl)) dME_keys_67 ⟨by omega, by omega⟩) (fun  pl H locs hu26 hP hD hS => ?_)
  obtain ⟨hq26, hO⟩ := hu26
  have hP : va_P g.1 vcl ([] ++ pl) _ := hP
  have hD : va_D _ ([] ++ pl) := hD
  refine W.widen (k := 0) (n := 0) (by omega) (by omega) ?_
  refine lv_iconst (v := nI 0) hx hb dME_keys_70 (by decide) ?_
  refine lv_istore (lv' := [(6, .int (nI 0)), (5, .int (nI 3)), (0, .ref h0), (1, .int (nI 1)), (2, .ref sd), (3, .ref ek), (4, .ref dk)]) hx hb dME_keys_71 hl (by decide) rfl (fun ls hl => ?_)
  have lp21 : ∀ (n21 : Nat) (i21 : Nat) (pl : va_W) (ls : Array Slot) (H : Heap) (locs : List Loc), n21 + i21 = 3 → lv_has ls 8 [(6, .int (nI i21)), (5, .int (nI 3)), (0, .ref h0), (1, .int (nI 1)), (2, .ref sd), (3, .ref ek), (4, .ref dk)] → okx g T xs pl → va_P g.1 vcl ([] ++ pl) H → va_D A ([] ++ pl) → va_S A s.heap H locs → W p l e ({ frames := 5, cells := 0, slots := 0, locals := 126 } : Room) s m args below meth c H locs 0 0 (MQ below (va_Qv (fun (u : va_W) => (True) ∧ okx g T xs u) (po g.1 vcl A (fun (u : va_W) => [] ++ u)) A) args s 0 0 A) (F0 m 73 ls []) := by
    intro n21
    induction n21 with
    | zero =>
      intro i21 pl ls H locs hm21  hl hO hP hD hS
      refine lv_iload hx hb dME_keys_73 (lv_at hl 0 rfl) ?_
      refine lv_iload hx hb dME_keys_75 (lv_at hl 1 rfl) ?_
      refine mi_ge (tgt := 159) hx hb dME_keys_77 (by decide) (by omega) (by omega) (fun h21 => ?_) (fun h21 => absurd h21 (by omega))
      refine lv_iconst (v := nI 0) hx hb dME_keys_159 (by decide) ?_
      refine lv_istore (lv' := [(6, .int (nI 0)), (5, .int (nI 3)), (0, .ref h0), (1, .int (nI 1)), (2, .ref sd), (3, .ref ek), (4, .ref dk)]) hx hb dME_keys_160 hl (by decide) rfl (fun ls hl => ?_)
      have lp22 : ∀ (n22 : Nat) (i22 : Nat) (pl : va_W) (ls : Array Slot) (H : Heap) (locs : List Loc), n22 + i22 = 3 → lv_has ls 8 [(6, .int (nI i22)), (5, .int (nI 3)), (0, .ref h0), (1, .int (nI 1)), (2, .ref sd), (3, .ref ek), (4, .ref dk)] → okx g T xs pl → va_P g.1 vcl ([] ++ pl) H → va_D A ([] ++ pl) → va_S A s.heap H locs → W p l e ({ frames := 5, cells := 0, slots := 0, locals := 126 } : Room) s m args below meth c H locs 0 0 (MQ below (va_Qv (fun (u : va_W) => (True) ∧ okx g T xs u) (po g.1 vcl A (fun (u : va_W) => [] ++ u)) A) args s 0 0 A) (F0 m 162 ls []) := by
        intro n22
        induction n22 with
        | zero =>
          intro i22 pl ls H locs hm22  hl hO hP hD hS
          refine lv_iload hx hb dME_keys_162 (lv_at hl 0 rfl) ?_
          refine lv_iload hx hb dME_keys_164 (lv_at hl 1 rfl) ?_
          refine mi_ge (tgt := 260) hx hb dME_keys_166 (by decide) (by omega) (by omega) (fun h22 => ?_) (fun h22 => absurd h22 (by omega))
          refine lv_iconst (v := nI 0) hx hb dME_keys_260 (by decide) ?_
          refine lv_istore (lv' := [(6, .int (nI 0)), (5, .int (nI 3)), (0, .ref h0), (1, .int (nI 1)), (2, .ref sd), (3, .ref ek), (4, .ref dk)]) hx hb dME_keys_261 hl (by decide) rfl (fun ls hl => ?_)
          have lp23 : ∀ (n23 : Nat) (i23 : Nat) (pl : va_W) (ls : Array Slot) (H : Heap) (locs : List Loc), n23 + i23 = 32 → lv_has ls 8 [(6, .int (nI i23)), (5, .int (nI 3)), (0, .ref h0), (1, .int (nI 1)), (2, .ref sd), (3, .ref ek), (4, .ref dk)] → okx g T xs pl → va_P g.1 vcl ([] ++ pl) H → va_D A ([] ++ pl) → va_S A s.heap H locs → W p l e ({ frames := 5, cells := 0, slots := 0, locals := 126 } : Room) s m args below meth c H locs 0 0 (MQ below (va_Qv (fun (u : va_W) => (True) ∧ okx g T xs u) (po g.1 vcl A (fun (u : va_W) => [] ++ u)) A) args s 0 0 A) (F0 m 263 ls []) := by
            intro n23
            induction n23 with
            | zero =>
              intro i23 pl ls H locs hm23  hl hO hP hD hS
              refine lv_iload hx hb dME_keys_263 (lv_at hl 0 rfl) ?_
              refine lv_bipush (v := nI 32) hx hb dME_keys_265 (by decide) ?_
              refine mi_ge (tgt := 294) hx hb dME_keys_267 (by decide) (by omega) (by omega) (fun h23 => ?_) (fun h23 => absurd h23 (by omega))
              refine lv_iconst (v := nI 0) hx hb dME_keys_294 (by decide) ?_
              refine lv_istore (lv' := [(6, .int (nI 0)), (5, .int (nI 3)), (0, .ref h0), (1, .int (nI 1)), (2, .ref sd), (3, .ref ek), (4, .ref dk)]) hx hb dME_keys_295 hl (by decide) rfl (fun ls hl => ?_)
              have lp24 : ∀ (n24 : Nat) (i24 : Nat) (pl : va_W) (ls : Array Slot) (H : Heap) (locs : List Loc), n24 + i24 = 1184 → lv_has ls 8 [(6, .int (nI i24)), (5, .int (nI 3)), (0, .ref h0), (1, .int (nI 1)), (2, .ref sd), (3, .ref ek), (4, .ref dk)] → okx g T xs pl → va_P g.1 vcl ([] ++ pl) H → va_D A ([] ++ pl) → va_S A s.heap H locs → W p l e ({ frames := 5, cells := 0, slots := 0, locals := 126 } : Room) s m args below meth c H locs 0 0 (MQ below (va_Qv (fun (u : va_W) => (True) ∧ okx g T xs u) (po g.1 vcl A (fun (u : va_W) => [] ++ u)) A) args s 0 0 A) (F0 m 297 ls []) := by
                intro n24
                induction n24 with
                | zero =>
                  intro i24 pl ls H locs hm24  hl hO hP hD hS
                  refine lv_iload hx hb dME_keys_297 (lv_at hl 0 rfl) ?_
                  refine lv_iload_n hx hb dME_keys_299 rfl (lv_at hl 3 rfl) ?_
                  refine mp_i (cx := []) (wr := []) hP hD hS hA [] [] rfl rfl rfl (by decide) (va_runS (As := [.int (nI 1)]) (rest := [.int (nI i24)]) F (t_ME_openSize_1 l g _ T xs pl hO hU  ) (va_cwS 1 hts (wg_app (wg_c kw_1691 (wg_c kw_1692 (wg_c kw_11 wg_n))) kw_1693) rfl rfl rfl (by decide +kernel) ⟨by decide, by decide⟩) (pp_S (en_ok g) hP hD hS hA hE [] rfl rfl) rfl rfl hl.1 rfl (lv_room (Nat.le_of_ble_eq_true rfl)) dME_keys_300 ⟨by omega, by omega⟩) (fun r28 pl H locs hu27 hP hD hS => ?_)
                  obtain ⟨hq27, hO⟩ := hu27
                  have hP : va_P g.1 vcl ([] ++ pl) _ := hP
                  have hD : va_D _ ([] ++ pl) := hD
                  obtain rfl := hq27
                  refine W.widen (k := 0) (n := 0) (by omega) (by omega) ?_
                  refine mi_ge (tgt := 328) hx hb dME_keys_303 (by decide) (by omega) (by omega) (fun h24 => ?_) (fun h24 => absurd h24 (by omega))
                  refine lv_aload_n hx hb dME_keys_328 rfl (lv_at hl 2 rfl) ?_
                  refine lv_aload_n hx hb dME_keys_329 rfl (lv_at hl 5 rfl) ?_
                  refine lv_iconst (v := nI 0) hx hb dME_keys_330 (by decide) ?_
                  refine lv_iload_n hx hb dME_keys_331 rfl (lv_at hl 3 rfl) ?_
                  refine mp_i (cx := []) (wr := []) hP hD hS hA [] [] rfl rfl rfl (by decide) (va_runS (As := [.int (nI 1)]) (rest := [.int (nI 0), .ref ek, .ref h0]) F (t_ME_openSize_1 l g _ T xs pl hO hU  ) (va_cwS 1 hts (wg_app (wg_c kw_1691 (wg_c kw_1692 (wg_c kw_11 wg_n))) kw_1693) rfl rfl rfl (by decide +kernel) ⟨by decide, by decide⟩) (pp_S (en_ok g) hP hD hS hA hE [] rfl rfl) rfl rfl hl.1 rfl (lv_room (Nat.le_of_ble_eq_true rfl)) dME_keys_332 ⟨by omega, by omega⟩) (fun r29 pl H locs hu28 hP hD hS => ?_)
                  obtain ⟨hq28, hO⟩ := hu28
                  have hP : va_P g.1 vcl ([] ++ pl) _ := hP
                  have hD : va_D _ ([] ++ pl) := hD
                  obtain rfl := hq28
                  refine W.widen (k := 0) (n := 0) (by omega) (by omega) ?_
                  refine lv_aload hx hb dME_keys_335 (lv_at hl 6 rfl) ?_
                  refine lv_sipush (v := nI 768) hx hb dME_keys_337 (by decide) ?_
                  refine lv_iload hx hb dME_keys_340 (lv_at hl 1 rfl) ?_
                  refine mi_imul hx hb dME_keys_342 ?_
                  refine mi_as (show nI (768 * 3) = nI 2304 from rfl) ?_
                  refine lv_bipush (v := nI 32) hx hb dME_keys_343 (by decide) ?_
                  refine mi_iadd hx hb dME_keys_345 ?_
                  refine mi_as (show nI (2304 + 32) = nI 2336 from rfl) ?_
                  refine mp_v (cx := []) (wr := []) hP hD hS hA [] [] rfl rfl rfl (by decide) (va_runV (As := [.ref ek, .int (nI 0), .int (nI 1184), .ref dk, .int (nI 2336)]) (rest := []) F (t_ME_hash l g _ T xs pl hO hU hc0 hc9 h0 ek dk 2592 4896 0 1184 2336 k_h0 k_ek k_dk (by omega) (by omega) (by omega) (by omega)) (cwV 5 hts (wg_app (wg_c kw_1694 (wg_c kw_1696 (wg_c ks_59 (wg_c kw_11 wg_n)))) kw_1697) rfl rfl rfl (by decide +kernel) ⟨by decide, by decide⟩) (pp_VT (en_ok g) (ci := 11) (kd := (23, 0)) hK hO k_h0 (nxg hc0 k_h0 rfl) (fun _ h9 => ko1 h9) hP hD hS hA hE [] rfl rfl rfl) rfl rfl hl.1 rfl (lv_room (Nat.le_of_ble_eq_true rfl)) dME_keys_346 ⟨by omega, by omega⟩) (fun  pl H locs hu29 hP hD hS => ?_)
                  obtain ⟨hq29, hO⟩ := hu29
                  have hP : va_P g.1 vcl ([] ++ pl) _ := hP
                  have hD : va_D _ ([] ++ pl) := hD
                  refine W.widen (k := 0) (n := 0) (by omega) (by omega) ?_
                  refine lv_iconst (v := nI 0) hx hb dME_keys_349 (by decide) ?_
                  refine lv_istore (lv' := [(6, .int (nI 0)), (5, .int (nI 3)), (0, .ref h0), (1, .int (nI 1)), (2, .ref sd), (3, .ref ek), (4, .ref dk)]) hx hb dME_keys_350 hl (by decide) rfl (fun ls hl => ?_)
                  have lp25 : ∀ (n25 : Nat) (i25 : Nat) (pl : va_W) (ls : Array Slot) (H : Heap) (locs : List Loc), n25 + i25 = 32 → lv_has ls 8 [(6, .int (nI i25)), (5, .int (nI 3)), (2, .ref sd), (4, .ref dk)] → okx g T xs pl → va_P g.1 vcl ([] ++ pl) H → va_D A ([] ++ pl) → va_S A s.heap H locs → W p l e ({ frames := 5, cells := 0, slots := 0, locals := 126 } : Room) s m args below meth c H locs 0 0 (MQ below (va_Qv (fun (u : va_W) => (True) ∧ okx g T xs u) (po g.1 vcl A (fun (u : va_W) => [] ++ u)) A) args s 0 0 A) (F0 m 352 ls []) := by
                    intro n25
                    induction n25 with
                    | zero =>
                      intro i25 pl ls H locs hm25  hl hO hP hD hS
                      refine lv_iload hx hb dME_keys_352 (lv_at hl 0 rfl) ?_
                      refine lv_bipush (v := nI 32) hx hb dME_keys_354 (by decide) ?_
                      refine mi_ge (tgt := 387) hx hb dME_keys_356 (by decide) (by omega) (by omega) (fun h25 => ?_) (fun h25 => absurd h25 (by omega))
                      exact mp_vret hx hb hr hlk hP hD hS pl ⟨trivial, hO⟩ [] rfl rfl rfl (by omega) (by omega) dME_keys_387
                    | succ n25 ih25 =>
                      intro i25 pl ls H locs hm25  hl hO hP hD hS
                      refine lv_iload hx hb dME_keys_352 (lv_at hl 0 rfl) ?_
                      refine lv_bipush (v := nI 32) hx hb dME_keys_354 (by decide) ?_
                      refine mi_ge (tgt := 387) hx hb dME_keys_356 (by decide) (by omega) (by omega) (fun h26 => absurd h26 (by omega)) (fun h26 => ?_)
                      refine lv_aload hx hb dME_keys_359 (lv_at hl 3 rfl) ?_
                      refine lv_sipush (v := nI 768) hx hb dME_keys_361 (by decide) ?_
                      refine lv_iload hx hb dME_keys_364 (lv_at hl 1 rfl) ?_
                      refine mi_imul hx hb dME_keys_366 ?_
                      refine mi_as (show nI (768 * 3) = nI 2304 from rfl) ?_
                      refine lv_bipush (v := nI 64) hx hb dME_keys_367 (by decide) ?_
                      refine mi_iadd hx hb dME_keys_369 ?_
                      refine mi_as (show nI (2304 + 64) = nI 2368 from rfl) ?_
                      refine lv_iload hx hb dME_keys_370 (lv_at hl 0 rfl) ?_
                      refine mi_iadd hx hb dME_keys_372 ?_
                      refine lv_aload_n hx hb dME_keys_373 rfl (lv_at hl 2 rfl) ?_
                      refine lv_bipush (v := nI 32) hx hb dME_keys_374 (by decide) ?_
                      refine lv_iload hx hb dME_keys_376 (lv_at hl 0 rfl) ?_
                      refine mi_iadd hx hb dME_keys_378 ?_
                      refine ty_bald hx hb hK hO k_sd (nxg hc0 k_sd rfl) hP (vp_in_nI (by omega) (by omega)) dME_keys_379 (fun z21 => ?_)
                      refine ty_bast hx hb hK hO k_dk (nxg hc0 k_dk rfl) hP hD hS (vp_in_nI (by omega) (by decide)) dME_keys_380 (fun pl H locs hO hP hD hS => ?_)
                      refine mi_iinc (k := 0) (x := i25) (d := 1) (y := i25 + 1) (lv' := [(6, .int (nI (i25 + 1))), (5, .int (nI 3)), (2, .ref sd), (4, .ref dk)]) hx hb dME_keys_381 hl rfl (by decide) rfl (by decide) rfl (fun ls hl => ?_)
                      refine lv_goto (tgt := 352) hx hb dME_keys_384 (by decide) ?_
                      exact ih25 (i25 + 1) pl ls H locs (by omega) (lv_sub hl [0, 1, 2, 3] rfl) hO hP hD hS
                  exact lp25 32 0 pl ls _ _ (by omega) (lv_sub hl [0, 1, 4, 6] rfl) hO hP hD hS
                | succ n24 ih24 =>
                  intro i24 pl ls H locs hm24  hl hO hP hD hS
                  refine lv_iload hx hb dME_keys_297 (lv_at hl 0 rfl) ?_
                  refine lv_iload_n hx hb dME_keys_299 rfl (lv_at hl 3 rfl) ?_
                  refine mp_i (cx := []) (wr := []) hP hD hS hA [] [] rfl rfl rfl (by decide) (va_runS (As := [.int (nI 1)]) (rest := [.int (nI i24)]) F (t_ME_openSize_1 l g _ T xs pl hO hU  ) (va_cwS 1 hts (wg_app (wg_c kw_1691 (wg_c kw_1692 (wg_c kw_11 wg_n))) kw_1693) rfl rfl rfl (by decide +kernel) ⟨by decide, by decide⟩) (pp_S (en_ok g) hP hD hS hA hE [] rfl rfl) rfl rfl hl.1 rfl (lv_room (Nat.le_of_ble_eq_true rfl)) dME_keys_300 ⟨by omega, by omega⟩) (fun r30 pl H locs hu30 hP hD hS => ?_)
                  obtain ⟨hq30, hO⟩ := hu30
                  have hP : va_P g.1 vcl ([] ++ pl) _ := hP
                  have hD : va_D _ ([] ++ pl) := hD
                  obtain rfl := hq30
                  refine W.widen (k := 0) (n := 0) (by omega) (by omega) ?_
                  refine mi_ge (tgt := 328) hx hb dME_keys_303 (by decide) (by omega) (by omega) (fun h27 => absurd h27 (by omega)) (fun h27 => ?_)
                  refine lv_aload hx hb dME_keys_306 (lv_at hl 6 rfl) ?_
                  refine lv_sipush (v := nI 384) hx hb dME_keys_308 (by decide) ?_
                  refine lv_iload hx hb dME_keys_311 (lv_at hl 1 rfl) ?_
                  refine mi_imul hx hb dME_keys_313 ?_
                  refine mi_as (show nI (384 * 3) = nI 1152 from rfl) ?_
                  refine lv_iload hx hb dME_keys_314 (lv_at hl 0 rfl) ?_
                  refine mi_iadd hx hb dME_keys_316 ?_
                  refine lv_aload_n hx hb dME_keys_317 rfl (lv_at hl 5 rfl) ?_
                  refine lv_iload hx hb dME_keys_318 (lv_at hl 0 rfl) ?_
                  refine ty_bald hx hb hK hO k_ek (nxg hc0 k_ek rfl) hP (vp_in_nI (by omega) (by decide)) dME_keys_320 (fun z22 => ?_)
                  refine ty_bast hx hb hK hO k_dk (nxg hc0 k_dk rfl) hP hD hS (vp_in_nI (by omega) (by decide)) dME_keys_321 (fun pl H locs hO hP hD hS => ?_)
                  refine mi_iinc (k := 0) (x := i24) (d := 1) (y := i24 + 1) (lv' := [(6, .int (nI (i24 + 1))), (5, .int (nI 3)), (0, .ref h0), (1, .int (nI 1)), (2, .ref sd), (3, .ref ek), (4, .ref dk)]) hx hb dME_keys_322 hl rfl (by decide) rfl (by decide) rfl (fun ls hl => ?_)
                  refine lv_goto (tgt := 297) hx hb dME_keys_325 (by decide) ?_
                  exact ih24 (i24 + 1) pl ls H locs (by omega) (lv_sub hl [0, 1, 2, 3, 4, 5, 6] rfl) hO hP hD hS
              exact lp24 1184 0 pl ls _ _ (by omega) (lv_sub hl [0, 1, 2, 3, 4, 5, 6] rfl) hO hP hD hS
            | succ n23 ih23 =>
              intro i23 pl ls H locs hm23  hl hO hP hD hS
              refine lv_iload hx hb dME_keys_263 (lv_at hl 0 rfl) ?_
              refine lv_bipush (v := nI 32) hx hb dME_keys_265 (by decide) ?_
              refine mi_ge (tgt := 294) hx hb dME_keys_267 (by decide) (by omega) (by omega) (fun h28 => absurd h28 (by omega)) (fun h28 => ?_)
              refine lv_aload_n hx hb dME_keys_270 rfl (lv_at hl 5 rfl) ?_
              refine lv_sipush (v := nI 384) hx hb dME_keys_271 (by decide) ?_
              refine lv_iload hx hb dME_keys_274 (lv_at hl 1 rfl) ?_
              refine mi_imul hx hb dME_keys_276 ?_
              refine mi_as (show nI (384 * 3) = nI 1152 from rfl) ?_
              refine lv_iload hx hb dME_keys_277 (lv_at hl 0 rfl) ?_
              refine mi_iadd hx hb dME_keys_279 ?_
              refine lv_aload_n hx hb dME_keys_280 rfl (lv_at hl 2 rfl) ?_
              refine ty_get (ci := 11) (C := "LatticeKeysModel$Secrets") (TT := T_ME) (N := 14) (kd := (23, 0)) hx hb hts (wg_ft i_ME) hown hK hO k_h0 (nxg hc0 k_h0 rfl) hP (fun _ h9 => h9) rfl 9 (by decide) (hts _ (wg_t kw_1388)) (fun _ h9 => h9) (cd := (3, 1, 64)) rfl dME_keys_281 (fun v28 hv28 => ?_)
              obtain ⟨r31, rfl, kr28⟩ := (show ∃ r : Nat, v28 = .ref r ∧ T r = some (1, 64) from hv28)
              refine lv_iload hx hb dME_keys_284 (lv_at hl 0 rfl) ?_
              refine ty_bald hx hb hK hO kr28 (nxg hc0 kr28 rfl) hP (vp_in_nI (by omega) (by decide)) dME_keys_286 (fun z23 => ?_)
              refine ty_bast hx hb hK hO k_ek (nxg hc0 k_ek rfl) hP hD hS (vp_in_nI (by omega) (by decide)) dME_keys_287 (fun pl H locs hO hP hD hS => ?_)
              refine mi_iinc (k := 0) (x := i23) (d := 1) (y := i23 + 1) (lv' := [(6, .int (nI (i23 + 1))), (5, .int (nI 3)), (0, .ref h0), (1, .int (nI 1)), (2, .ref sd), (3, .ref ek), (4, .ref dk)]) hx hb dME_keys_288 hl rfl (by decide) rfl (by decide) rfl (fun ls hl => ?_)
              refine lv_goto (tgt := 263) hx hb dME_keys_291 (by decide) ?_
              exact ih23 (i23 + 1) pl ls H locs (by omega) (lv_sub hl [0, 1, 2, 3, 4, 5, 6] rfl) hO hP hD hS
          exact lp23 32 0 pl ls _ _ (by omega) (lv_sub hl [0, 1, 2, 3, 4, 5, 6] rfl) hO hP hD hS
        | succ n22 ih22 =>
          intro i22 pl ls H locs hm22  hl hO hP hD hS
          refine lv_iload hx hb dME_keys_162 (lv_at hl 0 rfl) ?_
          refine lv_iload hx hb dME_keys_164 (lv_at hl 1 rfl) ?_
          refine mi_ge (tgt := 260) hx hb dME_keys_166 (by decide) (by omega) (by omega) (fun h29 => absurd h29 (by omega)) (fun h29 => ?_)
          refine lv_iconst (v := nI 0) hx hb dME_keys_169 (by decide) ?_
          refine lv_istore (lv' := [(7, .int (nI 0)), (6, .int (nI i22)), (5, .int (nI 3)), (0, .ref h0), (1, .int (nI 1)), (2, .ref sd), (3, .ref ek), (4, .ref dk)]) hx hb dME_keys_170 hl (by decide) rfl (fun ls hl => ?_)
          have lp26 : ∀ (n26 : Nat) (i26 : Nat) (pl : va_W) (ls : Array Slot) (H : Heap) (locs : List Loc), n26 + i26 = 3 → lv_has ls 8 [(7, .int (nI i26)), (6, .int (nI i22)), (5, .int (nI 3)), (0, .ref h0), (1, .int (nI 1)), (2, .ref sd), (3, .ref ek), (4, .ref dk)] → okx g T xs pl → va_P g.1 vcl ([] ++ pl) H → va_D A ([] ++ pl) → va_S A s.heap H locs → W p l e ({ frames := 5, cells := 0, slots := 0, locals := 126 } : Room) s m args below meth c H locs 0 0 (MQ below (va_Qv (fun (u : va_W) => (True) ∧ okx g T xs u) (po g.1 vcl A (fun (u : va_W) => [] ++ u)) A) args s 0 0 A) (F0 m 172 ls []) := by
            intro n26
            induction n26 with
            | zero =>
              intro i26 pl ls H locs hm26  hl hO hP hD hS
              refine lv_iload hx hb dME_keys_172 (lv_at hl 0 rfl) ?_
              refine lv_iload hx hb dME_keys_174 (lv_at hl 2 rfl) ?_
              refine mi_ge (tgt := 215) hx hb dME_keys_176 (by decide) (by omega) (by omega) (fun h30 => ?_) (fun h30 => absurd h30 (by omega))
              refine lv_aload_n hx hb dME_keys_215 rfl (lv_at hl 3 rfl) ?_
              refine ty_get (ci := 11) (C := "LatticeKeysModel$Secrets") (TT := T_ME) (N := 14) (kd := (23, 0)) hx hb hts (wg_ft i_ME) hown hK hO k_h0 (nxg hc0 k_h0 rfl) hP (fun _ h9 => h9) rfl 4 (by decide) (hts _ (wg_t kw_1383)) (fun _ h9 => h9) (cd := (3, 3, 4)) rfl dME_keys_216 (fun v29 hv29 => ?_)
              obtain ⟨r32, rfl, kr29⟩ := (show ∃ r : Nat, v29 = .ref r ∧ T r = some (3, 4) from hv29)
              refine lv_iload hx hb dME_keys_219 (lv_at hl 1 rfl) ?_
              refine ty_aald3 hx hb hK hO kr29 (nxg hc0 kr29 rfl) hP (by omega) (by decide) dME_keys_221 (fun r33 kr30 => ?_)
              refine lv_aload_n hx hb dME_keys_222 rfl (lv_at hl 6 rfl) ?_
              refine lv_sipush (v := nI 384) hx hb dME_keys_223 (by decide) ?_
              refine lv_iload hx hb dME_keys_226 (lv_at hl 1 rfl) ?_
              refine mi_imul hx hb dME_keys_228 ?_
              refine lv_bipush (v := nI 12) hx hb dME_keys_229 (by decide) ?_
              refine mp_v (cx := []) (wr := []) hP hD hS hA [] [] rfl rfl rfl (by decide) (va_runS (As := [.ref r33, .ref ek, .int (nI (384 * i22)), .int (nI 12)]) (rest := []) F (t_ME_write_12 l g _ T xs pl hO hU hc0 r33 ek 2592 (384 * i22) kr30 k_ek (by omega) (by omega)) (va_cwS 4 hts (wg_app (wg_c kw_1685 (wg_c kw_1686 (wg_c kw_11 wg_n))) kw_1687) rfl rfl rfl (by decide +kernel) ⟨by decide, by decide⟩) (pp_S (en_ok g) hP hD hS hA hE [] rfl rfl) rfl rfl hl.1 rfl (lv_room (Nat.le_of_ble_eq_true rfl)) dME_keys_231 ⟨by omega, by omega⟩) (fun  pl H locs hu31 hP hD hS => ?_)
              obtain ⟨hq31, hO⟩ := hu31
              have hP : va_P g.1 vcl ([] ++ pl) _ := hP
              have hD : va_D _ ([] ++ pl) := hD
              refine W.widen (k := 0) (n := 0) (by omega) (by omega) ?_
              refine lv_aload_n hx hb dME_keys_234 rfl (lv_at hl 3 rfl) ?_
              refine ty_get (ci := 11) (C := "LatticeKeysModel$Secrets") (TT := T_ME) (N := 14) (kd := (23, 0)) hx hb hts (wg_ft i_ME) hown hK hO k_h0 (nxg hc0 k_h0 rfl) hP (fun _ h9 => h9) rfl 3 (by decide) (hts _ (wg_t kw_1382)) (fun _ h9 => h9) (cd := (3, 3, 4)) rfl dME_keys_235 (fun v30 hv30 => ?_)
              obtain ⟨r34, rfl, kr31⟩ := (show ∃ r : Nat, v30 = .ref r ∧ T r = some (3, 4) from hv30)
              refine lv_iload hx hb dME_keys_238 (lv_at hl 1 rfl) ?_
              refine ty_aald3 hx hb hK hO kr31 (nxg hc0 kr31 rfl) hP (by omega) (by decide) dME_keys_240 (fun r35 kr32 => ?_)
              refine lv_aload hx hb dME_keys_241 (lv_at hl 7 rfl) ?_
              refine lv_sipush (v := nI 384) hx hb dME_keys_243 (by decide) ?_
              refine lv_iload hx hb dME_keys_246 (lv_at hl 1 rfl) ?_
              refine mi_imul hx hb dME_keys_248 ?_
              refine lv_bipush (v := nI 12) hx hb dME_keys_249 (by decide) ?_
              refine mp_v (cx := []) (wr := []) hP hD hS hA [] [] rfl rfl rfl (by decide) (va_runS (As := [.ref r35, .ref dk, .int (nI (384 * i22)), .int (nI 12)]) (rest := []) F (t_ME_write_12 l g _ T xs pl hO hU hc0 r35 dk 4896 (384 * i22) kr32 k_dk (by omega) (by omega)) (va_cwS 4 hts (wg_app (wg_c kw_1685 (wg_c kw_1686 (wg_c kw_11 wg_n))) kw_1687) rfl rfl rfl (by decide +kernel) ⟨by decide, by decide⟩) (pp_S (en_ok g) hP hD hS hA hE [] rfl rfl) rfl rfl hl.1 rfl (lv_room (Nat.le_of_ble_eq_true rfl)) dME_keys_251 ⟨by omega, by omega⟩) (fun  pl H locs hu32 hP hD hS => ?_)
              obtain ⟨hq32, hO⟩ := hu32
              have hP : va_P g.1 vcl ([] ++ pl) _ := hP
              have hD : va_D _ ([] ++ pl) := hD
              refine W.widen (k := 0) (n := 0) (by omega) (by omega) ?_
              refine mi_iinc (k := 1) (x := i22) (d := 1) (y := i22 + 1) (lv' := [(6, .int (nI (i22 + 1))), (7, .int (nI i26)), (5, .int (nI 3)), (0, .ref h0), (1, .int (nI 1)), (2, .ref sd), (3, .ref ek), (4, .ref dk)]) hx hb dME_keys_254 hl rfl (by decide) rfl (by decide) rfl (fun ls hl => ?_)
              refine lv_goto (tgt := 162) hx hb dME_keys_257 (by decide) ?_
              exact ih22 (i22 + 1) pl ls H locs (by omega) (lv_sub hl [0, 2, 3, 4, 5, 6, 7] rfl) hO hP hD hS
            | succ n26 ih26 =>
              intro i26 pl ls H locs hm26  hl hO hP hD hS
              refine lv_iload hx hb dME_keys_172 (lv_at hl 0 rfl) ?_
              refine lv_iload hx hb dME_keys_174 (lv_at hl 2 rfl) ?_
              refine mi_ge (tgt := 215) hx hb dME_keys_176 (by decide) (by omega) (by omega) (fun h31 => absurd h31 (by omega)) (fun h31 => ?_)
              refine lv_aload_n hx hb dME_keys_179 rfl (lv_at hl 3 rfl) ?_
              refine lv_aload_n hx hb dME_keys_180 rfl (lv_at hl 3 rfl) ?_
              refine ty_get (ci := 11) (C := "LatticeKeysModel$Secrets") (TT := T_ME) (N := 14) (kd := (23, 0)) hx hb hts (wg_ft i_ME) hown hK hO k_h0 (nxg hc0 k_h0 rfl) hP (fun _ h9 => h9) rfl 2 (by decide) (hts _ (wg_t kw_1381)) (fun _ h9 => h9) (cd := (3, 3, 16)) rfl dME_keys_181 (fun v31 hv31 => ?_)
              obtain ⟨r36, rfl, kr33⟩ := (show ∃ r : Nat, v31 = .ref r ∧ T r = some (3, 16) from hv31)
              refine lv_iconst (v := nI 4) hx hb dME_keys_184 (by decide) ?_
              refine lv_iload hx hb dME_keys_185 (lv_at hl 1 rfl) ?_
              refine mi_imul hx hb dME_keys_187 ?_
              refine lv_iload hx hb dME_keys_188 (lv_at hl 0 rfl) ?_
              refine mi_iadd hx hb dME_keys_190 ?_
              refine ty_aald3 hx hb hK hO kr33 (nxg hc0 kr33 rfl) hP (by omega) (by decide) dME_keys_191 (fun r37 kr34 => ?_)
              refine lv_aload_n hx hb dME_keys_192 rfl (lv_at hl 3 rfl) ?_
              refine ty_get (ci := 11) (C := "LatticeKeysModel$Secrets") (TT := T_ME) (N := 14) (kd := (23, 0)) hx hb hts (wg_ft i_ME) hown hK hO k_h0 (nxg hc0 k_h0 rfl) hP (fun _ h9 => h9) rfl 3 (by decide) (hts _ (wg_t kw_1382)) (fun _ h9 => h9) (cd := (3, 3, 4)) rfl dME_keys_193 (fun v32 hv32 => ?_)
              obtain ⟨r38, rfl, kr35⟩ := (show ∃ r : Nat, v32 = .ref r ∧ T r = some (3, 4) from hv32)
              refine lv_iload hx hb dME_keys_196 (lv_at hl 0 rfl) ?_
              refine ty_aald3 hx hb hK hO kr35 (nxg hc0 kr35 rfl) hP (by omega) (by decide) dME_keys_198 (fun r39 kr36 => ?_)
              refine lv_aload_n hx hb dME_keys_199 rfl (lv_at hl 3 rfl) ?_
              refine ty_get (ci := 11) (C := "LatticeKeysModel$Secrets") (TT := T_ME) (N := 14) (kd := (23, 0)) hx hb hts (wg_ft i_ME) hown hK hO k_h0 (nxg hc0 k_h0 rfl) hP (fun _ h9 => h9) rfl 4 (by decide) (hts _ (wg_t kw_1383)) (fun _ h9 => h9) (cd := (3, 3, 4)) rfl dME_keys_200 (fun v33 hv33 => ?_)
              obtain ⟨r40, rfl, kr37⟩ := (show ∃ r : Nat, v33 = .ref r ∧ T r = some (3, 4) from hv33)
              refine lv_iload hx hb dME_keys_203 (lv_at hl 1 rfl) ?_
              refine ty_aald3 hx hb hK hO kr37 (nxg hc0 kr37 rfl) hP (by omega) (by decide) dME_keys_205 (fun r41 kr38 => ?_)
              refine mp_v (cx := []) (wr := []) hP hD hS hA [] [] rfl rfl rfl (by decide) (va_runV (As := [.ref r37, .ref r39, .ref r41]) (rest := []) F (t_ME_product l g _ T xs pl hO hU hc0 h0 r37 r39 r41 k_h0 kr34 kr36 kr38) (cwV 3 hts (wg_app (wg_c kw_1676 (wg_c kw_1678 (wg_c ks_58 (wg_c kw_11 wg_n)))) kw_1679) rfl rfl rfl (by decide +kernel) ⟨by decide, by decide⟩) (pp_VT (en_ok g) (ci := 11) (kd := (23, 0)) hK hO k_h0 (nxg hc0 k_h0 rfl) (fun _ h9 => ko1 h9) hP hD hS hA hE [] rfl rfl rfl) rfl rfl hl.1 rfl (lv_room (Nat.le_of_ble_eq_true rfl)) dME_keys_206 ⟨by omega, by omega⟩) (fun  pl H locs hu33 hP hD hS => ?_)
              obtain ⟨hq33, hO⟩ := hu33
              have hP : va_P g.1 vcl ([] ++ pl) _ := hP
              have hD : va_D _ ([] ++ pl) := hD
              refine W.widen (k := 0) (n := 0) (by omega) (by omega) ?_
              refine mi_iinc (k := 0) (x := i26) (d := 1) (y := i26 + 1) (lv' := [(7, .int (nI (i26 + 1))), (6, .int (nI i22)), (5, .int (nI 3)), (0, .ref h0), (1, .int (nI 1)), (2, .ref sd), (3, .ref ek), (4, .ref dk)]) hx hb dME_keys_209 hl rfl (by decide) rfl (by decide) rfl (fun ls hl => ?_)
              refine lv_goto (tgt := 172) hx hb dME_keys_212 (by decide) ?_
              exact ih26 (i26 + 1) pl ls H locs (by omega) (lv_sub hl [0, 1, 2, 3, 4, 5, 6, 7] rfl) hO hP hD hS
          exact lp26 3 0 pl ls _ _ (by omega) (lv_sub hl [0, 1, 2, 3, 4, 5, 6, 7] rfl) hO hP hD hS
      exact lp22 3 0 pl ls _ _ (by omega) (lv_sub hl [0, 1, 2, 3, 4, 5, 6] rfl) hO hP hD hS
    | succ n21 ih21 =>
      intro i21 pl ls H locs hm21  hl hO hP hD hS
      refine lv_iload hx hb dME_keys_73 (lv_at hl 0 rfl) ?_
      refine lv_iload hx hb dME_keys_75 (lv_at hl 1 rfl) ?_
      refine mi_ge (tgt := 159) hx hb dME_keys_77 (by decide) (by omega) (by omega) (fun h32 => absurd h32 (by omega)) (fun h32 => ?_)
      refine lv_aload_n hx hb dME_keys_80 rfl (lv_at hl 2 rfl) ?_
      refine lv_aload_n hx hb dME_keys_81 rfl (lv_at hl 2 rfl) ?_
      refine ty_get (ci := 11) (C := "LatticeKeysModel$Secrets") (TT := T_ME) (N := 14) (kd := (23, 0)) hx hb hts (wg_ft i_ME) hown hK hO k_h0 (nxg hc0 k_h0 rfl) hP (fun _ h9 => h9) rfl 3 (by decide) (hts _ (wg_t kw_1382)) (fun _ h9 => h9) (cd := (3, 3, 4)) rfl dME_keys_82 (fun v34 hv34 => ?_)
      obtain ⟨r42, rfl, kr39⟩ := (show ∃ r : Nat, v34 = .ref r ∧ T r = some (3, 4) from hv34)
      refine lv_iload hx hb dME_keys_85 (lv_at hl 0 rfl) ?_
      refine ty_aald3 hx hb hK hO kr39 (nxg hc0 kr39 rfl) hP (by omega) (by decide) dME_keys_87 (fun r43 kr40 => ?_)
      refine lv_aload_n hx hb dME_keys_88 rfl (lv_at hl 2 rfl) ?_
      refine ty_get (ci := 11) (C := "LatticeKeysModel$Secrets") (TT := T_ME) (N := 14) (kd := (23, 0)) hx hb hts (wg_ft i_ME) hown hK hO k_h0 (nxg hc0 k_h0 rfl) hP (fun _ h9 => h9) rfl 9 (by decide) (hts _ (wg_t kw_1388)) (fun _ h9 => h9) (cd := (3, 1, 64)) rfl dME_keys_89 (fun v35 hv35 => ?_)
      obtain ⟨r44, rfl, kr41⟩ := (show ∃ r : Nat, v35 = .ref r ∧ T r = some (1, 64) from hv35)
      refine lv_bipush (v := nI 32) hx hb dME_keys_92 (by decide) ?_
      refine lv_iload hx hb dME_keys_94 (lv_at hl 0 rfl) ?_
      refine va_gets hx hb (hE.2.1 20 _ rfl).1 hS hown (hts _ (wg_t kw_1654)) (fun _ h9 => h9) dME_keys_96 ?_
      refine lv_iload_n hx hb dME_keys_99 rfl (lv_at hl 3 rfl) ?_
      refine va_ti (v := .int (nI 2)) hx hb (hE.2.1 20 _ rfl).2 hS (vp_in_nI (by decide) (by decide)) (by decide +kernel) dME_keys_100 ?_
      refine mp_v (cx := []) (wr := []) hP hD hS hA [] [] rfl rfl rfl (by decide) (va_runV (As := [.ref r43, .ref r44, .int (nI 32), .int (nI i21), .int (nI 2)]) (rest := []) F (t_ME_noise_2 l g _ T xs pl hO hU hc0 hc9 h0 r43 r44 64 32 (nI i21) k_h0 kr40 kr41 (by omega) (by omega)) (cwV 5 hts (wg_app (wg_c kw_1656 (wg_c kw_1658 (wg_c ks_56 (wg_c kw_11 wg_n)))) kw_1659) rfl rfl rfl (by decide +kernel) ⟨by decide, by decide⟩) (pp_VT (en_ok g) (ci := 11) (kd := (23, 0)) hK hO k_h0 (nxg hc0 k_h0 rfl) (fun _ h9 => ko1 h9) hP hD hS hA hE [] rfl rfl rfl) rfl rfl hl.1 rfl (lv_room (Nat.le_of_ble_eq_true rfl)) dME_keys_101 ⟨by omega, by omega⟩) (fun  pl H locs hu34 hP hD hS => ?_)
      obtain ⟨hq34, hO⟩ := hu34
      have hP : va_P g.1 vcl ([] ++ pl) _ := hP
      have hD : va_D _ ([] ++ pl) := hD
      refine W.widen (k := 0) (n := 0) (by omega) (by omega) ?_
      refine lv_aload_n hx hb dME_keys_104 rfl (lv_at hl 2 rfl) ?_
      refine lv_aload_n hx hb dME_keys_105 rfl (lv_at hl 2 rfl) ?_
      refine ty_get (ci := 11) (C := "LatticeKeysModel$Secrets") (TT := T_ME) (N := 14) (kd := (23, 0)) hx hb hts (wg_ft i_ME) hown hK hO k_h0 (nxg hc0 k_h0 rfl) hP (fun _ h9 => h9) rfl 4 (by decide) (hts _ (wg_t kw_1383)) (fun _ h9 => h9) (cd := (3, 3, 4)) rfl dME_keys_106 (fun v36 hv36 => ?_)
      obtain ⟨r45, rfl, kr42⟩ := (show ∃ r : Nat, v36 = .ref r ∧ T r = some (3, 4) from hv36)
      refine lv_iload hx hb dME_keys_109 (lv_at hl 0 rfl) ?_
      refine ty_aald3 hx hb hK hO kr42 (nxg hc0 kr42 rfl) hP (by omega) (by decide) dME_keys_111 (fun r46 kr43 => ?_)
      refine lv_aload_n hx hb dME_keys_112 rfl (lv_at hl 2 rfl) ?_
      refine ty_get (ci := 11) (C := "LatticeKeysModel$Secrets") (TT := T_ME) (N := 14) (kd := (23, 0)) hx hb hts (wg_ft i_ME) hown hK hO k_h0 (nxg hc0 k_h0 rfl) hP (fun _ h9 => h9) rfl 9 (by decide) (hts _ (wg_t kw_1388)) (fun _ h9 => h9) (cd := (3, 1, 64)) rfl dME_keys_113 (fun v37 hv37 => ?_)
      obtain ⟨r47, rfl, kr44⟩ := (show ∃ r : Nat, v37 = .ref r ∧ T r = some (1, 64) from hv37)
      refine lv_bipush (v := nI 32) hx hb dME_keys_116 (by decide) ?_
      refine lv_iload hx hb dME_keys_118 (lv_at hl 1 rfl) ?_
      refine lv_iload hx hb dME_keys_120 (lv_at hl 0 rfl) ?_
      refine mi_iadd hx hb dME_keys_122 ?_
      refine va_gets hx hb (hE.2.1 20 _ rfl).1 hS hown (hts _ (wg_t kw_1654)) (fun _ h9 => h9) dME_keys_123 ?_
      refine lv_iload_n hx hb dME_keys_126 rfl (lv_at hl 3 rfl) ?_
      refine va_ti (v := .int (nI 2)) hx hb (hE.2.1 20 _ rfl).2 hS (vp_in_nI (by decide) (by decide)) (by decide +kernel) dME_keys_127 ?_
      refine mp_v (cx := []) (wr := []) hP hD hS hA [] [] rfl rfl rfl (by decide) (va_runV (As := [.ref r46, .ref r47, .int (nI 32), .int (nI (3 + i21)), .int (nI 2)]) (rest := []) F (t_ME_noise_2 l g _ T xs pl hO hU hc0 hc9 h0 r46 r47 64 32 (nI (3 + i21)) k_h0 kr43 kr44 (by omega) (by omega)) (cwV 5 hts (wg_app (wg_c kw_1656 (wg_c kw_1658 (wg_c ks_56 (wg_c kw_11 wg_n)))) kw_1659) rfl rfl rfl (by decide +kernel) ⟨by decide, by decide⟩) (pp_VT (en_ok g) (ci := 11) (kd := (23, 0)) hK hO k_h0 (nxg hc0 k_h0 rfl) (fun _ h9 => ko1 h9) hP hD hS hA hE [] rfl rfl rfl) rfl rfl hl.1 rfl (lv_room (Nat.le_of_ble_eq_true rfl)) dME_keys_128 ⟨by omega, by omega⟩) (fun  pl H locs hu35 hP hD hS => ?_)
      obtain ⟨hq35, hO⟩ := hu35
      have hP : va_P g.1 vcl ([] ++ pl) _ := hP
      have hD : va_D _ ([] ++ pl) := hD
      refine W.widen (k := 0) (n := 0) (by omega) (by omega) ?_
      refine lv_aload_n hx hb dME_keys_131 rfl (lv_at hl 2 rfl) ?_
      refine lv_aload_n hx hb dME_keys_132 rfl (lv_at hl 2 rfl) ?_
      refine ty_get (ci := 11) (C := "LatticeKeysModel$Secrets") (TT := T_ME) (N := 14) (kd := (23, 0)) hx hb hts (wg_ft i_ME) hown hK hO k_h0 (nxg hc0 k_h0 rfl) hP (fun _ h9 => h9) rfl 3 (by decide) (hts _ (wg_t kw_1382)) (fun _ h9 => h9) (cd := (3, 3, 4)) rfl dME_keys_133 (fun v38 hv38 => ?_)
      obtain ⟨r48, rfl, kr45⟩ := (show ∃ r : Nat, v38 = .ref r ∧ T r = some (3, 4) from hv38)
      refine lv_iload hx hb dME_keys_136 (lv_at hl 0 rfl) ?_
      refine ty_aald3 hx hb hK hO kr45 (nxg hc0 kr45 rfl) hP (by omega) (by decide) dME_keys_138 (fun r49 kr46 => ?_)
      refine mp_v (cx := []) (wr := []) hP hD hS hA [] [] rfl rfl rfl (by decide) (va_runV (As := [.ref r49]) (rest := []) F (t_ME_forth l g _ T xs pl hO hU hc0 h0 r49 k_h0 kr46) (cwV 1 hts (wg_app (wg_c kw_1668 (wg_c kw_1670 (wg_c ks_57 (wg_c kw_11 wg_n)))) kw_1671) rfl rfl rfl (by decide +kernel) ⟨by decide, by decide⟩) (pp_VT (en_ok g) (ci := 11) (kd := (23, 0)) hK hO k_h0 (nxg hc0 k_h0 rfl) (fun _ h9 => ko1 h9) hP hD hS hA hE [] rfl rfl rfl) rfl rfl hl.1 rfl (lv_room (Nat.le_of_ble_eq_true rfl)) dME_keys_139 ⟨by omega, by omega⟩) (fun  pl H locs hu36 hP hD hS => ?_)
      obtain ⟨hq36, hO⟩ := hu36
      have hP : va_P g.1 vcl ([] ++ pl) _ := hP
      have hD : va_D _ ([] ++ pl) := hD
      refine W.widen (k := 0) (n := 0) (by omega) (by omega) ?_
      refine lv_aload_n hx hb dME_keys_142 rfl (lv_at hl 2 rfl) ?_
      refine lv_aload_n hx hb dME_keys_143 rfl (lv_at hl 2 rfl) ?_
      refine ty_get (ci := 11) (C := "LatticeKeysModel$Secrets") (TT := T_ME) (N := 14) (kd := (23, 0)) hx hb hts (wg_ft i_ME) hown hK hO k_h0 (nxg hc0 k_h0 rfl) hP (fun _ h9 => h9) rfl 4 (by decide) (hts _ (wg_t kw_1383)) (fun _ h9 => h9) (cd := (3, 3, 4)) rfl dME_keys_144 (fun v39 hv39 => ?_)
      obtain ⟨r50, rfl, kr47⟩ := (show ∃ r : Nat, v39 = .ref r ∧ T r = some (3, 4) from hv39)
      refine lv_iload hx hb dME_keys_147 (lv_at hl 0 rfl) ?_
      refine ty_aald3 hx hb hK hO kr47 (nxg hc0 kr47 rfl) hP (by omega) (by decide) dME_keys_149 (fun r51 kr48 => ?_)
      refine mp_v (cx := []) (wr := []) hP hD hS hA [] [] rfl rfl rfl (by decide) (va_runV (As := [.ref r51]) (rest := []) F (t_ME_forth l g _ T xs pl hO hU hc0 h0 r51 k_h0 kr48) (cwV 1 hts (wg_app (wg_c kw_1668 (wg_c kw_1670 (wg_c ks_57 (wg_c kw_11 wg_n)))) kw_1671) rfl rfl rfl (by decide +kernel) ⟨by decide, by decide⟩) (pp_VT (en_ok g) (ci := 11) (kd := (23, 0)) hK hO k_h0 (nxg hc0 k_h0 rfl) (fun _ h9 => ko1 h9) hP hD hS hA hE [] rfl rfl rfl) rfl rfl hl.1 rfl (lv_room (Nat.le_of_ble_eq_true rfl)) dME_keys_150 ⟨by omega, by omega⟩) (fun  pl H locs hu37 hP hD hS => ?_)
      obtain ⟨hq37, hO⟩ := hu37
      have hP : va_P g.1 vcl ([] ++ pl) _ := hP
      have hD : va_D _ ([] ++ pl) := hD
      refine W.widen (k := 0) (n := 0) (by omega) (by omega) ?_
      refine mi_iinc (k := 0) (x := i21) (d := 1) (y := i21 + 1) (lv' := [(6, .int (nI (i21 + 1))), (5, .int (nI 3)), (0, .ref h0), (1, .int (nI 1)), (2, .ref sd), (3, .ref ek), (4, .ref dk)]) hx hb dME_keys_153 hl rfl (by decide) rfl (by decide) rfl (fun ls hl => ?_)
      refine lv_goto (tgt := 73) hx hb dME_keys_156 (by decide) ?_
      exact ih21 (i21 + 1) pl ls H locs (by omega) (lv_sub hl [0, 1, 2, 3, 4, 5, 6] rfl) hO hP hD hS
  exact lp21 3 0 pl ls _ _ (by omega) (lv_sub hl [0, 1, 2, 3, 4, 5, 6] rfl) hO hP hD hS
set_option maxHeartbeats 400000 in
set_option maxRecDepth 100000 in
theorem t_ME_keys_2 (l : Launch) (g : Gd) (sz : Nat) (T : Ty) (xs : List Nat) (pl : va_W) (hO : okx g T xs pl) (hU : uni T) (hc0 : clo T xs 0) (hc9 : clo T xs 9) (h0 sd ek dk n : Nat) (k_h0 : T h0 = some (23, 0)) (k_sd : T sd = some (1, n)) (k_ek : T ek = some (1, 2592)) (k_dk : T dk = some (1, 4896)) (h1 : 64 ≤ n) (h2 : n < 65536)  : Met l y_ME_keys w_ME_keys ({ frames := 5, cells := 0, slots := 0, locals := 126 } : Room) (va_Pc [.ref h0, .int (nI 2), .ref sd, .ref ek, .ref dk] (pr (en g) g.1 vcl sz ([] ++ pl))) (va_Qv (fun (u : va_W) => (True) ∧ okx g T xs u) (po g.1 vcl (va_A ([] ++ pl) sz) (fun (u : va_W) => [] ++ u)) (va_A ([] ++ pl) sz)) 0 0 (va_A ([] ++ pl) sz) := by
  refine mc_entry (cc := c_ME_keys) (maxL := 8) (ret := none) (by decide) rfl (Nat.le_of_ble_eq_true rfl) ?_
  intro p e s m args below meth c ls F hr hlk hnm hsz hP hD hE hA hl
  obtain ⟨hx, hb, hml, hown, hts⟩ := id F
  have hK := hE.1
  generalize va_A ([] ++ pl) sz = A at hD hE hA ⊢
  have hS : va_S A s.heap s.heap [] := va_S.rf
  have hl : lv_has ls 8 [(0, .ref h0), (1, .int (nI 2)), (2, .ref sd), (3, .ref ek), (4, .ref dk)] := hl
  refine va_gets hx hb (hE.2.1 19 _ rfl).1 hS hown (hts _ (wg_t kw_1605)) (fun _ h9 => h9) dME_keys_0 ?_
  refine lv_iload_n hx hb dME_keys_3 rfl (lv_at hl 1 rfl) ?_
  refine va_ti (v := .int (nI 4)) hx hb (hE.2.1 19 _ rfl).2 hS (vp_in_nI (by decide) (by decide)) (by decide +kernel) dME_keys_4 ?_
  refine lv_istore (lv' := [(5, .int (nI 4)), (0, .ref h0), (1, .int (nI 2)), (2, .ref sd), (3, .ref ek), (4, .ref dk)]) hx hb dME_keys_5 hl (by decide) rfl (fun ls hl => ?_)
  refine lv_aload_n hx hb dME_keys_7 rfl (lv_at hl 1 rfl) ?_
  refine ty_get (ci := 11) (C := "LatticeKeysModel$Secrets") (TT := T_ME) (N := 14) (kd := (23, 0)) hx hb hts (wg_ft i_ME) hown hK hO k_h0 (nxg hc0 k_h0 rfl) hP (fun _ h9 => h9) rfl 0 (by decide) (hts _ (wg_t kw_1379)) (fun _ h9 => h9) (cd := (3, 20, 0)) rfl dME_keys_8 (fun v21 hv21 => ?_)
  obtain ⟨r21, rfl, kr21⟩ := (show ∃ r : Nat, v21 = .ref r ∧ T r = some (20, 0) from hv21)
  refine lv_bipush (v := nI 72) hx hb dME_keys_11 (by decide) ?_
  refine lv_bipush (v := nI 6) hx hb dME_keys_13 (by decide) ?_
  obtain ⟨e21, pl, hP, hD, hk21, hO⟩ := open1 hP hD hO kr21 (nxg hc9 kr21 rfl)
  obtain ⟨am21, am22, am23, am24, am25, rt21, ps21, x21, rfl, km21, km22, km23, km24, km25, hr21, hr22, hr23⟩ := hk21
  obtain ⟨e22, pl, hP, hD, hk22, hO⟩ := open1 hP hD hO km21 (nmc (knd_ne km21 kr21 (by decide)) (nxg hc9 km21 rfl))
  obtain ⟨f21, rfl⟩ := hk22
  obtain ⟨e23, pl, hP, hD, hk23, hO⟩ := open1 hP hD hO km22 (nmc (knd_ne km22 km21 (by decide)) (nmc (knd_ne km22 kr21 (by decide)) (nxg hc9 km22 rfl)))
  obtain ⟨f22, rfl⟩ := hk23
  obtain ⟨e24, pl, hP, hD, hk24, hO⟩ := open1 hP hD hO km23 (nmc (knd_ne km23 km22 (by decide)) (nmc (knd_ne km23 km21 (by decide)) (nmc (knd_ne km23 kr21 (by decide)) (nxg hc9 km23 rfl))))
  obtain ⟨f23, rfl⟩ := hk24
  obtain ⟨e25, pl, hP, hD, hk25, hO⟩ := open1 hP hD hO km24 (nmc (knd_ne km24 km23 (by decide)) (nmc (knd_ne km24 km22 (by decide)) (nmc (knd_ne km24 km21 (by decide)) (nmc (knd_ne km24 kr21 (by decide)) (nxg hc9 km24 rfl)))))
  obtain ⟨f24, rfl⟩ := hk25
  obtain ⟨e26, pl, hP, hD, hk26, hO⟩ := open1 hP hD hO km25 (nmc (knd_ne km25 km24 (by decide)) (nmc (knd_ne km25 km23 (by decide)) (nmc (knd_ne km25 km22 (by decide)) (nmc (knd_ne km25 km21 (by decide)) (nmc (knd_ne km25 kr21 (by decide)) (nxg hc9 km25 rfl))))))
  obtain ⟨f25, rfl⟩ := hk26
  have hP : va_P g.1 vcl ([(r21, .inr (9, [.ref am21, .ref am22, .ref am23, .ref am24, .ref am25, .int (nI rt21), .int (nI ps21), .int x21])), (am21, .inl (g.2.1 2, 25, .inr (.inl f21))), (am22, .inl (g.2.1 2, 25, .inr (.inl f22))), (am23, .inl (g.2.1 2, 5, .inr (.inl f23))), (am24, .inl (g.2.1 2, 24, .inr (.inl f24))), (am25, .inl (g.2.1 0, 25, .inl f25))] ++ pl) _ := hP
  have hD : va_D _ ([(r21, .inr (9, [.ref am21, .ref am22, .ref am23, .ref am24, .ref am25, .int (nI rt21), .int (nI ps21), .int x21])), (am21, .inl (g.2.1 2, 25, .inr (.inl f21))), (am22, .inl (g.2.1 2, 25, .inr (.inl f22))), (am23, .inl (g.2.1 2, 5, .inr (.inl f23))), (am24, .inl (g.2.1 2, 24, .inr (.inl f24))), (am25, .inl (g.2.1 0, 25, .inl f25))] ++ pl) := hD
  refine mp_v (cx := [(r21, .inr (9, [.ref am21, .ref am22, .ref am23, .ref am24, .ref am25, .int (nI rt21), .int (nI ps21), .int x21])), (am21, .inl (g.2.1 2, 25, .inr (.inl f21))), (am22, .inl (g.2.1 2, 25, .inr (.inl f22))), (am23, .inl (g.2.1 2, 5, .inr (.inl f23))), (am24, .inl (g.2.1 2, 24, .inr (.inl f24))), (am25, .inl (g.2.1 0, 25, .inl f25))]) (wr := []) hP hD hS hA [0, 1, 2, 3, 4, 5] [] rfl rfl rfl (by decide) (va_runV (As := [.int (nI 72), .int (nI 6)]) (rest := []) F (t_MS_begin l g _ T (am25 :: (am24 :: (am23 :: (am22 :: (am21 :: (r21 :: xs)))))) pl hO hU  72 (nI 6) r21 am21 am22 am23 am24 am25 rt21 ps21 x21 f21 f22 f23 f24 f25 (by omega)) (cwV 2 hts (wg_app (wg_c kw_1607 (wg_c kw_1608 (wg_c kw_1609 (wg_c kw_10 wg_n)))) kw_1610) rfl rfl rfl (by decide +kernel) ⟨by decide, by decide⟩) (pp_V (en_ok g) (q0 := 0) hK hP hD hS hA hE [0, 1, 2, 3, 4, 5] rfl rfl rfl rfl) rfl rfl hl.1 rfl (lv_room (Nat.le_of_ble_eq_true rfl)) dME_keys_15 ⟨by omega, by omega⟩) (fun  u21 H locs hu21 hP hD hS => ?_)
  obtain ⟨u22, pl⟩ := u21
  obtain ⟨hq21, hO⟩ := hu21
  obtain ⟨ps22, f26, f27, f28⟩ := u22
  have hP : va_P g.1 vcl ([(r21, .inr (9, [.ref am21, .ref am22, .ref am23, .ref am24, .ref am25, .int (nI 72), .int (nI ps22), .int (nI 6)])), (am21, .inl (g.2.1 2, 25, .inr (.inl f26))), (am22, .inl (g.2.1 2, 25, .inr (.inl f27))), (am23, .inl (g.2.1 2, 5, .inr (.inl f28))), (am24, .inl (g.2.1 2, 24, .inr (.inl f24))), (am25, .inl (g.2.1 0, 25, .inl f25))] ++ pl) _ := hP
  have hD : va_D _ ([(r21, .inr (9, [.ref am21, .ref am22, .ref am23, .ref am24, .ref am25, .int (nI 72), .int (nI ps22), .int (nI 6)])), (am21, .inl (g.2.1 2, 25, .inr (.inl f26))), (am22, .inl (g.2.1 2, 25, .inr (.inl f27))), (am23, .inl (g.2.1 2, 5, .inr (.inl f28))), (am24, .inl (g.2.1 2, 24, .inr (.inl f24))), (am25, .inl (g.2.1 0, 25, .inl f25))] ++ pl) := hD
  have hq21 : ps22 ≤ 72 := hq21
  refine W.widen (k := 0) (n := 0) (by omega) (by omega) ?_
  refine lv_aload_n hx hb dME_keys_18 rfl (lv_at hl 1 rfl) ?_
  refine ty_get (ci := 11) (C := "LatticeKeysModel$Secrets") (TT := T_ME) (N := 14) (kd := (23, 0)) hx hb hts (wg_ft i_ME) hown hK hO k_h0 (nxg (clo_cons (clo_cons (clo_cons (clo_cons (clo_cons (clo_cons hc0 kr21 (by decide)) km21 (by decide)) km22 (by decide)) km23 (by decide)) km24 (by decide)) km25 (by decide)) k_h0 rfl) hP (fun _ h9 => h9) rfl 0 (by decide) (hts _ (wg_t kw_1379)) (fun _ h9 => h9) (cd := (3, 20, 0)) rfl dME_keys_19 (fun v22 hv22 => ?_)
  obtain ⟨r22, rfl, kr22⟩ := (show ∃ r : Nat, v22 = .ref r ∧ T r = some (20, 0) from hv22)
  obtain rfl : r21 = r22 := hU _ _ _ (by decide) kr21 kr22
  refine lv_aload_n hx hb dME_keys_22 rfl (lv_at hl 3 rfl) ?_
  refine lv_iconst (v := nI 0) hx hb dME_keys_23 (by decide) ?_
  refine lv_bipush (v := nI 32) hx hb dME_keys_24 (by decide) ?_
  refine mp_v (cx := [(r21, .inr (9, [.ref am21, .ref am22, .ref am23, .ref am24, .ref am25, .int (nI 72), .int (nI ps22), .int (nI 6)])), (am21, .inl (g.2.1 2, 25, .inr (.inl f26))), (am22, .inl (g.2.1 2, 25, .inr (.inl f27))), (am23, .inl (g.2.1 2, 5, .inr (.inl f28))), (am24, .inl (g.2.1 2, 24, .inr (.inl f24))), (am25, .inl (g.2.1 0, 25, .inl f25))]) (wr := []) hP hD hS hA [0, 1, 2, 3, 4, 5] [] rfl rfl rfl (by decide) (va_runV (As := [.ref sd, .int (nI 0), .int (nI 32)]) (rest := []) F (t_MS_puts l g _ T (am25 :: (am24 :: (am23 :: (am22 :: (am21 :: (r21 :: xs)))))) pl hO hU (clo_cons (clo_cons (clo_cons (clo_cons (clo_cons (clo_cons hc0 kr21 (by decide)) km21 (by decide)) km22 (by decide)) km23 (by decide)) km24 (by decide)) km25 (by decide)) sd n 0 32 r21 am21 am22 am23 am24 am25 72 ps22 (nI 6) f26 f27 f28 f24 f25 k_sd (by omega) (by omega) (by omega) (by omega)) (cwV 3 hts (wg_app (wg_c kw_1611 (wg_c kw_1612 (wg_c kw_1613 (wg_c kw_10 wg_n)))) kw_1614) rfl rfl rfl (by decide +kernel) ⟨by decide, by decide⟩) (pp_V (en_ok g) (q0 := 0) hK hP hD hS hA hE [0, 1, 2, 3, 4, 5] rfl rfl rfl rfl) rfl rfl hl.1 rfl (lv_room (Nat.le_of_ble_eq_true rfl)) dME_keys_26 ⟨by omega, by omega⟩) (fun  u23 H locs hu22 hP hD hS => ?_)
  obtain ⟨u24, pl⟩ := u23
  obtain ⟨hq22, hO⟩ := hu22
  obtain ⟨ps23, f29, f30, f31⟩ := u24
  have hP : va_P g.1 vcl ([(r21, .inr (9, [.ref am21, .ref am22, .ref am23, .ref am24, .ref am25, .int (nI 72), .int (nI ps23), .int (nI 6)])), (am21, .inl (g.2.1 2, 25, .inr (.inl f29))), (am22, .inl (g.2.1 2, 25, .inr (.inl f30))), (am23, .inl (g.2.1 2, 5, .inr (.inl f31))), (am24, .inl (g.2.1 2, 24, .inr (.inl f24))), (am25, .inl (g.2.1 0, 25, .inl f25))] ++ pl) _ := hP
  have hD : va_D _ ([(r21, .inr (9, [.ref am21, .ref am22, .ref am23, .ref am24, .ref am25, .int (nI 72), .int (nI ps23), .int (nI 6)])), (am21, .inl (g.2.1 2, 25, .inr (.inl f29))), (am22, .inl (g.2.1 2, 25, .inr (.inl f30))), (am23, .inl (g.2.1 2, 5, .inr (.inl f31))), (am24, .inl (g.2.1 2, 24, .inr (.inl f24))), (am25, .inl (g.2.1 0, 25, .inl f25))] ++ pl) := hD
  have hq22 : ps23 ≤ 72 := hq22
  refine W.widen (k := 0) (n := 0) (by omega) (by omega) ?_
  refine lv_aload_n hx hb dME_keys_29 rfl (lv_at hl 1 rfl) ?_
  refine ty_get (ci := 11) (C := "LatticeKeysModel$Secrets") (TT := T_ME) (N := 14) (kd := (23, 0)) hx hb hts (wg_ft i_ME) hown hK hO k_h0 (nxg (clo_cons (clo_cons (clo_cons (clo_cons (clo_cons (clo_cons hc0 kr21 (by decide)) km21 (by decide)) km22 (by decide)) km23 (by decide)) km24 (by decide)) km25 (by decide)) k_h0 rfl) hP (fun _ h9 => h9) rfl 0 (by decide) (hts _ (wg_t kw_1379)) (fun _ h9 => h9) (cd := (3, 20, 0)) rfl dME_keys_30 (fun v23 hv23 => ?_)
  obtain ⟨r23, rfl, kr23⟩ := (show ∃ r : Nat, v23 = .ref r ∧ T r = some (20, 0) from hv23)
  obtain rfl : r21 = r23 := hU _ _ _ (by decide) kr21 kr23
  refine lv_iload hx hb dME_keys_33 (lv_at hl 0 rfl) ?_
  refine mp_v (cx := [(r21, .inr (9, [.ref am21, .ref am22, .ref am23, .ref am24, .ref am25, .int (nI 72), .int (nI ps23), .int (nI 6)])), (am21, .inl (g.2.1 2, 25, .inr (.inl f29))), (am22, .inl (g.2.1 2, 25, .inr (.inl f30))), (am23, .inl (g.2.1 2, 5, .inr (.inl f31))), (am24, .inl (g.2.1 2, 24, .inr (.inl f24))), (am25, .inl (g.2.1 0, 25, .inl f25))]) (wr := []) hP hD hS hA [0, 1, 2, 3, 4, 5] [] rfl rfl rfl (by decide) (va_runV (As := [.int (nI 4)]) (rest := []) F (t_MS_put l g _ T (am25 :: (am24 :: (am23 :: (am22 :: (am21 :: (r21 :: xs)))))) pl hO hU  (nI 4) r21 am21 am22 am23 am24 am25 72 ps23 (nI 6) f29 f30 f31 f24 f25 (by omega) (by omega)) (cwV 1 hts (wg_app (wg_c kw_1632 (wg_c kw_1616 (wg_c kw_1617 (wg_c kw_10 wg_n)))) kw_1618) rfl rfl rfl (by decide +kernel) ⟨by decide, by decide⟩) (pp_V (en_ok g) (q0 := 0) hK hP hD hS hA hE [0, 1, 2, 3, 4, 5] rfl rfl rfl rfl) rfl rfl hl.1 rfl (lv_room (Nat.le_of_ble_eq_true rfl)) dME_keys_35 ⟨by omega, by omega⟩) (fun  u25 H locs hu23 hP hD hS => ?_)
  obtain ⟨u26, pl⟩ := u25
  obtain ⟨hq23, hO⟩ := hu23
  obtain ⟨ps24, f32, f33, f34⟩ := u26
  have hP : va_P g.1 vcl ([(r21, .inr (9, [.ref am21, .ref am22, .ref am23, .ref am24, .ref am25, .int (nI 72), .int (nI ps24), .int (nI 6)])), (am21, .inl (g.2.1 2, 25, .inr (.inl f32))), (am22, .inl (g.2.1 2, 25, .inr (.inl f33))), (am23, .inl (g.2.1 2, 5, .inr (.inl f34))), (am24, .inl (g.2.1 2, 24, .inr (.inl f24))), (am25, .inl (g.2.1 0, 25, .inl f25))] ++ pl) _ := hP
  have hD : va_D _ ([(r21, .inr (9, [.ref am21, .ref am22, .ref am23, .ref am24, .ref am25, .int (nI 72), .int (nI ps24), .int (nI 6)])), (am21, .inl (g.2.1 2, 25, .inr (.inl f32))), (am22, .inl (g.2.1 2, 25, .inr (.inl f33))), (am23, .inl (g.2.1 2, 5, .inr (.inl f34))), (am24, .inl (g.2.1 2, 24, .inr (.inl f24))), (am25, .inl (g.2.1 0, 25, .inl f25))] ++ pl) := hD
  have hq23 : ps24 ≤ 72 := hq23
  refine W.widen (k := 0) (n := 0) (by omega) (by omega) ?_
  refine lv_aload_n hx hb dME_keys_38 rfl (lv_at hl 1 rfl) ?_
  refine ty_get (ci := 11) (C := "LatticeKeysModel$Secrets") (TT := T_ME) (N := 14) (kd := (23, 0)) hx hb hts (wg_ft i_ME) hown hK hO k_h0 (nxg (clo_cons (clo_cons (clo_cons (clo_cons (clo_cons (clo_cons hc0 kr21 (by decide)) km21 (by decide)) km22 (by decide)) km23 (by decide)) km24 (by decide)) km25 (by decide)) k_h0 rfl) hP (fun _ h9 => h9) rfl 0 (by decide) (hts _ (wg_t kw_1379)) (fun _ h9 => h9) (cd := (3, 20, 0)) rfl dME_keys_39 (fun v24 hv24 => ?_)
  obtain ⟨r24, rfl, kr24⟩ := (show ∃ r : Nat, v24 = .ref r ∧ T r = some (20, 0) from hv24)
  obtain rfl : r21 = r24 := hU _ _ _ (by decide) kr21 kr24
  refine mp_v (cx := [(r21, .inr (9, [.ref am21, .ref am22, .ref am23, .ref am24, .ref am25, .int (nI 72), .int (nI ps24), .int (nI 6)])), (am21, .inl (g.2.1 2, 25, .inr (.inl f32))), (am22, .inl (g.2.1 2, 25, .inr (.inl f33))), (am23, .inl (g.2.1 2, 5, .inr (.inl f34))), (am24, .inl (g.2.1 2, 24, .inr (.inl f24))), (am25, .inl (g.2.1 0, 25, .inl f25))]) (wr := []) hP hD hS hA [0, 1, 2, 3, 4, 5] [] rfl rfl rfl (by decide) (va_runV (As := []) (rest := []) F (t_MS_end l g _ T (am25 :: (am24 :: (am23 :: (am22 :: (am21 :: (r21 :: xs)))))) pl hO hU  r21 am21 am22 am23 am24 am25 72 ps24 (nI 6) f32 f33 f34 f24 f25 (by omega) (by omega)) (cwV 0 hts (wg_app (wg_c kw_1633 (wg_c kw_1634 (wg_c kw_1635 (wg_c kw_10 wg_n)))) kw_1636) rfl rfl rfl (by decide +kernel) ⟨by decide, by decide⟩) (pp_V (en_ok g) (q0 := 0) hK hP hD hS hA hE [0, 1, 2, 3, 4, 5] rfl rfl rfl rfl) rfl rfl hl.1 rfl (lv_room (Nat.le_of_ble_eq_true rfl)) dME_keys_42 ⟨by omega, by omega⟩) (fun  u27 H locs hu24 hP hD hS => ?_)
  obtain ⟨u28, pl⟩ := u27
  obtain ⟨hq24, hO⟩ := hu24
  obtain ⟨ps25, f35, f36, f37⟩ := u28
  have hP : va_P g.1 vcl ([(r21, .inr (9, [.ref am21, .ref am22, .ref am23, .ref am24, .ref am25, .int (nI 72), .int (nI ps25), .int (nI 6)])), (am21, .inl (g.2.1 2, 25, .inr (.inl f35))), (am22, .inl (g.2.1 2, 25, .inr (.inl f36))), (am23, .inl (g.2.1 2, 5, .inr (.inl f37))), (am24, .inl (g.2.1 2, 24, .inr (.inl f24))), (am25, .inl (g.2.1 0, 25, .inl f25))] ++ pl) _ := hP
  have hD : va_D _ ([(r21, .inr (9, [.ref am21, .ref am22, .ref am23, .ref am24, .ref am25, .int (nI 72), .int (nI ps25), .int (nI 6)])), (am21, .inl (g.2.1 2, 25, .inr (.inl f35))), (am22, .inl (g.2.1 2, 25, .inr (.inl f36))), (am23, .inl (g.2.1 2, 5, .inr (.inl f37))), (am24, .inl (g.2.1 2, 24, .inr (.inl f24))), (am25, .inl (g.2.1 0, 25, .inl f25))] ++ pl) := hD
  have hq24 : ps25 ≤ 72 := hq24
  refine W.widen (k := 0) (n := 0) (by omega) (by omega) ?_
  refine lv_aload_n hx hb dME_keys_45 rfl (lv_at hl 1 rfl) ?_
  refine ty_get (ci := 11) (C := "LatticeKeysModel$Secrets") (TT := T_ME) (N := 14) (kd := (23, 0)) hx hb hts (wg_ft i_ME) hown hK hO k_h0 (nxg (clo_cons (clo_cons (clo_cons (clo_cons (clo_cons (clo_cons hc0 kr21 (by decide)) km21 (by decide)) km22 (by decide)) km23 (by decide)) km24 (by decide)) km25 (by decide)) k_h0 rfl) hP (fun _ h9 => h9) rfl 0 (by decide) (hts _ (wg_t kw_1379)) (fun _ h9 => h9) (cd := (3, 20, 0)) rfl dME_keys_46 (fun v25 hv25 => ?_)
  obtain ⟨r25, rfl, kr25⟩ := (show ∃ r : Nat, v25 = .ref r ∧ T r = some (20, 0) from hv25)
  obtain rfl : r21 = r25 := hU _ _ _ (by decide) kr21 kr25
  refine lv_aload_n hx hb dME_keys_49 rfl (lv_at hl 1 rfl) ?_
  refine ty_get (ci := 11) (C := "LatticeKeysModel$Secrets") (TT := T_ME) (N := 14) (kd := (23, 0)) hx hb hts (wg_ft i_ME) hown hK hO k_h0 (nxg (clo_cons (clo_cons (clo_cons (clo_cons (clo_cons (clo_cons hc0 kr21 (by decide)) km21 (by decide)) km22 (by decide)) km23 (by decide)) km24 (by decide)) km25 (by decide)) k_h0 rfl) hP (fun _ h9 => h9) rfl 9 (by decide) (hts _ (wg_t kw_1388)) (fun _ h9 => h9) (cd := (3, 1, 64)) rfl dME_keys_50 (fun v26 hv26 => ?_)
  obtain ⟨r26, rfl, kr26⟩ := (show ∃ r : Nat, v26 = .ref r ∧ T r = some (1, 64) from hv26)
  refine lv_iconst (v := nI 0) hx hb dME_keys_53 (by decide) ?_
  refine lv_bipush (v := nI 64) hx hb dME_keys_54 (by decide) ?_
  refine mp_v (cx := [(r21, .inr (9, [.ref am21, .ref am22, .ref am23, .ref am24, .ref am25, .int (nI 72), .int (nI ps25), .int (nI 6)])), (am21, .inl (g.2.1 2, 25, .inr (.inl f35))), (am22, .inl (g.2.1 2, 25, .inr (.inl f36))), (am23, .inl (g.2.1 2, 5, .inr (.inl f37))), (am24, .inl (g.2.1 2, 24, .inr (.inl f24))), (am25, .inl (g.2.1 0, 25, .inl f25))]) (wr := []) hP hD hS hA [0, 1, 2, 3, 4, 5] [] rfl rfl rfl (by decide) (va_runV (As := [.ref r26, .int (nI 0), .int (nI 64)]) (rest := []) F (t_MS_take l g _ T (am25 :: (am24 :: (am23 :: (am22 :: (am21 :: (r21 :: xs)))))) pl hO hU (clo_cons (clo_cons (clo_cons (clo_cons (clo_cons (clo_cons hc0 kr21 (by decide)) km21 (by decide)) km22 (by decide)) km23 (by decide)) km24 (by decide)) km25 (by decide)) r26 64 0 64 r21 am21 am22 am23 am24 am25 72 ps25 (nI 6) f35 f36 f37 f24 f25 kr26 (by omega) (by omega) (by omega) (by omega)) (cwV 3 hts (wg_app (wg_c kw_1637 (wg_c kw_1638 (wg_c kw_1639 (wg_c kw_10 wg_n)))) kw_1640) rfl rfl rfl (by decide +kernel) ⟨by decide, by decide⟩) (pp_V (en_ok g) (q0 := 0) hK hP hD hS hA hE [0, 1, 2, 3, 4, 5] rfl rfl rfl rfl) rfl rfl hl.1 rfl (lv_room (Nat.le_of_ble_eq_true rfl)) dME_keys_56 ⟨by omega, by omega⟩) (fun  u29 H locs hu25 hP hD hS => ?_)
  obtain ⟨u30, pl⟩ := u29
  obtain ⟨hq25, hO⟩ := hu25
  obtain ⟨ps26, f38, f39, f40⟩ := u30
  have hP : va_P g.1 vcl ([(r21, .inr (9, [.ref am21, .ref am22, .ref am23, .ref am24, .ref am25, .int (nI 72), .int (nI ps26), .int (nI 6)])), (am21, .inl (g.2.1 2, 25, .inr (.inl f38))), (am22, .inl (g.2.1 2, 25, .inr (.inl f39))), (am23, .inl (g.2.1 2, 5, .inr (.inl f40))), (am24, .inl (g.2.1 2, 24, .inr (.inl f24))), (am25, .inl (g.2.1 0, 25, .inl f25))] ++ pl) _ := hP
  have hD : va_D _ ([(r21, .inr (9, [.ref am21, .ref am22, .ref am23, .ref am24, .ref am25, .int (nI 72), .int (nI ps26), .int (nI 6)])), (am21, .inl (g.2.1 2, 25, .inr (.inl f38))), (am22, .inl (g.2.1 2, 25, .inr (.inl f39))), (am23, .inl (g.2.1 2, 5, .inr (.inl f40))), (am24, .inl (g.2.1 2, 24, .inr (.inl f24))), (am25, .inl (g.2.1 0, 25, .inl f25))] ++ pl) := hD
  have hq25 : ps26 ≤ 72 := hq25
  refine W.widen (k := 0) (n := 0) (by omega) (by omega) ?_
  refine lv_aload_n hx hb dME_keys_59 rfl (lv_at hl 1 rfl) ?_
  refine lv_aload_n hx hb dME_keys_60 rfl (lv_at hl 1 rfl) ?_
  refine ty_get (ci := 11) (C := "LatticeKeysModel$Secrets") (TT := T_ME) (N := 14) (kd := (23, 0)) hx hb hts (wg_ft i_ME) hown hK hO k_h0 (nxg (clo_cons (clo_cons (clo_cons (clo_cons (clo_cons (clo_cons hc0 kr21 (by decide)) km21 (by decide)) km22 (by decide)) km23 (by decide)) km24 (by decide)) km25 (by decide)) k_h0 rfl) hP (fun _ h9 => h9) rfl 9 (by decide) (hts _ (wg_t kw_1388)) (fun _ h9 => h9) (cd := (3, 1, 64)) rfl dME_keys_61 (fun v27 hv27 => ?_)
  obtain ⟨r27, rfl, kr27⟩ := (show ∃ r : Nat, v27 = .ref r ∧ T r = some (1, 64) from hv27)
  refine lv_iconst (v := nI 0) hx hb dME_keys_64 (by decide) ?_
  refine lv_iload hx hb dME_keys_65 (lv_at hl 0 rfl) ?_
  have hO := close1 (e := .inl (g.2.1 0, 25, .inl f25)) hO km25 ⟨_, rfl⟩
  have hO := close1 (e := .inl (g.2.1 2, 24, .inr (.inl f24))) hO km24 ⟨_, rfl⟩
  have hO := close1 (e := .inl (g.2.1 2, 5, .inr (.inl f40))) hO km23 ⟨_, rfl⟩
  have hO := close1 (e := .inl (g.2.1 2, 25, .inr (.inl f39))) hO km22 ⟨_, rfl⟩
  have hO := close1 (e := .inl (g.2.1 2, 25, .inr (.inl f38))) hO km21 ⟨_, rfl⟩
  have hO := close1 (e := .inr (9, [.ref am21, .ref am22, .ref am23, .ref am24, .ref am25, .int (nI 72), .int (nI ps26), .int (nI 6)])) hO kr21 ⟨_, _, _, _, _, _, _, _, rfl, km21, km22, km23, km24, km25, by omega, by omega, by omega⟩
  have hO : okx g T xs ((r21, .inr (9, [.ref am21, .ref am22, .ref am23, .ref am24, .ref am25, .int (nI 72), .int (nI ps26), .int (nI 6)])) :: (am21, .inl (g.2.1 2, 25, .inr (.inl f38))) :: (am22, .inl (g.2.1 2, 25, .inr (.inl f39))) :: (am23, .inl (g.2.1 2, 5, .inr (.inl f40))) :: (am24, .inl (g.2.1 2, 24, .inr (.inl f24))) :: (am25, .inl (g.2.1 0, 25, .inl f25)) :: pl) := hO
  have hP : va_P g.1 vcl ([] ++ ((r21, .inr (9, [.ref am21, .ref am22, .ref am23, .ref am24, .ref am25, .int (nI 72), .int (nI ps26), .int (nI 6)])) :: (am21, .inl (g.2.1 2, 25, .inr (.inl f38))) :: (am22, .inl (g.2.1 2, 25, .inr (.inl f39))) :: (am23, .inl (g.2.1 2, 5, .inr (.inl f40))) :: (am24, .inl (g.2.1 2, 24, .inr (.inl f24))) :: (am25, .inl (g.2.1 0, 25, .inl f25)) :: pl)) _ := hP
  have hD : va_D _ ([] ++ ((r21, .inr (9, [.ref am21, .ref am22, .ref am23, .ref am24, .ref am25, .int (nI 72), .int (nI ps26), .int (nI 6)])) :: (am21, .inl (g.2.1 2, 25, .inr (.inl f38))) :: (am22, .inl (g.2.1 2, 25, .inr (.inl f39))) :: (am23, .inl (g.2.1 2, 5, .inr (.inl f40))) :: (am24, .inl (g.2.1 2, 24, .inr (.inl f24))) :: (am25, .inl (g.2.1 0, 25, .inl f25)) :: pl)) := hD
  generalize ((r21, .inr (9, [.ref am21, .ref am22, .ref am23, .ref am24, .ref am25, .int (nI 72), .int (nI ps26), .int (nI 6)])) :: (am21, .inl (g.2.1 2, 25, .inr (.inl f38))) :: (am22, .inl (g.2.1 2, 25, .inr (.inl f39))) :: (am23, .inl (g.2.1 2, 5, .inr (.inl f40))) :: (am24, .inl (g.2.1 2, 24, .inr (.inl f24))) :: (am25, .inl (g.2.1 0, 25, .inl f25)) :: pl) = pl at hO hP hD
  refine mp_v (cx := []) (wr := []) hP hD hS hA [] [] rfl rfl rfl (by decide) (va_runV (As := [.ref r27, .int (nI 0), .int (nI 4)]) (rest := []) F (t_ME_expand_4 l g _ T xs pl hO hU hc0 hc9 h0 r27 64 0 k_h0 kr27 (by omega) (by omega)) (cwV 3 hts (wg_app (wg_c kw_1645 (wg_c kw_1647 (wg_c ks_54 (wg_c kw_11 wg_n)))) kw_1648) rfl rfl rfl (by decide +kernel) ⟨by decide, by decide⟩) (pp_VT (en_ok g) (ci := 11) (kd := (23, 0)) hK hO k_h0 (nxg hc0 k_h0 rfl) (fun _ h9 => ko1 h9) hP hD hS hA hE [] rfl rfl rfl) rfl rfl hl.1 rfl (lv_room (Nat.le_of_ble_eq_true rfl)) dME_keys_67 ⟨by omega, by omega⟩) (fun  pl H locs hu26 hP hD hS => ?_)
  obtain ⟨hq26, hO⟩ := hu26
  have hP : va_P g.1 vcl ([] ++ pl) _ := hP
  have hD : va_D _ ([] ++ pl) := hD
  refine W.widen (k := 0) (n := 0) (by omega) (by omega) ?_
  refine lv_iconst (v := nI 0) hx hb dME_keys_70 (by decide) ?_
  refine lv_istore (lv' := [(6, .int (nI 0)), (5, .int (nI 4)), (0, .ref h0), (1, .int (nI 2)), (2, .ref sd), (3, .ref ek), (4, .ref dk)]) hx hb dME_keys_71 hl (by decide) rfl (fun ls hl => ?_)
  have lp21 : ∀ (n21 : Nat) (i21 : Nat) (pl : va_W) (ls : Array Slot) (H : Heap) (locs : List Loc), n21 + i21 = 4 → lv_has ls 8 [(6, .int (nI i21)), (5, .int (nI 4)), (0, .ref h0), (1, .int (nI 2)), (2, .ref sd), (3, .ref ek), (4, .ref dk)] → okx g T xs pl → va_P g.1 vcl ([] ++ pl) H → va_D A ([] ++ pl) → va_S A s.heap H locs → W p l e ({ frames := 5, cells := 0, slots := 0, locals := 126 } : Room) s m args below meth c H locs 0 0 (MQ below (va_Qv (fun (u : va_W) => (True) ∧ okx g T xs u) (po g.1 vcl A (fun (u : va_W) => [] ++ u)) A) args s 0 0 A) (F0 m 73 ls []) := by
    intro n21
    induction n21 with
    | zero =>
      intro i21 pl ls H locs hm21  hl hO hP hD hS
      refine lv_iload hx hb dME_keys_73 (lv_at hl 0 rfl) ?_
      refine lv_iload hx hb dME_keys_75 (lv_at hl 1 rfl) ?_
      refine mi_ge (tgt := 159) hx hb dME_keys_77 (by decide) (by omega) (by omega) (fun h21 => ?_) (fun h21 => absurd h21 (by omega))
      refine lv_iconst (v := nI 0) hx hb dME_keys_159 (by decide) ?_
      refine lv_istore (lv' := [(6, .int (nI 0)), (5, .int (nI 4)), (0, .ref h0), (1, .int (nI 2)), (2, .ref sd), (3, .ref ek), (4, .ref dk)]) hx hb dME_keys_160 hl (by decide) rfl (fun ls hl => ?_)
      have lp22 : ∀ (n22 : Nat) (i22 : Nat) (pl : va_W) (ls : Array Slot) (H : Heap) (locs : List Loc), n22 + i22 = 4 → lv_has ls 8 [(6, .int (nI i22)), (5, .int (nI 4)), (0, .ref h0), (1, .int (nI 2)), (2, .ref sd), (3, .ref ek), (4, .ref dk)] → okx g T xs pl → va_P g.1 vcl ([] ++ pl) H → va_D A ([] ++ pl) → va_S A s.heap H locs → W p l e ({ frames := 5, cells := 0, slots := 0, locals := 126 } : Room) s m args below meth c H locs 0 0 (MQ below (va_Qv (fun (u : va_W) => (True) ∧ okx g T xs u) (po g.1 vcl A (fun (u : va_W) => [] ++ u)) A) args s 0 0 A) (F0 m 162 ls []) := by
        intro n22
        induction n22 with
        | zero =>
          intro i22 pl ls H locs hm22  hl hO hP hD hS
          refine lv_iload hx hb dME_keys_162 (lv_at hl 0 rfl) ?_
          refine lv_iload hx hb dME_keys_164 (lv_at hl 1 rfl) ?_
          refine mi_ge (tgt := 260) hx hb dME_keys_166 (by decide) (by omega) (by omega) (fun h22 => ?_) (fun h22 => absurd h22 (by omega))
          refine lv_iconst (v := nI 0) hx hb dME_keys_260 (by decide) ?_
          refine lv_istore (lv' := [(6, .int (nI 0)), (5, .int (nI 4)), (0, .ref h0), (1, .int (nI 2)), (2, .ref sd), (3, .ref ek), (4, .ref dk)]) hx hb dME_keys_261 hl (by decide) rfl (fun ls hl => ?_)
          have lp23 : ∀ (n23 : Nat) (i23 : Nat) (pl : va_W) (ls : Array Slot) (H : Heap) (locs : List Loc), n23 + i23 = 32 → lv_has ls 8 [(6, .int (nI i23)), (5, .int (nI 4)), (0, .ref h0), (1, .int (nI 2)), (2, .ref sd), (3, .ref ek), (4, .ref dk)] → okx g T xs pl → va_P g.1 vcl ([] ++ pl) H → va_D A ([] ++ pl) → va_S A s.heap H locs → W p l e ({ frames := 5, cells := 0, slots := 0, locals := 126 } : Room) s m args below meth c H locs 0 0 (MQ below (va_Qv (fun (u : va_W) => (True) ∧ okx g T xs u) (po g.1 vcl A (fun (u : va_W) => [] ++ u)) A) args s 0 0 A) (F0 m 263 ls []) := by
            intro n23
            induction n23 with
            | zero =>
              intro i23 pl ls H locs hm23  hl hO hP hD hS
              refine lv_iload hx hb dME_keys_263 (lv_at hl 0 rfl) ?_
              refine lv_bipush (v := nI 32) hx hb dME_keys_265 (by decide) ?_
              refine mi_ge (tgt := 294) hx hb dME_keys_267 (by decide) (by omega) (by omega) (fun h23 => ?_) (fun h23 => absurd h23 (by omega))
              refine lv_iconst (v := nI 0) hx hb dME_keys_294 (by decide) ?_
              refine lv_istore (lv' := [(6, .int (nI 0)), (5, .int (nI 4)), (0, .ref h0), (1, .int (nI 2)), (2, .ref sd), (3, .ref ek), (4, .ref dk)]) hx hb dME_keys_295 hl (by decide) rfl (fun ls hl => ?_)
              have lp24 : ∀ (n24 : Nat) (i24 : Nat) (pl : va_W) (ls : Array Slot) (H : Heap) (locs : List Loc), n24 + i24 = 1568 → lv_has ls 8 [(6, .int (nI i24)), (5, .int (nI 4)), (0, .ref h0), (1, .int (nI 2)), (2, .ref sd), (3, .ref ek), (4, .ref dk)] → okx g T xs pl → va_P g.1 vcl ([] ++ pl) H → va_D A ([] ++ pl) → va_S A s.heap H locs → W p l e ({ frames := 5, cells := 0, slots := 0, locals := 126 } : Room) s m args below meth c H locs 0 0 (MQ below (va_Qv (fun (u : va_W) => (True) ∧ okx g T xs u) (po g.1 vcl A (fun (u : va_W) => [] ++ u)) A) args s 0 0 A) (F0 m 297 ls []) := by
                intro n24
                induction n24 with
                | zero =>
                  intro i24 pl ls H locs hm24  hl hO hP hD hS
                  refine lv_iload hx hb dME_keys_297 (lv_at hl 0 rfl) ?_
                  refine lv_iload_n hx hb dME_keys_299 rfl (lv_at hl 3 rfl) ?_
                  refine mp_i (cx := []) (wr := []) hP hD hS hA [] [] rfl rfl rfl (by decide) (va_runS (As := [.int (nI 2)]) (rest := [.int (nI i24)]) F (t_ME_openSize_2 l g _ T xs pl hO hU  ) (va_cwS 1 hts (wg_app (wg_c kw_1691 (wg_c kw_1692 (wg_c kw_11 wg_n))) kw_1693) rfl rfl rfl (by decide +kernel) ⟨by decide, by decide⟩) (pp_S (en_ok g) hP hD hS hA hE [] rfl rfl) rfl rfl hl.1 rfl (lv_room (Nat.le_of_ble_eq_true rfl)) dME_keys_300 ⟨by omega, by omega⟩) (fun r28 pl H locs hu27 hP hD hS => ?_)
                  obtain ⟨hq27, hO⟩ := hu27
                  have hP : va_P g.1 vcl ([] ++ pl) _ := hP
                  have hD : va_D _ ([] ++ pl) := hD
                  obtain rfl := hq27
                  refine W.widen (k := 0) (n := 0) (by omega) (by omega) ?_
                  refine mi_ge (tgt := 328) hx hb dME_keys_303 (by decide) (by omega) (by omega) (fun h24 => ?_) (fun h24 => absurd h24 (by omega))
                  refine lv_aload_n hx hb dME_keys_328 rfl (lv_at hl 2 rfl) ?_
                  refine lv_aload_n hx hb dME_keys_329 rfl (lv_at hl 5 rfl) ?_
                  refine lv_iconst (v := nI 0) hx hb dME_keys_330 (by decide) ?_
                  refine lv_iload_n hx hb dME_keys_331 rfl (lv_at hl 3 rfl) ?_
                  refine mp_i (cx := []) (wr := []) hP hD hS hA [] [] rfl rfl rfl (by decide) (va_runS (As := [.int (nI 2)]) (rest := [.int (nI 0), .ref ek, .ref h0]) F (t_ME_openSize_2 l g _ T xs pl hO hU  ) (va_cwS 1 hts (wg_app (wg_c kw_1691 (wg_c kw_1692 (wg_c kw_11 wg_n))) kw_1693) rfl rfl rfl (by decide +kernel) ⟨by decide, by decide⟩) (pp_S (en_ok g) hP hD hS hA hE [] rfl rfl) rfl rfl hl.1 rfl (lv_room (Nat.le_of_ble_eq_true rfl)) dME_keys_332 ⟨by omega, by omega⟩) (fun r29 pl H locs hu28 hP hD hS => ?_)
                  obtain ⟨hq28, hO⟩ := hu28
                  have hP : va_P g.1 vcl ([] ++ pl) _ := hP
                  have hD : va_D _ ([] ++ pl) := hD
                  obtain rfl := hq28
                  refine W.widen (k := 0) (n := 0) (by omega) (by omega) ?_
                  refine lv_aload hx hb dME_keys_335 (lv_at hl 6 rfl) ?_
                  refine lv_sipush (v := nI 768) hx hb dME_keys_337 (by decide) ?_
                  refine lv_iload hx hb dME_keys_340 (lv_at hl 1 rfl) ?_
                  refine mi_imul hx hb dME_keys_342 ?_
                  refine mi_as (show nI (768 * 4) = nI 3072 from rfl) ?_
                  refine lv_bipush (v := nI 32) hx hb dME_keys_343 (by decide) ?_
                  refine mi_iadd hx hb dME_keys_345 ?_
                  refine mi_as (show nI (3072 + 32) = nI 3104 from rfl) ?_
                  refine mp_v (cx := []) (wr := []) hP hD hS hA [] [] rfl rfl rfl (by decide) (va_runV (As := [.ref ek, .int (nI 0), .int (nI 1568), .ref dk, .int (nI 3104)]) (rest := []) F (t_ME_hash l g _ T xs pl hO hU hc0 hc9 h0 ek dk 2592 4896 0 1568 3104 k_h0 k_ek k_dk (by omega) (by omega) (by omega) (by omega)) (cwV 5 hts (wg_app (wg_c kw_1694 (wg_c kw_1696 (wg_c ks_59 (wg_c kw_11 wg_n)))) kw_1697) rfl rfl rfl (by decide +kernel) ⟨by decide, by decide⟩) (pp_VT (en_ok g) (ci := 11) (kd := (23, 0)) hK hO k_h0 (nxg hc0 k_h0 rfl) (fun _ h9 => ko1 h9) hP hD hS hA hE [] rfl rfl rfl) rfl rfl hl.1 rfl (lv_room (Nat.le_of_ble_eq_true rfl)) dME_keys_346 ⟨by omega, by omega⟩) (fun  pl H locs hu29 hP hD hS => ?_)
                  obtain ⟨hq29, hO⟩ := hu29
                  have hP : va_P g.1 vcl ([] ++ pl) _ := hP
                  have hD : va_D _ ([] ++ pl) := hD
                  refine W.widen (k := 0) (n := 0) (by omega) (by omega) ?_
                  refine lv_iconst (v := nI 0) hx hb dME_keys_349 (by decide) ?_
                  refine lv_istore (lv' := [(6, .int (nI 0)), (5, .int (nI 4)), (0, .ref h0), (1, .int (nI 2)), (2, .ref sd), (3, .ref ek), (4, .ref dk)]) hx hb dME_keys_350 hl (by decide) rfl (fun ls hl => ?_)
                  have lp25 : ∀ (n25 : Nat) (i25 : Nat) (pl : va_W) (ls : Array Slot) (H : Heap) (locs : List Loc), n25 + i25 = 32 → lv_has ls 8 [(6, .int (nI i25)), (5, .int (nI 4)), (2, .ref sd), (4, .ref dk)] → okx g T xs pl → va_P g.1 vcl ([] ++ pl) H → va_D A ([] ++ pl) → va_S A s.heap H locs → W p l e ({ frames := 5, cells := 0, slots := 0, locals := 126 } : Room) s m args below meth c H locs 0 0 (MQ below (va_Qv (fun (u : va_W) => (True) ∧ okx g T xs u) (po g.1 vcl A (fun (u : va_W) => [] ++ u)) A) args s 0 0 A) (F0 m 352 ls []) := by
                    intro n25
                    induction n25 with
                    | zero =>
                      intro i25 pl ls H locs hm25  hl hO hP hD hS
                      refine lv_iload hx hb dME_keys_352 (lv_at hl 0 rfl) ?_
                      refine lv_bipush (v := nI 32) hx hb dME_keys_354 (by decide) ?_
                      refine mi_ge (tgt := 387) hx hb dME_keys_356 (by decide) (by omega) (by omega) (fun h25 => ?_) (fun h25 => absurd h25 (by omega))
                      exact mp_vret hx hb hr hlk hP hD hS pl ⟨trivial, hO⟩ [] rfl rfl rfl (by omega) (by omega) dME_keys_387
                    | succ n25 ih25 =>
                      intro i25 pl ls H locs hm25  hl hO hP hD hS
                      refine lv_iload hx hb dME_keys_352 (lv_at hl 0 rfl) ?_
                      refine lv_bipush (v := nI 32) hx hb dME_keys_354 (by decide) ?_
                      refine mi_ge (tgt := 387) hx hb dME_keys_356 (by decide) (by omega) (by omega) (fun h26 => absurd h26 (by omega)) (fun h26 => ?_)
                      refine lv_aload hx hb dME_keys_359 (lv_at hl 3 rfl) ?_
                      refine lv_sipush (v := nI 768) hx hb dME_keys_361 (by decide) ?_
                      refine lv_iload hx hb dME_keys_364 (lv_at hl 1 rfl) ?_
                      refine mi_imul hx hb dME_keys_366 ?_
                      refine mi_as (show nI (768 * 4) = nI 3072 from rfl) ?_
                      refine lv_bipush (v := nI 64) hx hb dME_keys_367 (by decide) ?_
                      refine mi_iadd hx hb dME_keys_369 ?_
                      refine mi_as (show nI (3072 + 64) = nI 3136 from rfl) ?_
                      refine lv_iload hx hb dME_keys_370 (lv_at hl 0 rfl) ?_
                      refine mi_iadd hx hb dME_keys_372 ?_
                      refine lv_aload_n hx hb dME_keys_373 rfl (lv_at hl 2 rfl) ?_
                      refine lv_bipush (v := nI 32) hx hb dME_keys_374 (by decide) ?_
                      refine lv_iload hx hb dME_keys_376 (lv_at hl 0 rfl) ?_
                      refine mi_iadd hx hb dME_keys_378 ?_
                      refine ty_bald hx hb hK hO k_sd (nxg hc0 k_sd rfl) hP (vp_in_nI (by omega) (by omega)) dME_keys_379 (fun z21 => ?_)
                      refine ty_bast hx hb hK hO k_dk (nxg hc0 k_dk rfl) hP hD hS (vp_in_nI (by omega) (by decide)) dME_keys_380 (fun pl H locs hO hP hD hS => ?_)
                      refine mi_iinc (k := 0) (x := i25) (d := 1) (y := i25 + 1) (lv' := [(6, .int (nI (i25 + 1))), (5, .int (nI 4)), (2, .ref sd), (4, .ref dk)]) hx hb dME_keys_381 hl rfl (by decide) rfl (by decide) rfl (fun ls hl => ?_)
                      refine lv_goto (tgt := 352) hx hb dME_keys_384 (by decide) ?_
                      exact ih25 (i25 + 1) pl ls H locs (by omega) (lv_sub hl [0, 1, 2, 3] rfl) hO hP hD hS
                  exact lp25 32 0 pl ls _ _ (by omega) (lv_sub hl [0, 1, 4, 6] rfl) hO hP hD hS
                | succ n24 ih24 =>
                  intro i24 pl ls H locs hm24  hl hO hP hD hS
                  refine lv_iload hx hb dME_keys_297 (lv_at hl 0 rfl) ?_
                  refine lv_iload_n hx hb dME_keys_299 rfl (lv_at hl 3 rfl) ?_
                  refine mp_i (cx := []) (wr := []) hP hD hS hA [] [] rfl rfl rfl (by decide) (va_runS (As := [.int (nI 2)]) (rest := [.int (nI i24)]) F (t_ME_openSize_2 l g _ T xs pl hO hU  ) (va_cwS 1 hts (wg_app (wg_c kw_1691 (wg_c kw_1692 (wg_c kw_11 wg_n))) kw_1693) rfl rfl rfl (by decide +kernel) ⟨by decide, by decide⟩) (pp_S (en_ok g) hP hD hS hA hE [] rfl rfl) rfl rfl hl.1 rfl (lv_room (Nat.le_of_ble_eq_true rfl)) dME_keys_300 ⟨by omega, by omega⟩) (fun r30 pl H locs hu30 hP hD hS => ?_)
                  obtain ⟨hq30, hO⟩ := hu30
                  have hP : va_P g.1 vcl ([] ++ pl) _ := hP
                  have hD : va_D _ ([] ++ pl) := hD
                  obtain rfl := hq30
                  refine W.widen (k := 0) (n := 0) (by omega) (by omega) ?_
                  refine mi_ge (tgt := 328) hx hb dME_keys_303 (by decide) (by omega) (by omega) (fun h27 => absurd h27 (by omega)) (fun h27 => ?_)
                  refine lv_aload hx hb dME_keys_306 (lv_at hl 6 rfl) ?_
                  refine lv_sipush (v := nI 384) hx hb dME_keys_308 (by decide) ?_
                  refine lv_iload hx hb dME_keys_311 (lv_at hl 1 rfl) ?_
                  refine mi_imul hx hb dME_keys_313 ?_
                  refine mi_as (show nI (384 * 4) = nI 1536 from rfl) ?_
                  refine lv_iload hx hb dME_keys_314 (lv_at hl 0 rfl) ?_
                  refine mi_iadd hx hb dME_keys_316 ?_
                  refine lv_aload_n hx hb dME_keys_317 rfl (lv_at hl 5 rfl) ?_
                  refine lv_iload hx hb dME_keys_318 (lv_at hl 0 rfl) ?_
                  refine ty_bald hx hb hK hO k_ek (nxg hc0 k_ek rfl) hP (vp_in_nI (by omega) (by decide)) dME_keys_320 (fun z22 => ?_)
                  refine ty_bast hx hb hK hO k_dk (nxg hc0 k_dk rfl) hP hD hS (vp_in_nI (by omega) (by decide)) dME_keys_321 (fun pl H locs hO hP hD hS => ?_)
                  refine mi_iinc (k := 0) (x := i24) (d := 1) (y := i24 + 1) (lv' := [(6, .int (nI (i24 + 1))), (5, .int (nI 4)), (0, .ref h0), (1, .int (nI 2)), (2, .ref sd), (3, .ref ek), (4, .ref dk)]) hx hb dME_keys_322 hl rfl (by decide) rfl (by decide) rfl (fun ls hl => ?_)
                  refine lv_goto (tgt := 297) hx hb dME_keys_325 (by decide) ?_
                  exact ih24 (i24 + 1) pl ls H locs (by omega) (lv_sub hl [0, 1, 2, 3, 4, 5, 6] rfl) hO hP hD hS
              exact lp24 1568 0 pl ls _ _ (by omega) (lv_sub hl [0, 1, 2, 3, 4, 5, 6] rfl) hO hP hD hS
            | succ n23 ih23 =>
              intro i23 pl ls H locs hm23  hl hO hP hD hS
              refine lv_iload hx hb dME_keys_263 (lv_at hl 0 rfl) ?_
              refine lv_bipush (v := nI 32) hx hb dME_keys_265 (by decide) ?_
              refine mi_ge (tgt := 294) hx hb dME_keys_267 (by decide) (by omega) (by omega) (fun h28 => absurd h28 (by omega)) (fun h28 => ?_)
              refine lv_aload_n hx hb dME_keys_270 rfl (lv_at hl 5 rfl) ?_
              refine lv_sipush (v := nI 384) hx hb dME_keys_271 (by decide) ?_
              refine lv_iload hx hb dME_keys_274 (lv_at hl 1 rfl) ?_
              refine mi_imul hx hb dME_keys_276 ?_
              refine mi_as (show nI (384 * 4) = nI 1536 from rfl) ?_
              refine lv_iload hx hb dME_keys_277 (lv_at hl 0 rfl) ?_
              refine mi_iadd hx hb dME_keys_279 ?_
              refine lv_aload_n hx hb dME_keys_280 rfl (lv_at hl 2 rfl) ?_
              refine ty_get (ci := 11) (C := "LatticeKeysModel$Secrets") (TT := T_ME) (N := 14) (kd := (23, 0)) hx hb hts (wg_ft i_ME) hown hK hO k_h0 (nxg hc0 k_h0 rfl) hP (fun _ h9 => h9) rfl 9 (by decide) (hts _ (wg_t kw_1388)) (fun _ h9 => h9) (cd := (3, 1, 64)) rfl dME_keys_281 (fun v28 hv28 => ?_)
              obtain ⟨r31, rfl, kr28⟩ := (show ∃ r : Nat, v28 = .ref r ∧ T r = some (1, 64) from hv28)
              refine lv_iload hx hb dME_keys_284 (lv_at hl 0 rfl) ?_
              refine ty_bald hx hb hK hO kr28 (nxg hc0 kr28 rfl) hP (vp_in_nI (by omega) (by decide)) dME_keys_286 (fun z23 => ?_)
              refine ty_bast hx hb hK hO k_ek (nxg hc0 k_ek rfl) hP hD hS (vp_in_nI (by omega) (by decide)) dME_keys_287 (fun pl H locs hO hP hD hS => ?_)
              refine mi_iinc (k := 0) (x := i23) (d := 1) (y := i23 + 1) (lv' := [(6, .int (nI (i23 + 1))), (5, .int (nI 4)), (0, .ref h0), (1, .int (nI 2)), (2, .ref sd), (3, .ref ek), (4, .ref dk)]) hx hb dME_keys_288 hl rfl (by decide) rfl (by decide) rfl (fun ls hl => ?_)
              refine lv_goto (tgt := 263) hx hb dME_keys_291 (by decide) ?_
              exact ih23 (i23 + 1) pl ls H locs (by omega) (lv_sub hl [0, 1, 2, 3, 4, 5, 6] rfl) hO hP hD hS
          exact lp23 32 0 pl ls _ _ (by omega) (lv_sub hl [0, 1, 2, 3, 4, 5, 6] rfl) hO hP hD hS
        | succ n22 ih22 =>
          intro i22 pl ls H locs hm22  hl hO hP hD hS
          refine lv_iload hx hb dME_keys_162 (lv_at hl 0 rfl) ?_
          refine lv_iload hx hb dME_keys_164 (lv_at hl 1 rfl) ?_
          refine mi_ge (tgt := 260) hx hb dME_keys_166 (by decide) (by omega) (by omega) (fun h29 => absurd h29 (by omega)) (fun h29 => ?_)
          refine lv_iconst (v := nI 0) hx hb dME_keys_169 (by decide) ?_
          refine lv_istore (lv' := [(7, .int (nI 0)), (6, .int (nI i22)), (5, .int (nI 4)), (0, .ref h0), (1, .int (nI 2)), (2, .ref sd), (3, .ref ek), (4, .ref dk)]) hx hb dME_keys_170 hl (by decide) rfl (fun ls hl => ?_)
          have lp26 : ∀ (n26 : Nat) (i26 : Nat) (pl : va_W) (ls : Array Slot) (H : Heap) (locs : List Loc), n26 + i26 = 4 → lv_has ls 8 [(7, .int (nI i26)), (6, .int (nI i22)), (5, .int (nI 4)), (0, .ref h0), (1, .int (nI 2)), (2, .ref sd), (3, .ref ek), (4, .ref dk)] → okx g T xs pl → va_P g.1 vcl ([] ++ pl) H → va_D A ([] ++ pl) → va_S A s.heap H locs → W p l e ({ frames := 5, cells := 0, slots := 0, locals := 126 } : Room) s m args below meth c H locs 0 0 (MQ below (va_Qv (fun (u : va_W) => (True) ∧ okx g T xs u) (po g.1 vcl A (fun (u : va_W) => [] ++ u)) A) args s 0 0 A) (F0 m 172 ls []) := by
            intro n26
            induction n26 with
            | zero =>
              intro i26 pl ls H locs hm26  hl hO hP hD hS
              refine lv_iload hx hb dME_keys_172 (lv_at hl 0 rfl) ?_
              refine lv_iload hx hb dME_keys_174 (lv_at hl 2 rfl) ?_
              refine mi_ge (tgt := 215) hx hb dME_keys_176 (by decide) (by omega) (by omega) (fun h30 => ?_) (fun h30 => absurd h30 (by omega))
              refine lv_aload_n hx hb dME_keys_215 rfl (lv_at hl 3 rfl) ?_
              refine ty_get (ci := 11) (C := "LatticeKeysModel$Secrets") (TT := T_ME) (N := 14) (kd := (23, 0)) hx hb hts (wg_ft i_ME) hown hK hO k_h0 (nxg hc0 k_h0 rfl) hP (fun _ h9 => h9) rfl 4 (by decide) (hts _ (wg_t kw_1383)) (fun _ h9 => h9) (cd := (3, 3, 4)) rfl dME_keys_216 (fun v29 hv29 => ?_)
              obtain ⟨r32, rfl, kr29⟩ := (show ∃ r : Nat, v29 = .ref r ∧ T r = some (3, 4) from hv29)
              refine lv_iload hx hb dME_keys_219 (lv_at hl 1 rfl) ?_
              refine ty_aald3 hx hb hK hO kr29 (nxg hc0 kr29 rfl) hP (by omega) (by decide) dME_keys_221 (fun r33 kr30 => ?_)
              refine lv_aload_n hx hb dME_keys_222 rfl (lv_at hl 6 rfl) ?_
              refine lv_sipush (v := nI 384) hx hb dME_keys_223 (by decide) ?_
              refine lv_iload hx hb dME_keys_226 (lv_at hl 1 rfl) ?_
              refine mi_imul hx hb dME_keys_228 ?_
              refine lv_bipush (v := nI 12) hx hb dME_keys_229 (by decide) ?_
              refine mp_v (cx := []) (wr := []) hP hD hS hA [] [] rfl rfl rfl (by decide) (va_runS (As := [.ref r33, .ref ek, .int (nI (384 * i22)), .int (nI 12)]) (rest := []) F (t_ME_write_12 l g _ T xs pl hO hU hc0 r33 ek 2592 (384 * i22) kr30 k_ek (by omega) (by omega)) (va_cwS 4 hts (wg_app (wg_c kw_1685 (wg_c kw_1686 (wg_c kw_11 wg_n))) kw_1687) rfl rfl rfl (by decide +kernel) ⟨by decide, by decide⟩) (pp_S (en_ok g) hP hD hS hA hE [] rfl rfl) rfl rfl hl.1 rfl (lv_room (Nat.le_of_ble_eq_true rfl)) dME_keys_231 ⟨by omega, by omega⟩) (fun  pl H locs hu31 hP hD hS => ?_)
              obtain ⟨hq31, hO⟩ := hu31
              have hP : va_P g.1 vcl ([] ++ pl) _ := hP
              have hD : va_D _ ([] ++ pl) := hD
              refine W.widen (k := 0) (n := 0) (by omega) (by omega) ?_
              refine lv_aload_n hx hb dME_keys_234 rfl (lv_at hl 3 rfl) ?_
              refine ty_get (ci := 11) (C := "LatticeKeysModel$Secrets") (TT := T_ME) (N := 14) (kd := (23, 0)) hx hb hts (wg_ft i_ME) hown hK hO k_h0 (nxg hc0 k_h0 rfl) hP (fun _ h9 => h9) rfl 3 (by decide) (hts _ (wg_t kw_1382)) (fun _ h9 => h9) (cd := (3, 3, 4)) rfl dME_keys_235 (fun v30 hv30 => ?_)
              obtain ⟨r34, rfl, kr31⟩ := (show ∃ r : Nat, v30 = .ref r ∧ T r = some (3, 4) from hv30)
              refine lv_iload hx hb dME_keys_238 (lv_at hl 1 rfl) ?_
              refine ty_aald3 hx hb hK hO kr31 (nxg hc0 kr31 rfl) hP (by omega) (by decide) dME_keys_240 (fun r35 kr32 => ?_)
              refine lv_aload hx hb dME_keys_241 (lv_at hl 7 rfl) ?_
              refine lv_sipush (v := nI 384) hx hb dME_keys_243 (by decide) ?_
              refine lv_iload hx hb dME_keys_246 (lv_at hl 1 rfl) ?_
              refine mi_imul hx hb dME_keys_248 ?_
              refine lv_bipush (v := nI 12) hx hb dME_keys_249 (by decide) ?_
              refine mp_v (cx := []) (wr := []) hP hD hS hA [] [] rfl rfl rfl (by decide) (va_runS (As := [.ref r35, .ref dk, .int (nI (384 * i22)), .int (nI 12)]) (rest := []) F (t_ME_write_12 l g _ T xs pl hO hU hc0 r35 dk 4896 (384 * i22) kr32 k_dk (by omega) (by omega)) (va_cwS 4 hts (wg_app (wg_c kw_1685 (wg_c kw_1686 (wg_c kw_11 wg_n))) kw_1687) rfl rfl rfl (by decide +kernel) ⟨by decide, by decide⟩) (pp_S (en_ok g) hP hD hS hA hE [] rfl rfl) rfl rfl hl.1 rfl (lv_room (Nat.le_of_ble_eq_true rfl)) dME_keys_251 ⟨by omega, by omega⟩) (fun  pl H locs hu32 hP hD hS => ?_)
              obtain ⟨hq32, hO⟩ := hu32
              have hP : va_P g.1 vcl ([] ++ pl) _ := hP
              have hD : va_D _ ([] ++ pl) := hD
              refine W.widen (k := 0) (n := 0) (by omega) (by omega) ?_
              refine mi_iinc (k := 1) (x := i22) (d := 1) (y := i22 + 1) (lv' := [(6, .int (nI (i22 + 1))), (7, .int (nI i26)), (5, .int (nI 4)), (0, .ref h0), (1, .int (nI 2)), (2, .ref sd), (3, .ref ek), (4, .ref dk)]) hx hb dME_keys_254 hl rfl (by decide) rfl (by decide) rfl (fun ls hl => ?_)
              refine lv_goto (tgt := 162) hx hb dME_keys_257 (by decide) ?_
              exact ih22 (i22 + 1) pl ls H locs (by omega) (lv_sub hl [0, 2, 3, 4, 5, 6, 7] rfl) hO hP hD hS
            | succ n26 ih26 =>
              intro i26 pl ls H locs hm26  hl hO hP hD hS
              refine lv_iload hx hb dME_keys_172 (lv_at hl 0 rfl) ?_
              refine lv_iload hx hb dME_keys_174 (lv_at hl 2 rfl) ?_
              refine mi_ge (tgt := 215) hx hb dME_keys_176 (by decide) (by omega) (by omega) (fun h31 => absurd h31 (by omega)) (fun h31 => ?_)
              refine lv_aload_n hx hb dME_keys_179 rfl (lv_at hl 3 rfl) ?_
              refine lv_aload_n hx hb dME_keys_180 rfl (lv_at hl 3 rfl) ?_
              refine ty_get (ci := 11) (C := "LatticeKeysModel$Secrets") (TT := T_ME) (N := 14) (kd := (23, 0)) hx hb hts (wg_ft i_ME) hown hK hO k_h0 (nxg hc0 k_h0 rfl) hP (fun _ h9 => h9) rfl 2 (by decide) (hts _ (wg_t kw_1381)) (fun _ h9 => h9) (cd := (3, 3, 16)) rfl dME_keys_181 (fun v31 hv31 => ?_)
              obtain ⟨r36, rfl, kr33⟩ := (show ∃ r : Nat, v31 = .ref r ∧ T r = some (3, 16) from hv31)
              refine lv_iconst (v := nI 4) hx hb dME_keys_184 (by decide) ?_
              refine lv_iload hx hb dME_keys_185 (lv_at hl 1 rfl) ?_
              refine mi_imul hx hb dME_keys_187 ?_
              refine lv_iload hx hb dME_keys_188 (lv_at hl 0 rfl) ?_
              refine mi_iadd hx hb dME_keys_190 ?_
              refine ty_aald3 hx hb hK hO kr33 (nxg hc0 kr33 rfl) hP (by omega) (by decide) dME_keys_191 (fun r37 kr34 => ?_)
              refine lv_aload_n hx hb dME_keys_192 rfl (lv_at hl 3 rfl) ?_
              refine ty_get (ci := 11) (C := "LatticeKeysModel$Secrets") (TT := T_ME) (N := 14) (kd := (23, 0)) hx hb hts (wg_ft i_ME) hown hK hO k_h0 (nxg hc0 k_h0 rfl) hP (fun _ h9 => h9) rfl 3 (by decide) (hts _ (wg_t kw_1382)) (fun _ h9 => h9) (cd := (3, 3, 4)) rfl dME_keys_193 (fun v32 hv32 => ?_)
              obtain ⟨r38, rfl, kr35⟩ := (show ∃ r : Nat, v32 = .ref r ∧ T r = some (3, 4) from hv32)
              refine lv_iload hx hb dME_keys_196 (lv_at hl 0 rfl) ?_
              refine ty_aald3 hx hb hK hO kr35 (nxg hc0 kr35 rfl) hP (by omega) (by decide) dME_keys_198 (fun r39 kr36 => ?_)
              refine lv_aload_n hx hb dME_keys_199 rfl (lv_at hl 3 rfl) ?_
              refine ty_get (ci := 11) (C := "LatticeKeysModel$Secrets") (TT := T_ME) (N := 14) (kd := (23, 0)) hx hb hts (wg_ft i_ME) hown hK hO k_h0 (nxg hc0 k_h0 rfl) hP (fun _ h9 => h9) rfl 4 (by decide) (hts _ (wg_t kw_1383)) (fun _ h9 => h9) (cd := (3, 3, 4)) rfl dME_keys_200 (fun v33 hv33 => ?_)
              obtain ⟨r40, rfl, kr37⟩ := (show ∃ r : Nat, v33 = .ref r ∧ T r = some (3, 4) from hv33)
              refine lv_iload hx hb dME_keys_203 (lv_at hl 1 rfl) ?_
              refine ty_aald3 hx hb hK hO kr37 (nxg hc0 kr37 rfl) hP (by omega) (by decide) dME_keys_205 (fun r41 kr38 => ?_)
              refine mp_v (cx := []) (wr := []) hP hD hS hA [] [] rfl rfl rfl (by decide) (va_runV (As := [.ref r37, .ref r39, .ref r41]) (rest := []) F (t_ME_product l g _ T xs pl hO hU hc0 h0 r37 r39 r41 k_h0 kr34 kr36 kr38) (cwV 3 hts (wg_app (wg_c kw_1676 (wg_c kw_1678 (wg_c ks_58 (wg_c kw_11 wg_n)))) kw_1679) rfl rfl rfl (by decide +kernel) ⟨by decide, by decide⟩) (pp_VT (en_ok g) (ci := 11) (kd := (23, 0)) hK hO k_h0 (nxg hc0 k_h0 rfl) (fun _ h9 => ko1 h9) hP hD hS hA hE [] rfl rfl rfl) rfl rfl hl.1 rfl (lv_room (Nat.le_of_ble_eq_true rfl)) dME_keys_206 ⟨by omega, by omega⟩) (fun  pl H locs hu33 hP hD hS => ?_)
              obtain ⟨hq33, hO⟩ := hu33
              have hP : va_P g.1 vcl ([] ++ pl) _ := hP
              have hD : va_D _ ([] ++ pl) := hD
              refine W.widen (k := 0) (n := 0) (by omega) (by omega) ?_
              refine mi_iinc (k := 0) (x := i26) (d := 1) (y := i26 + 1) (lv' := [(7, .int (nI (i26 + 1))), (6, .int (nI i22)), (5, .int (nI 4)), (0, .ref h0), (1, .int (nI 2)), (2, .ref sd), (3, .ref ek), (4, .ref dk)]) hx hb dME_keys_209 hl rfl (by decide) rfl (by decide) rfl (fun ls hl => ?_)
              refine lv_goto (tgt := 172) hx hb dME_keys_212 (by decide) ?_
              exact ih26 (i26 + 1) pl ls H locs (by omega) (lv_sub hl [0, 1, 2, 3, 4, 5, 6, 7] rfl) hO hP hD hS
          exact lp26 4 0 pl ls _ _ (by omega) (lv_sub hl [0, 1, 2, 3, 4, 5, 6, 7] rfl) hO hP hD hS
      exact lp22 4 0 pl ls _ _ (by omega) (lv_sub hl [0, 1, 2, 3, 4, 5, 6] rfl) hO hP hD hS
    | succ n21 ih21 =>
      intro i21 pl ls H locs hm21  hl hO hP hD hS
      refine lv_iload hx hb dME_keys_73 (lv_at hl 0 rfl) ?_
      refine lv_iload hx hb dME_keys_75 (lv_at hl 1 rfl) ?_
      refine mi_ge (tgt := 159) hx hb dME_keys_77 (by decide) (by omega) (by omega) (fun h32 => absurd h32 (by omega)) (fun h32 => ?_)
      refine lv_aload_n hx hb dME_keys_80 rfl (lv_at hl 2 rfl) ?_
      refine lv_aload_n hx hb dME_keys_81 rfl (lv_at hl 2 rfl) ?_
      refine ty_get (ci := 11) (C := "LatticeKeysModel$Secrets") (TT := T_ME) (N := 14) (kd := (23, 0)) hx hb hts (wg_ft i_ME) hown hK hO k_h0 (nxg hc0 k_h0 rfl) hP (fun _ h9 => h9) rfl 3 (by decide) (hts _ (wg_t kw_1382)) (fun _ h9 => h9) (cd := (3, 3, 4)) rfl dME_keys_82 (fun v34 hv34 => ?_)
      obtain ⟨r42, rfl, kr39⟩ := (show ∃ r : Nat, v34 = .ref r ∧ T r = some (3, 4) from hv34)
      refine lv_iload hx hb dME_keys_85 (lv_at hl 0 rfl) ?_
      refine ty_aald3 hx hb hK hO kr39 (nxg hc0 kr39 rfl) hP (by omega) (by decide) dME_keys_87 (fun r43 kr40 => ?_)
      refine lv_aload_n hx hb dME_keys_88 rfl (lv_at hl 2 rfl) ?_
      refine ty_get (ci := 11) (C := "LatticeKeysModel$Secrets") (TT := T_ME) (N := 14) (kd := (23, 0)) hx hb hts (wg_ft i_ME) hown hK hO k_h0 (nxg hc0 k_h0 rfl) hP (fun _ h9 => h9) rfl 9 (by decide) (hts _ (wg_t kw_1388)) (fun _ h9 => h9) (cd := (3, 1, 64)) rfl dME_keys_89 (fun v35 hv35 => ?_)
      obtain ⟨r44, rfl, kr41⟩ := (show ∃ r : Nat, v35 = .ref r ∧ T r = some (1, 64) from hv35)
      refine lv_bipush (v := nI 32) hx hb dME_keys_92 (by decide) ?_
      refine lv_iload hx hb dME_keys_94 (lv_at hl 0 rfl) ?_
      refine va_gets hx hb (hE.2.1 20 _ rfl).1 hS hown (hts _ (wg_t kw_1654)) (fun _ h9 => h9) dME_keys_96 ?_
      refine lv_iload_n hx hb dME_keys_99 rfl (lv_at hl 3 rfl) ?_
      refine va_ti (v := .int (nI 2)) hx hb (hE.2.1 20 _ rfl).2 hS (vp_in_nI (by decide) (by decide)) (by decide +kernel) dME_keys_100 ?_
      refine mp_v (cx := []) (wr := []) hP hD hS hA [] [] rfl rfl rfl (by decide) (va_runV (As := [.ref r43, .ref r44, .int (nI 32), .int (nI i21), .int (nI 2)]) (rest := []) F (t_ME_noise_2 l g _ T xs pl hO hU hc0 hc9 h0 r43 r44 64 32 (nI i21) k_h0 kr40 kr41 (by omega) (by omega)) (cwV 5 hts (wg_app (wg_c kw_1656 (wg_c kw_1658 (wg_c ks_56 (wg_c kw_11 wg_n)))) kw_1659) rfl rfl rfl (by decide +kernel) ⟨by decide, by decide⟩) (pp_VT (en_ok g) (ci := 11) (kd := (23, 0)) hK hO k_h0 (nxg hc0 k_h0 rfl) (fun _ h9 => ko1 h9) hP hD hS hA hE [] rfl rfl rfl) rfl rfl hl.1 rfl (lv_room (Nat.le_of_ble_eq_true rfl)) dME_keys_101 ⟨by omega, by omega⟩) (fun  pl H locs hu34 hP hD hS => ?_)
      obtain ⟨hq34, hO⟩ := hu34
      have hP : va_P g.1 vcl ([] ++ pl) _ := hP
      have hD : va_D _ ([] ++ pl) := hD
      refine W.widen (k := 0) (n := 0) (by omega) (by omega) ?_
      refine lv_aload_n hx hb dME_keys_104 rfl (lv_at hl 2 rfl) ?_
      refine lv_aload_n hx hb dME_keys_105 rfl (lv_at hl 2 rfl) ?_
      refine ty_get (ci := 11) (C := "LatticeKeysModel$Secrets") (TT := T_ME) (N := 14) (kd := (23, 0)) hx hb hts (wg_ft i_ME) hown hK hO k_h0 (nxg hc0 k_h0 rfl) hP (fun _ h9 => h9) rfl 4 (by decide) (hts _ (wg_t kw_1383)) (fun _ h9 => h9) (cd := (3, 3, 4)) rfl dME_keys_106 (fun v36 hv36 => ?_)
      obtain ⟨r45, rfl, kr42⟩ := (show ∃ r : Nat, v36 = .ref r ∧ T r = some (3, 4) from hv36)
      refine lv_iload hx hb dME_keys_109 (lv_at hl 0 rfl) ?_
      refine ty_aald3 hx hb hK hO kr42 (nxg hc0 kr42 rfl) hP (by omega) (by decide) dME_keys_111 (fun r46 kr43 => ?_)
      refine lv_aload_n hx hb dME_keys_112 rfl (lv_at hl 2 rfl) ?_
      refine ty_get (ci := 11) (C := "LatticeKeysModel$Secrets") (TT := T_ME) (N := 14) (kd := (23, 0)) hx hb hts (wg_ft i_ME) hown hK hO k_h0 (nxg hc0 k_h0 rfl) hP (fun _ h9 => h9) rfl 9 (by decide) (hts _ (wg_t kw_1388)) (fun _ h9 => h9) (cd := (3, 1, 64)) rfl dME_keys_113 (fun v37 hv37 => ?_)
      obtain ⟨r47, rfl, kr44⟩ := (show ∃ r : Nat, v37 = .ref r ∧ T r = some (1, 64) from hv37)
      refine lv_bipush (v := nI 32) hx hb dME_keys_116 (by decide) ?_
      refine lv_iload hx hb dME_keys_118 (lv_at hl 1 rfl) ?_
      refine lv_iload hx hb dME_keys_120 (lv_at hl 0 rfl) ?_
      refine mi_iadd hx hb dME_keys_122 ?_
      refine va_gets hx hb (hE.2.1 20 _ rfl).1 hS hown (hts _ (wg_t kw_1654)) (fun _ h9 => h9) dME_keys_123 ?_
      refine lv_iload_n hx hb dME_keys_126 rfl (lv_at hl 3 rfl) ?_
      refine va_ti (v := .int (nI 2)) hx hb (hE.2.1 20 _ rfl).2 hS (vp_in_nI (by decide) (by decide)) (by decide +kernel) dME_keys_127 ?_
      refine mp_v (cx := []) (wr := []) hP hD hS hA [] [] rfl rfl rfl (by decide) (va_runV (As := [.ref r46, .ref r47, .int (nI 32), .int (nI (4 + i21)), .int (nI 2)]) (rest := []) F (t_ME_noise_2 l g _ T xs pl hO hU hc0 hc9 h0 r46 r47 64 32 (nI (4 + i21)) k_h0 kr43 kr44 (by omega) (by omega)) (cwV 5 hts (wg_app (wg_c kw_1656 (wg_c kw_1658 (wg_c ks_56 (wg_c kw_11 wg_n)))) kw_1659) rfl rfl rfl (by decide +kernel) ⟨by decide, by decide⟩) (pp_VT (en_ok g) (ci := 11) (kd := (23, 0)) hK hO k_h0 (nxg hc0 k_h0 rfl) (fun _ h9 => ko1 h9) hP hD hS hA hE [] rfl rfl rfl) rfl rfl hl.1 rfl (lv_room (Nat.le_of_ble_eq_true rfl)) dME_keys_128 ⟨by omega, by omega⟩) (fun  pl H locs hu35 hP hD hS => ?_)
      obtain ⟨hq35, hO⟩ := hu35
      have hP : va_P g.1 vcl ([] ++ pl) _ := hP
      have hD : va_D _ ([] ++ pl) := hD
      refine W.widen (k := 0) (n := 0) (by omega) (by omega) ?_
      refine lv_aload_n hx hb dME_keys_131 rfl (lv_at hl 2 rfl) ?_
      refine lv_aload_n hx hb dME_keys_132 rfl (lv_at hl 2 rfl) ?_
      refine ty_get (ci := 11) (C := "LatticeKeysModel$Secrets") (TT := T_ME) (N := 14) (kd := (23, 0)) hx hb hts (wg_ft i_ME) hown hK hO k_h0 (nxg hc0 k_h0 rfl) hP (fun _ h9 => h9) rfl 3 (by decide) (hts _ (wg_t kw_1382)) (fun _ h9 => h9) (cd := (3, 3, 4)) rfl dME_keys_133 (fun v38 hv38 => ?_)
      obtain ⟨r48, rfl, kr45⟩ := (show ∃ r : Nat, v38 = .ref r ∧ T r = some (3, 4) from hv38)
      refine lv_iload hx hb dME_keys_136 (lv_at hl 0 rfl) ?_
      refine ty_aald3 hx hb hK hO kr45 (nxg hc0 kr45 rfl) hP (by omega) (by decide) dME_keys_138 (fun r49 kr46 => ?_)
      refine mp_v (cx := []) (wr := []) hP hD hS hA [] [] rfl rfl rfl (by decide) (va_runV (As := [.ref r49]) (rest := []) F (t_ME_forth l g _ T xs pl hO hU hc0 h0 r49 k_h0 kr46) (cwV 1 hts (wg_app (wg_c kw_1668 (wg_c kw_1670 (wg_c ks_57 (wg_c kw_11 wg_n)))) kw_1671) rfl rfl rfl (by decide +kernel) ⟨by decide, by decide⟩) (pp_VT (en_ok g) (ci := 11) (kd := (23, 0)) hK hO k_h0 (nxg hc0 k_h0 rfl) (fun _ h9 => ko1 h9) hP hD hS hA hE [] rfl rfl rfl) rfl rfl hl.1 rfl (lv_room (Nat.le_of_ble_eq_true rfl)) dME_keys_139 ⟨by omega, by omega⟩) (fun  pl H locs hu36 hP hD hS => ?_)
      obtain ⟨hq36, hO⟩ := hu36
      have hP : va_P g.1 vcl ([] ++ pl) _ := hP
      have hD : va_D _ ([] ++ pl) := hD
      refine W.widen (k := 0) (n := 0) (by omega) (by omega) ?_
      refine lv_aload_n hx hb dME_keys_142 rfl (lv_at hl 2 rfl) ?_
      refine lv_aload_n hx hb dME_keys_143 rfl (lv_at hl 2 rfl) ?_
      refine ty_get (ci := 11) (C := "LatticeKeysModel$Secrets") (TT := T_ME) (N := 14) (kd := (23, 0)) hx hb hts (wg_ft i_ME) hown hK hO k_h0 (nxg hc0 k_h0 rfl) hP (fun _ h9 => h9) rfl 4 (by decide) (hts _ (wg_t kw_1383)) (fun _ h9 => h9) (cd := (3, 3, 4)) rfl dME_keys_144 (fun v39 hv39 => ?_)
      obtain ⟨r50, rfl, kr47⟩ := (show ∃ r : Nat, v39 = .ref r ∧ T r = some (3, 4) from hv39)
      refine lv_iload hx hb dME_keys_147 (lv_at hl 0 rfl) ?_
      refine ty_aald3 hx hb hK hO kr47 (nxg hc0 kr47 rfl) hP (by omega) (by decide) dME_keys_149 (fun r51 kr48 => ?_)
      refine mp_v (cx := []) (wr := []) hP hD hS hA [] [] rfl rfl rfl (by decide) (va_runV (As := [.ref r51]) (rest := []) F (t_ME_forth l g _ T xs pl hO hU hc0 h0 r51 k_h0 kr48) (cwV 1 hts (wg_app (wg_c kw_1668 (wg_c kw_1670 (wg_c ks_57 (wg_c kw_11 wg_n)))) kw_1671) rfl rfl rfl (by decide +kernel) ⟨by decide, by decide⟩) (pp_VT (en_ok g) (ci := 11) (kd := (23, 0)) hK hO k_h0 (nxg hc0 k_h0 rfl) (fun _ h9 => ko1 h9) hP hD hS hA hE [] rfl rfl rfl) rfl rfl hl.1 rfl (lv_room (Nat.le_of_ble_eq_true rfl)) dME_keys_150 ⟨by omega, by omega⟩) (fun  pl H locs hu37 hP hD hS => ?_)
      obtain ⟨hq37, hO⟩ := hu37
      have hP : va_P g.1 vcl ([] ++ pl) _ := hP
      have hD : va_D _ ([] ++ pl) := hD
      refine W.widen (k := 0) (n := 0) (by omega) (by omega) ?_
      refine mi_iinc (k := 0) (x := i21) (d := 1) (y := i21 + 1) (lv' := [(6, .int (nI (i21 + 1))), (5, .int (nI 4)), (0, .ref h0), (1, .int (nI 2)), (2, .ref sd), (3, .ref ek), (4, .ref dk)]) hx hb dME_keys_153 hl rfl (by decide) rfl (by decide) rfl (fun ls hl => ?_)
      refine lv_goto (tgt := 73) hx hb dME_keys_156 (by decide) ?_
      exact ih21 (i21 + 1) pl ls H locs (by omega) (lv_sub hl [0, 1, 2, 3, 4, 5, 6] rfl) hO hP hD hS
  exact lp21 4 0 pl ls _ _ (by omega) (lv_sub hl [0, 1, 2, 3, 4, 5, 6] rfl) hO hP hD hS
set_option maxHeartbeats 400000 in
set_option maxRecDepth 100000 in
theorem t_ME_encrypt_0 (l : Launch) (g : Gd) (sz : Nat) (T : Ty) (xs : List Nat) (pl : va_W) (hO : okx g T xs pl) (hU : uni T) (hc0 : clo T xs 0) (hc9 : clo T xs 9) (h0 ek ms ct n nm nc at_ : Nat) (k_h0 : T h0 = some (23, 0)) (k_ek : T ek = some (1, n)) (k_ms : T ms = some (1, nm)) (k_ct : T ct = some (1, nc)) (h1 : at_ + 800 ≤ n) (h2 : n < 65536) (h3 : 32 ≤ nm) (h4 : nm < 65536) (h5 : 768 ≤ nc) (h6 : nc < 65536)  : Met l y_ME_encrypt w_ME_encrypt ({ frames := 5, cells := 0, slots := 0, locals := 126 } : Room) (va_Pc [.ref h0, .int (nI 0), .ref ek, .int (nI at_), .ref ms, .ref ct] (pr (en g) g.1 vcl sz ([] ++ pl))) (va_Qv (fun (u : va_W) => (True) ∧ okx g T xs u) (po g.1 vcl (va_A ([] ++ pl) sz) (fun (u : va_W) => [] ++ u)) (va_A ([] ++ pl) sz)) 0 0 (va_A ([] ++ pl) sz) := by
  refine mc_entry (cc := c_ME_encrypt) (maxL := 9) (ret := none) (by decide) rfl (Nat.le_of_ble_eq_true rfl) ?_
  intro p e s m args below meth c ls F hr hlk hnm hsz hP hD hE hA hl
  obtain ⟨hx, hb, hml, hown, hts⟩ := id F
  have hK := hE.1
  generalize va_A ([] ++ pl) sz = A at hD hE hA ⊢
  have hS : va_S A s.heap s.heap [] := va_S.rf
  have hl : lv_has ls 9 [(0, .ref h0), (1, .int (nI 0)), (2, .ref ek), (3, .int (nI at_)), (4, .ref ms), (5, .ref ct)] := hl
  refine va_gets hx hb (hE.2.1 19 _ rfl).1 hS hown (hts _ (wg_t kw_1605)) (fun _ h9 => h9) dME_encrypt_0 ?_
  refine lv_iload_n hx hb dME_encrypt_3 rfl (lv_at hl 1 rfl) ?_
  refine va_ti (v := .int (nI 2)) hx hb (hE.2.1 19 _ rfl).2 hS (vp_in_nI (by decide) (by decide)) (by decide +kernel) dME_encrypt_4 ?_
  refine lv_istore (lv' := [(6, .int (nI 2)), (0, .ref h0), (1, .int (nI 0)), (2, .ref ek), (3, .int (nI at_)), (4, .ref ms), (5, .ref ct)]) hx hb dME_encrypt_5 hl (by decide) rfl (fun ls hl => ?_)
  refine lv_aload_n hx hb dME_encrypt_7 rfl (lv_at hl 1 rfl) ?_
  refine lv_aload_n hx hb dME_encrypt_8 rfl (lv_at hl 3 rfl) ?_
  refine lv_iload_n hx hb dME_encrypt_9 rfl (lv_at hl 4 rfl) ?_
  refine lv_sipush (v := nI 384) hx hb dME_encrypt_10 (by decide) ?_
  refine lv_iload hx hb dME_encrypt_13 (lv_at hl 0 rfl) ?_
  refine mi_imul hx hb dME_encrypt_15 ?_
  refine mi_as (show nI (384 * 2) = nI 768 from rfl) ?_
  refine mi_iadd hx hb dME_encrypt_16 ?_
  refine lv_iload hx hb dME_encrypt_17 (lv_at hl 0 rfl) ?_
  refine mp_v (cx := []) (wr := []) hP hD hS hA [] [] rfl rfl rfl (by decide) (va_runV (As := [.ref ek, .int (nI (at_ + 768)), .int (nI 2)]) (rest := []) F (t_ME_expand_2 l g _ T xs pl hO hU hc0 hc9 h0 ek n (at_ + 768) k_h0 k_ek (by omega) (by omega)) (cwV 3 hts (wg_app (wg_c kw_1645 (wg_c kw_1647 (wg_c ks_54 (wg_c kw_11 wg_n)))) kw_1648) rfl rfl rfl (by decide +kernel) ⟨by decide, by decide⟩) (pp_VT (en_ok g) (ci := 11) (kd := (23, 0)) hK hO k_h0 (nxg hc0 k_h0 rfl) (fun _ h9 => ko1 h9) hP hD hS hA hE [] rfl rfl rfl) rfl rfl hl.1 rfl (lv_room (Nat.le_of_ble_eq_true rfl)) dME_encrypt_19 ⟨by omega, by omega⟩) (fun  pl H locs hu21 hP hD hS => ?_)
  obtain ⟨hq21, hO⟩ := hu21
  have hP : va_P g.1 vcl ([] ++ pl) _ := hP
  have hD : va_D _ ([] ++ pl) := hD
  refine W.widen (k := 0) (n := 0) (by omega) (by omega) ?_
  refine lv_iconst (v := nI 0) hx hb dME_encrypt_22 (by decide) ?_
  refine lv_istore (lv' := [(7, .int (nI 0)), (6, .int (nI 2)), (0, .ref h0), (1, .int (nI 0)), (2, .ref ek), (3, .int (nI at_)), (4, .ref ms), (5, .ref ct)]) hx hb dME_encrypt_23 hl (by decide) rfl (fun ls hl => ?_)
  have lp21 : ∀ (n21 : Nat) (i21 : Nat) (pl : va_W) (ls : Array Slot) (H : Heap) (locs : List Loc), n21 + i21 = 2 → lv_has ls 9 [(7, .int (nI i21)), (6, .int (nI 2)), (0, .ref h0), (1, .int (nI 0)), (2, .ref ek), (3, .int (nI at_)), (4, .ref ms), (5, .ref ct)] → okx g T xs pl → va_P g.1 vcl ([] ++ pl) H → va_D A ([] ++ pl) → va_S A s.heap H locs → W p l e ({ frames := 5, cells := 0, slots := 0, locals := 126 } : Room) s m args below meth c H locs 0 0 (MQ below (va_Qv (fun (u : va_W) => (True) ∧ okx g T xs u) (po g.1 vcl A (fun (u : va_W) => [] ++ u)) A) args s 0 0 A) (F0 m 25 ls []) := by
    intro n21
    induction n21 with
    | zero =>
      intro i21 pl ls H locs hm21  hl hO hP hD hS
      refine lv_iload hx hb dME_encrypt_25 (lv_at hl 0 rfl) ?_
      refine lv_iload hx hb dME_encrypt_27 (lv_at hl 1 rfl) ?_
      refine mi_ge (tgt := 127) hx hb dME_encrypt_29 (by decide) (by omega) (by omega) (fun h21 => ?_) (fun h21 => absurd h21 (by omega))
      refine lv_iconst (v := nI 0) hx hb dME_encrypt_127 (by decide) ?_
      refine lv_istore (lv' := [(7, .int (nI 0)), (6, .int (nI 2)), (0, .ref h0), (1, .int (nI 0)), (2, .ref ek), (3, .int (nI at_)), (4, .ref ms), (5, .ref ct)]) hx hb dME_encrypt_128 hl (by decide) rfl (fun ls hl => ?_)
      have lp22 : ∀ (n22 : Nat) (i22 : Nat) (pl : va_W) (ls : Array Slot) (H : Heap) (locs : List Loc), n22 + i22 = 2 → lv_has ls 9 [(7, .int (nI i22)), (6, .int (nI 2)), (0, .ref h0), (1, .int (nI 0)), (4, .ref ms), (5, .ref ct)] → okx g T xs pl → va_P g.1 vcl ([] ++ pl) H → va_D A ([] ++ pl) → va_S A s.heap H locs → W p l e ({ frames := 5, cells := 0, slots := 0, locals := 126 } : Room) s m args below meth c H locs 0 0 (MQ below (va_Qv (fun (u : va_W) => (True) ∧ okx g T xs u) (po g.1 vcl A (fun (u : va_W) => [] ++ u)) A) args s 0 0 A) (F0 m 130 ls []) := by
        intro n22
        induction n22 with
        | zero =>
          intro i22 pl ls H locs hm22  hl hO hP hD hS
          refine lv_iload hx hb dME_encrypt_130 (lv_at hl 0 rfl) ?_
          refine lv_iload hx hb dME_encrypt_132 (lv_at hl 1 rfl) ?_
          refine mi_ge (tgt := 252) hx hb dME_encrypt_134 (by decide) (by omega) (by omega) (fun h22 => ?_) (fun h22 => absurd h22 (by omega))
          refine lv_aload_n hx hb dME_encrypt_252 rfl (lv_at hl 2 rfl) ?_
          refine ty_get (ci := 11) (C := "LatticeKeysModel$Secrets") (TT := T_ME) (N := 14) (kd := (23, 0)) hx hb hts (wg_ft i_ME) hown hK hO k_h0 (nxg hc0 k_h0 rfl) hP (fun _ h9 => h9) rfl 6 (by decide) (hts _ (wg_t kw_1385)) (fun _ h9 => h9) (cd := (3, 0, 256)) rfl dME_encrypt_253 (fun v21 hv21 => ?_)
          obtain ⟨r21, rfl, kr21⟩ := (show ∃ r : Nat, v21 = .ref r ∧ T r = some (0, 256) from hv21)
          refine mp_v (cx := []) (wr := []) hP hD hS hA [] [] rfl rfl rfl (by decide) (va_runS (As := [.ref r21]) (rest := []) F (t_ME_clear l g _ T xs pl hO hU hc0 r21 kr21) (va_cwS 1 hts (wg_app (wg_c kw_1819 (wg_c kw_1820 (wg_c kw_11 wg_n))) kw_1821) rfl rfl rfl (by decide +kernel) ⟨by decide, by decide⟩) (pp_S (en_ok g) hP hD hS hA hE [] rfl rfl) rfl rfl hl.1 rfl (lv_room (Nat.le_of_ble_eq_true rfl)) dME_encrypt_256 ⟨by omega, by omega⟩) (fun  pl H locs hu22 hP hD hS => ?_)
          obtain ⟨hq22, hO⟩ := hu22
          have hP : va_P g.1 vcl ([] ++ pl) _ := hP
          have hD : va_D _ ([] ++ pl) := hD
          refine W.widen (k := 0) (n := 0) (by omega) (by omega) ?_
          refine lv_iconst (v := nI 0) hx hb dME_encrypt_259 (by decide) ?_
          refine lv_istore (lv' := [(7, .int (nI 0)), (6, .int (nI 2)), (0, .ref h0), (1, .int (nI 0)), (4, .ref ms), (5, .ref ct)]) hx hb dME_encrypt_260 hl (by decide) rfl (fun ls hl => ?_)
          have lp23 : ∀ (n23 : Nat) (i23 : Nat) (pl : va_W) (ls : Array Slot) (H : Heap) (locs : List Loc), n23 + i23 = 2 → lv_has ls 9 [(7, .int (nI i23)), (6, .int (nI 2)), (0, .ref h0), (1, .int (nI 0)), (4, .ref ms), (5, .ref ct)] → okx g T xs pl → va_P g.1 vcl ([] ++ pl) H → va_D A ([] ++ pl) → va_S A s.heap H locs → W p l e ({ frames := 5, cells := 0, slots := 0, locals := 126 } : Room) s m args below meth c H locs 0 0 (MQ below (va_Qv (fun (u : va_W) => (True) ∧ okx g T xs u) (po g.1 vcl A (fun (u : va_W) => [] ++ u)) A) args s 0 0 A) (F0 m 262 ls []) := by
            intro n23
            induction n23 with
            | zero =>
              intro i23 pl ls H locs hm23  hl hO hP hD hS
              refine lv_iload hx hb dME_encrypt_262 (lv_at hl 0 rfl) ?_
              refine lv_iload hx hb dME_encrypt_264 (lv_at hl 1 rfl) ?_
              refine mi_ge (tgt := 297) hx hb dME_encrypt_266 (by decide) (by omega) (by omega) (fun h23 => ?_) (fun h23 => absurd h23 (by omega))
              refine lv_aload_n hx hb dME_encrypt_297 rfl (lv_at hl 2 rfl) ?_
              refine lv_aload_n hx hb dME_encrypt_298 rfl (lv_at hl 2 rfl) ?_
              refine ty_get (ci := 11) (C := "LatticeKeysModel$Secrets") (TT := T_ME) (N := 14) (kd := (23, 0)) hx hb hts (wg_ft i_ME) hown hK hO k_h0 (nxg hc0 k_h0 rfl) hP (fun _ h9 => h9) rfl 6 (by decide) (hts _ (wg_t kw_1385)) (fun _ h9 => h9) (cd := (3, 0, 256)) rfl dME_encrypt_299 (fun v22 hv22 => ?_)
              obtain ⟨r22, rfl, kr22⟩ := (show ∃ r : Nat, v22 = .ref r ∧ T r = some (0, 256) from hv22)
              refine mp_v (cx := []) (wr := []) hP hD hS hA [] [] rfl rfl rfl (by decide) (va_runV (As := [.ref r22]) (rest := []) F (t_ME_back l g _ T xs pl hO hU hc0 h0 r22 k_h0 kr22) (cwV 1 hts (wg_app (wg_c kw_1822 (wg_c kw_1824 (wg_c ks_69 (wg_c kw_11 wg_n)))) kw_1825) rfl rfl rfl (by decide +kernel) ⟨by decide, by decide⟩) (pp_VT (en_ok g) (ci := 11) (kd := (23, 0)) hK hO k_h0 (nxg hc0 k_h0 rfl) (fun _ h9 => ko1 h9) hP hD hS hA hE [] rfl rfl rfl) rfl rfl hl.1 rfl (lv_room (Nat.le_of_ble_eq_true rfl)) dME_encrypt_302 ⟨by omega, by omega⟩) (fun  pl H locs hu23 hP hD hS => ?_)
              obtain ⟨hq23, hO⟩ := hu23
              have hP : va_P g.1 vcl ([] ++ pl) _ := hP
              have hD : va_D _ ([] ++ pl) := hD
              refine W.widen (k := 0) (n := 0) (by omega) (by omega) ?_
              refine lv_aload_n hx hb dME_encrypt_305 rfl (lv_at hl 2 rfl) ?_
              refine lv_aload_n hx hb dME_encrypt_306 rfl (lv_at hl 2 rfl) ?_
              refine ty_get (ci := 11) (C := "LatticeKeysModel$Secrets") (TT := T_ME) (N := 14) (kd := (23, 0)) hx hb hts (wg_ft i_ME) hown hK hO k_h0 (nxg hc0 k_h0 rfl) hP (fun _ h9 => h9) rfl 7 (by decide) (hts _ (wg_t kw_1386)) (fun _ h9 => h9) (cd := (3, 0, 256)) rfl dME_encrypt_307 (fun v23 hv23 => ?_)
              obtain ⟨r23, rfl, kr23⟩ := (show ∃ r : Nat, v23 = .ref r ∧ T r = some (0, 256) from hv23)
              refine lv_aload_n hx hb dME_encrypt_310 rfl (lv_at hl 2 rfl) ?_
              refine ty_get (ci := 11) (C := "LatticeKeysModel$Secrets") (TT := T_ME) (N := 14) (kd := (23, 0)) hx hb hts (wg_ft i_ME) hown hK hO k_h0 (nxg hc0 k_h0 rfl) hP (fun _ h9 => h9) rfl 9 (by decide) (hts _ (wg_t kw_1388)) (fun _ h9 => h9) (cd := (3, 1, 64)) rfl dME_encrypt_311 (fun v24 hv24 => ?_)
              obtain ⟨r24, rfl, kr24⟩ := (show ∃ r : Nat, v24 = .ref r ∧ T r = some (1, 64) from hv24)
              refine lv_bipush (v := nI 32) hx hb dME_encrypt_314 (by decide) ?_
              refine lv_iconst (v := nI 2) hx hb dME_encrypt_316 (by decide) ?_
              refine lv_iload hx hb dME_encrypt_317 (lv_at hl 1 rfl) ?_
              refine mi_imul hx hb dME_encrypt_319 ?_
              refine mi_as (show nI (2 * 2) = nI 4 from rfl) ?_
              refine lv_iconst (v := nI 2) hx hb dME_encrypt_320 (by decide) ?_
              refine mp_v (cx := []) (wr := []) hP hD hS hA [] [] rfl rfl rfl (by decide) (va_runV (As := [.ref r23, .ref r24, .int (nI 32), .int (nI 4), .int (nI 2)]) (rest := []) F (t_ME_noise_2 l g _ T xs pl hO hU hc0 hc9 h0 r23 r24 64 32 (nI 4) k_h0 kr23 kr24 (by omega) (by omega)) (cwV 5 hts (wg_app (wg_c kw_1656 (wg_c kw_1658 (wg_c ks_56 (wg_c kw_11 wg_n)))) kw_1659) rfl rfl rfl (by decide +kernel) ⟨by decide, by decide⟩) (pp_VT (en_ok g) (ci := 11) (kd := (23, 0)) hK hO k_h0 (nxg hc0 k_h0 rfl) (fun _ h9 => ko1 h9) hP hD hS hA hE [] rfl rfl rfl) rfl rfl hl.1 rfl (lv_room (Nat.le_of_ble_eq_true rfl)) dME_encrypt_321 ⟨by omega, by omega⟩) (fun  pl H locs hu24 hP hD hS => ?_)
              obtain ⟨hq24, hO⟩ := hu24
              have hP : va_P g.1 vcl ([] ++ pl) _ := hP
              have hD : va_D _ ([] ++ pl) := hD
              refine W.widen (k := 0) (n := 0) (by omega) (by omega) ?_
              refine lv_aload_n hx hb dME_encrypt_324 rfl (lv_at hl 2 rfl) ?_
              refine ty_get (ci := 11) (C := "LatticeKeysModel$Secrets") (TT := T_ME) (N := 14) (kd := (23, 0)) hx hb hts (wg_ft i_ME) hown hK hO k_h0 (nxg hc0 k_h0 rfl) hP (fun _ h9 => h9) rfl 6 (by decide) (hts _ (wg_t kw_1385)) (fun _ h9 => h9) (cd := (3, 0, 256)) rfl dME_encrypt_325 (fun v25 hv25 => ?_)
              obtain ⟨r25, rfl, kr25⟩ := (show ∃ r : Nat, v25 = .ref r ∧ T r = some (0, 256) from hv25)
              refine lv_aload_n hx hb dME_encrypt_328 rfl (lv_at hl 2 rfl) ?_
              refine ty_get (ci := 11) (C := "LatticeKeysModel$Secrets") (TT := T_ME) (N := 14) (kd := (23, 0)) hx hb hts (wg_ft i_ME) hown hK hO k_h0 (nxg hc0 k_h0 rfl) hP (fun _ h9 => h9) rfl 7 (by decide) (hts _ (wg_t kw_1386)) (fun _ h9 => h9) (cd := (3, 0, 256)) rfl dME_encrypt_329 (fun v26 hv26 => ?_)
              obtain ⟨r26, rfl, kr26⟩ := (show ∃ r : Nat, v26 = .ref r ∧ T r = some (0, 256) from hv26)
              refine mp_v (cx := []) (wr := []) hP hD hS hA [] [] rfl rfl rfl (by decide) (va_runS (As := [.ref r25, .ref r26]) (rest := []) F (t_ME_plus l g _ T xs pl hO hU hc0 r25 r26 kr25 kr26) (va_cwS 2 hts (wg_app (wg_c kw_1827 (wg_c kw_1828 (wg_c kw_11 wg_n))) kw_1829) rfl rfl rfl (by decide +kernel) ⟨by decide, by decide⟩) (pp_S (en_ok g) hP hD hS hA hE [] rfl rfl) rfl rfl hl.1 rfl (lv_room (Nat.le_of_ble_eq_true rfl)) dME_encrypt_332 ⟨by omega, by omega⟩) (fun  pl H locs hu25 hP hD hS => ?_)
              obtain ⟨hq25, hO⟩ := hu25
              have hP : va_P g.1 vcl ([] ++ pl) _ := hP
              have hD : va_D _ ([] ++ pl) := hD
              refine W.widen (k := 0) (n := 0) (by omega) (by omega) ?_
              refine lv_aload hx hb dME_encrypt_335 (lv_at hl 4 rfl) ?_
              refine lv_iconst (v := nI 0) hx hb dME_encrypt_337 (by decide) ?_
              refine lv_iconst (v := nI 1) hx hb dME_encrypt_338 (by decide) ?_
              refine lv_aload_n hx hb dME_encrypt_339 rfl (lv_at hl 2 rfl) ?_
              refine ty_get (ci := 11) (C := "LatticeKeysModel$Secrets") (TT := T_ME) (N := 14) (kd := (23, 0)) hx hb hts (wg_ft i_ME) hown hK hO k_h0 (nxg hc0 k_h0 rfl) hP (fun _ h9 => h9) rfl 7 (by decide) (hts _ (wg_t kw_1386)) (fun _ h9 => h9) (cd := (3, 0, 256)) rfl dME_encrypt_340 (fun v27 hv27 => ?_)
              obtain ⟨r27, rfl, kr27⟩ := (show ∃ r : Nat, v27 = .ref r ∧ T r = some (0, 256) from hv27)
              refine mp_v (cx := []) (wr := []) hP hD hS hA [] [] rfl rfl rfl (by decide) (va_runS (As := [.ref ms, .int (nI 0), .int (nI 1), .ref r27]) (rest := []) F (t_ME_read_1 l g _ T xs pl hO hU hc0 ms r27 nm 0 k_ms kr27 (by omega) (by omega)) (va_cwS 4 hts (wg_app (wg_c kw_1813 (wg_c kw_1814 (wg_c kw_11 wg_n))) kw_1815) rfl rfl rfl (by decide +kernel) ⟨by decide, by decide⟩) (pp_S (en_ok g) hP hD hS hA hE [] rfl rfl) rfl rfl hl.1 rfl (lv_room (Nat.le_of_ble_eq_true rfl)) dME_encrypt_343 ⟨by omega, by omega⟩) (fun  pl H locs hu26 hP hD hS => ?_)
              obtain ⟨hq26, hO⟩ := hu26
              have hP : va_P g.1 vcl ([] ++ pl) _ := hP
              have hD : va_D _ ([] ++ pl) := hD
              refine W.widen (k := 0) (n := 0) (by omega) (by omega) ?_
              refine lv_aload_n hx hb dME_encrypt_346 rfl (lv_at hl 2 rfl) ?_
              refine ty_get (ci := 11) (C := "LatticeKeysModel$Secrets") (TT := T_ME) (N := 14) (kd := (23, 0)) hx hb hts (wg_ft i_ME) hown hK hO k_h0 (nxg hc0 k_h0 rfl) hP (fun _ h9 => h9) rfl 7 (by decide) (hts _ (wg_t kw_1386)) (fun _ h9 => h9) (cd := (3, 0, 256)) rfl dME_encrypt_347 (fun v28 hv28 => ?_)
              obtain ⟨r28, rfl, kr28⟩ := (show ∃ r : Nat, v28 = .ref r ∧ T r = some (0, 256) from hv28)
              refine lv_iconst (v := nI 1) hx hb dME_encrypt_350 (by decide) ?_
              refine mp_v (cx := []) (wr := []) hP hD hS hA [] [] rfl rfl rfl (by decide) (va_runS (As := [.ref r28, .int (nI 1)]) (rest := []) F (t_ME_more_1 l g _ T xs pl hO hU hc0 r28 kr28) (va_cwS 2 hts (wg_app (wg_c kw_1835 (wg_c kw_1836 (wg_c kw_11 wg_n))) kw_1837) rfl rfl rfl (by decide +kernel) ⟨by decide, by decide⟩) (pp_S (en_ok g) hP hD hS hA hE [] rfl rfl) rfl rfl hl.1 rfl (lv_room (Nat.le_of_ble_eq_true rfl)) dME_encrypt_351 ⟨by omega, by omega⟩) (fun  pl H locs hu27 hP hD hS => ?_)
              obtain ⟨hq27, hO⟩ := hu27
              have hP : va_P g.1 vcl ([] ++ pl) _ := hP
              have hD : va_D _ ([] ++ pl) := hD
              refine W.widen (k := 0) (n := 0) (by omega) (by omega) ?_
              refine lv_aload_n hx hb dME_encrypt_354 rfl (lv_at hl 2 rfl) ?_
              refine ty_get (ci := 11) (C := "LatticeKeysModel$Secrets") (TT := T_ME) (N := 14) (kd := (23, 0)) hx hb hts (wg_ft i_ME) hown hK hO k_h0 (nxg hc0 k_h0 rfl) hP (fun _ h9 => h9) rfl 6 (by decide) (hts _ (wg_t kw_1385)) (fun _ h9 => h9) (cd := (3, 0, 256)) rfl dME_encrypt_355 (fun v29 hv29 => ?_)
              obtain ⟨r29, rfl, kr29⟩ := (show ∃ r : Nat, v29 = .ref r ∧ T r = some (0, 256) from hv29)
              refine lv_aload_n hx hb dME_encrypt_358 rfl (lv_at hl 2 rfl) ?_
              refine ty_get (ci := 11) (C := "LatticeKeysModel$Secrets") (TT := T_ME) (N := 14) (kd := (23, 0)) hx hb hts (wg_ft i_ME) hown hK hO k_h0 (nxg hc0 k_h0 rfl) hP (fun _ h9 => h9) rfl 7 (by decide) (hts _ (wg_t kw_1386)) (fun _ h9 => h9) (cd := (3, 0, 256)) rfl dME_encrypt_359 (fun v30 hv30 => ?_)
              obtain ⟨r30, rfl, kr30⟩ := (show ∃ r : Nat, v30 = .ref r ∧ T r = some (0, 256) from hv30)
              refine mp_v (cx := []) (wr := []) hP hD hS hA [] [] rfl rfl rfl (by decide) (va_runS (As := [.ref r29, .ref r30]) (rest := []) F (t_ME_plus l g _ T xs pl hO hU hc0 r29 r30 kr29 kr30) (va_cwS 2 hts (wg_app (wg_c kw_1827 (wg_c kw_1828 (wg_c kw_11 wg_n))) kw_1829) rfl rfl rfl (by decide +kernel) ⟨by decide, by decide⟩) (pp_S (en_ok g) hP hD hS hA hE [] rfl rfl) rfl rfl hl.1 rfl (lv_room (Nat.le_of_ble_eq_true rfl)) dME_encrypt_362 ⟨by omega, by omega⟩) (fun  pl H locs hu28 hP hD hS => ?_)
              obtain ⟨hq28, hO⟩ := hu28
              have hP : va_P g.1 vcl ([] ++ pl) _ := hP
              have hD : va_D _ ([] ++ pl) := hD
              refine W.widen (k := 0) (n := 0) (by omega) (by omega) ?_
              refine lv_aload_n hx hb dME_encrypt_365 rfl (lv_at hl 2 rfl) ?_
              refine ty_get (ci := 11) (C := "LatticeKeysModel$Secrets") (TT := T_ME) (N := 14) (kd := (23, 0)) hx hb hts (wg_ft i_ME) hown hK hO k_h0 (nxg hc0 k_h0 rfl) hP (fun _ h9 => h9) rfl 6 (by decide) (hts _ (wg_t kw_1385)) (fun _ h9 => h9) (cd := (3, 0, 256)) rfl dME_encrypt_366 (fun v31 hv31 => ?_)
              obtain ⟨r31, rfl, kr31⟩ := (show ∃ r : Nat, v31 = .ref r ∧ T r = some (0, 256) from hv31)
              refine va_gets hx hb (hE.2.1 22 _ rfl).1 hS hown (hts _ (wg_t kw_1838)) (fun _ h9 => h9) dME_encrypt_369 ?_
              refine lv_iload_n hx hb dME_encrypt_372 rfl (lv_at hl 3 rfl) ?_
              refine va_ti (v := .int (nI 4)) hx hb (hE.2.1 22 _ rfl).2 hS (vp_in_nI (by decide) (by decide)) (by decide +kernel) dME_encrypt_373 ?_
              refine mp_v (cx := []) (wr := []) hP hD hS hA [] [] rfl rfl rfl (by decide) (va_runS (As := [.ref r31, .int (nI 4)]) (rest := []) F (t_ME_less_4 l g _ T xs pl hO hU hc0 r31 kr31) (va_cwS 2 hts (wg_app (wg_c kw_1832 (wg_c kw_1833 (wg_c kw_11 wg_n))) kw_1834) rfl rfl rfl (by decide +kernel) ⟨by decide, by decide⟩) (pp_S (en_ok g) hP hD hS hA hE [] rfl rfl) rfl rfl hl.1 rfl (lv_room (Nat.le_of_ble_eq_true rfl)) dME_encrypt_374 ⟨by omega, by omega⟩) (fun  pl H locs hu29 hP hD hS => ?_)
              obtain ⟨hq29, hO⟩ := hu29
              have hP : va_P g.1 vcl ([] ++ pl) _ := hP
              have hD : va_D _ ([] ++ pl) := hD
              refine W.widen (k := 0) (n := 0) (by omega) (by omega) ?_
              refine lv_aload_n hx hb dME_encrypt_377 rfl (lv_at hl 2 rfl) ?_
              refine ty_get (ci := 11) (C := "LatticeKeysModel$Secrets") (TT := T_ME) (N := 14) (kd := (23, 0)) hx hb hts (wg_ft i_ME) hown hK hO k_h0 (nxg hc0 k_h0 rfl) hP (fun _ h9 => h9) rfl 6 (by decide) (hts _ (wg_t kw_1385)) (fun _ h9 => h9) (cd := (3, 0, 256)) rfl dME_encrypt_378 (fun v32 hv32 => ?_)
              obtain ⟨r32, rfl, kr32⟩ := (show ∃ r : Nat, v32 = .ref r ∧ T r = some (0, 256) from hv32)
              refine lv_aload hx hb dME_encrypt_381 (lv_at hl 5 rfl) ?_
              refine lv_bipush (v := nI 32) hx hb dME_encrypt_383 (by decide) ?_
              refine va_gets hx hb (hE.2.1 21 _ rfl).1 hS hown (hts _ (wg_t kw_1830)) (fun _ h9 => h9) dME_encrypt_385 ?_
              refine lv_iload_n hx hb dME_encrypt_388 rfl (lv_at hl 3 rfl) ?_
              refine va_ti (v := .int (nI 10)) hx hb (hE.2.1 21 _ rfl).2 hS (vp_in_nI (by decide) (by decide)) (by decide +kernel) dME_encrypt_389 ?_
              refine mi_imul hx hb dME_encrypt_390 ?_
              refine mi_as (show nI (32 * 10) = nI 320 from rfl) ?_
              refine lv_iload hx hb dME_encrypt_391 (lv_at hl 1 rfl) ?_
              refine mi_imul hx hb dME_encrypt_393 ?_
              refine mi_as (show nI (320 * 2) = nI 640 from rfl) ?_
              refine va_gets hx hb (hE.2.1 22 _ rfl).1 hS hown (hts _ (wg_t kw_1838)) (fun _ h9 => h9) dME_encrypt_394 ?_
              refine lv_iload_n hx hb dME_encrypt_397 rfl (lv_at hl 3 rfl) ?_
              refine va_ti (v := .int (nI 4)) hx hb (hE.2.1 22 _ rfl).2 hS (vp_in_nI (by decide) (by decide)) (by decide +kernel) dME_encrypt_398 ?_
              refine mp_v (cx := []) (wr := []) hP hD hS hA [] [] rfl rfl rfl (by decide) (va_runS (As := [.ref r32, .ref ct, .int (nI 640), .int (nI 4)]) (rest := []) F (t_ME_write_4 l g _ T xs pl hO hU hc0 r32 ct nc 640 kr32 k_ct (by omega) (by omega)) (va_cwS 4 hts (wg_app (wg_c kw_1685 (wg_c kw_1686 (wg_c kw_11 wg_n))) kw_1687) rfl rfl rfl (by decide +kernel) ⟨by decide, by decide⟩) (pp_S (en_ok g) hP hD hS hA hE [] rfl rfl) rfl rfl hl.1 rfl (lv_room (Nat.le_of_ble_eq_true rfl)) dME_encrypt_399 ⟨by omega, by omega⟩) (fun  pl H locs hu30 hP hD hS => ?_)
              obtain ⟨hq30, hO⟩ := hu30
              have hP : va_P g.1 vcl ([] ++ pl) _ := hP
              have hD : va_D _ ([] ++ pl) := hD
              refine W.widen (k := 0) (n := 0) (by omega) (by omega) ?_
              exact mp_vret hx hb hr hlk hP hD hS pl ⟨trivial, hO⟩ [] rfl rfl rfl (by omega) (by omega) dME_encrypt_402
            | succ n23 ih23 =>
              intro i23 pl ls H locs hm23  hl hO hP hD hS
              refine lv_iload hx hb dME_encrypt_262 (lv_at hl 0 rfl) ?_
              refine lv_iload hx hb dME_encrypt_264 (lv_at hl 1 rfl) ?_
              refine mi_ge (tgt := 297) hx hb dME_encrypt_266 (by decide) (by omega) (by omega) (fun h24 => absurd h24 (by omega)) (fun h24 => ?_)
              refine lv_aload_n hx hb dME_encrypt_269 rfl (lv_at hl 2 rfl) ?_
              refine lv_aload_n hx hb dME_encrypt_270 rfl (lv_at hl 2 rfl) ?_
              refine ty_get (ci := 11) (C := "LatticeKeysModel$Secrets") (TT := T_ME) (N := 14) (kd := (23, 0)) hx hb hts (wg_ft i_ME) hown hK hO k_h0 (nxg hc0 k_h0 rfl) hP (fun _ h9 => h9) rfl 5 (by decide) (hts _ (wg_t kw_1384)) (fun _ h9 => h9) (cd := (3, 3, 4)) rfl dME_encrypt_271 (fun v33 hv33 => ?_)
              obtain ⟨r33, rfl, kr33⟩ := (show ∃ r : Nat, v33 = .ref r ∧ T r = some (3, 4) from hv33)
              refine lv_iload hx hb dME_encrypt_274 (lv_at hl 0 rfl) ?_
              refine ty_aald3 hx hb hK hO kr33 (nxg hc0 kr33 rfl) hP (by omega) (by decide) dME_encrypt_276 (fun r34 kr34 => ?_)
              refine lv_aload_n hx hb dME_encrypt_277 rfl (lv_at hl 2 rfl) ?_
              refine ty_get (ci := 11) (C := "LatticeKeysModel$Secrets") (TT := T_ME) (N := 14) (kd := (23, 0)) hx hb hts (wg_ft i_ME) hown hK hO k_h0 (nxg hc0 k_h0 rfl) hP (fun _ h9 => h9) rfl 3 (by decide) (hts _ (wg_t kw_1382)) (fun _ h9 => h9) (cd := (3, 3, 4)) rfl dME_encrypt_278 (fun v34 hv34 => ?_)
              obtain ⟨r35, rfl, kr35⟩ := (show ∃ r : Nat, v34 = .ref r ∧ T r = some (3, 4) from hv34)
              refine lv_iload hx hb dME_encrypt_281 (lv_at hl 0 rfl) ?_
              refine ty_aald3 hx hb hK hO kr35 (nxg hc0 kr35 rfl) hP (by omega) (by decide) dME_encrypt_283 (fun r36 kr36 => ?_)
              refine lv_aload_n hx hb dME_encrypt_284 rfl (lv_at hl 2 rfl) ?_
              refine ty_get (ci := 11) (C := "LatticeKeysModel$Secrets") (TT := T_ME) (N := 14) (kd := (23, 0)) hx hb hts (wg_ft i_ME) hown hK hO k_h0 (nxg hc0 k_h0 rfl) hP (fun _ h9 => h9) rfl 6 (by decide) (hts _ (wg_t kw_1385)) (fun _ h9 => h9) (cd := (3, 0, 256)) rfl dME_encrypt_285 (fun v35 hv35 => ?_)
              obtain ⟨r37, rfl, kr37⟩ := (show ∃ r : Nat, v35 = .ref r ∧ T r = some (0, 256) from hv35)
              refine mp_v (cx := []) (wr := []) hP hD hS hA [] [] rfl rfl rfl (by decide) (va_runV (As := [.ref r34, .ref r36, .ref r37]) (rest := []) F (t_ME_product l g _ T xs pl hO hU hc0 h0 r34 r36 r37 k_h0 kr34 kr36 kr37) (cwV 3 hts (wg_app (wg_c kw_1676 (wg_c kw_1678 (wg_c ks_58 (wg_c kw_11 wg_n)))) kw_1679) rfl rfl rfl (by decide +kernel) ⟨by decide, by decide⟩) (pp_VT (en_ok g) (ci := 11) (kd := (23, 0)) hK hO k_h0 (nxg hc0 k_h0 rfl) (fun _ h9 => ko1 h9) hP hD hS hA hE [] rfl rfl rfl) rfl rfl hl.1 rfl (lv_room (Nat.le_of_ble_eq_true rfl)) dME_encrypt_288 ⟨by omega, by omega⟩) (fun  pl H locs hu31 hP hD hS => ?_)
              obtain ⟨hq31, hO⟩ := hu31
              have hP : va_P g.1 vcl ([] ++ pl) _ := hP
              have hD : va_D _ ([] ++ pl) := hD
              refine W.widen (k := 0) (n := 0) (by omega) (by omega) ?_
              refine mi_iinc (k := 0) (x := i23) (d := 1) (y := i23 + 1) (lv' := [(7, .int (nI (i23 + 1))), (6, .int (nI 2)), (0, .ref h0), (1, .int (nI 0)), (4, .ref ms), (5, .ref ct)]) hx hb dME_encrypt_291 hl rfl (by decide) rfl (by decide) rfl (fun ls hl => ?_)
              refine lv_goto (tgt := 262) hx hb dME_encrypt_294 (by decide) ?_
              exact ih23 (i23 + 1) pl ls H locs (by omega) (lv_sub hl [0, 1, 2, 3, 4, 5] rfl) hO hP hD hS
          exact lp23 2 0 pl ls _ _ (by omega) (lv_sub hl [0, 1, 2, 3, 4, 5] rfl) hO hP hD hS
        | succ n22 ih22 =>
          intro i22 pl ls H locs hm22  hl hO hP hD hS
          refine lv_iload hx hb dME_encrypt_130 (lv_at hl 0 rfl) ?_
          refine lv_iload hx hb dME_encrypt_132 (lv_at hl 1 rfl) ?_
          refine mi_ge (tgt := 252) hx hb dME_encrypt_134 (by decide) (by omega) (by omega) (fun h25 => absurd h25 (by omega)) (fun h25 => ?_)
          refine lv_aload_n hx hb dME_encrypt_137 rfl (lv_at hl 2 rfl) ?_
          refine ty_get (ci := 11) (C := "LatticeKeysModel$Secrets") (TT := T_ME) (N := 14) (kd := (23, 0)) hx hb hts (wg_ft i_ME) hown hK hO k_h0 (nxg hc0 k_h0 rfl) hP (fun _ h9 => h9) rfl 6 (by decide) (hts _ (wg_t kw_1385)) (fun _ h9 => h9) (cd := (3, 0, 256)) rfl dME_encrypt_138 (fun v36 hv36 => ?_)
          obtain ⟨r38, rfl, kr38⟩ := (show ∃ r : Nat, v36 = .ref r ∧ T r = some (0, 256) from hv36)
          refine mp_v (cx := []) (wr := []) hP hD hS hA [] [] rfl rfl rfl (by decide) (va_runS (As := [.ref r38]) (rest := []) F (t_ME_clear l g _ T xs pl hO hU hc0 r38 kr38) (va_cwS 1 hts (wg_app (wg_c kw_1819 (wg_c kw_1820 (wg_c kw_11 wg_n))) kw_1821) rfl rfl rfl (by decide +kernel) ⟨by decide, by decide⟩) (pp_S (en_ok g) hP hD hS hA hE [] rfl rfl) rfl rfl hl.1 rfl (lv_room (Nat.le_of_ble_eq_true rfl)) dME_encrypt_141 ⟨by omega, by omega⟩) (fun  pl H locs hu32 hP hD hS => ?_)
          obtain ⟨hq32, hO⟩ := hu32
          have hP : va_P g.1 vcl ([] ++ pl) _ := hP
          have hD : va_D _ ([] ++ pl) := hD
          refine W.widen (k := 0) (n := 0) (by omega) (by omega) ?_
          refine lv_iconst (v := nI 0) hx hb dME_encrypt_144 (by decide) ?_
          refine lv_istore (lv' := [(8, .int (nI 0)), (7, .int (nI i22)), (6, .int (nI 2)), (0, .ref h0), (1, .int (nI 0)), (4, .ref ms), (5, .ref ct)]) hx hb dME_encrypt_145 hl (by decide) rfl (fun ls hl => ?_)
          have lp24 : ∀ (n24 : Nat) (i24 : Nat) (pl : va_W) (ls : Array Slot) (H : Heap) (locs : List Loc), n24 + i24 = 2 → lv_has ls 9 [(8, .int (nI i24)), (7, .int (nI i22)), (6, .int (nI 2)), (0, .ref h0), (1, .int (nI 0)), (4, .ref ms), (5, .ref ct)] → okx g T xs pl → va_P g.1 vcl ([] ++ pl) H → va_D A ([] ++ pl) → va_S A s.heap H locs → W p l e ({ frames := 5, cells := 0, slots := 0, locals := 126 } : Room) s m args below meth c H locs 0 0 (MQ below (va_Qv (fun (u : va_W) => (True) ∧ okx g T xs u) (po g.1 vcl A (fun (u : va_W) => [] ++ u)) A) args s 0 0 A) (F0 m 147 ls []) := by
            intro n24
            induction n24 with
            | zero =>
              intro i24 pl ls H locs hm24  hl hO hP hD hS
              refine lv_iload hx hb dME_encrypt_147 (lv_at hl 0 rfl) ?_
              refine lv_iload hx hb dME_encrypt_149 (lv_at hl 2 rfl) ?_
              refine mi_ge (tgt := 187) hx hb dME_encrypt_151 (by decide) (by omega) (by omega) (fun h26 => ?_) (fun h26 => absurd h26 (by omega))
              refine lv_aload_n hx hb dME_encrypt_187 rfl (lv_at hl 3 rfl) ?_
              refine lv_aload_n hx hb dME_encrypt_188 rfl (lv_at hl 3 rfl) ?_
              refine ty_get (ci := 11) (C := "LatticeKeysModel$Secrets") (TT := T_ME) (N := 14) (kd := (23, 0)) hx hb hts (wg_ft i_ME) hown hK hO k_h0 (nxg hc0 k_h0 rfl) hP (fun _ h9 => h9) rfl 6 (by decide) (hts _ (wg_t kw_1385)) (fun _ h9 => h9) (cd := (3, 0, 256)) rfl dME_encrypt_189 (fun v37 hv37 => ?_)
              obtain ⟨r39, rfl, kr39⟩ := (show ∃ r : Nat, v37 = .ref r ∧ T r = some (0, 256) from hv37)
              refine mp_v (cx := []) (wr := []) hP hD hS hA [] [] rfl rfl rfl (by decide) (va_runV (As := [.ref r39]) (rest := []) F (t_ME_back l g _ T xs pl hO hU hc0 h0 r39 k_h0 kr39) (cwV 1 hts (wg_app (wg_c kw_1822 (wg_c kw_1824 (wg_c ks_69 (wg_c kw_11 wg_n)))) kw_1825) rfl rfl rfl (by decide +kernel) ⟨by decide, by decide⟩) (pp_VT (en_ok g) (ci := 11) (kd := (23, 0)) hK hO k_h0 (nxg hc0 k_h0 rfl) (fun _ h9 => ko1 h9) hP hD hS hA hE [] rfl rfl rfl) rfl rfl hl.1 rfl (lv_room (Nat.le_of_ble_eq_true rfl)) dME_encrypt_192 ⟨by omega, by omega⟩) (fun  pl H locs hu33 hP hD hS => ?_)
              obtain ⟨hq33, hO⟩ := hu33
              have hP : va_P g.1 vcl ([] ++ pl) _ := hP
              have hD : va_D _ ([] ++ pl) := hD
              refine W.widen (k := 0) (n := 0) (by omega) (by omega) ?_
              refine lv_aload_n hx hb dME_encrypt_195 rfl (lv_at hl 3 rfl) ?_
              refine ty_get (ci := 11) (C := "LatticeKeysModel$Secrets") (TT := T_ME) (N := 14) (kd := (23, 0)) hx hb hts (wg_ft i_ME) hown hK hO k_h0 (nxg hc0 k_h0 rfl) hP (fun _ h9 => h9) rfl 6 (by decide) (hts _ (wg_t kw_1385)) (fun _ h9 => h9) (cd := (3, 0, 256)) rfl dME_encrypt_196 (fun v38 hv38 => ?_)
              obtain ⟨r40, rfl, kr40⟩ := (show ∃ r : Nat, v38 = .ref r ∧ T r = some (0, 256) from hv38)
              refine lv_aload_n hx hb dME_encrypt_199 rfl (lv_at hl 3 rfl) ?_
              refine ty_get (ci := 11) (C := "LatticeKeysModel$Secrets") (TT := T_ME) (N := 14) (kd := (23, 0)) hx hb hts (wg_ft i_ME) hown hK hO k_h0 (nxg hc0 k_h0 rfl) hP (fun _ h9 => h9) rfl 4 (by decide) (hts _ (wg_t kw_1383)) (fun _ h9 => h9) (cd := (3, 3, 4)) rfl dME_encrypt_200 (fun v39 hv39 => ?_)
              obtain ⟨r41, rfl, kr41⟩ := (show ∃ r : Nat, v39 = .ref r ∧ T r = some (3, 4) from hv39)
              refine lv_iload hx hb dME_encrypt_203 (lv_at hl 1 rfl) ?_
              refine ty_aald3 hx hb hK hO kr41 (nxg hc0 kr41 rfl) hP (by omega) (by decide) dME_encrypt_205 (fun r42 kr42 => ?_)
              refine mp_v (cx := []) (wr := []) hP hD hS hA [] [] rfl rfl rfl (by decide) (va_runS (As := [.ref r40, .ref r42]) (rest := []) F (t_ME_plus l g _ T xs pl hO hU hc0 r40 r42 kr40 kr42) (va_cwS 2 hts (wg_app (wg_c kw_1827 (wg_c kw_1828 (wg_c kw_11 wg_n))) kw_1829) rfl rfl rfl (by decide +kernel) ⟨by decide, by decide⟩) (pp_S (en_ok g) hP hD hS hA hE [] rfl rfl) rfl rfl hl.1 rfl (lv_room (Nat.le_of_ble_eq_true rfl)) dME_encrypt_206 ⟨by omega, by omega⟩) (fun  pl H locs hu34 hP hD hS => ?_)
              obtain ⟨hq34, hO⟩ := hu34
              have hP : va_P g.1 vcl ([] ++ pl) _ := hP
              have hD : va_D _ ([] ++ pl) := hD
              refine W.widen (k := 0) (n := 0) (by omega) (by omega) ?_
              refine lv_aload_n hx hb dME_encrypt_209 rfl (lv_at hl 3 rfl) ?_
              refine ty_get (ci := 11) (C := "LatticeKeysModel$Secrets") (TT := T_ME) (N := 14) (kd := (23, 0)) hx hb hts (wg_ft i_ME) hown hK hO k_h0 (nxg hc0 k_h0 rfl) hP (fun _ h9 => h9) rfl 6 (by decide) (hts _ (wg_t kw_1385)) (fun _ h9 => h9) (cd := (3, 0, 256)) rfl dME_encrypt_210 (fun v40 hv40 => ?_)
              obtain ⟨r43, rfl, kr43⟩ := (show ∃ r : Nat, v40 = .ref r ∧ T r = some (0, 256) from hv40)
              refine va_gets hx hb (hE.2.1 21 _ rfl).1 hS hown (hts _ (wg_t kw_1830)) (fun _ h9 => h9) dME_encrypt_213 ?_
              refine lv_iload_n hx hb dME_encrypt_216 rfl (lv_at hl 4 rfl) ?_
              refine va_ti (v := .int (nI 10)) hx hb (hE.2.1 21 _ rfl).2 hS (vp_in_nI (by decide) (by decide)) (by decide +kernel) dME_encrypt_217 ?_
              refine mp_v (cx := []) (wr := []) hP hD hS hA [] [] rfl rfl rfl (by decide) (va_runS (As := [.ref r43, .int (nI 10)]) (rest := []) F (t_ME_less_10 l g _ T xs pl hO hU hc0 r43 kr43) (va_cwS 2 hts (wg_app (wg_c kw_1832 (wg_c kw_1833 (wg_c kw_11 wg_n))) kw_1834) rfl rfl rfl (by decide +kernel) ⟨by decide, by decide⟩) (pp_S (en_ok g) hP hD hS hA hE [] rfl rfl) rfl rfl hl.1 rfl (lv_room (Nat.le_of_ble_eq_true rfl)) dME_encrypt_218 ⟨by omega, by omega⟩) (fun  pl H locs hu35 hP hD hS => ?_)
              obtain ⟨hq35, hO⟩ := hu35
              have hP : va_P g.1 vcl ([] ++ pl) _ := hP
              have hD : va_D _ ([] ++ pl) := hD
              refine W.widen (k := 0) (n := 0) (by omega) (by omega) ?_
              refine lv_aload_n hx hb dME_encrypt_221 rfl (lv_at hl 3 rfl) ?_
              refine ty_get (ci := 11) (C := "LatticeKeysModel$Secrets") (TT := T_ME) (N := 14) (kd := (23, 0)) hx hb hts (wg_ft i_ME) hown hK hO k_h0 (nxg hc0 k_h0 rfl) hP (fun _ h9 => h9) rfl 6 (by decide) (hts _ (wg_t kw_1385)) (fun _ h9 => h9) (cd := (3, 0, 256)) rfl dME_encrypt_222 (fun v41 hv41 => ?_)
              obtain ⟨r44, rfl, kr44⟩ := (show ∃ r : Nat, v41 = .ref r ∧ T r = some (0, 256) from hv41)
              refine lv_aload hx hb dME_encrypt_225 (lv_at hl 6 rfl) ?_
              refine lv_bipush (v := nI 32) hx hb dME_encrypt_227 (by decide) ?_
              refine va_gets hx hb (hE.2.1 21 _ rfl).1 hS hown (hts _ (wg_t kw_1830)) (fun _ h9 => h9) dME_encrypt_229 ?_
              refine lv_iload_n hx hb dME_encrypt_232 rfl (lv_at hl 4 rfl) ?_
              refine va_ti (v := .int (nI 10)) hx hb (hE.2.1 21 _ rfl).2 hS (vp_in_nI (by decide) (by decide)) (by decide +kernel) dME_encrypt_233 ?_
              refine mi_imul hx hb dME_encrypt_234 ?_
              refine mi_as (show nI (32 * 10) = nI 320 from rfl) ?_
              refine lv_iload hx hb dME_encrypt_235 (lv_at hl 1 rfl) ?_
              refine mi_imul hx hb dME_encrypt_237 ?_
              refine va_gets hx hb (hE.2.1 21 _ rfl).1 hS hown (hts _ (wg_t kw_1830)) (fun _ h9 => h9) dME_encrypt_238 ?_
              refine lv_iload_n hx hb dME_encrypt_241 rfl (lv_at hl 4 rfl) ?_
              refine va_ti (v := .int (nI 10)) hx hb (hE.2.1 21 _ rfl).2 hS (vp_in_nI (by decide) (by decide)) (by decide +kernel) dME_encrypt_242 ?_
              refine mp_v (cx := []) (wr := []) hP hD hS hA [] [] rfl rfl rfl (by decide) (va_runS (As := [.ref r44, .ref ct, .int (nI (320 * i22)), .int (nI 10)]) (rest := []) F (t_ME_write_10 l g _ T xs pl hO hU hc0 r44 ct nc (320 * i22) kr44 k_ct (by omega) (by omega)) (va_cwS 4 hts (wg_app (wg_c kw_1685 (wg_c kw_1686 (wg_c kw_11 wg_n))) kw_1687) rfl rfl rfl (by decide +kernel) ⟨by decide, by decide⟩) (pp_S (en_ok g) hP hD hS hA hE [] rfl rfl) rfl rfl hl.1 rfl (lv_room (Nat.le_of_ble_eq_true rfl)) dME_encrypt_243 ⟨by omega, by omega⟩) (fun  pl H locs hu36 hP hD hS => ?_)
              obtain ⟨hq36, hO⟩ := hu36
              have hP : va_P g.1 vcl ([] ++ pl) _ := hP
              have hD : va_D _ ([] ++ pl) := hD
              refine W.widen (k := 0) (n := 0) (by omega) (by omega) ?_
              refine mi_iinc (k := 1) (x := i22) (d := 1) (y := i22 + 1) (lv' := [(7, .int (nI (i22 + 1))), (8, .int (nI i24)), (6, .int (nI 2)), (0, .ref h0), (1, .int (nI 0)), (4, .ref ms), (5, .ref ct)]) hx hb dME_encrypt_246 hl rfl (by decide) rfl (by decide) rfl (fun ls hl => ?_)
              refine lv_goto (tgt := 130) hx hb dME_encrypt_249 (by decide) ?_
              exact ih22 (i22 + 1) pl ls H locs (by omega) (lv_sub hl [0, 2, 3, 4, 5, 6] rfl) hO hP hD hS
            | succ n24 ih24 =>
              intro i24 pl ls H locs hm24  hl hO hP hD hS
              refine lv_iload hx hb dME_encrypt_147 (lv_at hl 0 rfl) ?_
              refine lv_iload hx hb dME_encrypt_149 (lv_at hl 2 rfl) ?_
              refine mi_ge (tgt := 187) hx hb dME_encrypt_151 (by decide) (by omega) (by omega) (fun h27 => absurd h27 (by omega)) (fun h27 => ?_)
              refine lv_aload_n hx hb dME_encrypt_154 rfl (lv_at hl 3 rfl) ?_
              refine lv_aload_n hx hb dME_encrypt_155 rfl (lv_at hl 3 rfl) ?_
              refine ty_get (ci := 11) (C := "LatticeKeysModel$Secrets") (TT := T_ME) (N := 14) (kd := (23, 0)) hx hb hts (wg_ft i_ME) hown hK hO k_h0 (nxg hc0 k_h0 rfl) hP (fun _ h9 => h9) rfl 2 (by decide) (hts _ (wg_t kw_1381)) (fun _ h9 => h9) (cd := (3, 3, 16)) rfl dME_encrypt_156 (fun v42 hv42 => ?_)
              obtain ⟨r45, rfl, kr45⟩ := (show ∃ r : Nat, v42 = .ref r ∧ T r = some (3, 16) from hv42)
              refine lv_iconst (v := nI 4) hx hb dME_encrypt_159 (by decide) ?_
              refine lv_iload hx hb dME_encrypt_160 (lv_at hl 0 rfl) ?_
              refine mi_imul hx hb dME_encrypt_162 ?_
              refine lv_iload hx hb dME_encrypt_163 (lv_at hl 1 rfl) ?_
              refine mi_iadd hx hb dME_encrypt_165 ?_
              refine ty_aald3 hx hb hK hO kr45 (nxg hc0 kr45 rfl) hP (by omega) (by decide) dME_encrypt_166 (fun r46 kr46 => ?_)
              refine lv_aload_n hx hb dME_encrypt_167 rfl (lv_at hl 3 rfl) ?_
              refine ty_get (ci := 11) (C := "LatticeKeysModel$Secrets") (TT := T_ME) (N := 14) (kd := (23, 0)) hx hb hts (wg_ft i_ME) hown hK hO k_h0 (nxg hc0 k_h0 rfl) hP (fun _ h9 => h9) rfl 3 (by decide) (hts _ (wg_t kw_1382)) (fun _ h9 => h9) (cd := (3, 3, 4)) rfl dME_encrypt_168 (fun v43 hv43 => ?_)
              obtain ⟨r47, rfl, kr47⟩ := (show ∃ r : Nat, v43 = .ref r ∧ T r = some (3, 4) from hv43)
              refine lv_iload hx hb dME_encrypt_171 (lv_at hl 0 rfl) ?_
              refine ty_aald3 hx hb hK hO kr47 (nxg hc0 kr47 rfl) hP (by omega) (by decide) dME_encrypt_173 (fun r48 kr48 => ?_)
              refine lv_aload_n hx hb dME_encrypt_174 rfl (lv_at hl 3 rfl) ?_
              refine ty_get (ci := 11) (C := "LatticeKeysModel$Secrets") (TT := T_ME) (N := 14) (kd := (23, 0)) hx hb hts (wg_ft i_ME) hown hK hO k_h0 (nxg hc0 k_h0 rfl) hP (fun _ h9 => h9) rfl 6 (by decide) (hts _ (wg_t kw_1385)) (fun _ h9 => h9) (cd := (3, 0, 256)) rfl dME_encrypt_175 (fun v44 hv44 => ?_)
              obtain ⟨r49, rfl, kr49⟩ := (show ∃ r : Nat, v44 = .ref r ∧ T r = some (0, 256) from hv44)
              refine mp_v (cx := []) (wr := []) hP hD hS hA [] [] rfl rfl rfl (by decide) (va_runV (As := [.ref r46, .ref r48, .ref r49]) (rest := []) F (t_ME_product l g _ T xs pl hO hU hc0 h0 r46 r48 r49 k_h0 kr46 kr48 kr49) (cwV 3 hts (wg_app (wg_c kw_1676 (wg_c kw_1678 (wg_c ks_58 (wg_c kw_11 wg_n)))) kw_1679) rfl rfl rfl (by decide +kernel) ⟨by decide, by decide⟩) (pp_VT (en_ok g) (ci := 11) (kd := (23, 0)) hK hO k_h0 (nxg hc0 k_h0 rfl) (fun _ h9 => ko1 h9) hP hD hS hA hE [] rfl rfl rfl) rfl rfl hl.1 rfl (lv_room (Nat.le_of_ble_eq_true rfl)) dME_encrypt_178 ⟨by omega, by omega⟩) (fun  pl H locs hu37 hP hD hS => ?_)
              obtain ⟨hq37, hO⟩ := hu37
              have hP : va_P g.1 vcl ([] ++ pl) _ := hP
              have hD : va_D _ ([] ++ pl) := hD
              refine W.widen (k := 0) (n := 0) (by omega) (by omega) ?_
              refine mi_iinc (k := 0) (x := i24) (d := 1) (y := i24 + 1) (lv' := [(8, .int (nI (i24 + 1))), (7, .int (nI i22)), (6, .int (nI 2)), (0, .ref h0), (1, .int (nI 0)), (4, .ref ms), (5, .ref ct)]) hx hb dME_encrypt_181 hl rfl (by decide) rfl (by decide) rfl (fun ls hl => ?_)
              refine lv_goto (tgt := 147) hx hb dME_encrypt_184 (by decide) ?_
              exact ih24 (i24 + 1) pl ls H locs (by omega) (lv_sub hl [0, 1, 2, 3, 4, 5, 6] rfl) hO hP hD hS
          exact lp24 2 0 pl ls _ _ (by omega) (lv_sub hl [0, 1, 2, 3, 4, 5, 6] rfl) hO hP hD hS
      exact lp22 2 0 pl ls _ _ (by omega) (lv_sub hl [0, 1, 2, 3, 6, 7] rfl) hO hP hD hS
    | succ n21 ih21 =>
      intro i21 pl ls H locs hm21  hl hO hP hD hS
      refine lv_iload hx hb dME_encrypt_25 (lv_at hl 0 rfl) ?_
      refine lv_iload hx hb dME_encrypt_27 (lv_at hl 1 rfl) ?_
      refine mi_ge (tgt := 127) hx hb dME_encrypt_29 (by decide) (by omega) (by omega) (fun h28 => absurd h28 (by omega)) (fun h28 => ?_)
      refine lv_aload_n hx hb dME_encrypt_32 rfl (lv_at hl 4 rfl) ?_
      refine lv_iload_n hx hb dME_encrypt_33 rfl (lv_at hl 5 rfl) ?_
      refine lv_sipush (v := nI 384) hx hb dME_encrypt_34 (by decide) ?_
      refine lv_iload hx hb dME_encrypt_37 (lv_at hl 0 rfl) ?_
      refine mi_imul hx hb dME_encrypt_39 ?_
      refine mi_iadd hx hb dME_encrypt_40 ?_
      refine lv_bipush (v := nI 12) hx hb dME_encrypt_41 (by decide) ?_
      refine lv_aload_n hx hb dME_encrypt_43 rfl (lv_at hl 2 rfl) ?_
      refine ty_get (ci := 11) (C := "LatticeKeysModel$Secrets") (TT := T_ME) (N := 14) (kd := (23, 0)) hx hb hts (wg_ft i_ME) hown hK hO k_h0 (nxg hc0 k_h0 rfl) hP (fun _ h9 => h9) rfl 5 (by decide) (hts _ (wg_t kw_1384)) (fun _ h9 => h9) (cd := (3, 3, 4)) rfl dME_encrypt_44 (fun v45 hv45 => ?_)
      obtain ⟨r50, rfl, kr50⟩ := (show ∃ r : Nat, v45 = .ref r ∧ T r = some (3, 4) from hv45)
      refine lv_iload hx hb dME_encrypt_47 (lv_at hl 0 rfl) ?_
      refine ty_aald3 hx hb hK hO kr50 (nxg hc0 kr50 rfl) hP (by omega) (by decide) dME_encrypt_49 (fun r51 kr51 => ?_)
      refine mp_v (cx := []) (wr := []) hP hD hS hA [] [] rfl rfl rfl (by decide) (va_runS (As := [.ref ek, .int (nI (at_ + (384 * i21))), .int (nI 12), .ref r51]) (rest := []) F (t_ME_read_12 l g _ T xs pl hO hU hc0 ek r51 n (at_ + (384 * i21)) k_ek kr51 (by omega) (by omega)) (va_cwS 4 hts (wg_app (wg_c kw_1813 (wg_c kw_1814 (wg_c kw_11 wg_n))) kw_1815) rfl rfl rfl (by decide +kernel) ⟨by decide, by decide⟩) (pp_S (en_ok g) hP hD hS hA hE [] rfl rfl) rfl rfl hl.1 rfl (lv_room (Nat.le_of_ble_eq_true rfl)) dME_encrypt_50 ⟨by omega, by omega⟩) (fun  pl H locs hu38 hP hD hS => ?_)
      obtain ⟨hq38, hO⟩ := hu38
      have hP : va_P g.1 vcl ([] ++ pl) _ := hP
      have hD : va_D _ ([] ++ pl) := hD
      refine W.widen (k := 0) (n := 0) (by omega) (by omega) ?_
      refine lv_aload_n hx hb dME_encrypt_53 rfl (lv_at hl 2 rfl) ?_
      refine ty_get (ci := 11) (C := "LatticeKeysModel$Secrets") (TT := T_ME) (N := 14) (kd := (23, 0)) hx hb hts (wg_ft i_ME) hown hK hO k_h0 (nxg hc0 k_h0 rfl) hP (fun _ h9 => h9) rfl 5 (by decide) (hts _ (wg_t kw_1384)) (fun _ h9 => h9) (cd := (3, 3, 4)) rfl dME_encrypt_54 (fun v46 hv46 => ?_)
      obtain ⟨r52, rfl, kr52⟩ := (show ∃ r : Nat, v46 = .ref r ∧ T r = some (3, 4) from hv46)
      refine lv_iload hx hb dME_encrypt_57 (lv_at hl 0 rfl) ?_
      refine ty_aald3 hx hb hK hO kr52 (nxg hc0 kr52 rfl) hP (by omega) (by decide) dME_encrypt_59 (fun r53 kr53 => ?_)
      refine mp_v (cx := []) (wr := []) hP hD hS hA [] [] rfl rfl rfl (by decide) (va_runS (As := [.ref r53]) (rest := []) F (t_ME_proper l g _ T xs pl hO hU hc0 r53 kr53) (va_cwS 1 hts (wg_app (wg_c kw_1816 (wg_c kw_1817 (wg_c kw_11 wg_n))) kw_1818) rfl rfl rfl (by decide +kernel) ⟨by decide, by decide⟩) (pp_S (en_ok g) hP hD hS hA hE [] rfl rfl) rfl rfl hl.1 rfl (lv_room (Nat.le_of_ble_eq_true rfl)) dME_encrypt_60 ⟨by omega, by omega⟩) (fun  pl H locs hu39 hP hD hS => ?_)
      obtain ⟨hq39, hO⟩ := hu39
      have hP : va_P g.1 vcl ([] ++ pl) _ := hP
      have hD : va_D _ ([] ++ pl) := hD
      refine W.widen (k := 0) (n := 0) (by omega) (by omega) ?_
      refine lv_aload_n hx hb dME_encrypt_63 rfl (lv_at hl 2 rfl) ?_
      refine lv_aload_n hx hb dME_encrypt_64 rfl (lv_at hl 2 rfl) ?_
      refine ty_get (ci := 11) (C := "LatticeKeysModel$Secrets") (TT := T_ME) (N := 14) (kd := (23, 0)) hx hb hts (wg_ft i_ME) hown hK hO k_h0 (nxg hc0 k_h0 rfl) hP (fun _ h9 => h9) rfl 3 (by decide) (hts _ (wg_t kw_1382)) (fun _ h9 => h9) (cd := (3, 3, 4)) rfl dME_encrypt_65 (fun v47 hv47 => ?_)
      obtain ⟨r54, rfl, kr54⟩ := (show ∃ r : Nat, v47 = .ref r ∧ T r = some (3, 4) from hv47)
      refine lv_iload hx hb dME_encrypt_68 (lv_at hl 0 rfl) ?_
      refine ty_aald3 hx hb hK hO kr54 (nxg hc0 kr54 rfl) hP (by omega) (by decide) dME_encrypt_70 (fun r55 kr55 => ?_)
      refine lv_aload_n hx hb dME_encrypt_71 rfl (lv_at hl 2 rfl) ?_
      refine ty_get (ci := 11) (C := "LatticeKeysModel$Secrets") (TT := T_ME) (N := 14) (kd := (23, 0)) hx hb hts (wg_ft i_ME) hown hK hO k_h0 (nxg hc0 k_h0 rfl) hP (fun _ h9 => h9) rfl 9 (by decide) (hts _ (wg_t kw_1388)) (fun _ h9 => h9) (cd := (3, 1, 64)) rfl dME_encrypt_72 (fun v48 hv48 => ?_)
      obtain ⟨r56, rfl, kr56⟩ := (show ∃ r : Nat, v48 = .ref r ∧ T r = some (1, 64) from hv48)
      refine lv_bipush (v := nI 32) hx hb dME_encrypt_75 (by decide) ?_
      refine lv_iload hx hb dME_encrypt_77 (lv_at hl 0 rfl) ?_
      refine va_gets hx hb (hE.2.1 20 _ rfl).1 hS hown (hts _ (wg_t kw_1654)) (fun _ h9 => h9) dME_encrypt_79 ?_
      refine lv_iload_n hx hb dME_encrypt_82 rfl (lv_at hl 3 rfl) ?_
      refine va_ti (v := .int (nI 3)) hx hb (hE.2.1 20 _ rfl).2 hS (vp_in_nI (by decide) (by decide)) (by decide +kernel) dME_encrypt_83 ?_
      refine mp_v (cx := []) (wr := []) hP hD hS hA [] [] rfl rfl rfl (by decide) (va_runV (As := [.ref r55, .ref r56, .int (nI 32), .int (nI i21), .int (nI 3)]) (rest := []) F (t_ME_noise_3 l g _ T xs pl hO hU hc0 hc9 h0 r55 r56 64 32 (nI i21) k_h0 kr55 kr56 (by omega) (by omega)) (cwV 5 hts (wg_app (wg_c kw_1656 (wg_c kw_1658 (wg_c ks_56 (wg_c kw_11 wg_n)))) kw_1659) rfl rfl rfl (by decide +kernel) ⟨by decide, by decide⟩) (pp_VT (en_ok g) (ci := 11) (kd := (23, 0)) hK hO k_h0 (nxg hc0 k_h0 rfl) (fun _ h9 => ko1 h9) hP hD hS hA hE [] rfl rfl rfl) rfl rfl hl.1 rfl (lv_room (Nat.le_of_ble_eq_true rfl)) dME_encrypt_84 ⟨by omega, by omega⟩) (fun  pl H locs hu40 hP hD hS => ?_)
      obtain ⟨hq40, hO⟩ := hu40
      have hP : va_P g.1 vcl ([] ++ pl) _ := hP
      have hD : va_D _ ([] ++ pl) := hD
      refine W.widen (k := 0) (n := 0) (by omega) (by omega) ?_
      refine lv_aload_n hx hb dME_encrypt_87 rfl (lv_at hl 2 rfl) ?_
      refine lv_aload_n hx hb dME_encrypt_88 rfl (lv_at hl 2 rfl) ?_
      refine ty_get (ci := 11) (C := "LatticeKeysModel$Secrets") (TT := T_ME) (N := 14) (kd := (23, 0)) hx hb hts (wg_ft i_ME) hown hK hO k_h0 (nxg hc0 k_h0 rfl) hP (fun _ h9 => h9) rfl 4 (by decide) (hts _ (wg_t kw_1383)) (fun _ h9 => h9) (cd := (3, 3, 4)) rfl dME_encrypt_89 (fun v49 hv49 => ?_)
      obtain ⟨r57, rfl, kr57⟩ := (show ∃ r : Nat, v49 = .ref r ∧ T r = some (3, 4) from hv49)
      refine lv_iload hx hb dME_encrypt_92 (lv_at hl 0 rfl) ?_
      refine ty_aald3 hx hb hK hO kr57 (nxg hc0 kr57 rfl) hP (by omega) (by decide) dME_encrypt_94 (fun r58 kr58 => ?_)
      refine lv_aload_n hx hb dME_encrypt_95 rfl (lv_at hl 2 rfl) ?_
      refine ty_get (ci := 11) (C := "LatticeKeysModel$Secrets") (TT := T_ME) (N := 14) (kd := (23, 0)) hx hb hts (wg_ft i_ME) hown hK hO k_h0 (nxg hc0 k_h0 rfl) hP (fun _ h9 => h9) rfl 9 (by decide) (hts _ (wg_t kw_1388)) (fun _ h9 => h9) (cd := (3, 1, 64)) rfl dME_encrypt_96 (fun v50 hv50 => ?_)
      obtain ⟨r59, rfl, kr59⟩ := (show ∃ r : Nat, v50 = .ref r ∧ T r = some (1, 64) from hv50)
      refine lv_bipush (v := nI 32) hx hb dME_encrypt_99 (by decide) ?_
      refine lv_iload hx hb dME_encrypt_101 (lv_at hl 1 rfl) ?_
      refine lv_iload hx hb dME_encrypt_103 (lv_at hl 0 rfl) ?_
      refine mi_iadd hx hb dME_encrypt_105 ?_
      refine lv_iconst (v := nI 2) hx hb dME_encrypt_106 (by decide) ?_
      refine mp_v (cx := []) (wr := []) hP hD hS hA [] [] rfl rfl rfl (by decide) (va_runV (As := [.ref r58, .ref r59, .int (nI 32), .int (nI (2 + i21)), .int (nI 2)]) (rest := []) F (t_ME_noise_2 l g _ T xs pl hO hU hc0 hc9 h0 r58 r59 64 32 (nI (2 + i21)) k_h0 kr58 kr59 (by omega) (by omega)) (cwV 5 hts (wg_app (wg_c kw_1656 (wg_c kw_1658 (wg_c ks_56 (wg_c kw_11 wg_n)))) kw_1659) rfl rfl rfl (by decide +kernel) ⟨by decide, by decide⟩) (pp_VT (en_ok g) (ci := 11) (kd := (23, 0)) hK hO k_h0 (nxg hc0 k_h0 rfl) (fun _ h9 => ko1 h9) hP hD hS hA hE [] rfl rfl rfl) rfl rfl hl.1 rfl (lv_room (Nat.le_of_ble_eq_true rfl)) dME_encrypt_107 ⟨by omega, by omega⟩) (fun  pl H locs hu41 hP hD hS => ?_)
      obtain ⟨hq41, hO⟩ := hu41
      have hP : va_P g.1 vcl ([] ++ pl) _ := hP
      have hD : va_D _ ([] ++ pl) := hD
      refine W.widen (k := 0) (n := 0) (by omega) (by omega) ?_
      refine lv_aload_n hx hb dME_encrypt_110 rfl (lv_at hl 2 rfl) ?_
      refine lv_aload_n hx hb dME_encrypt_111 rfl (lv_at hl 2 rfl) ?_
      refine ty_get (ci := 11) (C := "LatticeKeysModel$Secrets") (TT := T_ME) (N := 14) (kd := (23, 0)) hx hb hts (wg_ft i_ME) hown hK hO k_h0 (nxg hc0 k_h0 rfl) hP (fun _ h9 => h9) rfl 3 (by decide) (hts _ (wg_t kw_1382)) (fun _ h9 => h9) (cd := (3, 3, 4)) rfl dME_encrypt_112 (fun v51 hv51 => ?_)
      obtain ⟨r60, rfl, kr60⟩ := (show ∃ r : Nat, v51 = .ref r ∧ T r = some (3, 4) from hv51)
      refine lv_iload hx hb dME_encrypt_115 (lv_at hl 0 rfl) ?_
      refine ty_aald3 hx hb hK hO kr60 (nxg hc0 kr60 rfl) hP (by omega) (by decide) dME_encrypt_117 (fun r61 kr61 => ?_)
      refine mp_v (cx := []) (wr := []) hP hD hS hA [] [] rfl rfl rfl (by decide) (va_runV (As := [.ref r61]) (rest := []) F (t_ME_forth l g _ T xs pl hO hU hc0 h0 r61 k_h0 kr61) (cwV 1 hts (wg_app (wg_c kw_1668 (wg_c kw_1670 (wg_c ks_57 (wg_c kw_11 wg_n)))) kw_1671) rfl rfl rfl (by decide +kernel) ⟨by decide, by decide⟩) (pp_VT (en_ok g) (ci := 11) (kd := (23, 0)) hK hO k_h0 (nxg hc0 k_h0 rfl) (fun _ h9 => ko1 h9) hP hD hS hA hE [] rfl rfl rfl) rfl rfl hl.1 rfl (lv_room (Nat.le_of_ble_eq_true rfl)) dME_encrypt_118 ⟨by omega, by omega⟩) (fun  pl H locs hu42 hP hD hS => ?_)
      obtain ⟨hq42, hO⟩ := hu42
      have hP : va_P g.1 vcl ([] ++ pl) _ := hP
      have hD : va_D _ ([] ++ pl) := hD
      refine W.widen (k := 0) (n := 0) (by omega) (by omega) ?_
      refine mi_iinc (k := 0) (x := i21) (d := 1) (y := i21 + 1) (lv' := [(7, .int (nI (i21 + 1))), (6, .int (nI 2)), (0, .ref h0), (1, .int (nI 0)), (2, .ref ek), (3, .int (nI at_)), (4, .ref ms), (5, .ref ct)]) hx hb dME_encrypt_121 hl rfl (by decide) rfl (by decide) rfl (fun ls hl => ?_)
      refine lv_goto (tgt := 25) hx hb dME_encrypt_124 (by decide) ?_
      exact ih21 (i21 + 1) pl ls H locs (by omega) (lv_sub hl [0, 1, 2, 3, 4, 5, 6, 7] rfl) hO hP hD hS
  exact lp21 2 0 pl ls _ _ (by omega) (lv_sub hl [0, 1, 2, 3, 4, 5, 6, 7] rfl) hO hP hD hS
set_option maxHeartbeats 400000 in
set_option maxRecDepth 100000 in
theorem t_ME_encrypt_1 (l : Launch) (g : Gd) (sz : Nat) (T : Ty) (xs : List Nat) (pl : va_W) (hO : okx g T xs pl) (hU : uni T) (hc0 : clo T xs 0) (hc9 : clo T xs 9) (h0 ek ms ct n nm nc at_ : Nat) (k_h0 : T h0 = some (23, 0)) (k_ek : T ek = some (1, n)) (k_ms : T ms = some (1, nm)) (k_ct : T ct = some (1, nc)) (h1 : at_ + 1184 ≤ n) (h2 : n < 65536) (h3 : 32 ≤ nm) (h4 : nm < 65536) (h5 : 1088 ≤ nc) (h6 : nc < 65536)  : Met l y_ME_encrypt w_ME_encrypt ({ frames := 5, cells := 0, slots := 0, locals := 126 } : Room) (va_Pc [.ref h0, .int (nI 1), .ref ek, .int (nI at_), .ref ms, .ref ct] (pr (en g) g.1 vcl sz ([] ++ pl))) (va_Qv (fun (u : va_W) => (True) ∧ okx g T xs u) (po g.1 vcl (va_A ([] ++ pl) sz) (fun (u : va_W) => [] ++ u)) (va_A ([] ++ pl) sz)) 0 0 (va_A ([] ++ pl) sz) := by
  refine mc_entry (cc := c_ME_encrypt) (maxL := 9) (ret := none) (by decide) rfl (Nat.le_of_ble_eq_true rfl) ?_
  intro p e s m args below meth c ls F hr hlk hnm hsz hP hD hE hA hl
  obtain ⟨hx, hb, hml, hown, hts⟩ := id F
  have hK := hE.1
  generalize va_A ([] ++ pl) sz = A at hD hE hA ⊢
  have hS : va_S A s.heap s.heap [] := va_S.rf
  have hl : lv_has ls 9 [(0, .ref h0), (1, .int (nI 1)), (2, .ref ek), (3, .int (nI at_)), (4, .ref ms), (5, .ref ct)] := hl
  refine va_gets hx hb (hE.2.1 19 _ rfl).1 hS hown (hts _ (wg_t kw_1605)) (fun _ h9 => h9) dME_encrypt_0 ?_
  refine lv_iload_n hx hb dME_encrypt_3 rfl (lv_at hl 1 rfl) ?_
  refine va_ti (v := .int (nI 3)) hx hb (hE.2.1 19 _ rfl).2 hS (vp_in_nI (by decide) (by decide)) (by decide +kernel) dME_encrypt_4 ?_
  refine lv_istore (lv' := [(6, .int (nI 3)), (0, .ref h0), (1, .int (nI 1)), (2, .ref ek), (3, .int (nI at_)), (4, .ref ms), (5, .ref ct)]) hx hb dME_encrypt_5 hl (by decide) rfl (fun ls hl => ?_)
  refine lv_aload_n hx hb dME_encrypt_7 rfl (lv_at hl 1 rfl) ?_
  refine lv_aload_n hx hb dME_encrypt_8 rfl (lv_at hl 3 rfl) ?_
  refine lv_iload_n hx hb dME_encrypt_9 rfl (lv_at hl 4 rfl) ?_
  refine lv_sipush (v := nI 384) hx hb dME_encrypt_10 (by decide) ?_
  refine lv_iload hx hb dME_encrypt_13 (lv_at hl 0 rfl) ?_
  refine mi_imul hx hb dME_encrypt_15 ?_
  refine mi_as (show nI (384 * 3) = nI 1152 from rfl) ?_
  refine mi_iadd hx hb dME_encrypt_16 ?_
  refine lv_iload hx hb dME_encrypt_17 (lv_at hl 0 rfl) ?_
  refine mp_v (cx := []) (wr := []) hP hD hS hA [] [] rfl rfl rfl (by decide) (va_runV (As := [.ref ek, .int (nI (at_ + 1152)), .int (nI 3)]) (rest := []) F (t_ME_expand_3 l g _ T xs pl hO hU hc0 hc9 h0 ek n (at_ + 1152) k_h0 k_ek (by omega) (by omega)) (cwV 3 hts (wg_app (wg_c kw_1645 (wg_c kw_1647 (wg_c ks_54 (wg_c kw_11 wg_n)))) kw_1648) rfl rfl rfl (by decide +kernel) ⟨by decide, by decide⟩) (pp_VT (en_ok g) (ci := 11) (kd := (23, 0)) hK hO k_h0 (nxg hc0 k_h0 rfl) (fun _ h9 => ko1 h9) hP hD hS hA hE [] rfl rfl rfl) rfl rfl hl.1 rfl (lv_room (Nat.le_of_ble_eq_true rfl)) dME_encrypt_19 ⟨by omega, by omega⟩) (fun  pl H locs hu21 hP hD hS => ?_)
  obtain ⟨hq21, hO⟩ := hu21
  have hP : va_P g.1 vcl ([] ++ pl) _ := hP
  have hD : va_D _ ([] ++ pl) := hD
  refine W.widen (k := 0) (n := 0) (by omega) (by omega) ?_
  refine lv_iconst (v := nI 0) hx hb dME_encrypt_22 (by decide) ?_
  refine lv_istore (lv' := [(7, .int (nI 0)), (6, .int (nI 3)), (0, .ref h0), (1, .int (nI 1)), (2, .ref ek), (3, .int (nI at_)), (4, .ref ms), (5, .ref ct)]) hx hb dME_encrypt_23 hl (by decide) rfl (fun ls hl => ?_)
  have lp21 : ∀ (n21 : Nat) (i21 : Nat) (pl : va_W) (ls : Array Slot) (H : Heap) (locs : List Loc), n21 + i21 = 3 → lv_has ls 9 [(7, .int (nI i21)), (6, .int (nI 3)), (0, .ref h0), (1, .int (nI 1)), (2, .ref ek), (3, .int (nI at_)), (4, .ref ms), (5, .ref ct)] → okx g T xs pl → va_P g.1 vcl ([] ++ pl) H → va_D A ([] ++ pl) → va_S A s.heap H locs → W p l e ({ frames := 5, cells := 0, slots := 0, locals := 126 } : Room) s m args below meth c H locs 0 0 (MQ below (va_Qv (fun (u : va_W) => (True) ∧ okx g T xs u) (po g.1 vcl A (fun (u : va_W) => [] ++ u)) A) args s 0 0 A) (F0 m 25 ls []) := by
    intro n21
    induction n21 with
    | zero =>
      intro i21 pl ls H locs hm21  hl hO hP hD hS
      refine lv_iload hx hb dME_encrypt_25 (lv_at hl 0 rfl) ?_
      refine lv_iload hx hb dME_encrypt_27 (lv_at hl 1 rfl) ?_
      refine mi_ge (tgt := 127) hx hb dME_encrypt_29 (by decide) (by omega) (by omega) (fun h21 => ?_) (fun h21 => absurd h21 (by omega))
      refine lv_iconst (v := nI 0) hx hb dME_encrypt_127 (by decide) ?_
      refine lv_istore (lv' := [(7, .int (nI 0)), (6, .int (nI 3)), (0, .ref h0), (1, .int (nI 1)), (2, .ref ek), (3, .int (nI at_)), (4, .ref ms), (5, .ref ct)]) hx hb dME_encrypt_128 hl (by decide) rfl (fun ls hl => ?_)
      have lp22 : ∀ (n22 : Nat) (i22 : Nat) (pl : va_W) (ls : Array Slot) (H : Heap) (locs : List Loc), n22 + i22 = 3 → lv_has ls 9 [(7, .int (nI i22)), (6, .int (nI 3)), (0, .ref h0), (1, .int (nI 1)), (4, .ref ms), (5, .ref ct)] → okx g T xs pl → va_P g.1 vcl ([] ++ pl) H → va_D A ([] ++ pl) → va_S A s.heap H locs → W p l e ({ frames := 5, cells := 0, slots := 0, locals := 126 } : Room) s m args below meth c H locs 0 0 (MQ below (va_Qv (fun (u : va_W) => (True) ∧ okx g T xs u) (po g.1 vcl A (fun (u : va_W) => [] ++ u)) A) args s 0 0 A) (F0 m 130 ls []) := by
        intro n22
        induction n22 with
        | zero =>
          intro i22 pl ls H locs hm22  hl hO hP hD hS
          refine lv_iload hx hb dME_encrypt_130 (lv_at hl 0 rfl) ?_
          refine lv_iload hx hb dME_encrypt_132 (lv_at hl 1 rfl) ?_
          refine mi_ge (tgt := 252) hx hb dME_encrypt_134 (by decide) (by omega) (by omega) (fun h22 => ?_) (fun h22 => absurd h22 (by omega))
          refine lv_aload_n hx hb dME_encrypt_252 rfl (lv_at hl 2 rfl) ?_
          refine ty_get (ci := 11) (C := "LatticeKeysModel$Secrets") (TT := T_ME) (N := 14) (kd := (23, 0)) hx hb hts (wg_ft i_ME) hown hK hO k_h0 (nxg hc0 k_h0 rfl) hP (fun _ h9 => h9) rfl 6 (by decide) (hts _ (wg_t kw_1385)) (fun _ h9 => h9) (cd := (3, 0, 256)) rfl dME_encrypt_253 (fun v21 hv21 => ?_)
          obtain ⟨r21, rfl, kr21⟩ := (show ∃ r : Nat, v21 = .ref r ∧ T r = some (0, 256) from hv21)
          refine mp_v (cx := []) (wr := []) hP hD hS hA [] [] rfl rfl rfl (by decide) (va_runS (As := [.ref r21]) (rest := []) F (t_ME_clear l g _ T xs pl hO hU hc0 r21 kr21) (va_cwS 1 hts (wg_app (wg_c kw_1819 (wg_c kw_1820 (wg_c kw_11 wg_n))) kw_1821) rfl rfl rfl (by decide +kernel) ⟨by decide, by decide⟩) (pp_S (en_ok g) hP hD hS hA hE [] rfl rfl) rfl rfl hl.1 rfl (lv_room (Nat.le_of_ble_eq_true rfl)) dME_encrypt_256 ⟨by omega, by omega⟩) (fun  pl H locs hu22 hP hD hS => ?_)
          obtain ⟨hq22, hO⟩ := hu22
          have hP : va_P g.1 vcl ([] ++ pl) _ := hP
          have hD : va_D _ ([] ++ pl) := hD
          refine W.widen (k := 0) (n := 0) (by omega) (by omega) ?_
          refine lv_iconst (v := nI 0) hx hb dME_encrypt_259 (by decide) ?_
          refine lv_istore (lv' := [(7, .int (nI 0)), (6, .int (nI 3)), (0, .ref h0), (1, .int (nI 1)), (4, .ref ms), (5, .ref ct)]) hx hb dME_encrypt_260 hl (by decide) rfl (fun ls hl => ?_)
          have lp23 : ∀ (n23 : Nat) (i23 : Nat) (pl : va_W) (ls : Array Slot) (H : Heap) (locs : List Loc), n23 + i23 = 3 → lv_has ls 9 [(7, .int (nI i23)), (6, .int (nI 3)), (0, .ref h0), (1, .int (nI 1)), (4, .ref ms), (5, .ref ct)] → okx g T xs pl → va_P g.1 vcl ([] ++ pl) H → va_D A ([] ++ pl) → va_S A s.heap H locs → W p l e ({ frames := 5, cells := 0, slots := 0, locals := 126 } : Room) s m args below meth c H locs 0 0 (MQ below (va_Qv (fun (u : va_W) => (True) ∧ okx g T xs u) (po g.1 vcl A (fun (u : va_W) => [] ++ u)) A) args s 0 0 A) (F0 m 262 ls []) := by
            intro n23
            induction n23 with
            | zero =>
              intro i23 pl ls H locs hm23  hl hO hP hD hS
              refine lv_iload hx hb dME_encrypt_262 (lv_at hl 0 rfl) ?_
              refine lv_iload hx hb dME_encrypt_264 (lv_at hl 1 rfl) ?_
              refine mi_ge (tgt := 297) hx hb dME_encrypt_266 (by decide) (by omega) (by omega) (fun h23 => ?_) (fun h23 => absurd h23 (by omega))
              refine lv_aload_n hx hb dME_encrypt_297 rfl (lv_at hl 2 rfl) ?_
              refine lv_aload_n hx hb dME_encrypt_298 rfl (lv_at hl 2 rfl) ?_
              refine ty_get (ci := 11) (C := "LatticeKeysModel$Secrets") (TT := T_ME) (N := 14) (kd := (23, 0)) hx hb hts (wg_ft i_ME) hown hK hO k_h0 (nxg hc0 k_h0 rfl) hP (fun _ h9 => h9) rfl 6 (by decide) (hts _ (wg_t kw_1385)) (fun _ h9 => h9) (cd := (3, 0, 256)) rfl dME_encrypt_299 (fun v22 hv22 => ?_)
              obtain ⟨r22, rfl, kr22⟩ := (show ∃ r : Nat, v22 = .ref r ∧ T r = some (0, 256) from hv22)
              refine mp_v (cx := []) (wr := []) hP hD hS hA [] [] rfl rfl rfl (by decide) (va_runV (As := [.ref r22]) (rest := []) F (t_ME_back l g _ T xs pl hO hU hc0 h0 r22 k_h0 kr22) (cwV 1 hts (wg_app (wg_c kw_1822 (wg_c kw_1824 (wg_c ks_69 (wg_c kw_11 wg_n)))) kw_1825) rfl rfl rfl (by decide +kernel) ⟨by decide, by decide⟩) (pp_VT (en_ok g) (ci := 11) (kd := (23, 0)) hK hO k_h0 (nxg hc0 k_h0 rfl) (fun _ h9 => ko1 h9) hP hD hS hA hE [] rfl rfl rfl) rfl rfl hl.1 rfl (lv_room (Nat.le_of_ble_eq_true rfl)) dME_encrypt_302 ⟨by omega, by omega⟩) (fun  pl H locs hu23 hP hD hS => ?_)
              obtain ⟨hq23, hO⟩ := hu23
              have hP : va_P g.1 vcl ([] ++ pl) _ := hP
              have hD : va_D _ ([] ++ pl) := hD
              refine W.widen (k := 0) (n := 0) (by omega) (by omega) ?_
              refine lv_aload_n hx hb dME_encrypt_305 rfl (lv_at hl 2 rfl) ?_
              refine lv_aload_n hx hb dME_encrypt_306 rfl (lv_at hl 2 rfl) ?_
              refine ty_get (ci := 11) (C := "LatticeKeysModel$Secrets") (TT := T_ME) (N := 14) (kd := (23, 0)) hx hb hts (wg_ft i_ME) hown hK hO k_h0 (nxg hc0 k_h0 rfl) hP (fun _ h9 => h9) rfl 7 (by decide) (hts _ (wg_t kw_1386)) (fun _ h9 => h9) (cd := (3, 0, 256)) rfl dME_encrypt_307 (fun v23 hv23 => ?_)
              obtain ⟨r23, rfl, kr23⟩ := (show ∃ r : Nat, v23 = .ref r ∧ T r = some (0, 256) from hv23)
              refine lv_aload_n hx hb dME_encrypt_310 rfl (lv_at hl 2 rfl) ?_
              refine ty_get (ci := 11) (C := "LatticeKeysModel$Secrets") (TT := T_ME) (N := 14) (kd := (23, 0)) hx hb hts (wg_ft i_ME) hown hK hO k_h0 (nxg hc0 k_h0 rfl) hP (fun _ h9 => h9) rfl 9 (by decide) (hts _ (wg_t kw_1388)) (fun _ h9 => h9) (cd := (3, 1, 64)) rfl dME_encrypt_311 (fun v24 hv24 => ?_)
              obtain ⟨r24, rfl, kr24⟩ := (show ∃ r : Nat, v24 = .ref r ∧ T r = some (1, 64) from hv24)
              refine lv_bipush (v := nI 32) hx hb dME_encrypt_314 (by decide) ?_
              refine lv_iconst (v := nI 2) hx hb dME_encrypt_316 (by decide) ?_
              refine lv_iload hx hb dME_encrypt_317 (lv_at hl 1 rfl) ?_
              refine mi_imul hx hb dME_encrypt_319 ?_
              refine mi_as (show nI (2 * 3) = nI 6 from rfl) ?_
              refine lv_iconst (v := nI 2) hx hb dME_encrypt_320 (by decide) ?_
              refine mp_v (cx := []) (wr := []) hP hD hS hA [] [] rfl rfl rfl (by decide) (va_runV (As := [.ref r23, .ref r24, .int (nI 32), .int (nI 6), .int (nI 2)]) (rest := []) F (t_ME_noise_2 l g _ T xs pl hO hU hc0 hc9 h0 r23 r24 64 32 (nI 6) k_h0 kr23 kr24 (by omega) (by omega)) (cwV 5 hts (wg_app (wg_c kw_1656 (wg_c kw_1658 (wg_c ks_56 (wg_c kw_11 wg_n)))) kw_1659) rfl rfl rfl (by decide +kernel) ⟨by decide, by decide⟩) (pp_VT (en_ok g) (ci := 11) (kd := (23, 0)) hK hO k_h0 (nxg hc0 k_h0 rfl) (fun _ h9 => ko1 h9) hP hD hS hA hE [] rfl rfl rfl) rfl rfl hl.1 rfl (lv_room (Nat.le_of_ble_eq_true rfl)) dME_encrypt_321 ⟨by omega, by omega⟩) (fun  pl H locs hu24 hP hD hS => ?_)
              obtain ⟨hq24, hO⟩ := hu24
              have hP : va_P g.1 vcl ([] ++ pl) _ := hP
              have hD : va_D _ ([] ++ pl) := hD
              refine W.widen (k := 0) (n := 0) (by omega) (by omega) ?_
              refine lv_aload_n hx hb dME_encrypt_324 rfl (lv_at hl 2 rfl) ?_
              refine ty_get (ci := 11) (C := "LatticeKeysModel$Secrets") (TT := T_ME) (N := 14) (kd := (23, 0)) hx hb hts (wg_ft i_ME) hown hK hO k_h0 (nxg hc0 k_h0 rfl) hP (fun _ h9 => h9) rfl 6 (by decide) (hts _ (wg_t kw_1385)) (fun _ h9 => h9) (cd := (3, 0, 256)) rfl dME_encrypt_325 (fun v25 hv25 => ?_)
              obtain ⟨r25, rfl, kr25⟩ := (show ∃ r : Nat, v25 = .ref r ∧ T r = some (0, 256) from hv25)
              refine lv_aload_n hx hb dME_encrypt_328 rfl (lv_at hl 2 rfl) ?_
              refine ty_get (ci := 11) (C := "LatticeKeysModel$Secrets") (TT := T_ME) (N := 14) (kd := (23, 0)) hx hb hts (wg_ft i_ME) hown hK hO k_h0 (nxg hc0 k_h0 rfl) hP (fun _ h9 => h9) rfl 7 (by decide) (hts _ (wg_t kw_1386)) (fun _ h9 => h9) (cd := (3, 0, 256)) rfl dME_encrypt_329 (fun v26 hv26 => ?_)
              obtain ⟨r26, rfl, kr26⟩ := (show ∃ r : Nat, v26 = .ref r ∧ T r = some (0, 256) from hv26)
              refine mp_v (cx := []) (wr := []) hP hD hS hA [] [] rfl rfl rfl (by decide) (va_runS (As := [.ref r25, .ref r26]) (rest := []) F (t_ME_plus l g _ T xs pl hO hU hc0 r25 r26 kr25 kr26) (va_cwS 2 hts (wg_app (wg_c kw_1827 (wg_c kw_1828 (wg_c kw_11 wg_n))) kw_1829) rfl rfl rfl (by decide +kernel) ⟨by decide, by decide⟩) (pp_S (en_ok g) hP hD hS hA hE [] rfl rfl) rfl rfl hl.1 rfl (lv_room (Nat.le_of_ble_eq_true rfl)) dME_encrypt_332 ⟨by omega, by omega⟩) (fun  pl H locs hu25 hP hD hS => ?_)
              obtain ⟨hq25, hO⟩ := hu25
              have hP : va_P g.1 vcl ([] ++ pl) _ := hP
              have hD : va_D _ ([] ++ pl) := hD
              refine W.widen (k := 0) (n := 0) (by omega) (by omega) ?_
              refine lv_aload hx hb dME_encrypt_335 (lv_at hl 4 rfl) ?_
              refine lv_iconst (v := nI 0) hx hb dME_encrypt_337 (by decide) ?_
              refine lv_iconst (v := nI 1) hx hb dME_encrypt_338 (by decide) ?_
              refine lv_aload_n hx hb dME_encrypt_339 rfl (lv_at hl 2 rfl) ?_
              refine ty_get (ci := 11) (C := "LatticeKeysModel$Secrets") (TT := T_ME) (N := 14) (kd := (23, 0)) hx hb hts (wg_ft i_ME) hown hK hO k_h0 (nxg hc0 k_h0 rfl) hP (fun _ h9 => h9) rfl 7 (by decide) (hts _ (wg_t kw_1386)) (fun _ h9 => h9) (cd := (3, 0, 256)) rfl dME_encrypt_340 (fun v27 hv27 => ?_)
              obtain ⟨r27, rfl, kr27⟩ := (show ∃ r : Nat, v27 = .ref r ∧ T r = some (0, 256) from hv27)
              refine mp_v (cx := []) (wr := []) hP hD hS hA [] [] rfl rfl rfl (by decide) (va_runS (As := [.ref ms, .int (nI 0), .int (nI 1), .ref r27]) (rest := []) F (t_ME_read_1 l g _ T xs pl hO hU hc0 ms r27 nm 0 k_ms kr27 (by omega) (by omega)) (va_cwS 4 hts (wg_app (wg_c kw_1813 (wg_c kw_1814 (wg_c kw_11 wg_n))) kw_1815) rfl rfl rfl (by decide +kernel) ⟨by decide, by decide⟩) (pp_S (en_ok g) hP hD hS hA hE [] rfl rfl) rfl rfl hl.1 rfl (lv_room (Nat.le_of_ble_eq_true rfl)) dME_encrypt_343 ⟨by omega, by omega⟩) (fun  pl H locs hu26 hP hD hS => ?_)
              obtain ⟨hq26, hO⟩ := hu26
              have hP : va_P g.1 vcl ([] ++ pl) _ := hP
              have hD : va_D _ ([] ++ pl) := hD
              refine W.widen (k := 0) (n := 0) (by omega) (by omega) ?_
              refine lv_aload_n hx hb dME_encrypt_346 rfl (lv_at hl 2 rfl) ?_
              refine ty_get (ci := 11) (C := "LatticeKeysModel$Secrets") (TT := T_ME) (N := 14) (kd := (23, 0)) hx hb hts (wg_ft i_ME) hown hK hO k_h0 (nxg hc0 k_h0 rfl) hP (fun _ h9 => h9) rfl 7 (by decide) (hts _ (wg_t kw_1386)) (fun _ h9 => h9) (cd := (3, 0, 256)) rfl dME_encrypt_347 (fun v28 hv28 => ?_)
              obtain ⟨r28, rfl, kr28⟩ := (show ∃ r : Nat, v28 = .ref r ∧ T r = some (0, 256) from hv28)
              refine lv_iconst (v := nI 1) hx hb dME_encrypt_350 (by decide) ?_
              refine mp_v (cx := []) (wr := []) hP hD hS hA [] [] rfl rfl rfl (by decide) (va_runS (As := [.ref r28, .int (nI 1)]) (rest := []) F (t_ME_more_1 l g _ T xs pl hO hU hc0 r28 kr28) (va_cwS 2 hts (wg_app (wg_c kw_1835 (wg_c kw_1836 (wg_c kw_11 wg_n))) kw_1837) rfl rfl rfl (by decide +kernel) ⟨by decide, by decide⟩) (pp_S (en_ok g) hP hD hS hA hE [] rfl rfl) rfl rfl hl.1 rfl (lv_room (Nat.le_of_ble_eq_true rfl)) dME_encrypt_351 ⟨by omega, by omega⟩) (fun  pl H locs hu27 hP hD hS => ?_)
              obtain ⟨hq27, hO⟩ := hu27
              have hP : va_P g.1 vcl ([] ++ pl) _ := hP
              have hD : va_D _ ([] ++ pl) := hD
              refine W.widen (k := 0) (n := 0) (by omega) (by omega) ?_
              refine lv_aload_n hx hb dME_encrypt_354 rfl (lv_at hl 2 rfl) ?_
              refine ty_get (ci := 11) (C := "LatticeKeysModel$Secrets") (TT := T_ME) (N := 14) (kd := (23, 0)) hx hb hts (wg_ft i_ME) hown hK hO k_h0 (nxg hc0 k_h0 rfl) hP (fun _ h9 => h9) rfl 6 (by decide) (hts _ (wg_t kw_1385)) (fun _ h9 => h9) (cd := (3, 0, 256)) rfl dME_encrypt_355 (fun v29 hv29 => ?_)
              obtain ⟨r29, rfl, kr29⟩ := (show ∃ r : Nat, v29 = .ref r ∧ T r = some (0, 256) from hv29)
              refine lv_aload_n hx hb dME_encrypt_358 rfl (lv_at hl 2 rfl) ?_
              refine ty_get (ci := 11) (C := "LatticeKeysModel$Secrets") (TT := T_ME) (N := 14) (kd := (23, 0)) hx hb hts (wg_ft i_ME) hown hK hO k_h0 (nxg hc0 k_h0 rfl) hP (fun _ h9 => h9) rfl 7 (by decide) (hts _ (wg_t kw_1386)) (fun _ h9 => h9) (cd := (3, 0, 256)) rfl dME_encrypt_359 (fun v30 hv30 => ?_)
              obtain ⟨r30, rfl, kr30⟩ := (show ∃ r : Nat, v30 = .ref r ∧ T r = some (0, 256) from hv30)
              refine mp_v (cx := []) (wr := []) hP hD hS hA [] [] rfl rfl rfl (by decide) (va_runS (As := [.ref r29, .ref r30]) (rest := []) F (t_ME_plus l g _ T xs pl hO hU hc0 r29 r30 kr29 kr30) (va_cwS 2 hts (wg_app (wg_c kw_1827 (wg_c kw_1828 (wg_c kw_11 wg_n))) kw_1829) rfl rfl rfl (by decide +kernel) ⟨by decide, by decide⟩) (pp_S (en_ok g) hP hD hS hA hE [] rfl rfl) rfl rfl hl.1 rfl (lv_room (Nat.le_of_ble_eq_true rfl)) dME_encrypt_362 ⟨by omega, by omega⟩) (fun  pl H locs hu28 hP hD hS => ?_)
              obtain ⟨hq28, hO⟩ := hu28
              have hP : va_P g.1 vcl ([] ++ pl) _ := hP
              have hD : va_D _ ([] ++ pl) := hD
              refine W.widen (k := 0) (n := 0) (by omega) (by omega) ?_
              refine lv_aload_n hx hb dME_encrypt_365 rfl (lv_at hl 2 rfl) ?_
              refine ty_get (ci := 11) (C := "LatticeKeysModel$Secrets") (TT := T_ME) (N := 14) (kd := (23, 0)) hx hb hts (wg_ft i_ME) hown hK hO k_h0 (nxg hc0 k_h0 rfl) hP (fun _ h9 => h9) rfl 6 (by decide) (hts _ (wg_t kw_1385)) (fun _ h9 => h9) (cd := (3, 0, 256)) rfl dME_encrypt_366 (fun v31 hv31 => ?_)
              obtain ⟨r31, rfl, kr31⟩ := (show ∃ r : Nat, v31 = .ref r ∧ T r = some (0, 256) from hv31)
              refine va_gets hx hb (hE.2.1 22 _ rfl).1 hS hown (hts _ (wg_t kw_1838)) (fun _ h9 => h9) dME_encrypt_369 ?_
              refine lv_iload_n hx hb dME_encrypt_372 rfl (lv_at hl 3 rfl) ?_
              refine va_ti (v := .int (nI 4)) hx hb (hE.2.1 22 _ rfl).2 hS (vp_in_nI (by decide) (by decide)) (by decide +kernel) dME_encrypt_373 ?_
              refine mp_v (cx := []) (wr := []) hP hD hS hA [] [] rfl rfl rfl (by decide) (va_runS (As := [.ref r31, .int (nI 4)]) (rest := []) F (t_ME_less_4 l g _ T xs pl hO hU hc0 r31 kr31) (va_cwS 2 hts (wg_app (wg_c kw_1832 (wg_c kw_1833 (wg_c kw_11 wg_n))) kw_1834) rfl rfl rfl (by decide +kernel) ⟨by decide, by decide⟩) (pp_S (en_ok g) hP hD hS hA hE [] rfl rfl) rfl rfl hl.1 rfl (lv_room (Nat.le_of_ble_eq_true rfl)) dME_encrypt_374 ⟨by omega, by omega⟩) (fun  pl H locs hu29 hP hD hS => ?_)
              obtain ⟨hq29, hO⟩ := hu29
              have hP : va_P g.1 vcl ([] ++ pl) _ := hP
              have hD : va_D _ ([] ++ pl) := hD
              refine W.widen (k := 0) (n := 0) (by omega) (by omega) ?_
              refine lv_aload_n hx hb dME_encrypt_377 rfl (lv_at hl 2 rfl) ?_
              refine ty_get (ci := 11) (C := "LatticeKeysModel$Secrets") (TT := T_ME) (N := 14) (kd := (23, 0)) hx hb hts (wg_ft i_ME) hown hK hO k_h0 (nxg hc0 k_h0 rfl) hP (fun _ h9 => h9) rfl 6 (by decide) (hts _ (wg_t kw_1385)) (fun _ h9 => h9) (cd := (3, 0, 256)) rfl dME_encrypt_378 (fun v32 hv32 => ?_)
              obtain ⟨r32, rfl, kr32⟩ := (show ∃ r : Nat, v32 = .ref r ∧ T r = some (0, 256) from hv32)
              refine lv_aload hx hb dME_encrypt_381 (lv_at hl 5 rfl) ?_
              refine lv_bipush (v := nI 32) hx hb dME_encrypt_383 (by decide) ?_
              refine va_gets hx hb (hE.2.1 21 _ rfl).1 hS hown (hts _ (wg_t kw_1830)) (fun _ h9 => h9) dME_encrypt_385 ?_
              refine lv_iload_n hx hb dME_encrypt_388 rfl (lv_at hl 3 rfl) ?_
              refine va_ti (v := .int (nI 10)) hx hb (hE.2.1 21 _ rfl).2 hS (vp_in_nI (by decide) (by decide)) (by decide +kernel) dME_encrypt_389 ?_
              refine mi_imul hx hb dME_encrypt_390 ?_
              refine mi_as (show nI (32 * 10) = nI 320 from rfl) ?_
              refine lv_iload hx hb dME_encrypt_391 (lv_at hl 1 rfl) ?_
              refine mi_imul hx hb dME_encrypt_393 ?_
              refine mi_as (show nI (320 * 3) = nI 960 from rfl) ?_
              refine va_gets hx hb (hE.2.1 22 _ rfl).1 hS hown (hts _ (wg_t kw_1838)) (fun _ h9 => h9) dME_encrypt_394 ?_
              refine lv_iload_n hx hb dME_encrypt_397 rfl (lv_at hl 3 rfl) ?_
              refine va_ti (v := .int (nI 4)) hx hb (hE.2.1 22 _ rfl).2 hS (vp_in_nI (by decide) (by decide)) (by decide +kernel) dME_encrypt_398 ?_
              refine mp_v (cx := []) (wr := []) hP hD hS hA [] [] rfl rfl rfl (by decide) (va_runS (As := [.ref r32, .ref ct, .int (nI 960), .int (nI 4)]) (rest := []) F (t_ME_write_4 l g _ T xs pl hO hU hc0 r32 ct nc 960 kr32 k_ct (by omega) (by omega)) (va_cwS 4 hts (wg_app (wg_c kw_1685 (wg_c kw_1686 (wg_c kw_11 wg_n))) kw_1687) rfl rfl rfl (by decide +kernel) ⟨by decide, by decide⟩) (pp_S (en_ok g) hP hD hS hA hE [] rfl rfl) rfl rfl hl.1 rfl (lv_room (Nat.le_of_ble_eq_true rfl)) dME_encrypt_399 ⟨by omega, by omega⟩) (fun  pl H locs hu30 hP hD hS => ?_)
              obtain ⟨hq30, hO⟩ := hu30
              have hP : va_P g.1 vcl ([] ++ pl) _ := hP
              have hD : va_D _ ([] ++ pl) := hD
              refine W.widen (k := 0) (n := 0) (by omega) (by omega) ?_
              exact mp_vret hx hb hr hlk hP hD hS pl ⟨trivial, hO⟩ [] rfl rfl rfl (by omega) (by omega) dME_encrypt_402
            | succ n23 ih23 =>
              intro i23 pl ls H locs hm23  hl hO hP hD hS
              refine lv_iload hx hb dME_encrypt_262 (lv_at hl 0 rfl) ?_
              refine lv_iload hx hb dME_encrypt_264 (lv_at hl 1 rfl) ?_
              refine mi_ge (tgt := 297) hx hb dME_encrypt_266 (by decide) (by omega) (by omega) (fun h24 => absurd h24 (by omega)) (fun h24 => ?_)
              refine lv_aload_n hx hb dME_encrypt_269 rfl (lv_at hl 2 rfl) ?_
              refine lv_aload_n hx hb dME_encrypt_270 rfl (lv_at hl 2 rfl) ?_
              refine ty_get (ci := 11) (C := "LatticeKeysModel$Secrets") (TT := T_ME) (N := 14) (kd := (23, 0)) hx hb hts (wg_ft i_ME) hown hK hO k_h0 (nxg hc0 k_h0 rfl) hP (fun _ h9 => h9) rfl 5 (by decide) (hts _ (wg_t kw_1384)) (fun _ h9 => h9) (cd := (3, 3, 4)) rfl dME_encrypt_271 (fun v33 hv33 => ?_)
              obtain ⟨r33, rfl, kr33⟩ := (show ∃ r : Nat, v33 = .ref r ∧ T r = some (3, 4) from hv33)
              refine lv_iload hx hb dME_encrypt_274 (lv_at hl 0 rfl) ?_
              refine ty_aald3 hx hb hK hO kr33 (nxg hc0 kr33 rfl) hP (by omega) (by decide) dME_encrypt_276 (fun r34 kr34 => ?_)
              refine lv_aload_n hx hb dME_encrypt_277 rfl (lv_at hl 2 rfl) ?_
              refine ty_get (ci := 11) (C := "LatticeKeysModel$Secrets") (TT := T_ME) (N := 14) (kd := (23, 0)) hx hb hts (wg_ft i_ME) hown hK hO k_h0 (nxg hc0 k_h0 rfl) hP (fun _ h9 => h9) rfl 3 (by decide) (hts _ (wg_t kw_1382)) (fun _ h9 => h9) (cd := (3, 3, 4)) rfl dME_encrypt_278 (fun v34 hv34 => ?_)
              obtain ⟨r35, rfl, kr35⟩ := (show ∃ r : Nat, v34 = .ref r ∧ T r = some (3, 4) from hv34)
              refine lv_iload hx hb dME_encrypt_281 (lv_at hl 0 rfl) ?_
              refine ty_aald3 hx hb hK hO kr35 (nxg hc0 kr35 rfl) hP (by omega) (by decide) dME_encrypt_283 (fun r36 kr36 => ?_)
              refine lv_aload_n hx hb dME_encrypt_284 rfl (lv_at hl 2 rfl) ?_
              refine ty_get (ci := 11) (C := "LatticeKeysModel$Secrets") (TT := T_ME) (N := 14) (kd := (23, 0)) hx hb hts (wg_ft i_ME) hown hK hO k_h0 (nxg hc0 k_h0 rfl) hP (fun _ h9 => h9) rfl 6 (by decide) (hts _ (wg_t kw_1385)) (fun _ h9 => h9) (cd := (3, 0, 256)) rfl dME_encrypt_285 (fun v35 hv35 => ?_)
              obtain ⟨r37, rfl, kr37⟩ := (show ∃ r : Nat, v35 = .ref r ∧ T r = some (0, 256) from hv35)
              refine mp_v (cx := []) (wr := []) hP hD hS hA [] [] rfl rfl rfl (by decide) (va_runV (As := [.ref r34, .ref r36, .ref r37]) (rest := []) F (t_ME_product l g _ T xs pl hO hU hc0 h0 r34 r36 r37 k_h0 kr34 kr36 kr37) (cwV 3 hts (wg_app (wg_c kw_1676 (wg_c kw_1678 (wg_c ks_58 (wg_c kw_11 wg_n)))) kw_1679) rfl rfl rfl (by decide +kernel) ⟨by decide, by decide⟩) (pp_VT (en_ok g) (ci := 11) (kd := (23, 0)) hK hO k_h0 (nxg hc0 k_h0 rfl) (fun _ h9 => ko1 h9) hP hD hS hA hE [] rfl rfl rfl) rfl rfl hl.1 rfl (lv_room (Nat.le_of_ble_eq_true rfl)) dME_encrypt_288 ⟨by omega, by omega⟩) (fun  pl H locs hu31 hP hD hS => ?_)
              obtain ⟨hq31, hO⟩ := hu31
              have hP : va_P g.1 vcl ([] ++ pl) _ := hP
              have hD : va_D _ ([] ++ pl) := hD
              refine W.widen (k := 0) (n := 0) (by omega) (by omega) ?_
              refine mi_iinc (k := 0) (x := i23) (d := 1) (y := i23 + 1) (lv' := [(7, .int (nI (i23 + 1))), (6, .int (nI 3)), (0, .ref h0), (1, .int (nI 1)), (4, .ref ms), (5, .ref ct)]) hx hb dME_encrypt_291 hl rfl (by decide) rfl (by decide) rfl (fun ls hl => ?_)
              refine lv_goto (tgt := 262) hx hb dME_encrypt_294 (by decide) ?_
              exact ih23 (i23 + 1) pl ls H locs (by omega) (lv_sub hl [0, 1, 2, 3, 4, 5] rfl) hO hP hD hS
          exact lp23 3 0 pl ls _ _ (by omega) (lv_sub hl [0, 1, 2, 3, 4, 5] rfl) hO hP hD hS
        | succ n22 ih22 =>
          intro i22 pl ls H locs hm22  hl hO hP hD hS
          refine lv_iload hx hb dME_encrypt_130 (lv_at hl 0 rfl) ?_
          refine lv_iload hx hb dME_encrypt_132 (lv_at hl 1 rfl) ?_
          refine mi_ge (tgt := 252) hx hb dME_encrypt_134 (by decide) (by omega) (by omega) (fun h25 => absurd h25 (by omega)) (fun h25 => ?_)
          refine lv_aload_n hx hb dME_encrypt_137 rfl (lv_at hl 2 rfl) ?_
          refine ty_get (ci := 11) (C := "LatticeKeysModel$Secrets") (TT := T_ME) (N := 14) (kd := (23, 0)) hx hb hts (wg_ft i_ME) hown hK hO k_h0 (nxg hc0 k_h0 rfl) hP (fun _ h9 => h9) rfl 6 (by decide) (hts _ (wg_t kw_1385)) (fun _ h9 => h9) (cd := (3, 0, 256)) rfl dME_encrypt_138 (fun v36 hv36 => ?_)
          obtain ⟨r38, rfl, kr38⟩ := (show ∃ r : Nat, v36 = .ref r ∧ T r = some (0, 256) from hv36)
          refine mp_v (cx := []) (wr := []) hP hD hS hA [] [] rfl rfl rfl (by decide) (va_runS (As := [.ref r38]) (rest := []) F (t_ME_clear l g _ T xs pl hO hU hc0 r38 kr38) (va_cwS 1 hts (wg_app (wg_c kw_1819 (wg_c kw_1820 (wg_c kw_11 wg_n))) kw_1821) rfl rfl rfl (by decide +kernel) ⟨by decide, by decide⟩) (pp_S (en_ok g) hP hD hS hA hE [] rfl rfl) rfl rfl hl.1 rfl (lv_room (Nat.le_of_ble_eq_true rfl)) dME_encrypt_141 ⟨by omega, by omega⟩) (fun  pl H locs hu32 hP hD hS => ?_)
          obtain ⟨hq32, hO⟩ := hu32
          have hP : va_P g.1 vcl ([] ++ pl) _ := hP
          have hD : va_D _ ([] ++ pl) := hD
          refine W.widen (k := 0) (n := 0) (by omega) (by omega) ?_
          refine lv_iconst (v := nI 0) hx hb dME_encrypt_144 (by decide) ?_
          refine lv_istore (lv' := [(8, .int (nI 0)), (7, .int (nI i22)), (6, .int (nI 3)), (0, .ref h0), (1, .int (nI 1)), (4, .ref ms), (5, .ref ct)]) hx hb dME_encrypt_145 hl (by decide) rfl (fun ls hl => ?_)
          have lp24 : ∀ (n24 : Nat) (i24 : Nat) (pl : va_W) (ls : Array Slot) (H : Heap) (locs : List Loc), n24 + i24 = 3 → lv_has ls 9 [(8, .int (nI i24)), (7, .int (nI i22)), (6, .int (nI 3)), (0, .ref h0), (1, .int (nI 1)), (4, .ref ms), (5, .ref ct)] → okx g T xs pl → va_P g.1 vcl ([] ++ pl) H → va_D A ([] ++ pl) → va_S A s.heap H locs → W p l e ({ frames := 5, cells := 0, slots := 0, locals := 126 } : Room) s m args below meth c H locs 0 0 (MQ below (va_Qv (fun (u : va_W) => (True) ∧ okx g T xs u) (po g.1 vcl A (fun (u : va_W) => [] ++ u)) A) args s 0 0 A) (F0 m 147 ls []) := by
            intro n24
            induction n24 with
            | zero =>
              intro i24 pl ls H locs hm24  hl hO hP hD hS
              refine lv_iload hx hb dME_encrypt_147 (lv_at hl 0 rfl) ?_
              refine lv_iload hx hb dME_encrypt_149 (lv_at hl 2 rfl) ?_
              refine mi_ge (tgt := 187) hx hb dME_encrypt_151 (by decide) (by omega) (by omega) (fun h26 => ?_) (fun h26 => absurd h26 (by omega))
              refine lv_aload_n hx hb dME_encrypt_187 rfl (lv_at hl 3 rfl) ?_
              refine lv_aload_n hx hb dME_encrypt_188 rfl (lv_at hl 3 rfl) ?_
              refine ty_get (ci := 11) (C := "LatticeKeysModel$Secrets") (TT := T_ME) (N := 14) (kd := (23, 0)) hx hb hts (wg_ft i_ME) hown hK hO k_h0 (nxg hc0 k_h0 rfl) hP (fun _ h9 => h9) rfl 6 (by decide) (hts _ (wg_t kw_1385)) (fun _ h9 => h9) (cd := (3, 0, 256)) rfl dME_encrypt_189 (fun v37 hv37 => ?_)
              obtain ⟨r39, rfl, kr39⟩ := (show ∃ r : Nat, v37 = .ref r ∧ T r = some (0, 256) from hv37)
              refine mp_v (cx := []) (wr := []) hP hD hS hA [] [] rfl rfl rfl (by decide) (va_runV (As := [.ref r39]) (rest := []) F (t_ME_back l g _ T xs pl hO hU hc0 h0 r39 k_h0 kr39) (cwV 1 hts (wg_app (wg_c kw_1822 (wg_c kw_1824 (wg_c ks_69 (wg_c kw_11 wg_n)))) kw_1825) rfl rfl rfl (by decide +kernel) ⟨by decide, by decide⟩) (pp_VT (en_ok g) (ci := 11) (kd := (23, 0)) hK hO k_h0 (nxg hc0 k_h0 rfl) (fun _ h9 => ko1 h9) hP hD hS hA hE [] rfl rfl rfl) rfl rfl hl.1 rfl (lv_room (Nat.le_of_ble_eq_true rfl)) dME_encrypt_192 ⟨by omega, by omega⟩) (fun  pl H locs hu33 hP hD hS => ?_)
              obtain ⟨hq33, hO⟩ := hu33
              have hP : va_P g.1 vcl ([] ++ pl) _ := hP
              have hD : va_D _ ([] ++ pl) := hD
              refine W.widen (k := 0) (n := 0) (by omega) (by omega) ?_
              refine lv_aload_n hx hb dME_encrypt_195 rfl (lv_at hl 3 rfl) ?_
              refine ty_get (ci := 11) (C := "LatticeKeysModel$Secrets") (TT := T_ME) (N := 14) (kd := (23, 0)) hx hb hts (wg_ft i_ME) hown hK hO k_h0 (nxg hc0 k_h0 rfl) hP (fun _ h9 => h9) rfl 6 (by decide) (hts _ (wg_t kw_1385)) (fun _ h9 => h9) (cd := (3, 0, 256)) rfl dME_encrypt_196 (fun v38 hv38 => ?_)
              obtain ⟨r40, rfl, kr40⟩ := (show ∃ r : Nat, v38 = .ref r ∧ T r = some (0, 256) from hv38)
              refine lv_aload_n hx hb dME_encrypt_199 rfl (lv_at hl 3 rfl) ?_
              refine ty_get (ci := 11) (C := "LatticeKeysModel$Secrets") (TT := T_ME) (N := 14) (kd := (23, 0)) hx hb hts (wg_ft i_ME) hown hK hO k_h0 (nxg hc0 k_h0 rfl) hP (fun _ h9 => h9) rfl 4 (by decide) (hts _ (wg_t kw_1383)) (fun _ h9 => h9) (cd := (3, 3, 4)) rfl dME_encrypt_200 (fun v39 hv39 => ?_)
              obtain ⟨r41, rfl, kr41⟩ := (show ∃ r : Nat, v39 = .ref r ∧ T r = some (3, 4) from hv39)
              refine lv_iload hx hb dME_encrypt_203 (lv_at hl 1 rfl) ?_
              refine ty_aald3 hx hb hK hO kr41 (nxg hc0 kr41 rfl) hP (by omega) (by decide) dME_encrypt_205 (fun r42 kr42 => ?_)
              refine mp_v (cx := []) (wr := []) hP hD hS hA [] [] rfl rfl rfl (by decide) (va_runS (As := [.ref r40, .ref r42]) (rest := []) F (t_ME_plus l g _ T xs pl hO hU hc0 r40 r42 kr40 kr42) (va_cwS 2 hts (wg_app (wg_c kw_1827 (wg_c kw_1828 (wg_c kw_11 wg_n))) kw_1829) rfl rfl rfl (by decide +kernel) ⟨by decide, by decide⟩) (pp_S (en_ok g) hP hD hS hA hE [] rfl rfl) rfl rfl hl.1 rfl (lv_room (Nat.le_of_ble_eq_true rfl)) dME_encrypt_206 ⟨by omega, by omega⟩) (fun  pl H locs hu34 hP hD hS => ?_)
              obtain ⟨hq34, hO⟩ := hu34
              have hP : va_P g.1 vcl ([] ++ pl) _ := hP
              have hD : va_D _ ([] ++ pl) := hD
              refine W.widen (k := 0) (n := 0) (by omega) (by omega) ?_
              refine lv_aload_n hx hb dME_encrypt_209 rfl (lv_at hl 3 rfl) ?_
              refine ty_get (ci := 11) (C := "LatticeKeysModel$Secrets") (TT := T_ME) (N := 14) (kd := (23, 0)) hx hb hts (wg_ft i_ME) hown hK hO k_h0 (nxg hc0 k_h0 rfl) hP (fun _ h9 => h9) rfl 6 (by decide) (hts _ (wg_t kw_1385)) (fun _ h9 => h9) (cd := (3, 0, 256)) rfl dME_encrypt_210 (fun v40 hv40 => ?_)
              obtain ⟨r43, rfl, kr43⟩ := (show ∃ r : Nat, v40 = .ref r ∧ T r = some (0, 256) from hv40)
              refine va_gets hx hb (hE.2.1 21 _ rfl).1 hS hown (hts _ (wg_t kw_1830)) (fun _ h9 => h9) dME_encrypt_213 ?_
              refine lv_iload_n hx hb dME_encrypt_216 rfl (lv_at hl 4 rfl) ?_
              refine va_ti (v := .int (nI 10)) hx hb (hE.2.1 21 _ rfl).2 hS (vp_in_nI (by decide) (by decide)) (by decide +kernel) dME_encrypt_217 ?_
              refine mp_v (cx := []) (wr := []) hP hD hS hA [] [] rfl rfl rfl (by decide) (va_runS (As := [.ref r43, .int (nI 10)]) (rest := []) F (t_ME_less_10 l g _ T xs pl hO hU hc0 r43 kr43) (va_cwS 2 hts (wg_app (wg_c kw_1832 (wg_c kw_1833 (wg_c kw_11 wg_n))) kw_1834) rfl rfl rfl (by decide +kernel) ⟨by decide, by decide⟩) (pp_S (en_ok g) hP hD hS hA hE [] rfl rfl) rfl rfl hl.1 rfl (lv_room (Nat.le_of_ble_eq_true rfl)) dME_encrypt_218 ⟨by omega, by omega⟩) (fun  pl H locs hu35 hP hD hS => ?_)
              obtain ⟨hq35, hO⟩ := hu35
              have hP : va_P g.1 vcl ([] ++ pl) _ := hP
              have hD : va_D _ ([] ++ pl) := hD
              refine W.widen (k := 0) (n := 0) (by omega) (by omega) ?_
              refine lv_aload_n hx hb dME_encrypt_221 rfl (lv_at hl 3 rfl) ?_
              refine ty_get (ci := 11) (C := "LatticeKeysModel$Secrets") (TT := T_ME) (N := 14) (kd := (23, 0)) hx hb hts (wg_ft i_ME) hown hK hO k_h0 (nxg hc0 k_h0 rfl) hP (fun _ h9 => h9) rfl 6 (by decide) (hts _ (wg_t kw_1385)) (fun _ h9 => h9) (cd := (3, 0, 256)) rfl dME_encrypt_222 (fun v41 hv41 => ?_)
              obtain ⟨r44, rfl, kr44⟩ := (show ∃ r : Nat, v41 = .ref r ∧ T r = some (0, 256) from hv41)
              refine lv_aload hx hb dME_encrypt_225 (lv_at hl 6 rfl) ?_
              refine lv_bipush (v := nI 32) hx hb dME_encrypt_227 (by decide) ?_
              refine va_gets hx hb (hE.2.1 21 _ rfl).1 hS hown (hts _ (wg_t kw_1830)) (fun _ h9 => h9) dME_encrypt_229 ?_
              refine lv_iload_n hx hb dME_encrypt_232 rfl (lv_at hl 4 rfl) ?_
              refine va_ti (v := .int (nI 10)) hx hb (hE.2.1 21 _ rfl).2 hS (vp_in_nI (by decide) (by decide)) (by decide +kernel) dME_encrypt_233 ?_
              refine mi_imul hx hb dME_encrypt_234 ?_
              refine mi_as (show nI (32 * 10) = nI 320 from rfl) ?_
              refine lv_iload hx hb dME_encrypt_235 (lv_at hl 1 rfl) ?_
              refine mi_imul hx hb dME_encrypt_237 ?_
              refine va_gets hx hb (hE.2.1 21 _ rfl).1 hS hown (hts _ (wg_t kw_1830)) (fun _ h9 => h9) dME_encrypt_238 ?_
              refine lv_iload_n hx hb dME_encrypt_241 rfl (lv_at hl 4 rfl) ?_
              refine va_ti (v := .int (nI 10)) hx hb (hE.2.1 21 _ rfl).2 hS (vp_in_nI (by decide) (by decide)) (by decide +kernel) dME_encrypt_242 ?_
              refine mp_v (cx := []) (wr := []) hP hD hS hA [] [] rfl rfl rfl (by decide) (va_runS (As := [.ref r44, .ref ct, .int (nI (320 * i22)), .int (nI 10)]) (rest := []) F (t_ME_write_10 l g _ T xs pl hO hU hc0 r44 ct nc (320 * i22) kr44 k_ct (by omega) (by omega)) (va_cwS 4 hts (wg_app (wg_c kw_1685 (wg_c kw_1686 (wg_c kw_11 wg_n))) kw_1687) rfl rfl rfl (by decide +kernel) ⟨by decide, by decide⟩) (pp_S (en_ok g) hP hD hS hA hE [] rfl rfl) rfl rfl hl.1 rfl (lv_room (Nat.le_of_ble_eq_true rfl)) dME_encrypt_243 ⟨by omega, by omega⟩) (fun  pl H locs hu36 hP hD hS => ?_)
              obtain ⟨hq36, hO⟩ := hu36
              have hP : va_P g.1 vcl ([] ++ pl) _ := hP
              have hD : va_D _ ([] ++ pl) := hD
              refine W.widen (k := 0) (n := 0) (by omega) (by omega) ?_
              refine mi_iinc (k := 1) (x := i22) (d := 1) (y := i22 + 1) (lv' := [(7, .int (nI (i22 + 1))), (8, .int (nI i24)), (6, .int (nI 3)), (0, .ref h0), (1, .int (nI 1)), (4, .ref ms), (5, .ref ct)]) hx hb dME_encrypt_246 hl rfl (by decide) rfl (by decide) rfl (fun ls hl => ?_)
              refine lv_goto (tgt := 130) hx hb dME_encrypt_249 (by decide) ?_
              exact ih22 (i22 + 1) pl ls H locs (by omega) (lv_sub hl [0, 2, 3, 4, 5, 6] rfl) hO hP hD hS
            | succ n24 ih24 =>
              intro i24 pl ls H locs hm24  hl hO hP hD hS
              refine lv_iload hx hb dME_encrypt_147 (lv_at hl 0 rfl) ?_
              refine lv_iload hx hb dME_encrypt_149 (lv_at hl 2 rfl) ?_
              refine mi_ge (tgt := 187) hx hb dME_encrypt_151 (by decide) (by omega) (by omega) (fun h27 => absurd h27 (by omega)) (fun h27 => ?_)
              refine lv_aload_n hx hb dME_encrypt_154 rfl (lv_at hl 3 rfl) ?_
              refine lv_aload_n hx hb dME_encrypt_155 rfl (lv_at hl 3 rfl) ?_
              refine ty_get (ci := 11) (C := "LatticeKeysModel$Secrets") (TT := T_ME) (N := 14) (kd := (23, 0)) hx hb hts (wg_ft i_ME) hown hK hO k_h0 (nxg hc0 k_h0 rfl) hP (fun _ h9 => h9) rfl 2 (by decide) (hts _ (wg_t kw_1381)) (fun _ h9 => h9) (cd := (3, 3, 16)) rfl dME_encrypt_156 (fun v42 hv42 => ?_)
              obtain ⟨r45, rfl, kr45⟩ := (show ∃ r : Nat, v42 = .ref r ∧ T r = some (3, 16) from hv42)
              refine lv_iconst (v := nI 4) hx hb dME_encrypt_159 (by decide) ?_
              refine lv_iload hx hb dME_encrypt_160 (lv_at hl 0 rfl) ?_
              refine mi_imul hx hb dME_encrypt_162 ?_
              refine lv_iload hx hb dME_encrypt_163 (lv_at hl 1 rfl) ?_
              refine mi_iadd hx hb dME_encrypt_165 ?_
              refine ty_aald3 hx hb hK hO kr45 (nxg hc0 kr45 rfl) hP (by omega) (by decide) dME_encrypt_166 (fun r46 kr46 => ?_)
              refine lv_aload_n hx hb dME_encrypt_167 rfl (lv_at hl 3 rfl) ?_
              refine ty_get (ci := 11) (C := "LatticeKeysModel$Secrets") (TT := T_ME) (N := 14) (kd := (23, 0)) hx hb hts (wg_ft i_ME) hown hK hO k_h0 (nxg hc0 k_h0 rfl) hP (fun _ h9 => h9) rfl 3 (by decide) (hts _ (wg_t kw_1382)) (fun _ h9 => h9) (cd := (3, 3, 4)) rfl dME_encrypt_168 (fun v43 hv43 => ?_)
              obtain ⟨r47, rfl, kr47⟩ := (show ∃ r : Nat, v43 = .ref r ∧ T r = some (3, 4) from hv43)
              refine lv_iload hx hb dME_encrypt_171 (lv_at hl 0 rfl) ?_
              refine ty_aald3 hx hb hK hO kr47 (nxg hc0 kr47 rfl) hP (by omega) (by decide) dME_encrypt_173 (fun r48 kr48 => ?_)
              refine lv_aload_n hx hb dME_encrypt_174 rfl (lv_at hl 3 rfl) ?_
              refine ty_get (ci := 11) (C := "LatticeKeysModel$Secrets") (TT := T_ME) (N := 14) (kd := (23, 0)) hx hb hts (wg_ft i_ME) hown hK hO k_h0 (nxg hc0 k_h0 rfl) hP (fun _ h9 => h9) rfl 6 (by decide) (hts _ (wg_t kw_1385)) (fun _ h9 => h9) (cd := (3, 0, 256)) rfl dME_encrypt_175 (fun v44 hv44 => ?_)
              obtain ⟨r49, rfl, kr49⟩ := (show ∃ r : Nat, v44 = .ref r ∧ T r = some (0, 256) from hv44)
              refine mp_v (cx := []) (wr := []) hP hD hS hA [] [] rfl rfl rfl (by decide) (va_runV (As := [.ref r46, .ref r48, .ref r49]) (rest := []) F (t_ME_product l g _ T xs pl hO hU hc0 h0 r46 r48 r49 k_h0 kr46 kr48 kr49) (cwV 3 hts (wg_app (wg_c kw_1676 (wg_c kw_1678 (wg_c ks_58 (wg_c kw_11 wg_n)))) kw_1679) rfl rfl rfl (by decide +kernel) ⟨by decide, by decide⟩) (pp_VT (en_ok g) (ci := 11) (kd := (23, 0)) hK hO k_h0 (nxg hc0 k_h0 rfl) (fun _ h9 => ko1 h9) hP hD hS hA hE [] rfl rfl rfl) rfl rfl hl.1 rfl (lv_room (Nat.le_of_ble_eq_true rfl)) dME_encrypt_178 ⟨by omega, by omega⟩) (fun  pl H locs hu37 hP hD hS => ?_)
              obtain ⟨hq37, hO⟩ := hu37
              have hP : va_P g.1 vcl ([] ++ pl) _ := hP
              have hD : va_D _ ([] ++ pl) := hD
              refine W.widen (k := 0) (n := 0) (by omega) (by omega) ?_
              refine mi_iinc (k := 0) (x := i24) (d := 1) (y := i24 + 1) (lv' := [(8, .int (nI (i24 + 1))), (7, .int (nI i22)), (6, .int (nI 3)), (0, .ref h0), (1, .int (nI 1)), (4, .ref ms), (5, .ref ct)]) hx hb dME_encrypt_181 hl rfl (by decide) rfl (by decide) rfl (fun ls hl => ?_)
              refine lv_goto (tgt := 147) hx hb dME_encrypt_184 (by decide) ?_
              exact ih24 (i24 + 1) pl ls H locs (by omega) (lv_sub hl [0, 1, 2, 3, 4, 5, 6] rfl) hO hP hD hS
          exact lp24 3 0 pl ls _ _ (by omega) (lv_sub hl [0, 1, 2, 3, 4, 5, 6] rfl) hO hP hD hS
      exact lp22 3 0 pl ls _ _ (by omega) (lv_sub hl [0, 1, 2, 3, 6, 7] rfl) hO hP hD hS
    | succ n21 ih21 =>
      intro i21 pl ls H locs hm21  hl hO hP hD hS
      refine lv_iload hx hb dME_encrypt_25 (lv_at hl 0 rfl) ?_
      refine lv_iload hx hb dME_encrypt_27 (lv_at hl 1 rfl) ?_
      refine mi_ge (tgt := 127) hx hb dME_encrypt_29 (by decide) (by omega) (by omega) (fun h28 => absurd h28 (by omega)) (fun h28 => ?_)
      refine lv_aload_n hx hb dME_encrypt_32 rfl (lv_at hl 4 rfl) ?_
      refine lv_iload_n hx hb dME_encrypt_33 rfl (lv_at hl 5 rfl) ?_
      refine lv_sipush (v := nI 384) hx hb dME_encrypt_34 (by decide) ?_
      refine lv_iload hx hb dME_encrypt_37 (lv_at hl 0 rfl) ?_
      refine mi_imul hx hb dME_encrypt_39 ?_
      refine mi_iadd hx hb dME_encrypt_40 ?_
      refine lv_bipush (v := nI 12) hx hb dME_encrypt_41 (by decide) ?_
      refine lv_aload_n hx hb dME_encrypt_43 rfl (lv_at hl 2 rfl) ?_
      refine ty_get (ci := 11) (C := "LatticeKeysModel$Secrets") (TT := T_ME) (N := 14) (kd := (23, 0)) hx hb hts (wg_ft i_ME) hown hK hO k_h0 (nxg hc0 k_h0 rfl) hP (fun _ h9 => h9) rfl 5 (by decide) (hts _ (wg_t kw_1384)) (fun _ h9 => h9) (cd := (3, 3, 4)) rfl dME_encrypt_44 (fun v45 hv45 => ?_)
      obtain ⟨r50, rfl, kr50⟩ := (show ∃ r : Nat, v45 = .ref r ∧ T r = some (3, 4) from hv45)
      refine lv_iload hx hb dME_encrypt_47 (lv_at hl 0 rfl) ?_
      refine ty_aald3 hx hb hK hO kr50 (nxg hc0 kr50 rfl) hP (by omega) (by decide) dME_encrypt_49 (fun r51 kr51 => ?_)
      refine mp_v (cx := []) (wr := []) hP hD hS hA [] [] rfl rfl rfl (by decide) (va_runS (As := [.ref ek, .int (nI (at_ + (384 * i21))), .int (nI 12), .ref r51]) (rest := []) F (t_ME_read_12 l g _ T xs pl hO hU hc0 ek r51 n (at_ + (384 * i21)) k_ek kr51 (by omega) (by omega)) (va_cwS 4 hts (wg_app (wg_c kw_1813 (wg_c kw_1814 (wg_c kw_11 wg_n))) kw_1815) rfl rfl rfl (by decide +kernel) ⟨by decide, by decide⟩) (pp_S (en_ok g) hP hD hS hA hE [] rfl rfl) rfl rfl hl.1 rfl (lv_room (Nat.le_of_ble_eq_true rfl)) dME_encrypt_50 ⟨by omega, by omega⟩) (fun  pl H locs hu38 hP hD hS => ?_)
      obtain ⟨hq38, hO⟩ := hu38
      have hP : va_P g.1 vcl ([] ++ pl) _ := hP
      have hD : va_D _ ([] ++ pl) := hD
      refine W.widen (k := 0) (n := 0) (by omega) (by omega) ?_
      refine lv_aload_n hx hb dME_encrypt_53 rfl (lv_at hl 2 rfl) ?_
      refine ty_get (ci := 11) (C := "LatticeKeysModel$Secrets") (TT := T_ME) (N := 14) (kd := (23, 0)) hx hb hts (wg_ft i_ME) hown hK hO k_h0 (nxg hc0 k_h0 rfl) hP (fun _ h9 => h9) rfl 5 (by decide) (hts _ (wg_t kw_1384)) (fun _ h9 => h9) (cd := (3, 3, 4)) rfl dME_encrypt_54 (fun v46 hv46 => ?_)
      obtain ⟨r52, rfl, kr52⟩ := (show ∃ r : Nat, v46 = .ref r ∧ T r = some (3, 4) from hv46)
      refine lv_iload hx hb dME_encrypt_57 (lv_at hl 0 rfl) ?_
      refine ty_aald3 hx hb hK hO kr52 (nxg hc0 kr52 rfl) hP (by omega) (by decide) dME_encrypt_59 (fun r53 kr53 => ?_)
      refine mp_v (cx := []) (wr := []) hP hD hS hA [] [] rfl rfl rfl (by decide) (va_runS (As := [.ref r53]) (rest := []) F (t_ME_proper l g _ T xs pl hO hU hc0 r53 kr53) (va_cwS 1 hts (wg_app (wg_c kw_1816 (wg_c kw_1817 (wg_c kw_11 wg_n))) kw_1818) rfl rfl rfl (by decide +kernel) ⟨by decide, by decide⟩) (pp_S (en_ok g) hP hD hS hA hE [] rfl rfl) rfl rfl hl.1 rfl (lv_room (Nat.le_of_ble_eq_true rfl)) dME_encrypt_60 ⟨by omega, by omega⟩) (fun  pl H locs hu39 hP hD hS => ?_)
      obtain ⟨hq39, hO⟩ := hu39
      have hP : va_P g.1 vcl ([] ++ pl) _ := hP
      have hD : va_D _ ([] ++ pl) := hD
      refine W.widen (k := 0) (n := 0) (by omega) (by omega) ?_
      refine lv_aload_n hx hb dME_encrypt_63 rfl (lv_at hl 2 rfl) ?_
      refine lv_aload_n hx hb dME_encrypt_64 rfl (lv_at hl 2 rfl) ?_
      refine ty_get (ci := 11) (C := "LatticeKeysModel$Secrets") (TT := T_ME) (N := 14) (kd := (23, 0)) hx hb hts (wg_ft i_ME) hown hK hO k_h0 (nxg hc0 k_h0 rfl) hP (fun _ h9 => h9) rfl 3 (by decide) (hts _ (wg_t kw_1382)) (fun _ h9 => h9) (cd := (3, 3, 4)) rfl dME_encrypt_65 (fun v47 hv47 => ?_)
      obtain ⟨r54, rfl, kr54⟩ := (show ∃ r : Nat, v47 = .ref r ∧ T r = some (3, 4) from hv47)
      refine lv_iload hx hb dME_encrypt_68 (lv_at hl 0 rfl) ?_
      refine ty_aald3 hx hb hK hO kr54 (nxg hc0 kr54 rfl) hP (by omega) (by decide) dME_encrypt_70 (fun r55 kr55 => ?_)
      refine lv_aload_n hx hb dME_encrypt_71 rfl (lv_at hl 2 rfl) ?_
      refine ty_get (ci := 11) (C := "LatticeKeysModel$Secrets") (TT := T_ME) (N := 14) (kd := (23, 0)) hx hb hts (wg_ft i_ME) hown hK hO k_h0 (nxg hc0 k_h0 rfl) hP (fun _ h9 => h9) rfl 9 (by decide) (hts _ (wg_t kw_1388)) (fun _ h9 => h9) (cd := (3, 1, 64)) rfl dME_encrypt_72 (fun v48 hv48 => ?_)
      obtain ⟨r56, rfl, kr56⟩ := (show ∃ r : Nat, v48 = .ref r ∧ T r = some (1, 64) from hv48)
      refine lv_bipush (v := nI 32) hx hb dME_encrypt_75 (by decide) ?_
      refine lv_iload hx hb dME_encrypt_77 (lv_at hl 0 rfl) ?_
      refine va_gets hx hb (hE.2.1 20 _ rfl).1 hS hown (hts _ (wg_t kw_1654)) (fun _ h9 => h9) dME_encrypt_79 ?_
      refine lv_iload_n hx hb dME_encrypt_82 rfl (lv_at hl 3 rfl) ?_
      refine va_ti (v := .int (nI 2)) hx hb (hE.2.1 20 _ rfl).2 hS (vp_in_nI (by decide) (by decide)) (by decide +kernel) dME_encrypt_83 ?_
      refine mp_v (cx := []) (wr := []) hP hD hS hA [] [] rfl rfl rfl (by decide) (va_runV (As := [.ref r55, .ref r56, .int (nI 32), .int (nI i21), .int (nI 2)]) (rest := []) F (t_ME_noise_2 l g _ T xs pl hO hU hc0 hc9 h0 r55 r56 64 32 (nI i21) k_h0 kr55 kr56 (by omega) (by omega)) (cwV 5 hts (wg_app (wg_c kw_1656 (wg_c kw_1658 (wg_c ks_56 (wg_c kw_11 wg_n)))) kw_1659) rfl rfl rfl (by decide +kernel) ⟨by decide, by decide⟩) (pp_VT (en_ok g) (ci := 11) (kd := (23, 0)) hK hO k_h0 (nxg hc0 k_h0 rfl) (fun _ h9 => ko1 h9) hP hD hS hA hE [] rfl rfl rfl) rfl rfl hl.1 rfl (lv_room (Nat.le_of_ble_eq_true rfl)) dME_encrypt_84 ⟨by omega, by omega⟩) (fun  pl H locs hu40 hP hD hS => ?_)
      obtain ⟨hq40, hO⟩ := hu40
      have hP : va_P g.1 vcl ([] ++ pl) _ := hP
      have hD : va_D _ ([] ++ pl) := hD
      refine W.widen (k := 0) (n := 0) (by omega) (by omega) ?_
      refine lv_aload_n hx hb dME_encrypt_87 rfl (lv_at hl 2 rfl) ?_
      refine lv_aload_n hx hb dME_encrypt_88 rfl (lv_at hl 2 rfl) ?_
      refine ty_get (ci := 11) (C := "LatticeKeysModel$Secrets") (TT := T_ME) (N := 14) (kd := (23, 0)) hx hb hts (wg_ft i_ME) hown hK hO k_h0 (nxg hc0 k_h0 rfl) hP (fun _ h9 => h9) rfl 4 (by decide) (hts _ (wg_t kw_1383)) (fun _ h9 => h9) (cd := (3, 3, 4)) rfl dME_encrypt_89 (fun v49 hv49 => ?_)
      obtain ⟨r57, rfl, kr57⟩ := (show ∃ r : Nat, v49 = .ref r ∧ T r = some (3, 4) from hv49)
      refine lv_iload hx hb dME_encrypt_92 (lv_at hl 0 rfl) ?_
      refine ty_aald3 hx hb hK hO kr57 (nxg hc0 kr57 rfl) hP (by omega) (by decide) dME_encrypt_94 (fun r58 kr58 => ?_)
      refine lv_aload_n hx hb dME_encrypt_95 rfl (lv_at hl 2 rfl) ?_
      refine ty_get (ci := 11) (C := "LatticeKeysModel$Secrets") (TT := T_ME) (N := 14) (kd := (23, 0)) hx hb hts (wg_ft i_ME) hown hK hO k_h0 (nxg hc0 k_h0 rfl) hP (fun _ h9 => h9) rfl 9 (by decide) (hts _ (wg_t kw_1388)) (fun _ h9 => h9) (cd := (3, 1, 64)) rfl dME_encrypt_96 (fun v50 hv50 => ?_)
      obtain ⟨r59, rfl, kr59⟩ := (show ∃ r : Nat, v50 = .ref r ∧ T r = some (1, 64) from hv50)
      refine lv_bipush (v := nI 32) hx hb dME_encrypt_99 (by decide) ?_
      refine lv_iload hx hb dME_encrypt_101 (lv_at hl 1 rfl) ?_
      refine lv_iload hx hb dME_encrypt_103 (lv_at hl 0 rfl) ?_
      refine mi_iadd hx hb dME_encrypt_105 ?_
      refine lv_iconst (v := nI 2) hx hb dME_encrypt_106 (by decide) ?_
      refine mp_v (cx := []) (wr := []) hP hD hS hA [] [] rfl rfl rfl (by decide) (va_runV (As := [.ref r58, .ref r59, .int (nI 32), .int (nI (3 + i21)), .int (nI 2)]) (rest := []) F (t_ME_noise_2 l g _ T xs pl hO hU hc0 hc9 h0 r58 r59 64 32 (nI (3 + i21)) k_h0 kr58 kr59 (by omega) (by omega)) (cwV 5 hts (wg_app (wg_c kw_1656 (wg_c kw_1658 (wg_c ks_56 (wg_c kw_11 wg_n)))) kw_1659) rfl rfl rfl (by decide +kernel) ⟨by decide, by decide⟩) (pp_VT (en_ok g) (ci := 11) (kd := (23, 0)) hK hO k_h0 (nxg hc0 k_h0 rfl) (fun _ h9 => ko1 h9) hP hD hS hA hE [] rfl rfl rfl) rfl rfl hl.1 rfl (lv_room (Nat.le_of_ble_eq_true rfl)) dME_encrypt_107 ⟨by omega, by omega⟩) (fun  pl H locs hu41 hP hD hS => ?_)
      obtain ⟨hq41, hO⟩ := hu41
      have hP : va_P g.1 vcl ([] ++ pl) _ := hP
      have hD : va_D _ ([] ++ pl) := hD
      refine W.widen (k := 0) (n := 0) (by omega) (by omega) ?_
      refine lv_aload_n hx hb dME_encrypt_110 rfl (lv_at hl 2 rfl) ?_
      refine lv_aload_n hx hb dME_encrypt_111 rfl (lv_at hl 2 rfl) ?_
      refine ty_get (ci := 11) (C := "LatticeKeysModel$Secrets") (TT := T_ME) (N := 14) (kd := (23, 0)) hx hb hts (wg_ft i_ME) hown hK hO k_h0 (nxg hc0 k_h0 rfl) hP (fun _ h9 => h9) rfl 3 (by decide) (hts _ (wg_t kw_1382)) (fun _ h9 => h9) (cd := (3, 3, 4)) rfl dME_encrypt_112 (fun v51 hv51 => ?_)
      obtain ⟨r60, rfl, kr60⟩ := (show ∃ r : Nat, v51 = .ref r ∧ T r = some (3, 4) from hv51)
      refine lv_iload hx hb dME_encrypt_115 (lv_at hl 0 rfl) ?_
      refine ty_aald3 hx hb hK hO kr60 (nxg hc0 kr60 rfl) hP (by omega) (by decide) dME_encrypt_117 (fun r61 kr61 => ?_)
      refine mp_v (cx := []) (wr := []) hP hD hS hA [] [] rfl rfl rfl (by decide) (va_runV (As := [.ref r61]) (rest := []) F (t_ME_forth l g _ T xs pl hO hU hc0 h0 r61 k_h0 kr61) (cwV 1 hts (wg_app (wg_c kw_1668 (wg_c kw_1670 (wg_c ks_57 (wg_c kw_11 wg_n)))) kw_1671) rfl rfl rfl (by decide +kernel) ⟨by decide, by decide⟩) (pp_VT (en_ok g) (ci := 11) (kd := (23, 0)) hK hO k_h0 (nxg hc0 k_h0 rfl) (fun _ h9 => ko1 h9) hP hD hS hA hE [] rfl rfl rfl) rfl rfl hl.1 rfl (lv_room (Nat.le_of_ble_eq_true rfl)) dME_encrypt_118 ⟨by omega, by omega⟩) (fun  pl H locs hu42 hP hD hS => ?_)
      obtain ⟨hq42, hO⟩ := hu42
      have hP : va_P g.1 vcl ([] ++ pl) _ := hP
      have hD : va_D _ ([] ++ pl) := hD
      refine W.widen (k := 0) (n := 0) (by omega) (by omega) ?_
      refine mi_iinc (k := 0) (x := i21) (d := 1) (y := i21 + 1) (lv' := [(7, .int (nI (i21 + 1))), (6, .int (nI 3)), (0, .ref h0), (1, .int (nI 1)), (2, .ref ek), (3, .int (nI at_)), (4, .ref ms), (5, .ref ct)]) hx hb dME_encrypt_121 hl rfl (by decide) rfl (by decide) rfl (fun ls hl => ?_)
      refine lv_goto (tgt := 25) hx hb dME_encrypt_124 (by decide) ?_
      exact ih21 (i21 + 1) pl ls H locs (by omega) (lv_sub hl [0, 1, 2, 3, 4, 5, 6, 7] rfl) hO hP hD hS
  exact lp21 3 0 pl ls _ _ (by omega) (lv_sub hl [0, 1, 2, 3, 4, 5, 6, 7] rfl) hO hP hD hS
set_option maxHeartbeats 400000 in
set_option maxRecDepth 100000 in
theorem t_ME_encrypt_2 (l : Launch) (g : Gd) (sz : Nat) (T : Ty) (xs : List Nat) (pl : va_W) (hO : okx g T xs pl) (hU : uni T) (hc0 : clo T xs 0) (hc9 : clo T xs 9) (h0 ek ms ct n nm nc at_ : Nat) (k_h0 : T h0 = some (23, 0)) (k_ek : T ek = some (1, n)) (k_ms : T ms = some (1, nm)) (k_ct : T ct = some (1, nc)) (h1 : at_ + 1568 ≤ n) (h2 : n < 65536) (h3 : 32 ≤ nm) (h4 : nm < 65536) (h5 : 1568 ≤ nc) (h6 : nc < 65536)  : Met l y_ME_encrypt w_ME_encrypt ({ frames := 5, cells := 0, slots := 0, locals := 126 } : Room) (va_Pc [.ref h0, .int (nI 2), .ref ek, .int (nI at_), .ref ms, .ref ct] (pr (en g) g.1 vcl sz ([] ++ pl))) (va_Qv (fun (u : va_W) => (True) ∧ okx g T xs u) (po g.1 vcl (va_A ([] ++ pl) sz) (fun (u : va_W) => [] ++ u)) (va_A ([] ++ pl) sz)) 0 0 (va_A ([] ++ pl) sz) := by
  refine mc_entry (cc := c_ME_encrypt) (maxL := 9) (ret := none) (by decide) rfl (Nat.le_of_ble_eq_true rfl) ?_
  intro p e s m args below meth c ls F hr hlk hnm hsz hP hD hE hA hl
  obtain ⟨hx, hb, hml, hown, hts⟩ := id F
  have hK := hE.1
  generalize va_A ([] ++ pl) sz = A at hD hE hA ⊢
  have hS : va_S A s.heap s.heap [] := va_S.rf
  have hl : lv_has ls 9 [(0, .ref h0), (1, .int (nI 2)), (2, .ref ek), (3, .int (nI at_)), (4, .ref ms), (5, .ref ct)] := hl
  refine va_gets hx hb (hE.2.1 19 _ rfl).1 hS hown (hts _ (wg_t kw_1605)) (fun _ h9 => h9) dME_encrypt_0 ?_
  refine lv_iload_n hx hb dME_encrypt_3 rfl (lv_at hl 1 rfl) ?_
  refine va_ti (v := .int (nI 4)) hx hb (hE.2.1 19 _ rfl).2 hS (vp_in_nI (by decide) (by decide)) (by decide +kernel) dME_encrypt_4 ?_
  refine lv_istore (lv' := [(6, .int (nI 4)), (0, .ref h0), (1, .int (nI 2)), (2, .ref ek), (3, .int (nI at_)), (4, .ref ms), (5, .ref ct)]) hx hb dME_encrypt_5 hl (by decide) rfl (fun ls hl => ?_)
  refine lv_aload_n hx hb dME_encrypt_7 rfl (lv_at hl 1 rfl) ?_
  refine lv_aload_n hx hb dME_encrypt_8 rfl (lv_at hl 3 rfl) ?_
  refine lv_iload_n hx hb dME_encrypt_9 rfl (lv_at hl 4 rfl) ?_
  refine lv_sipush (v := nI 384) hx hb dME_encrypt_10 (by decide) ?_
  refine lv_iload hx hb dME_encrypt_13 (lv_at hl 0 rfl) ?_
  refine mi_imul hx hb dME_encrypt_15 ?_
  refine mi_as (show nI (384 * 4) = nI 1536 from rfl) ?_
  refine mi_iadd hx hb dME_encrypt_16 ?_
  refine lv_iload hx hb dME_encrypt_17 (lv_at hl 0 rfl) ?_
  refine mp_v (cx := []) (wr := []) hP hD hS hA [] [] rfl rfl rfl (by decide) (va_runV (As := [.ref ek, .int (nI (at_ + 1536)), .int (nI 4)]) (rest := []) F (t_ME_expand_4 l g _ T xs pl hO hU hc0 hc9 h0 ek n (at_ + 1536) k_h0 k_ek (by omega) (by omega)) (cwV 3 hts (wg_app (wg_c kw_1645 (wg_c kw_1647 (wg_c ks_54 (wg_c kw_11 wg_n)))) kw_1648) rfl rfl rfl (by decide +kernel) ⟨by decide, by decide⟩) (pp_VT (en_ok g) (ci := 11) (kd := (23, 0)) hK hO k_h0 (nxg hc0 k_h0 rfl) (fun _ h9 => ko1 h9) hP hD hS hA hE [] rfl rfl rfl) rfl rfl hl.1 rfl (lv_room (Nat.le_of_ble_eq_true rfl)) dME_encrypt_19 ⟨by omega, by omega⟩) (fun  pl H locs hu21 hP hD hS => ?_)
  obtain ⟨hq21, hO⟩ := hu21
  have hP : va_P g.1 vcl ([] ++ pl) _ := hP
  have hD : va_D _ ([] ++ pl) := hD
  refine W.widen (k := 0) (n := 0) (by omega) (by omega) ?_
  refine lv_iconst (v := nI 0) hx hb dME_encrypt_22 (by decide) ?_
  refine lv_istore (lv' := [(7, .int (nI 0)), (6, .int (nI 4)), (0, .ref h0), (1, .int (nI 2)), (2, .ref ek), (3, .int (nI at_)), (4, .ref ms), (5, .ref ct)]) hx hb dME_encrypt_23 hl (by decide) rfl (fun ls hl => ?_)
  have lp21 : ∀ (n21 : Nat) (i21 : Nat) (pl : va_W) (ls : Array Slot) (H : Heap) (locs : List Loc), n21 + i21 = 4 → lv_has ls 9 [(7, .int (nI i21)), (6, .int (nI 4)), (0, .ref h0), (1, .int (nI 2)), (2, .ref ek), (3, .int (nI at_)), (4, .ref ms), (5, .ref ct)] → okx g T xs pl → va_P g.1 vcl ([] ++ pl) H → va_D A ([] ++ pl) → va_S A s.heap H locs → W p l e ({ frames := 5, cells := 0, slots := 0, locals := 126 } : Room) s m args below meth c H locs 0 0 (MQ below (va_Qv (fun (u : va_W) => (True) ∧ okx g T xs u) (po g.1 vcl A (fun (u : va_W) => [] ++ u)) A) args s 0 0 A) (F0 m 25 ls []) := by
    intro n21
    induction n21 with
    | zero =>
      intro i21 pl ls H locs hm21  hl hO hP hD hS
      refine lv_iload hx hb dME_encrypt_25 (lv_at hl 0 rfl) ?_
      refine lv_iload hx hb dME_encrypt_27 (lv_at hl 1 rfl) ?_
      refine mi_ge (tgt := 127) hx hb dME_encrypt_29 (by decide) (by omega) (by omega) (fun h21 => ?_) (fun h21 => absurd h21 (by omega))
      refine lv_iconst (v := nI 0) hx hb dME_encrypt_127 (by decide) ?_
      refine lv_istore (lv' := [(7, .int (nI 0)), (6, .int (nI 4)), (0, .ref h0), (1, .int (nI 2)), (2, .ref ek), (3, .int (nI at_)), (4, .ref ms), (5, .ref ct)]) hx hb dME_encrypt_128 hl (by decide) rfl (fun ls hl => ?_)
      have lp22 : ∀ (n22 : Nat) (i22 : Nat) (pl : va_W) (ls : Array Slot) (H : Heap) (locs : List Loc), n22 + i22 = 4 → lv_has ls 9 [(7, .int (nI i22)), (6, .int (nI 4)), (0, .ref h0), (1, .int (nI 2)), (4, .ref ms), (5, .ref ct)] → okx g T xs pl → va_P g.1 vcl ([] ++ pl) H → va_D A ([] ++ pl) → va_S A s.heap H locs → W p l e ({ frames := 5, cells := 0, slots := 0, locals := 126 } : Room) s m args below meth c H locs 0 0 (MQ below (va_Qv (fun (u : va_W) => (True) ∧ okx g T xs u) (po g.1 vcl A (fun (u : va_W) => [] ++ u)) A) args s 0 0 A) (F0 m 130 ls []) := by
        intro n22
        induction n22 with
        | zero =>
          intro i22 pl ls H locs hm22  hl hO hP hD hS
          refine lv_iload hx hb dME_encrypt_130 (lv_at hl 0 rfl) ?_
          refine lv_iload hx hb dME_encrypt_132 (lv_at hl 1 rfl) ?_
          refine mi_ge (tgt := 252) hx hb dME_encrypt_134 (by decide) (by omega) (by omega) (fun h22 => ?_) (fun h22 => absurd h22 (by omega))
          refine lv_aload_n hx hb dME_encrypt_252 rfl (lv_at hl 2 rfl) ?_
          refine ty_get (ci := 11) (C := "LatticeKeysModel$Secrets") (TT := T_ME) (N := 14) (kd := (23, 0)) hx hb hts (wg_ft i_ME) hown hK hO k_h0 (nxg hc0 k_h0 rfl) hP (fun _ h9 => h9) rfl 6 (by decide) (hts _ (wg_t kw_1385)) (fun _ h9 => h9) (cd := (3, 0, 256)) rfl dME_encrypt_253 (fun v21 hv21 => ?_)
          obtain ⟨r21, rfl, kr21⟩ := (show ∃ r : Nat, v21 = .ref r ∧ T r = some (0, 256) from hv21)
          refine mp_v (cx := []) (wr := []) hP hD hS hA [] [] rfl rfl rfl (by decide) (va_runS (As := [.ref r21]) (rest := []) F (t_ME_clear l g _ T xs pl hO hU hc0 r21 kr21) (va_cwS 1 hts (wg_app (wg_c kw_1819 (wg_c kw_1820 (wg_c kw_11 wg_n))) kw_1821) rfl rfl rfl (by decide +kernel) ⟨by decide, by decide⟩) (pp_S (en_ok g) hP hD hS hA hE [] rfl rfl) rfl rfl hl.1 rfl (lv_room (Nat.le_of_ble_eq_true rfl)) dME_encrypt_256 ⟨by omega, by omega⟩) (fun  pl H locs hu22 hP hD hS => ?_)
          obtain ⟨hq22, hO⟩ := hu22
          have hP : va_P g.1 vcl ([] ++ pl) _ := hP
          have hD : va_D _ ([] ++ pl) := hD
          refine W.widen (k := 0) (n := 0) (by omega) (by omega) ?_
          refine lv_iconst (v := nI 0) hx hb dME_encrypt_259 (by decide) ?_
          refine lv_istore (lv' := [(7, .int (nI 0)), (6, .int (nI 4)), (0, .ref h0), (1, .int (nI 2)), (4, .ref ms), (5, .ref ct)]) hx hb dME_encrypt_260 hl (by decide) rfl (fun ls hl => ?_)
          have lp23 : ∀ (n23 : Nat) (i23 : Nat) (pl : va_W) (ls : Array Slot) (H : Heap) (locs : List Loc), n23 + i23 = 4 → lv_has ls 9 [(7, .int (nI i23)), (6, .int (nI 4)), (0, .ref h0), (1, .int (nI 2)), (4, .ref ms), (5, .ref ct)] → okx g T xs pl → va_P g.1 vcl ([] ++ pl) H → va_D A ([] ++ pl) → va_S A s.heap H locs → W p l e ({ frames := 5, cells := 0, slots := 0, locals := 126 } : Room) s m args below meth c H locs 0 0 (MQ below (va_Qv (fun (u : va_W) => (True) ∧ okx g T xs u) (po g.1 vcl A (fun (u : va_W) => [] ++ u)) A) args s 0 0 A) (F0 m 262 ls []) := by
            intro n23
            induction n23 with
            | zero =>
              intro i23 pl ls H locs hm23  hl hO hP hD hS
              refine lv_iload hx hb dME_encrypt_262 (lv_at hl 0 rfl) ?_
              refine lv_iload hx hb dME_encrypt_264 (lv_at hl 1 rfl) ?_
              refine mi_ge (tgt := 297) hx hb dME_encrypt_266 (by decide) (by omega) (by omega) (fun h23 => ?_) (fun h23 => absurd h23 (by omega))
              refine lv_aload_n hx hb dME_encrypt_297 rfl (lv_at hl 2 rfl) ?_
              refine lv_aload_n hx hb dME_encrypt_298 rfl (lv_at hl 2 rfl) ?_
              refine ty_get (ci := 11) (C := "LatticeKeysModel$Secrets") (TT := T_ME) (N := 14) (kd := (23, 0)) hx hb hts (wg_ft i_ME) hown hK hO k_h0 (nxg hc0 k_h0 rfl) hP (fun _ h9 => h9) rfl 6 (by decide) (hts _ (wg_t kw_1385)) (fun _ h9 => h9) (cd := (3, 0, 256)) rfl dME_encrypt_299 (fun v22 hv22 => ?_)
              obtain ⟨r22, rfl, kr22⟩ := (show ∃ r : Nat, v22 = .ref r ∧ T r = some (0, 256) from hv22)
              refine mp_v (cx := []) (wr := []) hP hD hS hA [] [] rfl rfl rfl (by decide) (va_runV (As := [.ref r22]) (rest := []) F (t_ME_back l g _ T xs pl hO hU hc0 h0 r22 k_h0 kr22) (cwV 1 hts (wg_app (wg_c kw_1822 (wg_c kw_1824 (wg_c ks_69 (wg_c kw_11 wg_n)))) kw_1825) rfl rfl rfl (by decide +kernel) ⟨by decide, by decide⟩) (pp_VT (en_ok g) (ci := 11) (kd := (23, 0)) hK hO k_h0 (nxg hc0 k_h0 rfl) (fun _ h9 => ko1 h9) hP hD hS hA hE [] rfl rfl rfl) rfl rfl hl.1 rfl (lv_room (Nat.le_of_ble_eq_true rfl)) dME_encrypt_302 ⟨by omega, by omega⟩) (fun  pl H locs hu23 hP hD hS => ?_)
              obtain ⟨hq23, hO⟩ := hu23
              have hP : va_P g.1 vcl ([] ++ pl) _ := hP
              have hD : va_D _ ([] ++ pl) := hD
              refine W.widen (k := 0) (n := 0) (by omega) (by omega) ?_
              refine lv_aload_n hx hb dME_encrypt_305 rfl (lv_at hl 2 rfl) ?_
              refine lv_aload_n hx hb dME_encrypt_306 rfl (lv_at hl 2 rfl) ?_
              refine ty_get (ci := 11) (C := "LatticeKeysModel$Secrets") (TT := T_ME) (N := 14) (kd := (23, 0)) hx hb hts (wg_ft i_ME) hown hK hO k_h0 (nxg hc0 k_h0 rfl) hP (fun _ h9 => h9) rfl 7 (by decide) (hts _ (wg_t kw_1386)) (fun _ h9 => h9) (cd := (3, 0, 256)) rfl dME_encrypt_307 (fun v23 hv23 => ?_)
              obtain ⟨r23, rfl, kr23⟩ := (show ∃ r : Nat, v23 = .ref r ∧ T r = some (0, 256) from hv23)
              refine lv_aload_n hx hb dME_encrypt_310 rfl (lv_at hl 2 rfl) ?_
              refine ty_get (ci := 11) (C := "LatticeKeysModel$Secrets") (TT := T_ME) (N := 14) (kd := (23, 0)) hx hb hts (wg_ft i_ME) hown hK hO k_h0 (nxg hc0 k_h0 rfl) hP (fun _ h9 => h9) rfl 9 (by decide) (hts _ (wg_t kw_1388)) (fun _ h9 => h9) (cd := (3, 1, 64)) rfl dME_encrypt_311 (fun v24 hv24 => ?_)
              obtain ⟨r24, rfl, kr24⟩ := (show ∃ r : Nat, v24 = .ref r ∧ T r = some (1, 64) from hv24)
              refine lv_bipush (v := nI 32) hx hb dME_encrypt_314 (by decide) ?_
              refine lv_iconst (v := nI 2) hx hb dME_encrypt_316 (by decide) ?_
              refine lv_iload hx hb dME_encrypt_317 (lv_at hl 1 rfl) ?_
              refine mi_imul hx hb dME_encrypt_319 ?_
              refine mi_as (show nI (2 * 4) = nI 8 from rfl) ?_
              refine lv_iconst (v := nI 2) hx hb dME_encrypt_320 (by decide) ?_
              refine mp_v (cx := []) (wr := []) hP hD hS hA [] [] rfl rfl rfl (by decide) (va_runV (As := [.ref r23, .ref r24, .int (nI 32), .int (nI 8), .int (nI 2)]) (rest := []) F (t_ME_noise_2 l g _ T xs pl hO hU hc0 hc9 h0 r23 r24 64 32 (nI 8) k_h0 kr23 kr24 (by omega) (by omega)) (cwV 5 hts (wg_app (wg_c kw_1656 (wg_c kw_1658 (wg_c ks_56 (wg_c kw_11 wg_n)))) kw_1659) rfl rfl rfl (by decide +kernel) ⟨by decide, by decide⟩) (pp_VT (en_ok g) (ci := 11) (kd := (23, 0)) hK hO k_h0 (nxg hc0 k_h0 rfl) (fun _ h9 => ko1 h9) hP hD hS hA hE [] rfl rfl rfl) rfl rfl hl.1 rfl (lv_room (Nat.le_of_ble_eq_true rfl)) dME_encrypt_321 ⟨by omega, by omega⟩) (fun  pl H locs hu24 hP hD hS => ?_)
              obtain ⟨hq24, hO⟩ := hu24
              have hP : va_P g.1 vcl ([] ++ pl) _ := hP
              have hD : va_D _ ([] ++ pl) := hD
              refine W.widen (k := 0) (n := 0) (by omega) (by omega) ?_
              refine lv_aload_n hx hb dME_encrypt_324 rfl (lv_at hl 2 rfl) ?_
              refine ty_get (ci := 11) (C := "LatticeKeysModel$Secrets") (TT := T_ME) (N := 14) (kd := (23, 0)) hx hb hts (wg_ft i_ME) hown hK hO k_h0 (nxg hc0 k_h0 rfl) hP (fun _ h9 => h9) rfl 6 (by decide) (hts _ (wg_t kw_1385)) (fun _ h9 => h9) (cd := (3, 0, 256)) rfl dME_encrypt_325 (fun v25 hv25 => ?_)
              obtain ⟨r25, rfl, kr25⟩ := (show ∃ r : Nat, v25 = .ref r ∧ T r = some (0, 256) from hv25)
              refine lv_aload_n hx hb dME_encrypt_328 rfl (lv_at hl 2 rfl) ?_
              refine ty_get (ci := 11) (C := "LatticeKeysModel$Secrets") (TT := T_ME) (N := 14) (kd := (23, 0)) hx hb hts (wg_ft i_ME) hown hK hO k_h0 (nxg hc0 k_h0 rfl) hP (fun _ h9 => h9) rfl 7 (by decide) (hts _ (wg_t kw_1386)) (fun _ h9 => h9) (cd := (3, 0, 256)) rfl dME_encrypt_329 (fun v26 hv26 => ?_)
              obtain ⟨r26, rfl, kr26⟩ := (show ∃ r : Nat, v26 = .ref r ∧ T r = some (0, 256) from hv26)
              refine mp_v (cx := []) (wr := []) hP hD hS hA [] [] rfl rfl rfl (by decide) (va_runS (As := [.ref r25, .ref r26]) (rest := []) F (t_ME_plus l g _ T xs pl hO hU hc0 r25 r26 kr25 kr26) (va_cwS 2 hts (wg_app (wg_c kw_1827 (wg_c kw_1828 (wg_c kw_11 wg_n))) kw_1829) rfl rfl rfl (by decide +kernel) ⟨by decide, by decide⟩) (pp_S (en_ok g) hP hD hS hA hE [] rfl rfl) rfl rfl hl.1 rfl (lv_room (Nat.le_of_ble_eq_true rfl)) dME_encrypt_332 ⟨by omega, by omega⟩) (fun  pl H locs hu25 hP hD hS => ?_)
              obtain ⟨hq25, hO⟩ := hu25
              have hP : va_P g.1 vcl ([] ++ pl) _ := hP
              have hD : va_D _ ([] ++ pl) := hD
              refine W.widen (k := 0) (n := 0) (by omega) (by omega) ?_
              refine lv_aload hx hb dME_encrypt_335 (lv_at hl 4 rfl) ?_
              refine lv_iconst (v := nI 0) hx hb dME_encrypt_337 (by decide) ?_
              refine lv_iconst (v := nI 1) hx hb dME_encrypt_338 (by decide) ?_
              refine lv_aload_n hx hb dME_encrypt_339 rfl (lv_at hl 2 rfl) ?_
              refine ty_get (ci := 11) (C := "LatticeKeysModel$Secrets") (TT := T_ME) (N := 14) (kd := (23, 0)) hx hb hts (wg_ft i_ME) hown hK hO k_h0 (nxg hc0 k_h0 rfl) hP (fun _ h9 => h9) rfl 7 (by decide) (hts _ (wg_t kw_1386)) (fun _ h9 => h9) (cd := (3, 0, 256)) rfl dME_encrypt_340 (fun v27 hv27 => ?_)
              obtain ⟨r27, rfl, kr27⟩ := (show ∃ r : Nat, v27 = .ref r ∧ T r = some (0, 256) from hv27)
              refine mp_v (cx := []) (wr := []) hP hD hS hA [] [] rfl rfl rfl (by decide) (va_runS (As := [.ref ms, .int (nI 0), .int (nI 1), .ref r27]) (rest := []) F (t_ME_read_1 l g _ T xs pl hO hU hc0 ms r27 nm 0 k_ms kr27 (by omega) (by omega)) (va_cwS 4 hts (wg_app (wg_c kw_1813 (wg_c kw_1814 (wg_c kw_11 wg_n))) kw_1815) rfl rfl rfl (by decide +kernel) ⟨by decide, by decide⟩) (pp_S (en_ok g) hP hD hS hA hE [] rfl rfl) rfl rfl hl.1 rfl (lv_room (Nat.le_of_ble_eq_true rfl)) dME_encrypt_343 ⟨by omega, by omega⟩) (fun  pl H locs hu26 hP hD hS => ?_)
              obtain ⟨hq26, hO⟩ := hu26
              have hP : va_P g.1 vcl ([] ++ pl) _ := hP
              have hD : va_D _ ([] ++ pl) := hD
              refine W.widen (k := 0) (n := 0) (by omega) (by omega) ?_
              refine lv_aload_n hx hb dME_encrypt_346 rfl (lv_at hl 2 rfl) ?_
              refine ty_get (ci := 11) (C := "LatticeKeysModel$Secrets") (TT := T_ME) (N := 14) (kd := (23, 0)) hx hb hts (wg_ft i_ME) hown hK hO k_h0 (nxg hc0 k_h0 rfl) hP (fun _ h9 => h9) rfl 7 (by decide) (hts _ (wg_t kw_1386)) (fun _ h9 => h9) (cd := (3, 0, 256)) rfl dME_encrypt_347 (fun v28 hv28 => ?_)
              obtain ⟨r28, rfl, kr28⟩ := (show ∃ r : Nat, v28 = .ref r ∧ T r = some (0, 256) from hv28)
              refine lv_iconst (v := nI 1) hx hb dME_encrypt_350 (by decide) ?_
              refine mp_v (cx := []) (wr := []) hP hD hS hA [] [] rfl rfl rfl (by decide) (va_runS (As := [.ref r28, .int (nI 1)]) (rest := []) F (t_ME_more_1 l g _ T xs pl hO hU hc0 r28 kr28) (va_cwS 2 hts (wg_app (wg_c kw_1835 (wg_c kw_1836 (wg_c kw_11 wg_n))) kw_1837) rfl rfl rfl (by decide +kernel) ⟨by decide, by decide⟩) (pp_S (en_ok g) hP hD hS hA hE [] rfl rfl) rfl rfl hl.1 rfl (lv_room (Nat.le_of_ble_eq_true rfl)) dME_encrypt_351 ⟨by omega, by omega⟩) (fun  pl H locs hu27 hP hD hS => ?_)
              obtain ⟨hq27, hO⟩ := hu27
              have hP : va_P g.1 vcl ([] ++ pl) _ := hP
              have hD : va_D _ ([] ++ pl) := hD
              refine W.widen (k := 0) (n := 0) (by omega) (by omega) ?_
              refine lv_aload_n hx hb dME_encrypt_354 rfl (lv_at hl 2 rfl) ?_
              refine ty_get (ci := 11) (C := "LatticeKeysModel$Secrets") (TT := T_ME) (N := 14) (kd := (23, 0)) hx hb hts (wg_ft i_ME) hown hK hO k_h0 (nxg hc0 k_h0 rfl) hP (fun _ h9 => h9) rfl 6 (by decide) (hts _ (wg_t kw_1385)) (fun _ h9 => h9) (cd := (3, 0, 256)) rfl dME_encrypt_355 (fun v29 hv29 => ?_)
              obtain ⟨r29, rfl, kr29⟩ := (show ∃ r : Nat, v29 = .ref r ∧ T r = some (0, 256) from hv29)
              refine lv_aload_n hx hb dME_encrypt_358 rfl (lv_at hl 2 rfl) ?_
              refine ty_get (ci := 11) (C := "LatticeKeysModel$Secrets") (TT := T_ME) (N := 14) (kd := (23, 0)) hx hb hts (wg_ft i_ME) hown hK hO k_h0 (nxg hc0 k_h0 rfl) hP (fun _ h9 => h9) rfl 7 (by decide) (hts _ (wg_t kw_1386)) (fun _ h9 => h9) (cd := (3, 0, 256)) rfl dME_encrypt_359 (fun v30 hv30 => ?_)
              obtain ⟨r30, rfl, kr30⟩ := (show ∃ r : Nat, v30 = .ref r ∧ T r = some (0, 256) from hv30)
              refine mp_v (cx := []) (wr := []) hP hD hS hA [] [] rfl rfl rfl (by decide) (va_runS (As := [.ref r29, .ref r30]) (rest := []) F (t_ME_plus l g _ T xs pl hO hU hc0 r29 r30 kr29 kr30) (va_cwS 2 hts (wg_app (wg_c kw_1827 (wg_c kw_1828 (wg_c kw_11 wg_n))) kw_1829) rfl rfl rfl (by decide +kernel) ⟨by decide, by decide⟩) (pp_S (en_ok g) hP hD hS hA hE [] rfl rfl) rfl rfl hl.1 rfl (lv_room (Nat.le_of_ble_eq_true rfl)) dME_encrypt_362 ⟨by omega, by omega⟩) (fun  pl H locs hu28 hP hD hS => ?_)
              obtain ⟨hq28, hO⟩ := hu28
              have hP : va_P g.1 vcl ([] ++ pl) _ := hP
              have hD : va_D _ ([] ++ pl) := hD
              refine W.widen (k := 0) (n := 0) (by omega) (by omega) ?_
              refine lv_aload_n hx hb dME_encrypt_365 rfl (lv_at hl 2 rfl) ?_
              refine ty_get (ci := 11) (C := "LatticeKeysModel$Secrets") (TT := T_ME) (N := 14) (kd := (23, 0)) hx hb hts (wg_ft i_ME) hown hK hO k_h0 (nxg hc0 k_h0 rfl) hP (fun _ h9 => h9) rfl 6 (by decide) (hts _ (wg_t kw_1385)) (fun _ h9 => h9) (cd := (3, 0, 256)) rfl dME_encrypt_366 (fun v31 hv31 => ?_)
              obtain ⟨r31, rfl, kr31⟩ := (show ∃ r : Nat, v31 = .ref r ∧ T r = some (0, 256) from hv31)
              refine va_gets hx hb (hE.2.1 22 _ rfl).1 hS hown (hts _ (wg_t kw_1838)) (fun _ h9 => h9) dME_encrypt_369 ?_
              refine lv_iload_n hx hb dME_encrypt_372 rfl (lv_at hl 3 rfl) ?_
              refine va_ti (v := .int (nI 5)) hx hb (hE.2.1 22 _ rfl).2 hS (vp_in_nI (by decide) (by decide)) (by decide +kernel) dME_encrypt_373 ?_
              refine mp_v (cx := []) (wr := []) hP hD hS hA [] [] rfl rfl rfl (by decide) (va_runS (As := [.ref r31, .int (nI 5)]) (rest := []) F (t_ME_less_5 l g _ T xs pl hO hU hc0 r31 kr31) (va_cwS 2 hts (wg_app (wg_c kw_1832 (wg_c kw_1833 (wg_c kw_11 wg_n))) kw_1834) rfl rfl rfl (by decide +kernel) ⟨by decide, by decide⟩) (pp_S (en_ok g) hP hD hS hA hE [] rfl rfl) rfl rfl hl.1 rfl (lv_room (Nat.le_of_ble_eq_true rfl)) dME_encrypt_374 ⟨by omega, by omega⟩) (fun  pl H locs hu29 hP hD hS => ?_)
              obtain ⟨hq29, hO⟩ := hu29
              have hP : va_P g.1 vcl ([] ++ pl) _ := hP
              have hD : va_D _ ([] ++ pl) := hD
              refine W.widen (k := 0) (n := 0) (by omega) (by omega) ?_
              refine lv_aload_n hx hb dME_encrypt_377 rfl (lv_at hl 2 rfl) ?_
              refine ty_get (ci := 11) (C := "LatticeKeysModel$Secrets") (TT := T_ME) (N := 14) (kd := (23, 0)) hx hb hts (wg_ft i_ME) hown hK hO k_h0 (nxg hc0 k_h0 rfl) hP (fun _ h9 => h9) rfl 6 (by decide) (hts _ (wg_t kw_1385)) (fun _ h9 => h9) (cd := (3, 0, 256)) rfl dME_encrypt_378 (fun v32 hv32 => ?_)
              obtain ⟨r32, rfl, kr32⟩ := (show ∃ r : Nat, v32 = .ref r ∧ T r = some (0, 256) from hv32)
              refine lv_aload hx hb dME_encrypt_381 (lv_at hl 5 rfl) ?_
              refine lv_bipush (v := nI 32) hx hb dME_encrypt_383 (by decide) ?_
              refine va_gets hx hb (hE.2.1 21 _ rfl).1 hS hown (hts _ (wg_t kw_1830)) (fun _ h9 => h9) dME_encrypt_385 ?_
              refine lv_iload_n hx hb dME_encrypt_388 rfl (lv_at hl 3 rfl) ?_
              refine va_ti (v := .int (nI 11)) hx hb (hE.2.1 21 _ rfl).2 hS (vp_in_nI (by decide) (by decide)) (by decide +kernel) dME_encrypt_389 ?_
              refine mi_imul hx hb dME_encrypt_390 ?_
              refine mi_as (show nI (32 * 11) = nI 352 from rfl) ?_
              refine lv_iload hx hb dME_encrypt_391 (lv_at hl 1 rfl) ?_
              refine mi_imul hx hb dME_encrypt_393 ?_
              refine mi_as (show nI (352 * 4) = nI 1408 from rfl) ?_
              refine va_gets hx hb (hE.2.1 22 _ rfl).1 hS hown (hts _ (wg_t kw_1838)) (fun _ h9 => h9) dME_encrypt_394 ?_
              refine lv_iload_n hx hb dME_encrypt_397 rfl (lv_at hl 3 rfl) ?_
              refine va_ti (v := .int (nI 5)) hx hb (hE.2.1 22 _ rfl).2 hS (vp_in_nI (by decide) (by decide)) (by decide +kernel) dME_encrypt_398 ?_
              refine mp_v (cx := []) (wr := []) hP hD hS hA [] [] rfl rfl rfl (by decide) (va_runS (As := [.ref r32, .ref ct, .int (nI 1408), .int (nI 5)]) (rest := []) F (t_ME_write_5 l g _ T xs pl hO hU hc0 r32 ct nc 1408 kr32 k_ct (by omega) (by omega)) (va_cwS 4 hts (wg_app (wg_c kw_1685 (wg_c kw_1686 (wg_c kw_11 wg_n))) kw_1687) rfl rfl rfl (by decide +kernel) ⟨by decide, by decide⟩) (pp_S (en_ok g) hP hD hS hA hE [] rfl rfl) rfl rfl hl.1 rfl (lv_room (Nat.le_of_ble_eq_true rfl)) dME_encrypt_399 ⟨by omega, by omega⟩) (fun  pl H locs hu30 hP hD hS => ?_)
              obtain ⟨hq30, hO⟩ := hu30
              have hP : va_P g.1 vcl ([] ++ pl) _ := hP
              have hD : va_D _ ([] ++ pl) := hD
              refine W.widen (k := 0) (n := 0) (by omega) (by omega) ?_
              exact mp_vret hx hb hr hlk hP hD hS pl ⟨trivial, hO⟩ [] rfl rfl rfl (by omega) (by omega) dME_encrypt_402
            | succ n23 ih23 =>
              intro i23 pl ls H locs hm23  hl hO hP hD hS
              refine lv_iload hx hb dME_encrypt_262 (lv_at hl 0 rfl) ?_
              refine lv_iload hx hb dME_encrypt_264 (lv_at hl 1 rfl) ?_
              refine mi_ge (tgt := 297) hx hb dME_encrypt_266 (by decide) (by omega) (by omega) (fun h24 => absurd h24 (by omega)) (fun h24 => ?_)
              refine lv_aload_n hx hb dME_encrypt_269 rfl (lv_at hl 2 rfl) ?_
              refine lv_aload_n hx hb dME_encrypt_270 rfl (lv_at hl 2 rfl) ?_
              refine ty_get (ci := 11) (C := "LatticeKeysModel$Secrets") (TT := T_ME) (N := 14) (kd := (23, 0)) hx hb hts (wg_ft i_ME) hown hK hO k_h0 (nxg hc0 k_h0 rfl) hP (fun _ h9 => h9) rfl 5 (by decide) (hts _ (wg_t kw_1384)) (fun _ h9 => h9) (cd := (3, 3, 4)) rfl dME_encrypt_271 (fun v33 hv33 => ?_)
              obtain ⟨r33, rfl, kr33⟩ := (show ∃ r : Nat, v33 = .ref r ∧ T r = some (3, 4) from hv33)
              refine lv_iload hx hb dME_encrypt_274 (lv_at hl 0 rfl) ?_
              refine ty_aald3 hx hb hK hO kr33 (nxg hc0 kr33 rfl) hP (by omega) (by decide) dME_encrypt_276 (fun r34 kr34 => ?_)
              refine lv_aload_n hx hb dME_encrypt_277 rfl (lv_at hl 2 rfl) ?_
              refine ty_get (ci := 11) (C := "LatticeKeysModel$Secrets") (TT := T_ME) (N := 14) (kd := (23, 0)) hx hb hts (wg_ft i_ME) hown hK hO k_h0 (nxg hc0 k_h0 rfl) hP (fun _ h9 => h9) rfl 3 (by decide) (hts _ (wg_t kw_1382)) (fun _ h9 => h9) (cd := (3, 3, 4)) rfl dME_encrypt_278 (fun v34 hv34 => ?_)
              obtain ⟨r35, rfl, kr35⟩ := (show ∃ r : Nat, v34 = .ref r ∧ T r = some (3, 4) from hv34)
              refine lv_iload hx hb dME_encrypt_281 (lv_at hl 0 rfl) ?_
              refine ty_aald3 hx hb hK hO kr35 (nxg hc0 kr35 rfl) hP (by omega) (by decide) dME_encrypt_283 (fun r36 kr36 => ?_)
              refine lv_aload_n hx hb dME_encrypt_284 rfl (lv_at hl 2 rfl) ?_
              refine ty_get (ci := 11) (C := "LatticeKeysModel$Secrets") (TT := T_ME) (N := 14) (kd := (23, 0)) hx hb hts (wg_ft i_ME) hown hK hO k_h0 (nxg hc0 k_h0 rfl) hP (fun _ h9 => h9) rfl 6 (by decide) (hts _ (wg_t kw_1385)) (fun _ h9 => h9) (cd := (3, 0, 256)) rfl dME_encrypt_285 (fun v35 hv35 => ?_)
              obtain ⟨r37, rfl, kr37⟩ := (show ∃ r : Nat, v35 = .ref r ∧ T r = some (0, 256) from hv35)
              refine mp_v (cx := []) (wr := []) hP hD hS hA [] [] rfl rfl rfl (by decide) (va_runV (As := [.ref r34, .ref r36, .ref r37]) (rest := []) F (t_ME_product l g _ T xs pl hO hU hc0 h0 r34 r36 r37 k_h0 kr34 kr36 kr37) (cwV 3 hts (wg_app (wg_c kw_1676 (wg_c kw_1678 (wg_c ks_58 (wg_c kw_11 wg_n)))) kw_1679) rfl rfl rfl (by decide +kernel) ⟨by decide, by decide⟩) (pp_VT (en_ok g) (ci := 11) (kd := (23, 0)) hK hO k_h0 (nxg hc0 k_h0 rfl) (fun _ h9 => ko1 h9) hP hD hS hA hE [] rfl rfl rfl) rfl rfl hl.1 rfl (lv_room (Nat.le_of_ble_eq_true rfl)) dME_encrypt_288 ⟨by omega, by omega⟩) (fun  pl H locs hu31 hP hD hS => ?_)
              obtain ⟨hq31, hO⟩ := hu31
              have hP : va_P g.1 vcl ([] ++ pl) _ := hP
              have hD : va_D _ ([] ++ pl) := hD
              refine W.widen (k := 0) (n := 0) (by omega) (by omega) ?_
              refine mi_iinc (k := 0) (x := i23) (d := 1) (y := i23 + 1) (lv' := [(7, .int (nI (i23 + 1))), (6, .int (nI 4)), (0, .ref h0), (1, .int (nI 2)), (4, .ref ms), (5, .ref ct)]) hx hb dME_encrypt_291 hl rfl (by decide) rfl (by decide) rfl (fun ls hl => ?_)
              refine lv_goto (tgt := 262) hx hb dME_encrypt_294 (by decide) ?_
              exact ih23 (i23 + 1) pl ls H locs (by omega) (lv_sub hl [0, 1, 2, 3, 4, 5] rfl) hO hP hD hS
          exact lp23 4 0 pl ls _ _ (by omega) (lv_sub hl [0, 1, 2, 3, 4, 5] rfl) hO hP hD hS
        | succ n22 ih22 =>
          intro i22 pl ls H locs hm22  hl hO hP hD hS
          refine lv_iload hx hb dME_encrypt_130 (lv_at hl 0 rfl) ?_
          refine lv_iload hx hb dME_encrypt_132 (lv_at hl 1 rfl) ?_
          refine mi_ge (tgt := 252) hx hb dME_encrypt_134 (by decide) (by omega) (by omega) (fun h25 => absurd h25 (by omega)) (fun h25 => ?_)
          refine lv_aload_n hx hb dME_encrypt_137 rfl (lv_at hl 2 rfl) ?_
          refine ty_get (ci := 11) (C := "LatticeKeysModel$Secrets") (TT := T_ME) (N := 14) (kd := (23, 0)) hx hb hts (wg_ft i_ME) hown hK hO k_h0 (nxg hc0 k_h0 rfl) hP (fun _ h9 => h9) rfl 6 (by decide) (hts _ (wg_t kw_1385)) (fun _ h9 => h9) (cd := (3, 0, 256)) rfl dME_encrypt_138 (fun v36 hv36 => ?_)
          obtain ⟨r38, rfl, kr38⟩ := (show ∃ r : Nat, v36 = .ref r ∧ T r = some (0, 256) from hv36)
          refine mp_v (cx := []) (wr := []) hP hD hS hA [] [] rfl rfl rfl (by decide) (va_runS (As := [.ref r38]) (rest := []) F (t_ME_clear l g _ T xs pl hO hU hc0 r38 kr38) (va_cwS 1 hts (wg_app (wg_c kw_1819 (wg_c kw_1820 (wg_c kw_11 wg_n))) kw_1821) rfl rfl rfl (by decide +kernel) ⟨by decide, by decide⟩) (pp_S (en_ok g) hP hD hS hA hE [] rfl rfl) rfl rfl hl.1 rfl (lv_room (Nat.le_of_ble_eq_true rfl)) dME_encrypt_141 ⟨by omega, by omega⟩) (fun  pl H locs hu32 hP hD hS => ?_)
          obtain ⟨hq32, hO⟩ := hu32
          have hP : va_P g.1 vcl ([] ++ pl) _ := hP
          have hD : va_D _ ([] ++ pl) := hD
          refine W.widen (k := 0) (n := 0) (by omega) (by omega) ?_
          refine lv_iconst (v := nI 0) hx hb dME_encrypt_144 (by decide) ?_
          refine lv_istore (lv' := [(8, .int (nI 0)), (7, .int (nI i22)), (6, .int (nI 4)), (0, .ref h0), (1, .int (nI 2)), (4, .ref ms), (5, .ref ct)]) hx hb dME_encrypt_145 hl (by decide) rfl (fun ls hl => ?_)
          have lp24 : ∀ (n24 : Nat) (i24 : Nat) (pl : va_W) (ls : Array Slot) (H : Heap) (locs : List Loc), n24 + i24 = 4 → lv_has ls 9 [(8, .int (nI i24)), (7, .int (nI i22)), (6, .int (nI 4)), (0, .ref h0), (1, .int (nI 2)), (4, .ref ms), (5, .ref ct)] → okx g T xs pl → va_P g.1 vcl ([] ++ pl) H → va_D A ([] ++ pl) → va_S A s.heap H locs → W p l e ({ frames := 5, cells := 0, slots := 0, locals := 126 } : Room) s m args below meth c H locs 0 0 (MQ below (va_Qv (fun (u : va_W) => (True) ∧ okx g T xs u) (po g.1 vcl A (fun (u : va_W) => [] ++ u)) A) args s 0 0 A) (F0 m 147 ls []) := by
            intro n24
            induction n24 with
            | zero =>
              intro i24 pl ls H locs hm24  hl hO hP hD hS
              refine lv_iload hx hb dME_encrypt_147 (lv_at hl 0 rfl) ?_
              refine lv_iload hx hb dME_encrypt_149 (lv_at hl 2 rfl) ?_
              refine mi_ge (tgt := 187) hx hb dME_encrypt_151 (by decide) (by omega) (by omega) (fun h26 => ?_) (fun h26 => absurd h26 (by omega))
              refine lv_aload_n hx hb dME_encrypt_187 rfl (lv_at hl 3 rfl) ?_
              refine lv_aload_n hx hb dME_encrypt_188 rfl (lv_at hl 3 rfl) ?_
              refine ty_get (ci := 11) (C := "LatticeKeysModel$Secrets") (TT := T_ME) (N := 14) (kd := (23, 0)) hx hb hts (wg_ft i_ME) hown hK hO k_h0 (nxg hc0 k_h0 rfl) hP (fun _ h9 => h9) rfl 6 (by decide) (hts _ (wg_t kw_1385)) (fun _ h9 => h9) (cd := (3, 0, 256)) rfl dME_encrypt_189 (fun v37 hv37 => ?_)
              obtain ⟨r39, rfl, kr39⟩ := (show ∃ r : Nat, v37 = .ref r ∧ T r = some (0, 256) from hv37)
              refine mp_v (cx := []) (wr := []) hP hD hS hA [] [] rfl rfl rfl (by decide) (va_runV (As := [.ref r39]) (rest := []) F (t_ME_back l g _ T xs pl hO hU hc0 h0 r39 k_h0 kr39) (cwV 1 hts (wg_app (wg_c kw_1822 (wg_c kw_1824 (wg_c ks_69 (wg_c kw_11 wg_n)))) kw_1825) rfl rfl rfl (by decide +kernel) ⟨by decide, by decide⟩) (pp_VT (en_ok g) (ci := 11) (kd := (23, 0)) hK hO k_h0 (nxg hc0 k_h0 rfl) (fun _ h9 => ko1 h9) hP hD hS hA hE [] rfl rfl rfl) rfl rfl hl.1 rfl (lv_room (Nat.le_of_ble_eq_true rfl)) dME_encrypt_192 ⟨by omega, by omega⟩) (fun  pl H locs hu33 hP hD hS => ?_)
              obtain ⟨hq33, hO⟩ := hu33
              have hP : va_P g.1 vcl ([] ++ pl) _ := hP
              have hD : va_D _ ([] ++ pl) := hD
              refine W.widen (k := 0) (n := 0) (by omega) (by omega) ?_
              refine lv_aload_n hx hb dME_encrypt_195 rfl (lv_at hl 3 rfl) ?_
              refine ty_get (ci := 11) (C := "LatticeKeysModel$Secrets") (TT := T_ME) (N := 14) (kd := (23, 0)) hx hb hts (wg_ft i_ME) hown hK hO k_h0 (nxg hc0 k_h0 rfl) hP (fun _ h9 => h9) rfl 6 (by decide) (hts _ (wg_t kw_1385)) (fun _ h9 => h9) (cd := (3, 0, 256)) rfl dME_encrypt_196 (fun v38 hv38 => ?_)
              obtain ⟨r40, rfl, kr40⟩ := (show ∃ r : Nat, v38 = .ref r ∧ T r = some (0, 256) from hv38)
              refine lv_aload_n hx hb dME_encrypt_199 rfl (lv_at hl 3 rfl) ?_
              refine ty_get (ci := 11) (C := "LatticeKeysModel$Secrets") (TT := T_ME) (N := 14) (kd := (23, 0)) hx hb hts (wg_ft i_ME) hown hK hO k_h0 (nxg hc0 k_h0 rfl) hP (fun _ h9 => h9) rfl 4 (by decide) (hts _ (wg_t kw_1383)) (fun _ h9 => h9) (cd := (3, 3, 4)) rfl dME_encrypt_200 (fun v39 hv39 => ?_)
              obtain ⟨r41, rfl, kr41⟩ := (show ∃ r : Nat, v39 = .ref r ∧ T r = some (3, 4) from hv39)
              refine lv_iload hx hb dME_encrypt_203 (lv_at hl 1 rfl) ?_
              refine ty_aald3 hx hb hK hO kr41 (nxg hc0 kr41 rfl) hP (by omega) (by decide) dME_encrypt_205 (fun r42 kr42 => ?_)
              refine mp_v (cx := []) (wr := []) hP hD hS hA [] [] rfl rfl rfl (by decide) (va_runS (As := [.ref r40, .ref r42]) (rest := []) F (t_ME_plus l g _ T xs pl hO hU hc0 r40 r42 kr40 kr42) (va_cwS 2 hts (wg_app (wg_c kw_1827 (wg_c kw_1828 (wg_c kw_11 wg_n))) kw_1829) rfl rfl rfl (by decide +kernel) ⟨by decide, by decide⟩) (pp_S (en_ok g) hP hD hS hA hE [] rfl rfl) rfl rfl hl.1 rfl (lv_room (Nat.le_of_ble_eq_true rfl)) dME_encrypt_206 ⟨by omega, by omega⟩) (fun  pl H locs hu34 hP hD hS => ?_)
              obtain ⟨hq34, hO⟩ := hu34
              have hP : va_P g.1 vcl ([] ++ pl) _ := hP
              have hD : va_D _ ([] ++ pl) := hD
              refine W.widen (k := 0) (n := 0) (by omega) (by omega) ?_
              refine lv_aload_n hx hb dME_encrypt_209 rfl (lv_at hl 3 rfl) ?_
              refine ty_get (ci := 11) (C := "LatticeKeysModel$Secrets") (TT := T_ME) (N := 14) (kd := (23, 0)) hx hb hts (wg_ft i_ME) hown hK hO k_h0 (nxg hc0 k_h0 rfl) hP (fun _ h9 => h9) rfl 6 (by decide) (hts _ (wg_t kw_1385)) (fun _ h9 => h9) (cd := (3, 0, 256)) rfl dME_encrypt_210 (fun v40 hv40 => ?_)
              obtain ⟨r43, rfl, kr43⟩ := (show ∃ r : Nat, v40 = .ref r ∧ T r = some (0, 256) from hv40)
              refine va_gets hx hb (hE.2.1 21 _ rfl).1 hS hown (hts _ (wg_t kw_1830)) (fun _ h9 => h9) dME_encrypt_213 ?_
              refine lv_iload_n hx hb dME_encrypt_216 rfl (lv_at hl 4 rfl) ?_
              refine va_ti (v := .int (nI 11)) hx hb (hE.2.1 21 _ rfl).2 hS (vp_in_nI (by decide) (by decide)) (by decide +kernel) dME_encrypt_217 ?_
              refine mp_v (cx := []) (wr := []) hP hD hS hA [] [] rfl rfl rfl (by decide) (va_runS (As := [.ref r43, .int (nI 11)]) (rest := []) F (t_ME_less_11 l g _ T xs pl hO hU hc0 r43 kr43) (va_cwS 2 hts (wg_app (wg_c kw_1832 (wg_c kw_1833 (wg_c kw_11 wg_n))) kw_1834) rfl rfl rfl (by decide +kernel) ⟨by decide, by decide⟩) (pp_S (en_ok g) hP hD hS hA hE [] rfl rfl) rfl rfl hl.1 rfl (lv_room (Nat.le_of_ble_eq_true rfl)) dME_encrypt_218 ⟨by omega, by omega⟩) (fun  pl H locs hu35 hP hD hS => ?_)
              obtain ⟨hq35, hO⟩ := hu35
              have hP : va_P g.1 vcl ([] ++ pl) _ := hP
              have hD : va_D _ ([] ++ pl) := hD
              refine W.widen (k := 0) (n := 0) (by omega) (by omega) ?_
              refine lv_aload_n hx hb dME_encrypt_221 rfl (lv_at hl 3 rfl) ?_
              refine ty_get (ci := 11) (C := "LatticeKeysModel$Secrets") (TT := T_ME) (N := 14) (kd := (23, 0)) hx hb hts (wg_ft i_ME) hown hK hO k_h0 (nxg hc0 k_h0 rfl) hP (fun _ h9 => h9) rfl 6 (by decide) (hts _ (wg_t kw_1385)) (fun _ h9 => h9) (cd := (3, 0, 256)) rfl dME_encrypt_222 (fun v41 hv41 => ?_)
              obtain ⟨r44, rfl, kr44⟩ := (show ∃ r : Nat, v41 = .ref r ∧ T r = some (0, 256) from hv41)
              refine lv_aload hx hb dME_encrypt_225 (lv_at hl 6 rfl) ?_
              refine lv_bipush (v := nI 32) hx hb dME_encrypt_227 (by decide) ?_
              refine va_gets hx hb (hE.2.1 21 _ rfl).1 hS hown (hts _ (wg_t kw_1830)) (fun _ h9 => h9) dME_encrypt_229 ?_
              refine lv_iload_n hx hb dME_encrypt_232 rfl (lv_at hl 4 rfl) ?_
              refine va_ti (v := .int (nI 11)) hx hb (hE.2.1 21 _ rfl).2 hS (vp_in_nI (by decide) (by decide)) (by decide +kernel) dME_encrypt_233 ?_
              refine mi_imul hx hb dME_encrypt_234 ?_
              refine mi_as (show nI (32 * 11) = nI 352 from rfl) ?_
              refine lv_iload hx hb dME_encrypt_235 (lv_at hl 1 rfl) ?_
              refine mi_imul hx hb dME_encrypt_237 ?_
              refine va_gets hx hb (hE.2.1 21 _ rfl).1 hS hown (hts _ (wg_t kw_1830)) (fun _ h9 => h9) dME_encrypt_238 ?_
              refine lv_iload_n hx hb dME_encrypt_241 rfl (lv_at hl 4 rfl) ?_
              refine va_ti (v := .int (nI 11)) hx hb (hE.2.1 21 _ rfl).2 hS (vp_in_nI (by decide) (by decide)) (by decide +kernel) dME_encrypt_242 ?_
              refine mp_v (cx := []) (wr := []) hP hD hS hA [] [] rfl rfl rfl (by decide) (va_runS (As := [.ref r44, .ref ct, .int (nI (352 * i22)), .int (nI 11)]) (rest := []) F (t_ME_write_11 l g _ T xs pl hO hU hc0 r44 ct nc (352 * i22) kr44 k_ct (by omega) (by omega)) (va_cwS 4 hts (wg_app (wg_c kw_1685 (wg_c kw_1686 (wg_c kw_11 wg_n))) kw_1687) rfl rfl rfl (by decide +kernel) ⟨by decide, by decide⟩) (pp_S (en_ok g) hP hD hS hA hE [] rfl rfl) rfl rfl hl.1 rfl (lv_room (Nat.le_of_ble_eq_true rfl)) dME_encrypt_243 ⟨by omega, by omega⟩) (fun  pl H locs hu36 hP hD hS => ?_)
              obtain ⟨hq36, hO⟩ := hu36
              have hP : va_P g.1 vcl ([] ++ pl) _ := hP
              have hD : va_D _ ([] ++ pl) := hD
              refine W.widen (k := 0) (n := 0) (by omega) (by omega) ?_
              refine mi_iinc (k := 1) (x := i22) (d := 1) (y := i22 + 1) (lv' := [(7, .int (nI (i22 + 1))), (8, .int (nI i24)), (6, .int (nI 4)), (0, .ref h0), (1, .int (nI 2)), (4, .ref ms), (5, .ref ct)]) hx hb dME_encrypt_246 hl rfl (by decide) rfl (by decide) rfl (fun ls hl => ?_)
              refine lv_goto (tgt := 130) hx hb dME_encrypt_249 (by decide) ?_
              exact ih22 (i22 + 1) pl ls H locs (by omega) (lv_sub hl [0, 2, 3, 4, 5, 6] rfl) hO hP hD hS
            | succ n24 ih24 =>
              intro i24 pl ls H locs hm24  hl hO hP hD hS
              refine lv_iload hx hb dME_encrypt_147 (lv_at hl 0 rfl) ?_
              refine lv_iload hx hb dME_encrypt_149 (lv_at hl 2 rfl) ?_
              refine mi_ge (tgt := 187) hx hb dME_encrypt_151 (by decide) (by omega) (by omega) (fun h27 => absurd h27 (by omega)) (fun h27 => ?_)
              refine lv_aload_n hx hb dME_encrypt_154 rfl (lv_at hl 3 rfl) ?_
              refine lv_aload_n hx hb dME_encrypt_155 rfl (lv_at hl 3 rfl) ?_
              refine ty_get (ci := 11) (C := "LatticeKeysModel$Secrets") (TT := T_ME) (N := 14) (kd := (23, 0)) hx hb hts (wg_ft i_ME) hown hK hO k_h0 (nxg hc0 k_h0 rfl) hP (fun _ h9 => h9) rfl 2 (by decide) (hts _ (wg_t kw_1381)) (fun _ h9 => h9) (cd := (3, 3, 16)) rfl dME_encrypt_156 (fun v42 hv42 => ?_)
              obtain ⟨r45, rfl, kr45⟩ := (show ∃ r : Nat, v42 = .ref r ∧ T r = some (3, 16) from hv42)
              refine lv_iconst (v := nI 4) hx hb dME_encrypt_159 (by decide) ?_
              refine lv_iload hx hb dME_encrypt_160 (lv_at hl 0 rfl) ?_
              refine mi_imul hx hb dME_encrypt_162 ?_
              refine lv_iload hx hb dME_encrypt_163 (lv_at hl 1 rfl) ?_
              refine mi_iadd hx hb dME_encrypt_165 ?_
              refine ty_aald3 hx hb hK hO kr45 (nxg hc0 kr45 rfl) hP (by omega) (by decide) dME_encrypt_166 (fun r46 kr46 => ?_)
              refine lv_aload_n hx hb dME_encrypt_167 rfl (lv_at hl 3 rfl) ?_
              refine ty_get (ci := 11) (C := "LatticeKeysModel$Secrets") (TT := T_ME) (N := 14) (kd := (23, 0)) hx hb hts (wg_ft i_ME) hown hK hO k_h0 (nxg hc0 k_h0 rfl) hP (fun _ h9 => h9) rfl 3 (by decide) (hts _ (wg_t kw_1382)) (fun _ h9 => h9) (cd := (3, 3, 4)) rfl dME_encrypt_168 (fun v43 hv43 => ?_)
              obtain ⟨r47, rfl, kr47⟩ := (show ∃ r : Nat, v43 = .ref r ∧ T r = some (3, 4) from hv43)
              refine lv_iload hx hb dME_encrypt_171 (lv_at hl 0 rfl) ?_
              refine ty_aald3 hx hb hK hO kr47 (nxg hc0 kr47 rfl) hP (by omega) (by decide) dME_encrypt_173 (fun r48 kr48 => ?_)
              refine lv_aload_n hx hb dME_encrypt_174 rfl (lv_at hl 3 rfl) ?_
              refine ty_get (ci := 11) (C := "LatticeKeysModel$Secrets") (TT := T_ME) (N := 14) (kd := (23, 0)) hx hb hts (wg_ft i_ME) hown hK hO k_h0 (nxg hc0 k_h0 rfl) hP (fun _ h9 => h9) rfl 6 (by decide) (hts _ (wg_t kw_1385)) (fun _ h9 => h9) (cd := (3, 0, 256)) rfl dME_encrypt_175 (fun v44 hv44 => ?_)
              obtain ⟨r49, rfl, kr49⟩ := (show ∃ r : Nat, v44 = .ref r ∧ T r = some (0, 256) from hv44)
              refine mp_v (cx := []) (wr := []) hP hD hS hA [] [] rfl rfl rfl (by decide) (va_runV (As := [.ref r46, .ref r48, .ref r49]) (rest := []) F (t_ME_product l g _ T xs pl hO hU hc0 h0 r46 r48 r49 k_h0 kr46 kr48 kr49) (cwV 3 hts (wg_app (wg_c kw_1676 (wg_c kw_1678 (wg_c ks_58 (wg_c kw_11 wg_n)))) kw_1679) rfl rfl rfl (by decide +kernel) ⟨by decide, by decide⟩) (pp_VT (en_ok g) (ci := 11) (kd := (23, 0)) hK hO k_h0 (nxg hc0 k_h0 rfl) (fun _ h9 => ko1 h9) hP hD hS hA hE [] rfl rfl rfl) rfl rfl hl.1 rfl (lv_room (Nat.le_of_ble_eq_true rfl)) dME_encrypt_178 ⟨by omega, by omega⟩) (fun  pl H locs hu37 hP hD hS => ?_)
              obtain ⟨hq37, hO⟩ := hu37
              have hP : va_P g.1 vcl ([] ++ pl) _ := hP
              have hD : va_D _ ([] ++ pl) := hD
              refine W.widen (k := 0) (n := 0) (by omega) (by omega) ?_
              refine mi_iinc (k := 0) (x := i24) (d := 1) (y := i24 + 1) (lv' := [(8, .int (nI (i24 + 1))), (7, .int (nI i22)), (6, .int (nI 4)), (0, .ref h0), (1, .int (nI 2)), (4, .ref ms), (5, .ref ct)]) hx hb dME_encrypt_181 hl rfl (by decide) rfl (by decide) rfl (fun ls hl => ?_)
              refine lv_goto (tgt := 147) hx hb dME_encrypt_184 (by decide) ?_
              exact ih24 (i24 + 1) pl ls H locs (by omega) (lv_sub hl [0, 1, 2, 3, 4, 5, 6] rfl) hO hP hD hS
          exact lp24 4 0 pl ls _ _ (by omega) (lv_sub hl [0, 1, 2, 3, 4, 5, 6] rfl) hO hP hD hS
      exact lp22 4 0 pl ls _ _ (by omega) (lv_sub hl [0, 1, 2, 3, 6, 7] rfl) hO hP hD hS
    | succ n21 ih21 =>
      intro i21 pl ls H locs hm21  hl hO hP hD hS
      refine lv_iload hx hb dME_encrypt_25 (lv_at hl 0 rfl) ?_
      refine lv_iload hx hb dME_encrypt_27 (lv_at hl 1 rfl) ?_
      refine mi_ge (tgt := 127) hx hb dME_encrypt_29 (by decide) (by omega) (by omega) (fun h28 => absurd h28 (by omega)) (fun h28 => ?_)
      refine lv_aload_n hx hb dME_encrypt_32 rfl (lv_at hl 4 rfl) ?_
      refine lv_iload_n hx hb dME_encrypt_33 rfl (lv_at hl 5 rfl) ?_
      refine lv_sipush (v := nI 384) hx hb dME_encrypt_34 (by decide) ?_
      refine lv_iload hx hb dME_encrypt_37 (lv_at hl 0 rfl) ?_
      refine mi_imul hx hb dME_encrypt_39 ?_
      refine mi_iadd hx hb dME_encrypt_40 ?_
      refine lv_bipush (v := nI 12) hx hb dME_encrypt_41 (by decide) ?_
      refine lv_aload_n hx hb dME_encrypt_43 rfl (lv_at hl 2 rfl) ?_
      refine ty_get (ci := 11) (C := "LatticeKeysModel$Secrets") (TT := T_ME) (N := 14) (kd := (23, 0)) hx hb hts (wg_ft i_ME) hown hK hO k_h0 (nxg hc0 k_h0 rfl) hP (fun _ h9 => h9) rfl 5 (by decide) (hts _ (wg_t kw_1384)) (fun _ h9 => h9) (cd := (3, 3, 4)) rfl dME_encrypt_44 (fun v45 hv45 => ?_)
      obtain ⟨r50, rfl, kr50⟩ := (show ∃ r : Nat, v45 = .ref r ∧ T r = some (3, 4) from hv45)
      refine lv_iload hx hb dME_encrypt_47 (lv_at hl 0 rfl) ?_
      refine ty_aald3 hx hb hK hO kr50 (nxg hc0 kr50 rfl) hP (by omega) (by decide) dME_encrypt_49 (fun r51 kr51 => ?_)
      refine mp_v (cx := []) (wr := []) hP hD hS hA [] [] rfl rfl rfl (by decide) (va_runS (As := [.ref ek, .int (nI (at_ + (384 * i21))), .int (nI 12), .ref r51]) (rest := []) F (t_ME_read_12 l g _ T xs pl hO hU hc0 ek r51 n (at_ + (384 * i21)) k_ek kr51 (by omega) (by omega)) (va_cwS 4 hts (wg_app (wg_c kw_1813 (wg_c kw_1814 (wg_c kw_11 wg_n))) kw_1815) rfl rfl rfl (by decide +kernel) ⟨by decide, by decide⟩) (pp_S (en_ok g) hP hD hS hA hE [] rfl rfl) rfl rfl hl.1 rfl (lv_room (Nat.le_of_ble_eq_true rfl)) dME_encrypt_50 ⟨by omega, by omega⟩) (fun  pl H locs hu38 hP hD hS => ?_)
      obtain ⟨hq38, hO⟩ := hu38
      have hP : va_P g.1 vcl ([] ++ pl) _ := hP
      have hD : va_D _ ([] ++ pl) := hD
      refine W.widen (k := 0) (n := 0) (by omega) (by omega) ?_
      refine lv_aload_n hx hb dME_encrypt_53 rfl (lv_at hl 2 rfl) ?_
      refine ty_get (ci := 11) (C := "LatticeKeysModel$Secrets") (TT := T_ME) (N := 14) (kd := (23, 0)) hx hb hts (wg_ft i_ME) hown hK hO k_h0 (nxg hc0 k_h0 rfl) hP (fun _ h9 => h9) rfl 5 (by decide) (hts _ (wg_t kw_1384)) (fun _ h9 => h9) (cd := (3, 3, 4)) rfl dME_encrypt_54 (fun v46 hv46 => ?_)
      obtain ⟨r52, rfl, kr52⟩ := (show ∃ r : Nat, v46 = .ref r ∧ T r = some (3, 4) from hv46)
      refine lv_iload hx hb dME_encrypt_57 (lv_at hl 0 rfl) ?_
      refine ty_aald3 hx hb hK hO kr52 (nxg hc0 kr52 rfl) hP (by omega) (by decide) dME_encrypt_59 (fun r53 kr53 => ?_)
      refine mp_v (cx := []) (wr := []) hP hD hS hA [] [] rfl rfl rfl (by decide) (va_runS (As := [.ref r53]) (rest := []) F (t_ME_proper l g _ T xs pl hO hU hc0 r53 kr53) (va_cwS 1 hts (wg_app (wg_c kw_1816 (wg_c kw_1817 (wg_c kw_11 wg_n))) kw_1818) rfl rfl rfl (by decide +kernel) ⟨by decide, by decide⟩) (pp_S (en_ok g) hP hD hS hA hE [] rfl rfl) rfl rfl hl.1 rfl (lv_room (Nat.le_of_ble_eq_true rfl)) dME_encrypt_60 ⟨by omega, by omega⟩) (fun  pl H locs hu39 hP hD hS => ?_)
      obtain ⟨hq39, hO⟩ := hu39
      have hP : va_P g.1 vcl ([] ++ pl) _ := hP
      have hD : va_D _ ([] ++ pl) := hD
      refine W.widen (k := 0) (n := 0) (by omega) (by omega) ?_
      refine lv_aload_n hx hb dME_encrypt_63 rfl (lv_at hl 2 rfl) ?_
      refine lv_aload_n hx hb dME_encrypt_64 rfl (lv_at hl 2 rfl) ?_
      refine ty_get (ci := 11) (C := "LatticeKeysModel$Secrets") (TT := T_ME) (N := 14) (kd := (23, 0)) hx hb hts (wg_ft i_ME) hown hK hO k_h0 (nxg hc0 k_h0 rfl) hP (fun _ h9 => h9) rfl 3 (by decide) (hts _ (wg_t kw_1382)) (fun _ h9 => h9) (cd := (3, 3, 4)) rfl dME_encrypt_65 (fun v47 hv47 => ?_)
      obtain ⟨r54, rfl, kr54⟩ := (show ∃ r : Nat, v47 = .ref r ∧ T r = some (3, 4) from hv47)
      refine lv_iload hx hb dME_encrypt_68 (lv_at hl 0 rfl) ?_
      refine ty_aald3 hx hb hK hO kr54 (nxg hc0 kr54 rfl) hP (by omega) (by decide) dME_encrypt_70 (fun r55 kr55 => ?_)
      refine lv_aload_n hx hb dME_encrypt_71 rfl (lv_at hl 2 rfl) ?_
      refine ty_get (ci := 11) (C := "LatticeKeysModel$Secrets") (TT := T_ME) (N := 14) (kd := (23, 0)) hx hb hts (wg_ft i_ME) hown hK hO k_h0 (nxg hc0 k_h0 rfl) hP (fun _ h9 => h9) rfl 9 (by decide) (hts _ (wg_t kw_1388)) (fun _ h9 => h9) (cd := (3, 1, 64)) rfl dME_encrypt_72 (fun v48 hv48 => ?_)
      obtain ⟨r56, rfl, kr56⟩ := (show ∃ r : Nat, v48 = .ref r ∧ T r = some (1, 64) from hv48)
      refine lv_bipush (v := nI 32) hx hb dME_encrypt_75 (by decide) ?_
      refine lv_iload hx hb dME_encrypt_77 (lv_at hl 0 rfl) ?_
      refine va_gets hx hb (hE.2.1 20 _ rfl).1 hS hown (hts _ (wg_t kw_1654)) (fun _ h9 => h9) dME_encrypt_79 ?_
      refine lv_iload_n hx hb dME_encrypt_82 rfl (lv_at hl 3 rfl) ?_
      refine va_ti (v := .int (nI 2)) hx hb (hE.2.1 20 _ rfl).2 hS (vp_in_nI (by decide) (by decide)) (by decide +kernel) dME_encrypt_83 ?_
      refine mp_v (cx := []) (wr := []) hP hD hS hA [] [] rfl rfl rfl (by decide) (va_runV (As := [.ref r55, .ref r56, .int (nI 32), .int (nI i21), .int (nI 2)]) (rest := []) F (t_ME_noise_2 l g _ T xs pl hO hU hc0 hc9 h0 r55 r56 64 32 (nI i21) k_h0 kr55 kr56 (by omega) (by omega)) (cwV 5 hts (wg_app (wg_c kw_1656 (wg_c kw_1658 (wg_c ks_56 (wg_c kw_11 wg_n)))) kw_1659) rfl rfl rfl (by decide +kernel) ⟨by decide, by decide⟩) (pp_VT (en_ok g) (ci := 11) (kd := (23, 0)) hK hO k_h0 (nxg hc0 k_h0 rfl) (fun _ h9 => ko1 h9) hP hD hS hA hE [] rfl rfl rfl) rfl rfl hl.1 rfl (lv_room (Nat.le_of_ble_eq_true rfl)) dME_encrypt_84 ⟨by omega, by omega⟩) (fun  pl H locs hu40 hP hD hS => ?_)
      obtain ⟨hq40, hO⟩ := hu40
      have hP : va_P g.1 vcl ([] ++ pl) _ := hP
      have hD : va_D _ ([] ++ pl) := hD
      refine W.widen (k := 0) (n := 0) (by omega) (by omega) ?_
      refine lv_aload_n hx hb dME_encrypt_87 rfl (lv_at hl 2 rfl) ?_
      refine lv_aload_n hx hb dME_encrypt_88 rfl (lv_at hl 2 rfl) ?_
      refine ty_get (ci := 11) (C := "LatticeKeysModel$Secrets") (TT := T_ME) (N := 14) (kd := (23, 0)) hx hb hts (wg_ft i_ME) hown hK hO k_h0 (nxg hc0 k_h0 rfl) hP (fun _ h9 => h9) rfl 4 (by decide) (hts _ (wg_t kw_1383)) (fun _ h9 => h9) (cd := (3, 3, 4)) rfl dME_encrypt_89 (fun v49 hv49 => ?_)
      obtain ⟨r57, rfl, kr57⟩ := (show ∃ r : Nat, v49 = .ref r ∧ T r = some (3, 4) from hv49)
      refine lv_iload hx hb dME_encrypt_92 (lv_at hl 0 rfl) ?_
      refine ty_aald3 hx hb hK hO kr57 (nxg hc0 kr57 rfl) hP (by omega) (by decide) dME_encrypt_94 (fun r58 kr58 => ?_)
      refine lv_aload_n hx hb dME_encrypt_95 rfl (lv_at hl 2 rfl) ?_
      refine ty_get (ci := 11) (C := "LatticeKeysModel$Secrets") (TT := T_ME) (N := 14) (kd := (23, 0)) hx hb hts (wg_ft i_ME) hown hK hO k_h0 (nxg hc0 k_h0 rfl) hP (fun _ h9 => h9) rfl 9 (by decide) (hts _ (wg_t kw_1388)) (fun _ h9 => h9) (cd := (3, 1, 64)) rfl dME_encrypt_96 (fun v50 hv50 => ?_)
      obtain ⟨r59, rfl, kr59⟩ := (show ∃ r : Nat, v50 = .ref r ∧ T r = some (1, 64) from hv50)
      refine lv_bipush (v := nI 32) hx hb dME_encrypt_99 (by decide) ?_
      refine lv_iload hx hb dME_encrypt_101 (lv_at hl 1 rfl) ?_
      refine lv_iload hx hb dME_encrypt_103 (lv_at hl 0 rfl) ?_
      refine mi_iadd hx hb dME_encrypt_105 ?_
      refine lv_iconst (v := nI 2) hx hb dME_encrypt_106 (by decide) ?_
      refine mp_v (cx := []) (wr := []) hP hD hS hA [] [] rfl rfl rfl (by decide) (va_runV (As := [.ref r58, .ref r59, .int (nI 32), .int (nI (4 + i21)), .int (nI 2)]) (rest := []) F (t_ME_noise_2 l g _ T xs pl hO hU hc0 hc9 h0 r58 r59 64 32 (nI (4 + i21)) k_h0 kr58 kr59 (by omega) (by omega)) (cwV 5 hts (wg_app (wg_c kw_1656 (wg_c kw_1658 (wg_c ks_56 (wg_c kw_11 wg_n)))) kw_1659) rfl rfl rfl (by decide +kernel) ⟨by decide, by decide⟩) (pp_VT (en_ok g) (ci := 11) (kd := (23, 0)) hK hO k_h0 (nxg hc0 k_h0 rfl) (fun _ h9 => ko1 h9) hP hD hS hA hE [] rfl rfl rfl) rfl rfl hl.1 rfl (lv_room (Nat.le_of_ble_eq_true rfl)) dME_encrypt_107 ⟨by omega, by omega⟩) (fun  pl H locs hu41 hP hD hS => ?_)
      obtain ⟨hq41, hO⟩ := hu41
      have hP : va_P g.1 vcl ([] ++ pl) _ := hP
      have hD : va_D _ ([] ++ pl) := hD
      refine W.widen (k := 0) (n := 0) (by omega) (by omega) ?_
      refine lv_aload_n hx hb dME_encrypt_110 rfl (lv_at hl 2 rfl) ?_
      refine lv_aload_n hx hb dME_encrypt_111 rfl (lv_at hl 2 rfl) ?_
      refine ty_get (ci := 11) (C := "LatticeKeysModel$Secrets") (TT := T_ME) (N := 14) (kd := (23, 0)) hx hb hts (wg_ft i_ME) hown hK hO k_h0 (nxg hc0 k_h0 rfl) hP (fun _ h9 => h9) rfl 3 (by decide) (hts _ (wg_t kw_1382)) (fun _ h9 => h9) (cd := (3, 3, 4)) rfl dME_encrypt_112 (fun v51 hv51 => ?_)
      obtain ⟨r60, rfl, kr60⟩ := (show ∃ r : Nat, v51 = .ref r ∧ T r = some (3, 4) from hv51)
      refine lv_iload hx hb dME_encrypt_115 (lv_at hl 0 rfl) ?_
      refine ty_aald3 hx hb hK hO kr60 (nxg hc0 kr60 rfl) hP (by omega) (by decide) dME_encrypt_117 (fun r61 kr61 => ?_)
      refine mp_v (cx := []) (wr := []) hP hD hS hA [] [] rfl rfl rfl (by decide) (va_runV (As := [.ref r61]) (rest := []) F (t_ME_forth l g _ T xs pl hO hU hc0 h0 r61 k_h0 kr61) (cwV 1 hts (wg_app (wg_c kw_1668 (wg_c kw_1670 (wg_c ks_57 (wg_c kw_11 wg_n)))) kw_1671) rfl rfl rfl (by decide +kernel) ⟨by decide, by decide⟩) (pp_VT (en_ok g) (ci := 11) (kd := (23, 0)) hK hO k_h0 (nxg hc0 k_h0 rfl) (fun _ h9 => ko1 h9) hP hD hS hA hE [] rfl rfl rfl) rfl rfl hl.1 rfl (lv_room (Nat.le_of_ble_eq_true rfl)) dME_encrypt_118 ⟨by omega, by omega⟩) (fun  pl H locs hu42 hP hD hS => ?_)
      obtain ⟨hq42, hO⟩ := hu42
      have hP : va_P g.1 vcl ([] ++ pl) _ := hP
      have hD : va_D _ ([] ++ pl) := hD
      refine W.widen (k := 0) (n := 0) (by omega) (by omega) ?_
      refine mi_iinc (k := 0) (x := i21) (d := 1) (y := i21 + 1) (lv' := [(7, .int (nI (i21 + 1))), (6, .int (nI 4)), (0, .ref h0), (1, .int (nI 2)), (2, .ref ek), (3, .int (nI at_)), (4, .ref ms), (5, .ref ct)]) hx hb dME_encrypt_121 hl rfl (by decide) rfl (by decide) rfl (fun ls hl => ?_)
      refine lv_goto (tgt := 25) hx hb dME_encrypt_124 (by decide) ?_
      exact ih21 (i21 + 1) pl ls H locs (by omega) (lv_sub hl [0, 1, 2, 3, 4, 5, 6, 7] rfl) hO hP hD hS
  exact lp21 4 0 pl ls _ _ (by omega) (lv_sub hl [0, 1, 2, 3, 4, 5, 6, 7] rfl) hO hP hD hS
set_option maxHeartbeats 400000 in
set_option maxRecDepth 100000 in
theorem t_ME_seal_0 (l : Launch) (g : Gd) (sz : Nat) (T : Ty) (xs : List Nat) (pl : va_W) (hO : okx g T xs pl) (hU : uni T) (hc0 : clo T xs 0) (hc9 : clo T xs 9) (h0 ek ms to : Nat) (k_h0 : T h0 = some (23, 0)) (k_ek : T ek = some (1, 2592)) (k_ms : T ms = some (1, 16384)) (k_to : T to = some (1, 8192))  : Met l y_ME_seal w_ME_seal ({ frames := 6, cells := 0, slots := 0, locals := 154 } : Room) (va_Pc [.ref h0, .int (nI 0), .ref ek, .ref ms, .ref to] (pr (en g) g.1 vcl sz ([] ++ pl))) (va_Qi (fun (r : Int32) (u : va_W) => (r = nI 800) ∧ okx g T xs u) (po g.1 vcl (va_A ([] ++ pl) sz) (fun (u : va_W) => [] ++ u)) (va_A ([] ++ pl) sz)) 0 0 (va_A ([] ++ pl) sz) := by
  refine mc_entry (cc := c_ME_seal) (maxL := 7) (ret := (some .int)) (by decide) rfl (Nat.le_of_ble_eq_true rfl) ?_
  intro p e s m args below meth c ls F hr hlk hnm hsz hP hD hE hA hl
  obtain ⟨hx, hb, hml, hown, hts⟩ := id F
  have hK := hE.1
  generalize va_A ([] ++ pl) sz = A at hD hE hA ⊢
  have hS : va_S A s.heap s.heap [] := va_S.rf
  have hl : lv_has ls 7 [(0, .ref h0), (1, .int (nI 0)), (2, .ref ek), (3, .ref ms), (4, .ref to)] := hl
  refine lv_aload_n hx hb dME_seal_0 rfl (lv_at hl 0 rfl) ?_
  refine lv_aload_n hx hb dME_seal_1 rfl (lv_at hl 2 rfl) ?_
  refine lv_iconst (v := nI 0) hx hb dME_seal_2 (by decide) ?_
  refine lv_iload_n hx hb dME_seal_3 rfl (lv_at hl 1 rfl) ?_
  refine mp_i (cx := []) (wr := []) hP hD hS hA [] [] rfl rfl rfl (by decide) (va_runS (As := [.int (nI 0)]) (rest := [.int (nI 0), .ref ek, .ref h0]) F (t_ME_openSize_0 l g _ T xs pl hO hU  ) (va_cwS 1 hts (wg_app (wg_c kw_1691 (wg_c kw_1692 (wg_c kw_11 wg_n))) kw_1693) rfl rfl rfl (by decide +kernel) ⟨by decide, by decide⟩) (pp_S (en_ok g) hP hD hS hA hE [] rfl rfl) rfl rfl hl.1 rfl (lv_room (Nat.le_of_ble_eq_true rfl)) dME_seal_4 ⟨by omega, by omega⟩) (fun r21 pl H locs hu21 hP hD hS => ?_)
  obtain ⟨hq21, hO⟩ := hu21
  have hP : va_P g.1 vcl ([] ++ pl) _ := hP
  have hD : va_D _ ([] ++ pl) := hD
  obtain rfl := hq21
  refine W.widen (k := 0) (n := 0) (by omega) (by omega) ?_
  refine lv_aload_n hx hb dME_seal_7 rfl (lv_at hl 0 rfl) ?_
  refine ty_get (ci := 11) (C := "LatticeKeysModel$Secrets") (TT := T_ME) (N := 14) (kd := (23, 0)) hx hb hts (wg_ft i_ME) hown hK hO k_h0 (nxg hc0 k_h0 rfl) hP (fun _ h9 => h9) rfl 11 (by decide) (hts _ (wg_t kw_1390)) (fun _ h9 => h9) (cd := (3, 1, 32)) rfl dME_seal_8 (fun v21 hv21 => ?_)
  obtain ⟨r22, rfl, kr21⟩ := (show ∃ r : Nat, v21 = .ref r ∧ T r = some (1, 32) from hv21)
  refine lv_iconst (v := nI 0) hx hb dME_seal_11 (by decide) ?_
  refine mp_v (cx := []) (wr := []) hP hD hS hA [] [] rfl rfl rfl (by decide) (va_runV (As := [.ref ek, .int (nI 0), .int (nI 800), .ref r22, .int (nI 0)]) (rest := []) F (t_ME_hash l g _ T xs pl hO hU hc0 hc9 h0 ek r22 2592 32 0 800 0 k_h0 k_ek kr21 (by omega) (by omega) (by omega) (by omega)) (cwV 5 hts (wg_app (wg_c kw_1694 (wg_c kw_1696 (wg_c ks_59 (wg_c kw_11 wg_n)))) kw_1697) rfl rfl rfl (by decide +kernel) ⟨by decide, by decide⟩) (pp_VT (en_ok g) (ci := 11) (kd := (23, 0)) hK hO k_h0 (nxg hc0 k_h0 rfl) (fun _ h9 => ko1 h9) hP hD hS hA hE [] rfl rfl rfl) rfl rfl hl.1 rfl (lv_room (Nat.le_of_ble_eq_true rfl)) dME_seal_12 ⟨by omega, by omega⟩) (fun  pl H locs hu22 hP hD hS => ?_)
  obtain ⟨hq22, hO⟩ := hu22
  have hP : va_P g.1 vcl ([] ++ pl) _ := hP
  have hD : va_D _ ([] ++ pl) := hD
  refine W.widen (k := 0) (n := 0) (by omega) (by omega) ?_
  refine lv_aload_n hx hb dME_seal_15 rfl (lv_at hl 0 rfl) ?_
  refine lv_aload_n hx hb dME_seal_16 rfl (lv_at hl 3 rfl) ?_
  refine mp_v (cx := []) (wr := []) hP hD hS hA [] [] rfl rfl rfl (by decide) (va_runV (As := [.ref ms]) (rest := []) F (t_ME_both l g _ T xs pl hO hU hc0 hc9 h0 ms 16384 k_h0 k_ms (by omega) (by omega)) (cwV 1 hts (wg_app (wg_c kw_1805 (wg_c kw_1807 (wg_c ks_67 (wg_c kw_11 wg_n)))) kw_1808) rfl rfl rfl (by decide +kernel) ⟨by decide, by decide⟩) (pp_VT (en_ok g) (ci := 11) (kd := (23, 0)) hK hO k_h0 (nxg hc0 k_h0 rfl) (fun _ h9 => ko1 h9) hP hD hS hA hE [] rfl rfl rfl) rfl rfl hl.1 rfl (lv_room (Nat.le_of_ble_eq_true rfl)) dME_seal_17 ⟨by omega, by omega⟩) (fun  pl H locs hu23 hP hD hS => ?_)
  obtain ⟨hq23, hO⟩ := hu23
  have hP : va_P g.1 vcl ([] ++ pl) _ := hP
  have hD : va_D _ ([] ++ pl) := hD
  refine W.widen (k := 0) (n := 0) (by omega) (by omega) ?_
  refine lv_aload_n hx hb dME_seal_20 rfl (lv_at hl 0 rfl) ?_
  refine lv_iload_n hx hb dME_seal_21 rfl (lv_at hl 1 rfl) ?_
  refine lv_aload_n hx hb dME_seal_22 rfl (lv_at hl 2 rfl) ?_
  refine lv_iconst (v := nI 0) hx hb dME_seal_23 (by decide) ?_
  refine lv_aload_n hx hb dME_seal_24 rfl (lv_at hl 3 rfl) ?_
  refine lv_aload hx hb dME_seal_25 (lv_at hl 4 rfl) ?_
  refine mp_v (cx := []) (wr := []) hP hD hS hA [] [] rfl rfl rfl (by decide) (va_runV (As := [.int (nI 0), .ref ek, .int (nI 0), .ref ms, .ref to]) (rest := []) F (t_ME_encrypt_0 l g _ T xs pl hO hU hc0 hc9 h0 ek ms to 2592 16384 8192 0 k_h0 k_ek k_ms k_to (by omega) (by omega) (by omega) (by omega) (by omega) (by omega)) (cwV 5 hts (wg_app (wg_c kw_1809 (wg_c kw_1811 (wg_c ks_68 (wg_c kw_11 wg_n)))) kw_1812) rfl rfl rfl (by decide +kernel) ⟨by decide, by decide⟩) (pp_VT (en_ok g) (ci := 11) (kd := (23, 0)) hK hO k_h0 (nxg hc0 k_h0 rfl) (fun _ h9 => ko1 h9) hP hD hS hA hE [] rfl rfl rfl) rfl rfl hl.1 rfl (lv_room (Nat.le_of_ble_eq_true rfl)) dME_seal_27 ⟨by omega, by omega⟩) (fun  pl H locs hu24 hP hD hS => ?_)
  obtain ⟨hq24, hO⟩ := hu24
  have hP : va_P g.1 vcl ([] ++ pl) _ := hP
  have hD : va_D _ ([] ++ pl) := hD
  refine W.widen (k := 0) (n := 0) (by omega) (by omega) ?_
  refine lv_iload_n hx hb dME_seal_30 rfl (lv_at hl 1 rfl) ?_
  refine mp_i (cx := []) (wr := []) hP hD hS hA [] [] rfl rfl rfl (by decide) (va_runS (As := [.int (nI 0)]) (rest := []) F (t_ME_sealedSize_0 l g _ T xs pl hO hU  ) (va_cwS 1 hts (wg_app (wg_c kw_1840 (wg_c kw_1841 (wg_c kw_11 wg_n))) kw_1842) rfl rfl rfl (by decide +kernel) ⟨by decide, by decide⟩) (pp_S (en_ok g) hP hD hS hA hE [] rfl rfl) rfl rfl hl.1 rfl (lv_room (Nat.le_of_ble_eq_true rfl)) dME_seal_31 ⟨by omega, by omega⟩) (fun r23 pl H locs hu25 hP hD hS => ?_)
  obtain ⟨hq25, hO⟩ := hu25
  have hP : va_P g.1 vcl ([] ++ pl) _ := hP
  have hD : va_D _ ([] ++ pl) := hD
  obtain rfl := hq25
  refine W.widen (k := 0) (n := 0) (by omega) (by omega) ?_
  refine lv_istore (lv' := [(5, .int (nI 768)), (0, .ref h0), (1, .int (nI 0)), (2, .ref ek), (3, .ref ms), (4, .ref to)]) hx hb dME_seal_34 hl (by decide) rfl (fun ls hl => ?_)
  refine lv_iconst (v := nI 0) hx hb dME_seal_36 (by decide) ?_
  refine lv_istore (lv' := [(6, .int (nI 0)), (5, .int (nI 768)), (0, .ref h0), (1, .int (nI 0)), (2, .ref ek), (3, .ref ms), (4, .ref to)]) hx hb dME_seal_37 hl (by decide) rfl (fun ls hl => ?_)
  have lp21 : ∀ (n21 : Nat) (i21 : Nat) (pl : va_W) (ls : Array Slot) (H : Heap) (locs : List Loc), n21 + i21 = 32 → lv_has ls 7 [(6, .int (nI i21)), (5, .int (nI 768)), (0, .ref h0), (4, .ref to)] → okx g T xs pl → va_P g.1 vcl ([] ++ pl) H → va_D A ([] ++ pl) → va_S A s.heap H locs → W p l e ({ frames := 6, cells := 0, slots := 0, locals := 154 } : Room) s m args below meth c H locs 0 0 (MQ below (va_Qi (fun (r : Int32) (u : va_W) => (r = nI 800) ∧ okx g T xs u) (po g.1 vcl A (fun (u : va_W) => [] ++ u)) A) args s 0 0 A) (F0 m 39 ls []) := by
    intro n21
    induction n21 with
    | zero =>
      intro i21 pl ls H locs hm21  hl hO hP hD hS
      refine lv_iload hx hb dME_seal_39 (lv_at hl 0 rfl) ?_
      refine lv_bipush (v := nI 32) hx hb dME_seal_41 (by decide) ?_
      refine mi_ge (tgt := 67) hx hb dME_seal_43 (by decide) (by omega) (by omega) (fun h21 => ?_) (fun h21 => absurd h21 (by omega))
      refine lv_iload hx hb dME_seal_67 (lv_at hl 1 rfl) ?_
      refine lv_bipush (v := nI 32) hx hb dME_seal_69 (by decide) ?_
      refine mi_iadd hx hb dME_seal_71 ?_
      refine mi_as (show nI (768 + 32) = nI 800 from rfl) ?_
      exact mp_iret hx hb hr hlk hP hD hS pl ⟨rfl, hO⟩ [] rfl rfl rfl (by omega) (by omega) dME_seal_72
    | succ n21 ih21 =>
      intro i21 pl ls H locs hm21  hl hO hP hD hS
      refine lv_iload hx hb dME_seal_39 (lv_at hl 0 rfl) ?_
      refine lv_bipush (v := nI 32) hx hb dME_seal_41 (by decide) ?_
      refine mi_ge (tgt := 67) hx hb dME_seal_43 (by decide) (by omega) (by omega) (fun h22 => absurd h22 (by omega)) (fun h22 => ?_)
      refine lv_aload hx hb dME_seal_46 (lv_at hl 3 rfl) ?_
      refine lv_iload hx hb dME_seal_48 (lv_at hl 1 rfl) ?_
      refine lv_iload hx hb dME_seal_50 (lv_at hl 0 rfl) ?_
      refine mi_iadd hx hb dME_seal_52 ?_
      refine lv_aload_n hx hb dME_seal_53 rfl (lv_at hl 2 rfl) ?_
      refine ty_get (ci := 11) (C := "LatticeKeysModel$Secrets") (TT := T_ME) (N := 14) (kd := (23, 0)) hx hb hts (wg_ft i_ME) hown hK hO k_h0 (nxg hc0 k_h0 rfl) hP (fun _ h9 => h9) rfl 9 (by decide) (hts _ (wg_t kw_1388)) (fun _ h9 => h9) (cd := (3, 1, 64)) rfl dME_seal_54 (fun v22 hv22 => ?_)
      obtain ⟨r24, rfl, kr22⟩ := (show ∃ r : Nat, v22 = .ref r ∧ T r = some (1, 64) from hv22)
      refine lv_iload hx hb dME_seal_57 (lv_at hl 0 rfl) ?_
      refine ty_bald hx hb hK hO kr22 (nxg hc0 kr22 rfl) hP (vp_in_nI (by omega) (by decide)) dME_seal_59 (fun z21 => ?_)
      refine ty_bast hx hb hK hO k_to (nxg hc0 k_to rfl) hP hD hS (vp_in_nI (by omega) (by decide)) dME_seal_60 (fun pl H locs hO hP hD hS => ?_)
      refine mi_iinc (k := 0) (x := i21) (d := 1) (y := i21 + 1) (lv' := [(6, .int (nI (i21 + 1))), (5, .int (nI 768)), (0, .ref h0), (4, .ref to)]) hx hb dME_seal_61 hl rfl (by decide) rfl (by decide) rfl (fun ls hl => ?_)
      refine lv_goto (tgt := 39) hx hb dME_seal_64 (by decide) ?_
      exact ih21 (i21 + 1) pl ls H locs (by omega) (lv_sub hl [0, 1, 2, 3] rfl) hO hP hD hS
  exact lp21 32 0 pl ls _ _ (by omega) (lv_sub hl [0, 1, 2, 6] rfl) hO hP hD hS
set_option maxHeartbeats 400000 in
set_option maxRecDepth 100000 in
theorem t_ME_seal_1 (l : Launch) (g : Gd) (sz : Nat) (T : Ty) (xs : List Nat) (pl : va_W) (hO : okx g T xs pl) (hU : uni T) (hc0 : clo T xs 0) (hc9 : clo T xs 9) (h0 ek ms to : Nat) (k_h0 : T h0 = some (23, 0)) (k_ek : T ek = some (1, 2592)) (k_ms : T ms = some (1, 16384)) (k_to : T to = some (1, 8192))  : Met l y_ME_seal w_ME_seal ({ frames := 6, cells := 0, slots := 0, locals := 154 } : Room) (va_Pc [.ref h0, .int (nI 1), .ref ek, .ref ms, .ref to] (pr (en g) g.1 vcl sz ([] ++ pl))) (va_Qi (fun (r : Int32) (u : va_W) => (r = nI 1120) ∧ okx g T xs u) (po g.1 vcl (va_A ([] ++ pl) sz) (fun (u : va_W) => [] ++ u)) (va_A ([] ++ pl) sz)) 0 0 (va_A ([] ++ pl) sz) := by
  refine mc_entry (cc := c_ME_seal) (maxL := 7) (ret := (some .int)) (by decide) rfl (Nat.le_of_ble_eq_true rfl) ?_
  intro p e s m args below meth c ls F hr hlk hnm hsz hP hD hE hA hl
  obtain ⟨hx, hb, hml, hown, hts⟩ := id F
  have hK := hE.1
  generalize va_A ([] ++ pl) sz = A at hD hE hA ⊢
  have hS : va_S A s.heap s.heap [] := va_S.rf
  have hl : lv_has ls 7 [(0, .ref h0), (1, .int (nI 1)), (2, .ref ek), (3, .ref ms), (4, .ref to)] := hl
  refine lv_aload_n hx hb dME_seal_0 rfl (lv_at hl 0 rfl) ?_
  refine lv_aload_n hx hb dME_seal_1 rfl (lv_at hl 2 rfl) ?_
  refine lv_iconst (v := nI 0) hx hb dME_seal_2 (by decide) ?_
  refine lv_iload_n hx hb dME_seal_3 rfl (lv_at hl 1 rfl) ?_
  refine mp_i (cx := []) (wr := []) hP hD hS hA [] [] rfl rfl rfl (by decide) (va_runS (As := [.int (nI 1)]) (rest := [.int (nI 0), .ref ek, .ref h0]) F (t_ME_openSize_1 l g _ T xs pl hO hU  ) (va_cwS 1 hts (wg_app (wg_c kw_1691 (wg_c kw_1692 (wg_c kw_11 wg_n))) kw_1693) rfl rfl rfl (by decide +kernel) ⟨by decide, by decide⟩) (pp_S (en_ok g) hP hD hS hA hE [] rfl rfl) rfl rfl hl.1 rfl (lv_room (Nat.le_of_ble_eq_true rfl)) dME_seal_4 ⟨by omega, by omega⟩) (fun r21 pl H locs hu21 hP hD hS => ?_)
  obtain ⟨hq21, hO⟩ := hu21
  have hP : va_P g.1 vcl ([] ++ pl) _ := hP
  have hD : va_D _ ([] ++ pl) := hD
  obtain rfl := hq21
  refine W.widen (k := 0) (n := 0) (by omega) (by omega) ?_
  refine lv_aload_n hx hb dME_seal_7 rfl (lv_at hl 0 rfl) ?_
  refine ty_get (ci := 11) (C := "LatticeKeysModel$Secrets") (TT := T_ME) (N := 14) (kd := (23, 0)) hx hb hts (wg_ft i_ME) hown hK hO k_h0 (nxg hc0 k_h0 rfl) hP (fun _ h9 => h9) rfl 11 (by decide) (hts _ (wg_t kw_1390)) (fun _ h9 => h9) (cd := (3, 1, 32)) rfl dME_seal_8 (fun v21 hv21 => ?_)
  obtain ⟨r22, rfl, kr21⟩ := (show ∃ r : Nat, v21 = .ref r ∧ T r = some (1, 32) from hv21)
  refine lv_iconst (v := nI 0) hx hb dME_seal_11 (by decide) ?_
  refine mp_v (cx := []) (wr := []) hP hD hS hA [] [] rfl rfl rfl (by decide) (va_runV (As := [.ref ek, .int (nI 0), .int (nI 1184), .ref r22, .int (nI 0)]) (rest := []) F (t_ME_hash l g _ T xs pl hO hU hc0 hc9 h0 ek r22 2592 32 0 1184 0 k_h0 k_ek kr21 (by omega) (by omega) (by omega) (by omega)) (cwV 5 hts (wg_app (wg_c kw_1694 (wg_c kw_1696 (wg_c ks_59 (wg_c kw_11 wg_n)))) kw_1697) rfl rfl rfl (by decide +kernel) ⟨by decide, by decide⟩) (pp_VT (en_ok g) (ci := 11) (kd := (23, 0)) hK hO k_h0 (nxg hc0 k_h0 rfl) (fun _ h9 => ko1 h9) hP hD hS hA hE [] rfl rfl rfl) rfl rfl hl.1 rfl (lv_room (Nat.le_of_ble_eq_true rfl)) dME_seal_12 ⟨by omega, by omega⟩) (fun  pl H locs hu22 hP hD hS => ?_)
  obtain ⟨hq22, hO⟩ := hu22
  have hP : va_P g.1 vcl ([] ++ pl) _ := hP
  have hD : va_D _ ([] ++ pl) := hD
  refine W.widen (k := 0) (n := 0) (by omega) (by omega) ?_
  refine lv_aload_n hx hb dME_seal_15 rfl (lv_at hl 0 rfl) ?_
  refine lv_aload_n hx hb dME_seal_16 rfl (lv_at hl 3 rfl) ?_
  refine mp_v (cx := []) (wr := []) hP hD hS hA [] [] rfl rfl rfl (by decide) (va_runV (As := [.ref ms]) (rest := []) F (t_ME_both l g _ T xs pl hO hU hc0 hc9 h0 ms 16384 k_h0 k_ms (by omega) (by omega)) (cwV 1 hts (wg_app (wg_c kw_1805 (wg_c kw_1807 (wg_c ks_67 (wg_c kw_11 wg_n)))) kw_1808) rfl rfl rfl (by decide +kernel) ⟨by decide, by decide⟩) (pp_VT (en_ok g) (ci := 11) (kd := (23, 0)) hK hO k_h0 (nxg hc0 k_h0 rfl) (fun _ h9 => ko1 h9) hP hD hS hA hE [] rfl rfl rfl) rfl rfl hl.1 rfl (lv_room (Nat.le_of_ble_eq_true rfl)) dME_seal_17 ⟨by omega, by omega⟩) (fun  pl H locs hu23 hP hD hS => ?_)
  obtain ⟨hq23, hO⟩ := hu23
  have hP : va_P g.1 vcl ([] ++ pl) _ := hP
  have hD : va_D _ ([] ++ pl) := hD
  refine W.widen (k := 0) (n := 0) (by omega) (by omega) ?_
  refine lv_aload_n hx hb dME_seal_20 rfl (lv_at hl 0 rfl) ?_
  refine lv_iload_n hx hb dME_seal_21 rfl (lv_at hl 1 rfl) ?_
  refine lv_aload_n hx hb dME_seal_22 rfl (lv_at hl 2 rfl) ?_
  refine lv_iconst (v := nI 0) hx hb dME_seal_23 (by decide) ?_
  refine lv_aload_n hx hb dME_seal_24 rfl (lv_at hl 3 rfl) ?_
  refine lv_aload hx hb dME_seal_25 (lv_at hl 4 rfl) ?_
  refine mp_v (cx := []) (wr := []) hP hD hS hA [] [] rfl rfl rfl (by decide) (va_runV (As := [.int (nI 1), .ref ek, .int (nI 0), .ref ms, .ref to]) (rest := []) F (t_ME_encrypt_1 l g _ T xs pl hO hU hc0 hc9 h0 ek ms to 2592 16384 8192 0 k_h0 k_ek k_ms k_to (by omega) (by omega) (by omega) (by omega) (by omega) (by omega)) (cwV 5 hts (wg_app (wg_c kw_1809 (wg_c kw_1811 (wg_c ks_68 (wg_c kw_11 wg_n)))) kw_1812) rfl rfl rfl (by decide +kernel) ⟨by decide, by decide⟩) (pp_VT (en_ok g) (ci := 11) (kd := (23, 0)) hK hO k_h0 (nxg hc0 k_h0 rfl) (fun _ h9 => ko1 h9) hP hD hS hA hE [] rfl rfl rfl) rfl rfl hl.1 rfl (lv_room (Nat.le_of_ble_eq_true rfl)) dME_seal_27 ⟨by omega, by omega⟩) (fun  pl H locs hu24 hP hD hS => ?_)
  obtain ⟨hq24, hO⟩ := hu24
  have hP : va_P g.1 vcl ([] ++ pl) _ := hP
  have hD : va_D _ ([] ++ pl) := hD
  refine W.widen (k := 0) (n := 0) (by omega) (by omega) ?_
  refine lv_iload_n hx hb dME_seal_30 rfl (lv_at hl 1 rfl) ?_
  refine mp_i (cx := []) (wr := []) hP hD hS hA [] [] rfl rfl rfl (by decide) (va_runS (As := [.int (nI 1)]) (rest := []) F (t_ME_sealedSize_1 l g _ T xs pl hO hU  ) (va_cwS 1 hts (wg_app (wg_c kw_1840 (wg_c kw_1841 (wg_c kw_11 wg_n))) kw_1842) rfl rfl rfl (by decide +kernel) ⟨by decide, by decide⟩) (pp_S (en_ok g) hP hD hS hA hE [] rfl rfl) rfl rfl hl.1 rfl (lv_room (Nat.le_of_ble_eq_true rfl)) dME_seal_31 ⟨by omega, by omega⟩) (fun r23 pl H locs hu25 hP hD hS => ?_)
  obtain ⟨hq25, hO⟩ := hu25
  have hP : va_P g.1 vcl ([] ++ pl) _ := hP
  have hD : va_D _ ([] ++ pl) := hD
  obtain rfl := hq25
  refine W.widen (k := 0) (n := 0) (by omega) (by omega) ?_
  refine lv_istore (lv' := [(5, .int (nI 1088)), (0, .ref h0), (1, .int (nI 1)), (2, .ref ek), (3, .ref ms), (4, .ref to)]) hx hb dME_seal_34 hl (by decide) rfl (fun ls hl => ?_)
  refine lv_iconst (v := nI 0) hx hb dME_seal_36 (by decide) ?_
  refine lv_istore (lv' := [(6, .int (nI 0)), (5, .int (nI 1088)), (0, .ref h0), (1, .int (nI 1)), (2, .ref ek), (3, .ref ms), (4, .ref to)]) hx hb dME_seal_37 hl (by decide) rfl (fun ls hl => ?_)
  have lp21 : ∀ (n21 : Nat) (i21 : Nat) (pl : va_W) (ls : Array Slot) (H : Heap) (locs : List Loc), n21 + i21 = 32 → lv_has ls 7 [(6, .int (nI i21)), (5, .int (nI 1088)), (0, .ref h0), (4, .ref to)] → okx g T xs pl → va_P g.1 vcl ([] ++ pl) H → va_D A ([] ++ pl) → va_S A s.heap H locs → W p l e ({ frames := 6, cells := 0, slots := 0, locals := 154 } : Room) s m args below meth c H locs 0 0 (MQ below (va_Qi (fun (r : Int32) (u : va_W) => (r = nI 1120) ∧ okx g T xs u) (po g.1 vcl A (fun (u : va_W) => [] ++ u)) A) args s 0 0 A) (F0 m 39 ls []) := by
    intro n21
    induction n21 with
    | zero =>
      intro i21 pl ls H locs hm21  hl hO hP hD hS
      refine lv_iload hx hb dME_seal_39 (lv_at hl 0 rfl) ?_
      refine lv_bipush (v := nI 32) hx hb dME_seal_41 (by decide) ?_
      refine mi_ge (tgt := 67) hx hb dME_seal_43 (by decide) (by omega) (by omega) (fun h21 => ?_) (fun h21 => absurd h21 (by omega))
      refine lv_iload hx hb dME_seal_67 (lv_at hl 1 rfl) ?_
      refine lv_bipush (v := nI 32) hx hb dME_seal_69 (by decide) ?_
      refine mi_iadd hx hb dME_seal_71 ?_
      refine mi_as (show nI (1088 + 32) = nI 1120 from rfl) ?_
      exact mp_iret hx hb hr hlk hP hD hS pl ⟨rfl, hO⟩ [] rfl rfl rfl (by omega) (by omega) dME_seal_72
    | succ n21 ih21 =>
      intro i21 pl ls H locs hm21  hl hO hP hD hS
      refine lv_iload hx hb dME_seal_39 (lv_at hl 0 rfl) ?_
      refine lv_bipush (v := nI 32) hx hb dME_seal_41 (by decide) ?_
      refine mi_ge (tgt := 67) hx hb dME_seal_43 (by decide) (by omega) (by omega) (fun h22 => absurd h22 (by omega)) (fun h22 => ?_)
      refine lv_aload hx hb dME_seal_46 (lv_at hl 3 rfl) ?_
      refine lv_iload hx hb dME_seal_48 (lv_at hl 1 rfl) ?_
      refine lv_iload hx hb dME_seal_50 (lv_at hl 0 rfl) ?_
      refine mi_iadd hx hb dME_seal_52 ?_
      refine lv_aload_n hx hb dME_seal_53 rfl (lv_at hl 2 rfl) ?_
      refine ty_get (ci := 11) (C := "LatticeKeysModel$Secrets") (TT := T_ME) (N := 14) (kd := (23, 0)) hx hb hts (wg_ft i_ME) hown hK hO k_h0 (nxg hc0 k_h0 rfl) hP (fun _ h9 => h9) rfl 9 (by decide) (hts _ (wg_t kw_1388)) (fun _ h9 => h9) (cd := (3, 1, 64)) rfl dME_seal_54 (fun v22 hv22 => ?_)
      obtain ⟨r24, rfl, kr22⟩ := (show ∃ r : Nat, v22 = .ref r ∧ T r = some (1, 64) from hv22)
      refine lv_iload hx hb dME_seal_57 (lv_at hl 0 rfl) ?_
      refine ty_bald hx hb hK hO kr22 (nxg hc0 kr22 rfl) hP (vp_in_nI (by omega) (by decide)) dME_seal_59 (fun z21 => ?_)
      refine ty_bast hx hb hK hO k_to (nxg hc0 k_to rfl) hP hD hS (vp_in_nI (by omega) (by decide)) dME_seal_60 (fun pl H locs hO hP hD hS => ?_)
      refine mi_iinc (k := 0) (x := i21) (d := 1) (y := i21 + 1) (lv' := [(6, .int (nI (i21 + 1))), (5, .int (nI 1088)), (0, .ref h0), (4, .ref to)]) hx hb dME_seal_61 hl rfl (by decide) rfl (by decide) rfl (fun ls hl => ?_)
      refine lv_goto (tgt := 39) hx hb dME_seal_64 (by decide) ?_
      exact ih21 (i21 + 1) pl ls H locs (by omega) (lv_sub hl [0, 1, 2, 3] rfl) hO hP hD hS
  exact lp21 32 0 pl ls _ _ (by omega) (lv_sub hl [0, 1, 2, 6] rfl) hO hP hD hS
set_option maxHeartbeats 400000 in
set_option maxRecDepth 100000 in
theorem t_ME_seal_2 (l : Launch) (g : Gd) (sz : Nat) (T : Ty) (xs : List Nat) (pl : va_W) (hO : okx g T xs pl) (hU : uni T) (hc0 : clo T xs 0) (hc9 : clo T xs 9) (h0 ek ms to : Nat) (k_h0 : T h0 = some (23, 0)) (k_ek : T ek = some (1, 2592)) (k_ms : T ms = some (1, 16384)) (k_to : T to = some (1, 8192))  : Met l y_ME_seal w_ME_seal ({ frames := 6, cells := 0, slots := 0, locals := 154 } : Room) (va_Pc [.ref h0, .int (nI 2), .ref ek, .ref ms, .ref to] (pr (en g) g.1 vcl sz ([] ++ pl))) (va_Qi (fun (r : Int32) (u : va_W) => (r = nI 1600) ∧ okx g T xs u) (po g.1 vcl (va_A ([] ++ pl) sz) (fun (u : va_W) => [] ++ u)) (va_A ([] ++ pl) sz)) 0 0 (va_A ([] ++ pl) sz) := by
  refine mc_entry (cc := c_ME_seal) (maxL := 7) (ret := (some .int)) (by decide) rfl (Nat.le_of_ble_eq_true rfl) ?_
  intro p e s m args below meth c ls F hr hlk hnm hsz hP hD hE hA hl
  obtain ⟨hx, hb, hml, hown, hts⟩ := id F
  have hK := hE.1
  generalize va_A ([] ++ pl) sz = A at hD hE hA ⊢
  have hS : va_S A s.heap s.heap [] := va_S.rf
  have hl : lv_has ls 7 [(0, .ref h0), (1, .int (nI 2)), (2, .ref ek), (3, .ref ms), (4, .ref to)] := hl
  refine lv_aload_n hx hb dME_seal_0 rfl (lv_at hl 0 rfl) ?_
  refine lv_aload_n hx hb dME_seal_1 rfl (lv_at hl 2 rfl) ?_
  refine lv_iconst (v := nI 0) hx hb dME_seal_2 (by decide) ?_
  refine lv_iload_n hx hb dME_seal_3 rfl (lv_at hl 1 rfl) ?_
  refine mp_i (cx := []) (wr := []) hP hD hS hA [] [] rfl rfl rfl (by decide) (va_runS (As := [.int (nI 2)]) (rest := [.int (nI 0), .ref ek, .ref h0]) F (t_ME_openSize_2 l g _ T xs pl hO hU  ) (va_cwS 1 hts (wg_app (wg_c kw_1691 (wg_c kw_1692 (wg_c kw_11 wg_n))) kw_1693) rfl rfl rfl (by decide +kernel) ⟨by decide, by decide⟩) (pp_S (en_ok g) hP hD hS hA hE [] rfl rfl) rfl rfl hl.1 rfl (lv_room (Nat.le_of_ble_eq_true rfl)) dME_seal_4 ⟨by omega, by omega⟩) (fun r21 pl H locs hu21 hP hD hS => ?_)
  obtain ⟨hq21, hO⟩ := hu21
  have hP : va_P g.1 vcl ([] ++ pl) _ := hP
  have hD : va_D _ ([] ++ pl) := hD
  obtain rfl := hq21
  refine W.widen (k := 0) (n := 0) (by omega) (by omega) ?_
  refine lv_aload_n hx hb dME_seal_7 rfl (lv_at hl 0 rfl) ?_
  refine ty_get (ci := 11) (C := "LatticeKeysModel$Secrets") (TT := T_ME) (N := 14) (kd := (23, 0)) hx hb hts (wg_ft i_ME) hown hK hO k_h0 (nxg hc0 k_h0 rfl) hP (fun _ h9 => h9) rfl 11 (by decide) (hts _ (wg_t kw_1390)) (fun _ h9 => h9) (cd := (3, 1, 32)) rfl dME_seal_8 (fun v21 hv21 => ?_)
  obtain ⟨r22, rfl, kr21⟩ := (show ∃ r : Nat, v21 = .ref r ∧ T r = some (1, 32) from hv21)
  refine lv_iconst (v := nI 0) hx hb dME_seal_11 (by decide) ?_
  refine mp_v (cx := []) (wr := []) hP hD hS hA [] [] rfl rfl rfl (by decide) (va_runV (As := [.ref ek, .int (nI 0), .int (nI 1568), .ref r22, .int (nI 0)]) (rest := []) F (t_ME_hash l g _ T xs pl hO hU hc0 hc9 h0 ek r22 2592 32 0 1568 0 k_h0 k_ek kr21 (by omega) (by omega) (by omega) (by omega)) (cwV 5 hts (wg_app (wg_c kw_1694 (wg_c kw_1696 (wg_c ks_59 (wg_c kw_11 wg_n)))) kw_1697) rfl rfl rfl (by decide +kernel) ⟨by decide, by decide⟩) (pp_VT (en_ok g) (ci := 11) (kd := (23, 0)) hK hO k_h0 (nxg hc0 k_h0 rfl) (fun _ h9 => ko1 h9) hP hD hS hA hE [] rfl rfl rfl) rfl rfl hl.1 rfl (lv_room (Nat.le_of_ble_eq_true rfl)) dME_seal_12 ⟨by omega, by omega⟩) (fun  pl H locs hu22 hP hD hS => ?_)
  obtain ⟨hq22, hO⟩ := hu22
  have hP : va_P g.1 vcl ([] ++ pl) _ := hP
  have hD : va_D _ ([] ++ pl) := hD
  refine W.widen (k := 0) (n := 0) (by omega) (by omega) ?_
  refine lv_aload_n hx hb dME_seal_15 rfl (lv_at hl 0 rfl) ?_
  refine lv_aload_n hx hb dME_seal_16 rfl (lv_at hl 3 rfl) ?_
  refine mp_v (cx := []) (wr := []) hP hD hS hA [] [] rfl rfl rfl (by decide) (va_runV (As := [.ref ms]) (rest := []) F (t_ME_both l g _ T xs pl hO hU hc0 hc9 h0 ms 16384 k_h0 k_ms (by omega) (by omega)) (cwV 1 hts (wg_app (wg_c kw_1805 (wg_c kw_1807 (wg_c ks_67 (wg_c kw_11 wg_n)))) kw_1808) rfl rfl rfl (by decide +kernel) ⟨by decide, by decide⟩) (pp_VT (en_ok g) (ci := 11) (kd := (23, 0)) hK hO k_h0 (nxg hc0 k_h0 rfl) (fun _ h9 => ko1 h9) hP hD hS hA hE [] rfl rfl rfl) rfl rfl hl.1 rfl (lv_room (Nat.le_of_ble_eq_true rfl)) dME_seal_17 ⟨by omega, by omega⟩) (fun  pl H locs hu23 hP hD hS => ?_)
  obtain ⟨hq23, hO⟩ := hu23
  have hP : va_P g.1 vcl ([] ++ pl) _ := hP
  have hD : va_D _ ([] ++ pl) := hD
  refine W.widen (k := 0) (n := 0) (by omega) (by omega) ?_
  refine lv_aload_n hx hb dME_seal_20 rfl (lv_at hl 0 rfl) ?_
  refine lv_iload_n hx hb dME_seal_21 rfl (lv_at hl 1 rfl) ?_
  refine lv_aload_n hx hb dME_seal_22 rfl (lv_at hl 2 rfl) ?_
  refine lv_iconst (v := nI 0) hx hb dME_seal_23 (by decide) ?_
  refine lv_aload_n hx hb dME_seal_24 rfl (lv_at hl 3 rfl) ?_
  refine lv_aload hx hb dME_seal_25 (lv_at hl 4 rfl) ?_
  refine mp_v (cx := []) (wr := []) hP hD hS hA [] [] rfl rfl rfl (by decide) (va_runV (As := [.int (nI 2), .ref ek, .int (nI 0), .ref ms, .ref to]) (rest := []) F (t_ME_encrypt_2 l g _ T xs pl hO hU hc0 hc9 h0 ek ms to 2592 16384 8192 0 k_h0 k_ek k_ms k_to (by omega) (by omega) (by omega) (by omega) (by omega) (by omega)) (cwV 5 hts (wg_app (wg_c kw_1809 (wg_c kw_1811 (wg_c ks_68 (wg_c kw_11 wg_n)))) kw_1812) rfl rfl rfl (by decide +kernel) ⟨by decide, by decide⟩) (pp_VT (en_ok g) (ci := 11) (kd := (23, 0)) hK hO k_h0 (nxg hc0 k_h0 rfl) (fun _ h9 => ko1 h9) hP hD hS hA hE [] rfl rfl rfl) rfl rfl hl.1 rfl (lv_room (Nat.le_of_ble_eq_true rfl)) dME_seal_27 ⟨by omega, by omega⟩) (fun  pl H locs hu24 hP hD hS => ?_)
  obtain ⟨hq24, hO⟩ := hu24
  have hP : va_P g.1 vcl ([] ++ pl) _ := hP
  have hD : va_D _ ([] ++ pl) := hD
  refine W.widen (k := 0) (n := 0) (by omega) (by omega) ?_
  refine lv_iload_n hx hb dME_seal_30 rfl (lv_at hl 1 rfl) ?_
  refine mp_i (cx := []) (wr := []) hP hD hS hA [] [] rfl rfl rfl (by decide) (va_runS (As := [.int (nI 2)]) (rest := []) F (t_ME_sealedSize_2 l g _ T xs pl hO hU  ) (va_cwS 1 hts (wg_app (wg_c kw_1840 (wg_c kw_1841 (wg_c kw_11 wg_n))) kw_1842) rfl rfl rfl (by decide +kernel) ⟨by decide, by decide⟩) (pp_S (en_ok g) hP hD hS hA hE [] rfl rfl) rfl rfl hl.1 rfl (lv_room (Nat.le_of_ble_eq_true rfl)) dME_seal_31 ⟨by omega, by omega⟩) (fun r23 pl H locs hu25 hP hD hS => ?_)
  obtain ⟨hq25, hO⟩ := hu25
  have hP : va_P g.1 vcl ([] ++ pl) _ := hP
  have hD : va_D _ ([] ++ pl) := hD
  obtain rfl := hq25
  refine W.widen (k := 0) (n := 0) (by omega) (by omega) ?_
  refine lv_istore (lv' := [(5, .int (nI 1568)), (0, .ref h0), (1, .int (nI 2)), (2, .ref ek), (3, .ref ms), (4, .ref to)]) hx hb dME_seal_34 hl (by decide) rfl (fun ls hl => ?_)
  refine lv_iconst (v := nI 0) hx hb dME_seal_36 (by decide) ?_
  refine lv_istore (lv' := [(6, .int (nI 0)), (5, .int (nI 1568)), (0, .ref h0), (1, .int (nI 2)), (2, .ref ek), (3, .ref ms), (4, .ref to)]) hx hb dME_seal_37 hl (by decide) rfl (fun ls hl => ?_)
  have lp21 : ∀ (n21 : Nat) (i21 : Nat) (pl : va_W) (ls : Array Slot) (H : Heap) (locs : List Loc), n21 + i21 = 32 → lv_has ls 7 [(6, .int (nI i21)), (5, .int (nI 1568)), (0, .ref h0), (4, .ref to)] → okx g T xs pl → va_P g.1 vcl ([] ++ pl) H → va_D A ([] ++ pl) → va_S A s.heap H locs → W p l e ({ frames := 6, cells := 0, slots := 0, locals := 154 } : Room) s m args below meth c H locs 0 0 (MQ below (va_Qi (fun (r : Int32) (u : va_W) => (r = nI 1600) ∧ okx g T xs u) (po g.1 vcl A (fun (u : va_W) => [] ++ u)) A) args s 0 0 A) (F0 m 39 ls []) := by
    intro n21
    induction n21 with
    | zero =>
      intro i21 pl ls H locs hm21  hl hO hP hD hS
      refine lv_iload hx hb dME_seal_39 (lv_at hl 0 rfl) ?_
      refine lv_bipush (v := nI 32) hx hb dME_seal_41 (by decide) ?_
      refine mi_ge (tgt := 67) hx hb dME_seal_43 (by decide) (by omega) (by omega) (fun h21 => ?_) (fun h21 => absurd h21 (by omega))
      refine lv_iload hx hb dME_seal_67 (lv_at hl 1 rfl) ?_
      refine lv_bipush (v := nI 32) hx hb dME_seal_69 (by decide) ?_
      refine mi_iadd hx hb dME_seal_71 ?_
      refine mi_as (show nI (1568 + 32) = nI 1600 from rfl) ?_
      exact mp_iret hx hb hr hlk hP hD hS pl ⟨rfl, hO⟩ [] rfl rfl rfl (by omega) (by omega) dME_seal_72
    | succ n21 ih21 =>
      intro i21 pl ls H locs hm21  hl hO hP hD hS
      refine lv_iload hx hb dME_seal_39 (lv_at hl 0 rfl) ?_
      refine lv_bipush (v := nI 32) hx hb dME_seal_41 (by decide) ?_
      refine mi_ge (tgt := 67) hx hb dME_seal_43 (by decide) (by omega) (by omega) (fun h22 => absurd h22 (by omega)) (fun h22 => ?_)
      refine lv_aload hx hb dME_seal_46 (lv_at hl 3 rfl) ?_
      refine lv_iload hx hb dME_seal_48 (lv_at hl 1 rfl) ?_
      refine lv_iload hx hb dME_seal_50 (lv_at hl 0 rfl) ?_
      refine mi_iadd hx hb dME_seal_52 ?_
      refine lv_aload_n hx hb dME_seal_53 rfl (lv_at hl 2 rfl) ?_
      refine ty_get (ci := 11) (C := "LatticeKeysModel$Secrets") (TT := T_ME) (N := 14) (kd := (23, 0)) hx hb hts (wg_ft i_ME) hown hK hO k_h0 (nxg hc0 k_h0 rfl) hP (fun _ h9 => h9) rfl 9 (by decide) (hts _ (wg_t kw_1388)) (fun _ h9 => h9) (cd := (3, 1, 64)) rfl dME_seal_54 (fun v22 hv22 => ?_)
      obtain ⟨r24, rfl, kr22⟩ := (show ∃ r : Nat, v22 = .ref r ∧ T r = some (1, 64) from hv22)
      refine lv_iload hx hb dME_seal_57 (lv_at hl 0 rfl) ?_
      refine ty_bald hx hb hK hO kr22 (nxg hc0 kr22 rfl) hP (vp_in_nI (by omega) (by decide)) dME_seal_59 (fun z21 => ?_)
      refine ty_bast hx hb hK hO k_to (nxg hc0 k_to rfl) hP hD hS (vp_in_nI (by omega) (by decide)) dME_seal_60 (fun pl H locs hO hP hD hS => ?_)
      refine mi_iinc (k := 0) (x := i21) (d := 1) (y := i21 + 1) (lv' := [(6, .int (nI (i21 + 1))), (5, .int (nI 1568)), (0, .ref h0), (4, .ref to)]) hx hb dME_seal_61 hl rfl (by decide) rfl (by decide) rfl (fun ls hl => ?_)
      refine lv_goto (tgt := 39) hx hb dME_seal_64 (by decide) ?_
      exact ih21 (i21 + 1) pl ls H locs (by omega) (lv_sub hl [0, 1, 2, 3] rfl) hO hP hD hS
  exact lp21 32 0 pl ls _ _ (by omega) (lv_sub hl [0, 1, 2, 6] rfl) hO hP hD hS
set_option maxHeartbeats 400000 in
set_option maxRecDepth 100000 in
theorem t_ME_open_0 (l : Launch) (g : Gd) (sz : Nat) (T : Ty) (xs : List Nat) (pl : va_W) (hO : okx g T xs pl) (hU : uni T) (hc0 : clo T xs 0) (hc9 : clo T xs 9) (h0 dk ct to : Nat) (k_h0 : T h0 = some (23, 0)) (k_dk : T dk = some (1, 4896)) (k_ct : T ct = some (1, 16384)) (k_to : T to = some (1, 8192))  : Met l y_ME_open w_ME_open ({ frames := 6, cells := 0, slots := 0, locals := 154 } : Room) (va_Pc [.ref h0, .int (nI 0), .ref dk, .ref ct, .ref to] (pr (en g) g.1 vcl sz ([] ++ pl))) (va_Qv (fun (u : va_W) => (True) ∧ okx g T xs u) (po g.1 vcl (va_A ([] ++ pl) sz) (fun (u : va_W) => [] ++ u)) (va_A ([] ++ pl) sz)) 0 0 (va_A ([] ++ pl) sz) := by
  refine mc_entry (cc := c_ME_open) (maxL := 9) (ret := none) (by decide) rfl (Nat.le_of_ble_eq_true rfl) ?_
  intro p e s m args below meth c ls F hr hlk hnm hsz hP hD hE hA hl
  obtain ⟨hx, hb, hml, hown, hts⟩ := id F
  have hK := hE.1
  generalize va_A ([] ++ pl) sz = A at hD hE hA ⊢
  have hS : va_S A s.heap s.heap [] := va_S.rf
  have hl : lv_has ls 9 [(0, .ref h0), (1, .int (nI 0)), (2, .ref dk), (3, .ref ct), (4, .ref to)] := hl
  refine va_gets hx hb (hE.2.1 19 _ rfl).1 hS hown (hts _ (wg_t kw_1605)) (fun _ h9 => h9) dME_open_0 ?_
  refine lv_iload_n hx hb dME_open_3 rfl (lv_at hl 1 rfl) ?_
  refine va_ti (v := .int (nI 2)) hx hb (hE.2.1 19 _ rfl).2 hS (vp_in_nI (by decide) (by decide)) (by decide +kernel) dME_open_4 ?_
  refine lv_istore (lv' := [(5, .int (nI 2)), (0, .ref h0), (1, .int (nI 0)), (2, .ref dk), (3, .ref ct), (4, .ref to)]) hx hb dME_open_5 hl (by decide) rfl (fun ls hl => ?_)
  refine lv_iload_n hx hb dME_open_7 rfl (lv_at hl 2 rfl) ?_
  refine mp_i (cx := []) (wr := []) hP hD hS hA [] [] rfl rfl rfl (by decide) (va_runS (As := [.int (nI 0)]) (rest := []) F (t_ME_sealedSize_0 l g _ T xs pl hO hU  ) (va_cwS 1 hts (wg_app (wg_c kw_1840 (wg_c kw_1841 (wg_c kw_11 wg_n))) kw_1842) rfl rfl rfl (by decide +kernel) ⟨by decide, by decide⟩) (pp_S (en_ok g) hP hD hS hA hE [] rfl rfl) rfl rfl hl.1 rfl (lv_room (Nat.le_of_ble_eq_true rfl)) dME_open_8 ⟨by omega, by omega⟩) (fun r21 pl H locs hu21 hP hD hS => ?_)
  obtain ⟨hq21, hO⟩ := hu21
  have hP : va_P g.1 vcl ([] ++ pl) _ := hP
  have hD : va_D _ ([] ++ pl) := hD
  obtain rfl := hq21
  refine W.widen (k := 0) (n := 0) (by omega) (by omega) ?_
  refine lv_istore (lv' := [(6, .int (nI 768)), (5, .int (nI 2)), (0, .ref h0), (1, .int (nI 0)), (2, .ref dk), (3, .ref ct), (4, .ref to)]) hx hb dME_open_11 hl (by decide) rfl (fun ls hl => ?_)
  refine lv_aload_n hx hb dME_open_13 rfl (lv_at hl 2 rfl) ?_
  refine ty_get (ci := 11) (C := "LatticeKeysModel$Secrets") (TT := T_ME) (N := 14) (kd := (23, 0)) hx hb hts (wg_ft i_ME) hown hK hO k_h0 (nxg hc0 k_h0 rfl) hP (fun _ h9 => h9) rfl 6 (by decide) (hts _ (wg_t kw_1385)) (fun _ h9 => h9) (cd := (3, 0, 256)) rfl dME_open_14 (fun v21 hv21 => ?_)
  obtain ⟨r22, rfl, kr21⟩ := (show ∃ r : Nat, v21 = .ref r ∧ T r = some (0, 256) from hv21)
  refine mp_v (cx := []) (wr := []) hP hD hS hA [] [] rfl rfl rfl (by decide) (va_runS (As := [.ref r22]) (rest := []) F (t_ME_clear l g _ T xs pl hO hU hc0 r22 kr21) (va_cwS 1 hts (wg_app (wg_c kw_1819 (wg_c kw_1820 (wg_c kw_11 wg_n))) kw_1821) rfl rfl rfl (by decide +kernel) ⟨by decide, by decide⟩) (pp_S (en_ok g) hP hD hS hA hE [] rfl rfl) rfl rfl hl.1 rfl (lv_room (Nat.le_of_ble_eq_true rfl)) dME_open_17 ⟨by omega, by omega⟩) (fun  pl H locs hu22 hP hD hS => ?_)
  obtain ⟨hq22, hO⟩ := hu22
  have hP : va_P g.1 vcl ([] ++ pl) _ := hP
  have hD : va_D _ ([] ++ pl) := hD
  refine W.widen (k := 0) (n := 0) (by omega) (by omega) ?_
  refine lv_iconst (v := nI 0) hx hb dME_open_20 (by decide) ?_
  refine lv_istore (lv' := [(7, .int (nI 0)), (6, .int (nI 768)), (5, .int (nI 2)), (0, .ref h0), (1, .int (nI 0)), (2, .ref dk), (3, .ref ct), (4, .ref to)]) hx hb dME_open_21 hl (by decide) rfl (fun ls hl => ?_)
  have lp21 : ∀ (n21 : Nat) (i21 : Nat) (pl : va_W) (ls : Array Slot) (H : Heap) (locs : List Loc), n21 + i21 = 2 → lv_has ls 9 [(7, .int (nI i21)), (6, .int (nI 768)), (5, .int (nI 2)), (0, .ref h0), (1, .int (nI 0)), (2, .ref dk), (3, .ref ct), (4, .ref to)] → okx g T xs pl → va_P g.1 vcl ([] ++ pl) H → va_D A ([] ++ pl) → va_S A s.heap H locs → W p l e ({ frames := 6, cells := 0, slots := 0, locals := 154 } : Room) s m args below meth c H locs 0 0 (MQ below (va_Qv (fun (u : va_W) => (True) ∧ okx g T xs u) (po g.1 vcl A (fun (u : va_W) => [] ++ u)) A) args s 0 0 A) (F0 m 23 ls []) := by
    intro n21
    induction n21 with
    | zero =>
      intro i21 pl ls H locs hm21  hl hO hP hD hS
      refine lv_iload hx hb dME_open_23 (lv_at hl 0 rfl) ?_
      refine lv_iload hx hb dME_open_25 (lv_at hl 2 rfl) ?_
      refine mi_ge (tgt := 140) hx hb dME_open_27 (by decide) (by omega) (by omega) (fun h21 => ?_) (fun h21 => absurd h21 (by omega))
      refine lv_aload_n hx hb dME_open_140 rfl (lv_at hl 3 rfl) ?_
      refine lv_aload_n hx hb dME_open_141 rfl (lv_at hl 3 rfl) ?_
      refine ty_get (ci := 11) (C := "LatticeKeysModel$Secrets") (TT := T_ME) (N := 14) (kd := (23, 0)) hx hb hts (wg_ft i_ME) hown hK hO k_h0 (nxg hc0 k_h0 rfl) hP (fun _ h9 => h9) rfl 6 (by decide) (hts _ (wg_t kw_1385)) (fun _ h9 => h9) (cd := (3, 0, 256)) rfl dME_open_142 (fun v22 hv22 => ?_)
      obtain ⟨r23, rfl, kr22⟩ := (show ∃ r : Nat, v22 = .ref r ∧ T r = some (0, 256) from hv22)
      refine mp_v (cx := []) (wr := []) hP hD hS hA [] [] rfl rfl rfl (by decide) (va_runV (As := [.ref r23]) (rest := []) F (t_ME_back l g _ T xs pl hO hU hc0 h0 r23 k_h0 kr22) (cwV 1 hts (wg_app (wg_c kw_1822 (wg_c kw_1824 (wg_c ks_69 (wg_c kw_11 wg_n)))) kw_1825) rfl rfl rfl (by decide +kernel) ⟨by decide, by decide⟩) (pp_VT (en_ok g) (ci := 11) (kd := (23, 0)) hK hO k_h0 (nxg hc0 k_h0 rfl) (fun _ h9 => ko1 h9) hP hD hS hA hE [] rfl rfl rfl) rfl rfl hl.1 rfl (lv_room (Nat.le_of_ble_eq_true rfl)) dME_open_145 ⟨by omega, by omega⟩) (fun  pl H locs hu23 hP hD hS => ?_)
      obtain ⟨hq23, hO⟩ := hu23
      have hP : va_P g.1 vcl ([] ++ pl) _ := hP
      have hD : va_D _ ([] ++ pl) := hD
      refine W.widen (k := 0) (n := 0) (by omega) (by omega) ?_
      refine lv_aload_n hx hb dME_open_148 rfl (lv_at hl 6 rfl) ?_
      refine lv_bipush (v := nI 32) hx hb dME_open_149 (by decide) ?_
      refine va_gets hx hb (hE.2.1 21 _ rfl).1 hS hown (hts _ (wg_t kw_1830)) (fun _ h9 => h9) dME_open_151 ?_
      refine lv_iload_n hx hb dME_open_154 rfl (lv_at hl 4 rfl) ?_
      refine va_ti (v := .int (nI 10)) hx hb (hE.2.1 21 _ rfl).2 hS (vp_in_nI (by decide) (by decide)) (by decide +kernel) dME_open_155 ?_
      refine mi_imul hx hb dME_open_156 ?_
      refine mi_as (show nI (32 * 10) = nI 320 from rfl) ?_
      refine lv_iload hx hb dME_open_157 (lv_at hl 2 rfl) ?_
      refine mi_imul hx hb dME_open_159 ?_
      refine mi_as (show nI (320 * 2) = nI 640 from rfl) ?_
      refine va_gets hx hb (hE.2.1 22 _ rfl).1 hS hown (hts _ (wg_t kw_1838)) (fun _ h9 => h9) dME_open_160 ?_
      refine lv_iload_n hx hb dME_open_163 rfl (lv_at hl 4 rfl) ?_
      refine va_ti (v := .int (nI 4)) hx hb (hE.2.1 22 _ rfl).2 hS (vp_in_nI (by decide) (by decide)) (by decide +kernel) dME_open_164 ?_
      refine lv_aload_n hx hb dME_open_165 rfl (lv_at hl 3 rfl) ?_
      refine ty_get (ci := 11) (C := "LatticeKeysModel$Secrets") (TT := T_ME) (N := 14) (kd := (23, 0)) hx hb hts (wg_ft i_ME) hown hK hO k_h0 (nxg hc0 k_h0 rfl) hP (fun _ h9 => h9) rfl 7 (by decide) (hts _ (wg_t kw_1386)) (fun _ h9 => h9) (cd := (3, 0, 256)) rfl dME_open_166 (fun v23 hv23 => ?_)
      obtain ⟨r24, rfl, kr23⟩ := (show ∃ r : Nat, v23 = .ref r ∧ T r = some (0, 256) from hv23)
      refine mp_v (cx := []) (wr := []) hP hD hS hA [] [] rfl rfl rfl (by decide) (va_runS (As := [.ref ct, .int (nI 640), .int (nI 4), .ref r24]) (rest := []) F (t_ME_read_4 l g _ T xs pl hO hU hc0 ct r24 16384 640 k_ct kr23 (by omega) (by omega)) (va_cwS 4 hts (wg_app (wg_c kw_1813 (wg_c kw_1814 (wg_c kw_11 wg_n))) kw_1815) rfl rfl rfl (by decide +kernel) ⟨by decide, by decide⟩) (pp_S (en_ok g) hP hD hS hA hE [] rfl rfl) rfl rfl hl.1 rfl (lv_room (Nat.le_of_ble_eq_true rfl)) dME_open_169 ⟨by omega, by omega⟩) (fun  pl H locs hu24 hP hD hS => ?_)
      obtain ⟨hq24, hO⟩ := hu24
      have hP : va_P g.1 vcl ([] ++ pl) _ := hP
      have hD : va_D _ ([] ++ pl) := hD
      refine W.widen (k := 0) (n := 0) (by omega) (by omega) ?_
      refine lv_aload_n hx hb dME_open_172 rfl (lv_at hl 3 rfl) ?_
      refine ty_get (ci := 11) (C := "LatticeKeysModel$Secrets") (TT := T_ME) (N := 14) (kd := (23, 0)) hx hb hts (wg_ft i_ME) hown hK hO k_h0 (nxg hc0 k_h0 rfl) hP (fun _ h9 => h9) rfl 7 (by decide) (hts _ (wg_t kw_1386)) (fun _ h9 => h9) (cd := (3, 0, 256)) rfl dME_open_173 (fun v24 hv24 => ?_)
      obtain ⟨r25, rfl, kr24⟩ := (show ∃ r : Nat, v24 = .ref r ∧ T r = some (0, 256) from hv24)
      refine va_gets hx hb (hE.2.1 22 _ rfl).1 hS hown (hts _ (wg_t kw_1838)) (fun _ h9 => h9) dME_open_176 ?_
      refine lv_iload_n hx hb dME_open_179 rfl (lv_at hl 4 rfl) ?_
      refine va_ti (v := .int (nI 4)) hx hb (hE.2.1 22 _ rfl).2 hS (vp_in_nI (by decide) (by decide)) (by decide +kernel) dME_open_180 ?_
      refine mp_v (cx := []) (wr := []) hP hD hS hA [] [] rfl rfl rfl (by decide) (va_runS (As := [.ref r25, .int (nI 4)]) (rest := []) F (t_ME_more_4 l g _ T xs pl hO hU hc0 r25 kr24) (va_cwS 2 hts (wg_app (wg_c kw_1835 (wg_c kw_1836 (wg_c kw_11 wg_n))) kw_1837) rfl rfl rfl (by decide +kernel) ⟨by decide, by decide⟩) (pp_S (en_ok g) hP hD hS hA hE [] rfl rfl) rfl rfl hl.1 rfl (lv_room (Nat.le_of_ble_eq_true rfl)) dME_open_181 ⟨by omega, by omega⟩) (fun  pl H locs hu25 hP hD hS => ?_)
      obtain ⟨hq25, hO⟩ := hu25
      have hP : va_P g.1 vcl ([] ++ pl) _ := hP
      have hD : va_D _ ([] ++ pl) := hD
      refine W.widen (k := 0) (n := 0) (by omega) (by omega) ?_
      refine lv_iconst (v := nI 0) hx hb dME_open_184 (by decide) ?_
      refine lv_istore (lv' := [(7, .int (nI 0)), (6, .int (nI 768)), (5, .int (nI 2)), (0, .ref h0), (1, .int (nI 0)), (2, .ref dk), (3, .ref ct), (4, .ref to)]) hx hb dME_open_185 hl (by decide) rfl (fun ls hl => ?_)
      have lp22 : ∀ (n22 : Nat) (i22 : Nat) (pl : va_W) (ls : Array Slot) (H : Heap) (locs : List Loc), n22 + i22 = 256 → lv_has ls 9 [(7, .int (nI i22)), (6, .int (nI 768)), (5, .int (nI 2)), (0, .ref h0), (1, .int (nI 0)), (2, .ref dk), (3, .ref ct), (4, .ref to)] → okx g T xs pl → va_P g.1 vcl ([] ++ pl) H → va_D A ([] ++ pl) → va_S A s.heap H locs → W p l e ({ frames := 6, cells := 0, slots := 0, locals := 154 } : Room) s m args below meth c H locs 0 0 (MQ below (va_Qv (fun (u : va_W) => (True) ∧ okx g T xs u) (po g.1 vcl A (fun (u : va_W) => [] ++ u)) A) args s 0 0 A) (F0 m 187 ls []) := by
        intro n22
        induction n22 with
        | zero =>
          intro i22 pl ls H locs hm22  hl hO hP hD hS
          refine lv_iload hx hb dME_open_187 (lv_at hl 0 rfl) ?_
          refine lv_sipush (v := nI 256) hx hb dME_open_189 (by decide) ?_
          refine mi_ge (tgt := 231) hx hb dME_open_192 (by decide) (by omega) (by omega) (fun h22 => ?_) (fun h22 => absurd h22 (by omega))
          refine lv_aload_n hx hb dME_open_231 rfl (lv_at hl 3 rfl) ?_
          refine ty_get (ci := 11) (C := "LatticeKeysModel$Secrets") (TT := T_ME) (N := 14) (kd := (23, 0)) hx hb hts (wg_ft i_ME) hown hK hO k_h0 (nxg hc0 k_h0 rfl) hP (fun _ h9 => h9) rfl 7 (by decide) (hts _ (wg_t kw_1386)) (fun _ h9 => h9) (cd := (3, 0, 256)) rfl dME_open_232 (fun v25 hv25 => ?_)
          obtain ⟨r26, rfl, kr25⟩ := (show ∃ r : Nat, v25 = .ref r ∧ T r = some (0, 256) from hv25)
          refine lv_iconst (v := nI 1) hx hb dME_open_235 (by decide) ?_
          refine mp_v (cx := []) (wr := []) hP hD hS hA [] [] rfl rfl rfl (by decide) (va_runS (As := [.ref r26, .int (nI 1)]) (rest := []) F (t_ME_less_1 l g _ T xs pl hO hU hc0 r26 kr25) (va_cwS 2 hts (wg_app (wg_c kw_1832 (wg_c kw_1833 (wg_c kw_11 wg_n))) kw_1834) rfl rfl rfl (by decide +kernel) ⟨by decide, by decide⟩) (pp_S (en_ok g) hP hD hS hA hE [] rfl rfl) rfl rfl hl.1 rfl (lv_room (Nat.le_of_ble_eq_true rfl)) dME_open_236 ⟨by omega, by omega⟩) (fun  pl H locs hu26 hP hD hS => ?_)
          obtain ⟨hq26, hO⟩ := hu26
          have hP : va_P g.1 vcl ([] ++ pl) _ := hP
          have hD : va_D _ ([] ++ pl) := hD
          refine W.widen (k := 0) (n := 0) (by omega) (by omega) ?_
          refine lv_aload_n hx hb dME_open_239 rfl (lv_at hl 3 rfl) ?_
          refine ty_get (ci := 11) (C := "LatticeKeysModel$Secrets") (TT := T_ME) (N := 14) (kd := (23, 0)) hx hb hts (wg_ft i_ME) hown hK hO k_h0 (nxg hc0 k_h0 rfl) hP (fun _ h9 => h9) rfl 7 (by decide) (hts _ (wg_t kw_1386)) (fun _ h9 => h9) (cd := (3, 0, 256)) rfl dME_open_240 (fun v26 hv26 => ?_)
          obtain ⟨r27, rfl, kr26⟩ := (show ∃ r : Nat, v26 = .ref r ∧ T r = some (0, 256) from hv26)
          refine lv_aload_n hx hb dME_open_243 rfl (lv_at hl 3 rfl) ?_
          refine ty_get (ci := 11) (C := "LatticeKeysModel$Secrets") (TT := T_ME) (N := 14) (kd := (23, 0)) hx hb hts (wg_ft i_ME) hown hK hO k_h0 (nxg hc0 k_h0 rfl) hP (fun _ h9 => h9) rfl 12 (by decide) (hts _ (wg_t kw_1391)) (fun _ h9 => h9) (cd := (3, 1, 32)) rfl dME_open_244 (fun v27 hv27 => ?_)
          obtain ⟨r28, rfl, kr27⟩ := (show ∃ r : Nat, v27 = .ref r ∧ T r = some (1, 32) from hv27)
          refine lv_iconst (v := nI 0) hx hb dME_open_247 (by decide) ?_
          refine lv_iconst (v := nI 1) hx hb dME_open_248 (by decide) ?_
          refine mp_v (cx := []) (wr := []) hP hD hS hA [] [] rfl rfl rfl (by decide) (va_runS (As := [.ref r27, .ref r28, .int (nI 0), .int (nI 1)]) (rest := []) F (t_ME_write_1 l g _ T xs pl hO hU hc0 r27 r28 32 0 kr26 kr27 (by omega) (by omega)) (va_cwS 4 hts (wg_app (wg_c kw_1685 (wg_c kw_1686 (wg_c kw_11 wg_n))) kw_1687) rfl rfl rfl (by decide +kernel) ⟨by decide, by decide⟩) (pp_S (en_ok g) hP hD hS hA hE [] rfl rfl) rfl rfl hl.1 rfl (lv_room (Nat.le_of_ble_eq_true rfl)) dME_open_249 ⟨by omega, by omega⟩) (fun  pl H locs hu27 hP hD hS => ?_)
          obtain ⟨hq27, hO⟩ := hu27
          have hP : va_P g.1 vcl ([] ++ pl) _ := hP
          have hD : va_D _ ([] ++ pl) := hD
          refine W.widen (k := 0) (n := 0) (by omega) (by omega) ?_
          refine lv_iconst (v := nI 0) hx hb dME_open_252 (by decide) ?_
          refine lv_istore (lv' := [(7, .int (nI 0)), (6, .int (nI 768)), (5, .int (nI 2)), (0, .ref h0), (1, .int (nI 0)), (2, .ref dk), (3, .ref ct), (4, .ref to)]) hx hb dME_open_253 hl (by decide) rfl (fun ls hl => ?_)
          have lp23 : ∀ (n23 : Nat) (i23 : Nat) (pl : va_W) (ls : Array Slot) (H : Heap) (locs : List Loc), n23 + i23 = 32 → lv_has ls 9 [(7, .int (nI i23)), (6, .int (nI 768)), (5, .int (nI 2)), (0, .ref h0), (1, .int (nI 0)), (2, .ref dk), (3, .ref ct), (4, .ref to)] → okx g T xs pl → va_P g.1 vcl ([] ++ pl) H → va_D A ([] ++ pl) → va_S A s.heap H locs → W p l e ({ frames := 6, cells := 0, slots := 0, locals := 154 } : Room) s m args below meth c H locs 0 0 (MQ below (va_Qv (fun (u : va_W) => (True) ∧ okx g T xs u) (po g.1 vcl A (fun (u : va_W) => [] ++ u)) A) args s 0 0 A) (F0 m 255 ls []) := by
            intro n23
            induction n23 with
            | zero =>
              intro i23 pl ls H locs hm23  hl hO hP hD hS
              refine lv_iload hx hb dME_open_255 (lv_at hl 0 rfl) ?_
              refine lv_bipush (v := nI 32) hx hb dME_open_257 (by decide) ?_
              refine mi_ge (tgt := 289) hx hb dME_open_259 (by decide) (by omega) (by omega) (fun h23 => ?_) (fun h23 => absurd h23 (by omega))
              refine lv_aload_n hx hb dME_open_289 rfl (lv_at hl 3 rfl) ?_
              refine lv_aload_n hx hb dME_open_290 rfl (lv_at hl 3 rfl) ?_
              refine ty_get (ci := 11) (C := "LatticeKeysModel$Secrets") (TT := T_ME) (N := 14) (kd := (23, 0)) hx hb hts (wg_ft i_ME) hown hK hO k_h0 (nxg hc0 k_h0 rfl) hP (fun _ h9 => h9) rfl 12 (by decide) (hts _ (wg_t kw_1391)) (fun _ h9 => h9) (cd := (3, 1, 32)) rfl dME_open_291 (fun v28 hv28 => ?_)
              obtain ⟨r29, rfl, kr28⟩ := (show ∃ r : Nat, v28 = .ref r ∧ T r = some (1, 32) from hv28)
              refine mp_v (cx := []) (wr := []) hP hD hS hA [] [] rfl rfl rfl (by decide) (va_runV (As := [.ref r29]) (rest := []) F (t_ME_both l g _ T xs pl hO hU hc0 hc9 h0 r29 32 k_h0 kr28 (by omega) (by omega)) (cwV 1 hts (wg_app (wg_c kw_1805 (wg_c kw_1807 (wg_c ks_67 (wg_c kw_11 wg_n)))) kw_1808) rfl rfl rfl (by decide +kernel) ⟨by decide, by decide⟩) (pp_VT (en_ok g) (ci := 11) (kd := (23, 0)) hK hO k_h0 (nxg hc0 k_h0 rfl) (fun _ h9 => ko1 h9) hP hD hS hA hE [] rfl rfl rfl) rfl rfl hl.1 rfl (lv_room (Nat.le_of_ble_eq_true rfl)) dME_open_294 ⟨by omega, by omega⟩) (fun  pl H locs hu28 hP hD hS => ?_)
              obtain ⟨hq28, hO⟩ := hu28
              have hP : va_P g.1 vcl ([] ++ pl) _ := hP
              have hD : va_D _ ([] ++ pl) := hD
              refine W.widen (k := 0) (n := 0) (by omega) (by omega) ?_
              refine lv_aload_n hx hb dME_open_297 rfl (lv_at hl 3 rfl) ?_
              refine lv_iload_n hx hb dME_open_298 rfl (lv_at hl 4 rfl) ?_
              refine lv_aload_n hx hb dME_open_299 rfl (lv_at hl 5 rfl) ?_
              refine lv_sipush (v := nI 384) hx hb dME_open_300 (by decide) ?_
              refine lv_iload hx hb dME_open_303 (lv_at hl 2 rfl) ?_
              refine mi_imul hx hb dME_open_305 ?_
              refine mi_as (show nI (384 * 2) = nI 768 from rfl) ?_
              refine lv_aload_n hx hb dME_open_306 rfl (lv_at hl 3 rfl) ?_
              refine ty_get (ci := 11) (C := "LatticeKeysModel$Secrets") (TT := T_ME) (N := 14) (kd := (23, 0)) hx hb hts (wg_ft i_ME) hown hK hO k_h0 (nxg hc0 k_h0 rfl) hP (fun _ h9 => h9) rfl 12 (by decide) (hts _ (wg_t kw_1391)) (fun _ h9 => h9) (cd := (3, 1, 32)) rfl dME_open_307 (fun v29 hv29 => ?_)
              obtain ⟨r30, rfl, kr29⟩ := (show ∃ r : Nat, v29 = .ref r ∧ T r = some (1, 32) from hv29)
              refine lv_aload_n hx hb dME_open_310 rfl (lv_at hl 3 rfl) ?_
              refine ty_get (ci := 11) (C := "LatticeKeysModel$Secrets") (TT := T_ME) (N := 14) (kd := (23, 0)) hx hb hts (wg_ft i_ME) hown hK hO k_h0 (nxg hc0 k_h0 rfl) hP (fun _ h9 => h9) rfl 13 (by decide) (hts _ (wg_t kw_1392)) (fun _ h9 => h9) (cd := (3, 1, 1568)) rfl dME_open_311 (fun v30 hv30 => ?_)
              obtain ⟨r31, rfl, kr30⟩ := (show ∃ r : Nat, v30 = .ref r ∧ T r = some (1, 1568) from hv30)
              refine mp_v (cx := []) (wr := []) hP hD hS hA [] [] rfl rfl rfl (by decide) (va_runV (As := [.int (nI 0), .ref dk, .int (nI 768), .ref r30, .ref r31]) (rest := []) F (t_ME_encrypt_0 l g _ T xs pl hO hU hc0 hc9 h0 dk r30 r31 4896 32 1568 768 k_h0 k_dk kr29 kr30 (by omega) (by omega) (by omega) (by omega) (by omega) (by omega)) (cwV 5 hts (wg_app (wg_c kw_1809 (wg_c kw_1811 (wg_c ks_68 (wg_c kw_11 wg_n)))) kw_1812) rfl rfl rfl (by decide +kernel) ⟨by decide, by decide⟩) (pp_VT (en_ok g) (ci := 11) (kd := (23, 0)) hK hO k_h0 (nxg hc0 k_h0 rfl) (fun _ h9 => ko1 h9) hP hD hS hA hE [] rfl rfl rfl) rfl rfl hl.1 rfl (lv_room (Nat.le_of_ble_eq_true rfl)) dME_open_314 ⟨by omega, by omega⟩) (fun  pl H locs hu29 hP hD hS => ?_)
              obtain ⟨hq29, hO⟩ := hu29
              have hP : va_P g.1 vcl ([] ++ pl) _ := hP
              have hD : va_D _ ([] ++ pl) := hD
              refine W.widen (k := 0) (n := 0) (by omega) (by omega) ?_
              refine lv_iconst (v := nI 1) hx hb dME_open_317 (by decide) ?_
              refine lv_istore (lv' := [(7, .int (nI 1)), (6, .int (nI 768)), (5, .int (nI 2)), (0, .ref h0), (1, .int (nI 0)), (2, .ref dk), (3, .ref ct), (4, .ref to)]) hx hb dME_open_318 hl (by decide) rfl (fun ls hl => ?_)
              refine lv_iconst (v := nI 0) hx hb dME_open_320 (by decide) ?_
              refine lv_istore (lv' := [(8, .int (nI 0)), (7, .int (nI 1)), (6, .int (nI 768)), (5, .int (nI 2)), (0, .ref h0), (1, .int (nI 0)), (2, .ref dk), (3, .ref ct), (4, .ref to)]) hx hb dME_open_321 hl (by decide) rfl (fun ls hl => ?_)
              have lp24 : ∀ (n24 : Nat) (i24 : Nat) (z21 : Int32) (pl : va_W) (ls : Array Slot) (H : Heap) (locs : List Loc), n24 + i24 = 768 → lv_has ls 9 [(8, .int (nI i24)), (7, .int z21), (6, .int (nI 768)), (5, .int (nI 2)), (0, .ref h0), (2, .ref dk), (3, .ref ct), (4, .ref to)] → okx g T xs pl → va_P g.1 vcl ([] ++ pl) H → va_D A ([] ++ pl) → va_S A s.heap H locs → W p l e ({ frames := 6, cells := 0, slots := 0, locals := 154 } : Room) s m args below meth c H locs 0 0 (MQ below (va_Qv (fun (u : va_W) => (True) ∧ okx g T xs u) (po g.1 vcl A (fun (u : va_W) => [] ++ u)) A) args s 0 0 A) (F0 m 323 ls []) := by
                intro n24
                induction n24 with
                | zero =>
                  intro i24 z21 pl ls H locs hm24  hl hO hP hD hS
                  refine lv_iload hx hb dME_open_323 (lv_at hl 0 rfl) ?_
                  refine lv_iload hx hb dME_open_325 (lv_at hl 2 rfl) ?_
                  refine mi_ge (tgt := 360) hx hb dME_open_327 (by decide) (by omega) (by omega) (fun h24 => ?_) (fun h24 => absurd h24 (by omega))
                  refine lv_iconst (v := nI 0) hx hb dME_open_360 (by decide) ?_
                  refine lv_istore (lv' := [(8, .int (nI 0)), (7, .int z21), (6, .int (nI 768)), (5, .int (nI 2)), (0, .ref h0), (2, .ref dk), (3, .ref ct), (4, .ref to)]) hx hb dME_open_361 hl (by decide) rfl (fun ls hl => ?_)
                  have lp25 : ∀ (n25 : Nat) (i25 : Nat) (pl : va_W) (ls : Array Slot) (H : Heap) (locs : List Loc), n25 + i25 = 32 → lv_has ls 9 [(8, .int (nI i25)), (7, .int z21), (6, .int (nI 768)), (5, .int (nI 2)), (0, .ref h0), (2, .ref dk), (3, .ref ct), (4, .ref to)] → okx g T xs pl → va_P g.1 vcl ([] ++ pl) H → va_D A ([] ++ pl) → va_S A s.heap H locs → W p l e ({ frames := 6, cells := 0, slots := 0, locals := 154 } : Room) s m args below meth c H locs 0 0 (MQ below (va_Qv (fun (u : va_W) => (True) ∧ okx g T xs u) (po g.1 vcl A (fun (u : va_W) => [] ++ u)) A) args s 0 0 A) (F0 m 363 ls []) := by
                    intro n25
                    induction n25 with
                    | zero =>
                      intro i25 pl ls H locs hm25  hl hO hP hD hS
                      refine lv_iload hx hb dME_open_363 (lv_at hl 0 rfl) ?_
                      refine lv_bipush (v := nI 32) hx hb dME_open_365 (by decide) ?_
                      refine mi_ge (tgt := 388) hx hb dME_open_367 (by decide) (by omega) (by omega) (fun h25 => ?_) (fun h25 => absurd h25 (by omega))
                      refine lv_iload hx hb dME_open_388 (lv_at hl 1 rfl) ?_
                      refine lv_if_eq (tgt := 394) hx hb dME_open_390 (by decide) (fun h26 => ?_) (fun h26 => ?_)
                      · refine lv_aload_n hx hb dME_open_394 rfl (lv_at hl 4 rfl) ?_
                        refine ty_get (ci := 11) (C := "LatticeKeysModel$Secrets") (TT := T_ME) (N := 14) (kd := (23, 0)) hx hb hts (wg_ft i_ME) hown hK hO k_h0 (nxg hc0 k_h0 rfl) hP (fun _ h9 => h9) rfl 0 (by decide) (hts _ (wg_t kw_1379)) (fun _ h9 => h9) (cd := (3, 20, 0)) rfl dME_open_395 (fun v31 hv31 => ?_)
                        obtain ⟨r32, rfl, kr31⟩ := (show ∃ r : Nat, v31 = .ref r ∧ T r = some (20, 0) from hv31)
                        obtain ⟨e21, pl, hP, hD, hk21, hO⟩ := open1 hP hD hO kr31 (nxg hc9 kr31 rfl)
                        obtain ⟨am21, am22, am23, am24, am25, rt21, ps21, x21, rfl, km21, km22, km23, km24, km25, hr21, hr22, hr23⟩ := hk21
                        obtain ⟨e22, pl, hP, hD, hk22, hO⟩ := open1 hP hD hO km21 (nmc (knd_ne km21 kr31 (by decide)) (nxg hc9 km21 rfl))
                        obtain ⟨f21, rfl⟩ := hk22
                        obtain ⟨e23, pl, hP, hD, hk23, hO⟩ := open1 hP hD hO km22 (nmc (knd_ne km22 km21 (by decide)) (nmc (knd_ne km22 kr31 (by decide)) (nxg hc9 km22 rfl)))
                        obtain ⟨f22, rfl⟩ := hk23
                        obtain ⟨e24, pl, hP, hD, hk24, hO⟩ := open1 hP hD hO km23 (nmc (knd_ne km23 km22 (by decide)) (nmc (knd_ne km23 km21 (by decide)) (nmc (knd_ne km23 kr31 (by decide)) (nxg hc9 km23 rfl))))
                        obtain ⟨f23, rfl⟩ := hk24
                        obtain ⟨e25, pl, hP, hD, hk25, hO⟩ := open1 hP hD hO km24 (nmc (knd_ne km24 km23 (by decide)) (nmc (knd_ne km24 km22 (by decide)) (nmc (knd_ne km24 km21 (by decide)) (nmc (knd_ne km24 kr31 (by decide)) (nxg hc9 km24 rfl)))))
                        obtain ⟨f24, rfl⟩ := hk25
                        obtain ⟨e26, pl, hP, hD, hk26, hO⟩ := open1 hP hD hO km25 (nmc (knd_ne km25 km24 (by decide)) (nmc (knd_ne km25 km23 (by decide)) (nmc (knd_ne km25 km22 (by decide)) (nmc (knd_ne km25 km21 (by decide)) (nmc (knd_ne km25 kr31 (by decide)) (nxg hc9 km25 rfl))))))
                        obtain ⟨f25, rfl⟩ := hk26
                        have hP : va_P g.1 vcl ([(r32, .inr (9, [.ref am21, .ref am22, .ref am23, .ref am24, .ref am25, .int (nI rt21), .int (nI ps21), .int x21])), (am21, .inl (g.2.1 2, 25, .inr (.inl f21))), (am22, .inl (g.2.1 2, 25, .inr (.inl f22))), (am23, .inl (g.2.1 2, 5, .inr (.inl f23))), (am24, .inl (g.2.1 2, 24, .inr (.inl f24))), (am25, .inl (g.2.1 0, 25, .inl f25))] ++ pl) _ := hP
                        have hD : va_D _ ([(r32, .inr (9, [.ref am21, .ref am22, .ref am23, .ref am24, .ref am25, .int (nI rt21), .int (nI ps21), .int x21])), (am21, .inl (g.2.1 2, 25, .inr (.inl f21))), (am22, .inl (g.2.1 2, 25, .inr (.inl f22))), (am23, .inl (g.2.1 2, 5, .inr (.inl f23))), (am24, .inl (g.2.1 2, 24, .inr (.inl f24))), (am25, .inl (g.2.1 0, 25, .inl f25))] ++ pl) := hD
                        refine mp_v (cx := [(r32, .inr (9, [.ref am21, .ref am22, .ref am23, .ref am24, .ref am25, .int (nI rt21), .int (nI ps21), .int x21])), (am21, .inl (g.2.1 2, 25, .inr (.inl f21))), (am22, .inl (g.2.1 2, 25, .inr (.inl f22))), (am23, .inl (g.2.1 2, 5, .inr (.inl f23))), (am24, .inl (g.2.1 2, 24, .inr (.inl f24))), (am25, .inl (g.2.1 0, 25, .inl f25))]) (wr := []) hP hD hS hA [0, 1, 2, 3, 4, 5] [] rfl rfl rfl (by decide) (va_runV (As := []) (rest := []) F (t_MS_shake l g _ T (am25 :: (am24 :: (am23 :: (am22 :: (am21 :: (r32 :: xs)))))) pl hO hU  r32 am21 am22 am23 am24 am25 rt21 ps21 x21 f21 f22 f23 f24 f25) (cwV 0 hts (wg_app (wg_c kw_1660 (wg_c kw_1661 (wg_c kw_1662 (wg_c kw_10 wg_n)))) kw_1663) rfl rfl rfl (by decide +kernel) ⟨by decide, by decide⟩) (pp_V (en_ok g) (q0 := 0) hK hP hD hS hA hE [0, 1, 2, 3, 4, 5] rfl rfl rfl rfl) rfl rfl hl.1 rfl (lv_room (Nat.le_of_ble_eq_true rfl)) dME_open_398 ⟨by omega, by omega⟩) (fun  u21 H locs hu30 hP hD hS => ?_)
                        obtain ⟨u22, pl⟩ := u21
                        obtain ⟨hq30, hO⟩ := hu30
                        obtain ⟨ps22, f26, f27, f28⟩ := u22
                        have hP : va_P g.1 vcl ([(r32, .inr (9, [.ref am21, .ref am22, .ref am23, .ref am24, .ref am25, .int (nI 136), .int (nI ps22), .int (nI 31)])), (am21, .inl (g.2.1 2, 25, .inr (.inl f26))), (am22, .inl (g.2.1 2, 25, .inr (.inl f27))), (am23, .inl (g.2.1 2, 5, .inr (.inl f28))), (am24, .inl (g.2.1 2, 24, .inr (.inl f24))), (am25, .inl (g.2.1 0, 25, .inl f25))] ++ pl) _ := hP
                        have hD : va_D _ ([(r32, .inr (9, [.ref am21, .ref am22, .ref am23, .ref am24, .ref am25, .int (nI 136), .int (nI ps22), .int (nI 31)])), (am21, .inl (g.2.1 2, 25, .inr (.inl f26))), (am22, .inl (g.2.1 2, 25, .inr (.inl f27))), (am23, .inl (g.2.1 2, 5, .inr (.inl f28))), (am24, .inl (g.2.1 2, 24, .inr (.inl f24))), (am25, .inl (g.2.1 0, 25, .inl f25))] ++ pl) := hD
                        have hq30 : ps22 ≤ 136 := hq30
                        refine W.widen (k := 0) (n := 0) (by omega) (by omega) ?_
                        refine lv_aload_n hx hb dME_open_401 rfl (lv_at hl 4 rfl) ?_
                        refine ty_get (ci := 11) (C := "LatticeKeysModel$Secrets") (TT := T_ME) (N := 14) (kd := (23, 0)) hx hb hts (wg_ft i_ME) hown hK hO k_h0 (nxg (clo_cons (clo_cons (clo_cons (clo_cons (clo_cons (clo_cons hc0 kr31 (by decide)) km21 (by decide)) km22 (by decide)) km23 (by decide)) km24 (by decide)) km25 (by decide)) k_h0 rfl) hP (fun _ h9 => h9) rfl 0 (by decide) (hts _ (wg_t kw_1379)) (fun _ h9 => h9) (cd := (3, 20, 0)) rfl dME_open_402 (fun v32 hv32 => ?_)
                        obtain ⟨r33, rfl, kr32⟩ := (show ∃ r : Nat, v32 = .ref r ∧ T r = some (20, 0) from hv32)
                        obtain rfl : r32 = r33 := hU _ _ _ (by decide) kr31 kr32
                        refine lv_aload_n hx hb dME_open_405 rfl (lv_at hl 5 rfl) ?_
                        refine lv_sipush (v := nI 768) hx hb dME_open_406 (by decide) ?_
                        refine lv_iload hx hb dME_open_409 (lv_at hl 3 rfl) ?_
                        refine mi_imul hx hb dME_open_411 ?_
                        refine mi_as (show nI (768 * 2) = nI 1536 from rfl) ?_
                        refine lv_bipush (v := nI 64) hx hb dME_open_412 (by decide) ?_
                        refine mi_iadd hx hb dME_open_414 ?_
                        refine mi_as (show nI (1536 + 64) = nI 1600 from rfl) ?_
                        refine lv_bipush (v := nI 32) hx hb dME_open_415 (by decide) ?_
                        refine mp_v (cx := [(r32, .inr (9, [.ref am21, .ref am22, .ref am23, .ref am24, .ref am25, .int (nI 136), .int (nI ps22), .int (nI 31)])), (am21, .inl (g.2.1 2, 25, .inr (.inl f26))), (am22, .inl (g.2.1 2, 25, .inr (.inl f27))), (am23, .inl (g.2.1 2, 5, .inr (.inl f28))), (am24, .inl (g.2.1 2, 24, .inr (.inl f24))), (am25, .inl (g.2.1 0, 25, .inl f25))]) (wr := []) hP hD hS hA [0, 1, 2, 3, 4, 5] [] rfl rfl rfl (by decide) (va_runV (As := [.ref dk, .int (nI 1600), .int (nI 32)]) (rest := []) F (t_MS_puts l g _ T (am25 :: (am24 :: (am23 :: (am22 :: (am21 :: (r32 :: xs)))))) pl hO hU (clo_cons (clo_cons (clo_cons (clo_cons (clo_cons (clo_cons hc0 kr31 (by decide)) km21 (by decide)) km22 (by decide)) km23 (by decide)) km24 (by decide)) km25 (by decide)) dk 4896 1600 32 r32 am21 am22 am23 am24 am25 136 ps22 (nI 31) f26 f27 f28 f24 f25 k_dk (by omega) (by omega) (by omega) (by omega)) (cwV 3 hts (wg_app (wg_c kw_1611 (wg_c kw_1612 (wg_c kw_1613 (wg_c kw_10 wg_n)))) kw_1614) rfl rfl rfl (by decide +kernel) ⟨by decide, by decide⟩) (pp_V (en_ok g) (q0 := 0) hK hP hD hS hA hE [0, 1, 2, 3, 4, 5] rfl rfl rfl rfl) rfl rfl hl.1 rfl (lv_room (Nat.le_of_ble_eq_true rfl)) dME_open_417 ⟨by omega, by omega⟩) (fun  u23 H locs hu31 hP hD hS => ?_)
                        obtain ⟨u24, pl⟩ := u23
                        obtain ⟨hq31, hO⟩ := hu31
                        obtain ⟨ps23, f29, f30, f31⟩ := u24
                        have hP : va_P g.1 vcl ([(r32, .inr (9, [.ref am21, .ref am22, .ref am23, .ref am24, .ref am25, .int (nI 136), .int (nI ps23), .int (nI 31)])), (am21, .inl (g.2.1 2, 25, .inr (.inl f29))), (am22, .inl (g.2.1 2, 25, .inr (.inl f30))), (am23, .inl (g.2.1 2, 5, .inr (.inl f31))), (am24, .inl (g.2.1 2, 24, .inr (.inl f24))), (am25, .inl (g.2.1 0, 25, .inl f25))] ++ pl) _ := hP
                        have hD : va_D _ ([(r32, .inr (9, [.ref am21, .ref am22, .ref am23, .ref am24, .ref am25, .int (nI 136), .int (nI ps23), .int (nI 31)])), (am21, .inl (g.2.1 2, 25, .inr (.inl f29))), (am22, .inl (g.2.1 2, 25, .inr (.inl f30))), (am23, .inl (g.2.1 2, 5, .inr (.inl f31))), (am24, .inl (g.2.1 2, 24, .inr (.inl f24))), (am25, .inl (g.2.1 0, 25, .inl f25))] ++ pl) := hD
                        have hq31 : ps23 ≤ 136 := hq31
                        refine W.widen (k := 0) (n := 0) (by omega) (by omega) ?_
                        refine lv_aload_n hx hb dME_open_420 rfl (lv_at hl 4 rfl) ?_
                        refine ty_get (ci := 11) (C := "LatticeKeysModel$Secrets") (TT := T_ME) (N := 14) (kd := (23, 0)) hx hb hts (wg_ft i_ME) hown hK hO k_h0 (nxg (clo_cons (clo_cons (clo_cons (clo_cons (clo_cons (clo_cons hc0 kr31 (by decide)) km21 (by decide)) km22 (by decide)) km23 (by decide)) km24 (by decide)) km25 (by decide)) k_h0 rfl) hP (fun _ h9 => h9) rfl 0 (by decide) (hts _ (wg_t kw_1379)) (fun _ h9 => h9) (cd := (3, 20, 0)) rfl dME_open_421 (fun v33 hv33 => ?_)
                        obtain ⟨r34, rfl, kr33⟩ := (show ∃ r : Nat, v33 = .ref r ∧ T r = some (20, 0) from hv33)
                        obtain rfl : r32 = r34 := hU _ _ _ (by decide) kr31 kr33
                        refine lv_aload_n hx hb dME_open_424 rfl (lv_at hl 6 rfl) ?_
                        refine lv_iconst (v := nI 0) hx hb dME_open_425 (by decide) ?_
                        refine lv_iload hx hb dME_open_426 (lv_at hl 2 rfl) ?_
                        refine mp_v (cx := [(r32, .inr (9, [.ref am21, .ref am22, .ref am23, .ref am24, .ref am25, .int (nI 136), .int (nI ps23), .int (nI 31)])), (am21, .inl (g.2.1 2, 25, .inr (.inl f29))), (am22, .inl (g.2.1 2, 25, .inr (.inl f30))), (am23, .inl (g.2.1 2, 5, .inr (.inl f31))), (am24, .inl (g.2.1 2, 24, .inr (.inl f24))), (am25, .inl (g.2.1 0, 25, .inl f25))]) (wr := []) hP hD hS hA [0, 1, 2, 3, 4, 5] [] rfl rfl rfl (by decide) (va_runV (As := [.ref ct, .int (nI 0), .int (nI 768)]) (rest := []) F (t_MS_puts l g _ T (am25 :: (am24 :: (am23 :: (am22 :: (am21 :: (r32 :: xs)))))) pl hO hU (clo_cons (clo_cons (clo_cons (clo_cons (clo_cons (clo_cons hc0 kr31 (by decide)) km21 (by decide)) km22 (by decide)) km23 (by decide)) km24 (by decide)) km25 (by decide)) ct 16384 0 768 r32 am21 am22 am23 am24 am25 136 ps23 (nI 31) f29 f30 f31 f24 f25 k_ct (by omega) (by omega) (by omega) (by omega)) (cwV 3 hts (wg_app (wg_c kw_1611 (wg_c kw_1612 (wg_c kw_1613 (wg_c kw_10 wg_n)))) kw_1614) rfl rfl rfl (by decide +kernel) ⟨by decide, by decide⟩) (pp_V (en_ok g) (q0 := 0) hK hP hD hS hA hE [0, 1, 2, 3, 4, 5] rfl rfl rfl rfl) rfl rfl hl.1 rfl (lv_room (Nat.le_of_ble_eq_true rfl)) dME_open_428 ⟨by omega, by omega⟩) (fun  u25 H locs hu32 hP hD hS => ?_)
                        obtain ⟨u26, pl⟩ := u25
                        obtain ⟨hq32, hO⟩ := hu32
                        obtain ⟨ps24, f32, f33, f34⟩ := u26
                        have hP : va_P g.1 vcl ([(r32, .inr (9, [.ref am21, .ref am22, .ref am23, .ref am24, .ref am25, .int (nI 136), .int (nI ps24), .int (nI 31)])), (am21, .inl (g.2.1 2, 25, .inr (.inl f32))), (am22, .inl (g.2.1 2, 25, .inr (.inl f33))), (am23, .inl (g.2.1 2, 5, .inr (.inl f34))), (am24, .inl (g.2.1 2, 24, .inr (.inl f24))), (am25, .inl (g.2.1 0, 25, .inl f25))] ++ pl) _ := hP
                        have hD : va_D _ ([(r32, .inr (9, [.ref am21, .ref am22, .ref am23, .ref am24, .ref am25, .int (nI 136), .int (nI ps24), .int (nI 31)])), (am21, .inl (g.2.1 2, 25, .inr (.inl f32))), (am22, .inl (g.2.1 2, 25, .inr (.inl f33))), (am23, .inl (g.2.1 2, 5, .inr (.inl f34))), (am24, .inl (g.2.1 2, 24, .inr (.inl f24))), (am25, .inl (g.2.1 0, 25, .inl f25))] ++ pl) := hD
                        have hq32 : ps24 ≤ 136 := hq32
                        refine W.widen (k := 0) (n := 0) (by omega) (by omega) ?_
                        refine lv_aload_n hx hb dME_open_431 rfl (lv_at hl 4 rfl) ?_
                        refine ty_get (ci := 11) (C := "LatticeKeysModel$Secrets") (TT := T_ME) (N := 14) (kd := (23, 0)) hx hb hts (wg_ft i_ME) hown hK hO k_h0 (nxg (clo_cons (clo_cons (clo_cons (clo_cons (clo_cons (clo_cons hc0 kr31 (by decide)) km21 (by decide)) km22 (by decide)) km23 (by decide)) km24 (by decide)) km25 (by decide)) k_h0 rfl) hP (fun _ h9 => h9) rfl 0 (by decide) (hts _ (wg_t kw_1379)) (fun _ h9 => h9) (cd := (3, 20, 0)) rfl dME_open_432 (fun v34 hv34 => ?_)
                        obtain ⟨r35, rfl, kr34⟩ := (show ∃ r : Nat, v34 = .ref r ∧ T r = some (20, 0) from hv34)
                        obtain rfl : r32 = r35 := hU _ _ _ (by decide) kr31 kr34
                        refine mp_v (cx := [(r32, .inr (9, [.ref am21, .ref am22, .ref am23, .ref am24, .ref am25, .int (nI 136), .int (nI ps24), .int (nI 31)])), (am21, .inl (g.2.1 2, 25, .inr (.inl f32))), (am22, .inl (g.2.1 2, 25, .inr (.inl f33))), (am23, .inl (g.2.1 2, 5, .inr (.inl f34))), (am24, .inl (g.2.1 2, 24, .inr (.inl f24))), (am25, .inl (g.2.1 0, 25, .inl f25))]) (wr := []) hP hD hS hA [0, 1, 2, 3, 4, 5] [] rfl rfl rfl (by decide) (va_runV (As := []) (rest := []) F (t_MS_end l g _ T (am25 :: (am24 :: (am23 :: (am22 :: (am21 :: (r32 :: xs)))))) pl hO hU  r32 am21 am22 am23 am24 am25 136 ps24 (nI 31) f32 f33 f34 f24 f25 (by omega) (by omega)) (cwV 0 hts (wg_app (wg_c kw_1633 (wg_c kw_1634 (wg_c kw_1635 (wg_c kw_10 wg_n)))) kw_1636) rfl rfl rfl (by decide +kernel) ⟨by decide, by decide⟩) (pp_V (en_ok g) (q0 := 0) hK hP hD hS hA hE [0, 1, 2, 3, 4, 5] rfl rfl rfl rfl) rfl rfl hl.1 rfl (lv_room (Nat.le_of_ble_eq_true rfl)) dME_open_435 ⟨by omega, by omega⟩) (fun  u27 H locs hu33 hP hD hS => ?_)
                        obtain ⟨u28, pl⟩ := u27
                        obtain ⟨hq33, hO⟩ := hu33
                        obtain ⟨ps25, f35, f36, f37⟩ := u28
                        have hP : va_P g.1 vcl ([(r32, .inr (9, [.ref am21, .ref am22, .ref am23, .ref am24, .ref am25, .int (nI 136), .int (nI ps25), .int (nI 31)])), (am21, .inl (g.2.1 2, 25, .inr (.inl f35))), (am22, .inl (g.2.1 2, 25, .inr (.inl f36))), (am23, .inl (g.2.1 2, 5, .inr (.inl f37))), (am24, .inl (g.2.1 2, 24, .inr (.inl f24))), (am25, .inl (g.2.1 0, 25, .inl f25))] ++ pl) _ := hP
                        have hD : va_D _ ([(r32, .inr (9, [.ref am21, .ref am22, .ref am23, .ref am24, .ref am25, .int (nI 136), .int (nI ps25), .int (nI 31)])), (am21, .inl (g.2.1 2, 25, .inr (.inl f35))), (am22, .inl (g.2.1 2, 25, .inr (.inl f36))), (am23, .inl (g.2.1 2, 5, .inr (.inl f37))), (am24, .inl (g.2.1 2, 24, .inr (.inl f24))), (am25, .inl (g.2.1 0, 25, .inl f25))] ++ pl) := hD
                        have hq33 : ps25 ≤ 136 := hq33
                        refine W.widen (k := 0) (n := 0) (by omega) (by omega) ?_
                        refine lv_aload_n hx hb dME_open_438 rfl (lv_at hl 4 rfl) ?_
                        refine ty_get (ci := 11) (C := "LatticeKeysModel$Secrets") (TT := T_ME) (N := 14) (kd := (23, 0)) hx hb hts (wg_ft i_ME) hown hK hO k_h0 (nxg (clo_cons (clo_cons (clo_cons (clo_cons (clo_cons (clo_cons hc0 kr31 (by decide)) km21 (by decide)) km22 (by decide)) km23 (by decide)) km24 (by decide)) km25 (by decide)) k_h0 rfl) hP (fun _ h9 => h9) rfl 0 (by decide) (hts _ (wg_t kw_1379)) (fun _ h9 => h9) (cd := (3, 20, 0)) rfl dME_open_439 (fun v35 hv35 => ?_)
                        obtain ⟨r36, rfl, kr35⟩ := (show ∃ r : Nat, v35 = .ref r ∧ T r = some (20, 0) from hv35)
                        obtain rfl : r32 = r36 := hU _ _ _ (by decide) kr31 kr35
                        refine lv_aload hx hb dME_open_442 (lv_at hl 7 rfl) ?_
                        refine lv_iconst (v := nI 0) hx hb dME_open_444 (by decide) ?_
                        refine lv_bipush (v := nI 32) hx hb dME_open_445 (by decide) ?_
                        refine mp_v (cx := [(r32, .inr (9, [.ref am21, .ref am22, .ref am23, .ref am24, .ref am25, .int (nI 136), .int (nI ps25), .int (nI 31)])), (am21, .inl (g.2.1 2, 25, .inr (.inl f35))), (am22, .inl (g.2.1 2, 25, .inr (.inl f36))), (am23, .inl (g.2.1 2, 5, .inr (.inl f37))), (am24, .inl (g.2.1 2, 24, .inr (.inl f24))), (am25, .inl (g.2.1 0, 25, .inl f25))]) (wr := []) hP hD hS hA [0, 1, 2, 3, 4, 5] [] rfl rfl rfl (by decide) (va_runV (As := [.ref to, .int (nI 0), .int (nI 32)]) (rest := []) F (t_MS_take l g _ T (am25 :: (am24 :: (am23 :: (am22 :: (am21 :: (r32 :: xs)))))) pl hO hU (clo_cons (clo_cons (clo_cons (clo_cons (clo_cons (clo_cons hc0 kr31 (by decide)) km21 (by decide)) km22 (by decide)) km23 (by decide)) km24 (by decide)) km25 (by decide)) to 8192 0 32 r32 am21 am22 am23 am24 am25 136 ps25 (nI 31) f35 f36 f37 f24 f25 k_to (by omega) (by omega) (by omega) (by omega)) (cwV 3 hts (wg_app (wg_c kw_1637 (wg_c kw_1638 (wg_c kw_1639 (wg_c kw_10 wg_n)))) kw_1640) rfl rfl rfl (by decide +kernel) ⟨by decide, by decide⟩) (pp_V (en_ok g) (q0 := 0) hK hP hD hS hA hE [0, 1, 2, 3, 4, 5] rfl rfl rfl rfl) rfl rfl hl.1 rfl (lv_room (Nat.le_of_ble_eq_true rfl)) dME_open_447 ⟨by omega, by omega⟩) (fun  u29 H locs hu34 hP hD hS => ?_)
                        obtain ⟨u30, pl⟩ := u29
                        obtain ⟨hq34, hO⟩ := hu34
                        obtain ⟨ps26, f38, f39, f40⟩ := u30
                        have hP : va_P g.1 vcl ([(r32, .inr (9, [.ref am21, .ref am22, .ref am23, .ref am24, .ref am25, .int (nI 136), .int (nI ps26), .int (nI 31)])), (am21, .inl (g.2.1 2, 25, .inr (.inl f38))), (am22, .inl (g.2.1 2, 25, .inr (.inl f39))), (am23, .inl (g.2.1 2, 5, .inr (.inl f40))), (am24, .inl (g.2.1 2, 24, .inr (.inl f24))), (am25, .inl (g.2.1 0, 25, .inl f25))] ++ pl) _ := hP
                        have hD : va_D _ ([(r32, .inr (9, [.ref am21, .ref am22, .ref am23, .ref am24, .ref am25, .int (nI 136), .int (nI ps26), .int (nI 31)])), (am21, .inl (g.2.1 2, 25, .inr (.inl f38))), (am22, .inl (g.2.1 2, 25, .inr (.inl f39))), (am23, .inl (g.2.1 2, 5, .inr (.inl f40))), (am24, .inl (g.2.1 2, 24, .inr (.inl f24))), (am25, .inl (g.2.1 0, 25, .inl f25))] ++ pl) := hD
                        have hq34 : ps26 ≤ 136 := hq34
                        refine W.widen (k := 0) (n := 0) (by omega) (by omega) ?_
                        have hO := close1 (e := .inl (g.2.1 0, 25, .inl f25)) hO km25 ⟨_, rfl⟩
                        have hO := close1 (e := .inl (g.2.1 2, 24, .inr (.inl f24))) hO km24 ⟨_, rfl⟩
                        have hO := close1 (e := .inl (g.2.1 2, 5, .inr (.inl f40))) hO km23 ⟨_, rfl⟩
                        have hO := close1 (e := .inl (g.2.1 2, 25, .inr (.inl f39))) hO km22 ⟨_, rfl⟩
                        have hO := close1 (e := .inl (g.2.1 2, 25, .inr (.inl f38))) hO km21 ⟨_, rfl⟩
                        have hO := close1 (e := .inr (9, [.ref am21, .ref am22, .ref am23, .ref am24, .ref am25, .int (nI 136), .int (nI ps26), .int (nI 31)])) hO kr31 ⟨_, _, _, _, _, _, _, _, rfl, km21, km22, km23, km24, km25, by omega, by omega, by omega⟩
                        have hO : okx g T xs ((r32, .inr (9, [.ref am21, .ref am22, .ref am23, .ref am24, .ref am25, .int (nI 136), .int (nI ps26), .int (nI 31)])) :: (am21, .inl (g.2.1 2, 25, .inr (.inl f38))) :: (am22, .inl (g.2.1 2, 25, .inr (.inl f39))) :: (am23, .inl (g.2.1 2, 5, .inr (.inl f40))) :: (am24, .inl (g.2.1 2, 24, .inr (.inl f24))) :: (am25, .inl (g.2.1 0, 25, .inl f25)) :: pl) := hO
                        have hP : va_P g.1 vcl ([] ++ ((r32, .inr (9, [.ref am21, .ref am22, .ref am23, .ref am24, .ref am25, .int (nI 136), .int (nI ps26), .int (nI 31)])) :: (am21, .inl (g.2.1 2, 25, .inr (.inl f38))) :: (am22, .inl (g.2.1 2, 25, .inr (.inl f39))) :: (am23, .inl (g.2.1 2, 5, .inr (.inl f40))) :: (am24, .inl (g.2.1 2, 24, .inr (.inl f24))) :: (am25, .inl (g.2.1 0, 25, .inl f25)) :: pl)) _ := hP
                        have hD : va_D _ ([] ++ ((r32, .inr (9, [.ref am21, .ref am22, .ref am23, .ref am24, .ref am25, .int (nI 136), .int (nI ps26), .int (nI 31)])) :: (am21, .inl (g.2.1 2, 25, .inr (.inl f38))) :: (am22, .inl (g.2.1 2, 25, .inr (.inl f39))) :: (am23, .inl (g.2.1 2, 5, .inr (.inl f40))) :: (am24, .inl (g.2.1 2, 24, .inr (.inl f24))) :: (am25, .inl (g.2.1 0, 25, .inl f25)) :: pl)) := hD
                        generalize ((r32, .inr (9, [.ref am21, .ref am22, .ref am23, .ref am24, .ref am25, .int (nI 136), .int (nI ps26), .int (nI 31)])) :: (am21, .inl (g.2.1 2, 25, .inr (.inl f38))) :: (am22, .inl (g.2.1 2, 25, .inr (.inl f39))) :: (am23, .inl (g.2.1 2, 5, .inr (.inl f40))) :: (am24, .inl (g.2.1 2, 24, .inr (.inl f24))) :: (am25, .inl (g.2.1 0, 25, .inl f25)) :: pl) = pl at hO hP hD
                        exact mp_vret hx hb hr hlk hP hD hS pl ⟨trivial, hO⟩ [] rfl rfl rfl (by omega) (by omega) dME_open_450
                      · exact mp_vret hx hb hr hlk hP hD hS pl ⟨trivial, hO⟩ [] rfl rfl rfl (by omega) (by omega) dME_open_393
                    | succ n25 ih25 =>
                      intro i25 pl ls H locs hm25  hl hO hP hD hS
                      refine lv_iload hx hb dME_open_363 (lv_at hl 0 rfl) ?_
                      refine lv_bipush (v := nI 32) hx hb dME_open_365 (by decide) ?_
                      refine mi_ge (tgt := 388) hx hb dME_open_367 (by decide) (by omega) (by omega) (fun h27 => absurd h27 (by omega)) (fun h27 => ?_)
                      refine lv_aload hx hb dME_open_370 (lv_at hl 7 rfl) ?_
                      refine lv_iload hx hb dME_open_372 (lv_at hl 0 rfl) ?_
                      refine lv_aload_n hx hb dME_open_374 rfl (lv_at hl 4 rfl) ?_
                      refine ty_get (ci := 11) (C := "LatticeKeysModel$Secrets") (TT := T_ME) (N := 14) (kd := (23, 0)) hx hb hts (wg_ft i_ME) hown hK hO k_h0 (nxg hc0 k_h0 rfl) hP (fun _ h9 => h9) rfl 9 (by decide) (hts _ (wg_t kw_1388)) (fun _ h9 => h9) (cd := (3, 1, 64)) rfl dME_open_375 (fun v36 hv36 => ?_)
                      obtain ⟨r37, rfl, kr36⟩ := (show ∃ r : Nat, v36 = .ref r ∧ T r = some (1, 64) from hv36)
                      refine lv_iload hx hb dME_open_378 (lv_at hl 0 rfl) ?_
                      refine ty_bald hx hb hK hO kr36 (nxg hc0 kr36 rfl) hP (vp_in_nI (by omega) (by decide)) dME_open_380 (fun z22 => ?_)
                      refine ty_bast hx hb hK hO k_to (nxg hc0 k_to rfl) hP hD hS (vp_in_nI (by omega) (by decide)) dME_open_381 (fun pl H locs hO hP hD hS => ?_)
                      refine mi_iinc (k := 0) (x := i25) (d := 1) (y := i25 + 1) (lv' := [(8, .int (nI (i25 + 1))), (7, .int z21), (6, .int (nI 768)), (5, .int (nI 2)), (0, .ref h0), (2, .ref dk), (3, .ref ct), (4, .ref to)]) hx hb dME_open_382 hl rfl (by decide) rfl (by decide) rfl (fun ls hl => ?_)
                      refine lv_goto (tgt := 363) hx hb dME_open_385 (by decide) ?_
                      exact ih25 (i25 + 1) pl ls H locs (by omega) (lv_sub hl [0, 1, 2, 3, 4, 5, 6, 7] rfl) hO hP hD hS
                  exact lp25 32 0 pl ls _ _ (by omega) (lv_sub hl [0, 1, 2, 3, 4, 5, 6, 7] rfl) hO hP hD hS
                | succ n24 ih24 =>
                  intro i24 z21 pl ls H locs hm24  hl hO hP hD hS
                  refine lv_iload hx hb dME_open_323 (lv_at hl 0 rfl) ?_
                  refine lv_iload hx hb dME_open_325 (lv_at hl 2 rfl) ?_
                  refine mi_ge (tgt := 360) hx hb dME_open_327 (by decide) (by omega) (by omega) (fun h28 => absurd h28 (by omega)) (fun h28 => ?_)
                  refine lv_iload hx hb dME_open_330 (lv_at hl 1 rfl) ?_
                  refine lv_aload_n hx hb dME_open_332 rfl (lv_at hl 4 rfl) ?_
                  refine ty_get (ci := 11) (C := "LatticeKeysModel$Secrets") (TT := T_ME) (N := 14) (kd := (23, 0)) hx hb hts (wg_ft i_ME) hown hK hO k_h0 (nxg hc0 k_h0 rfl) hP (fun _ h9 => h9) rfl 13 (by decide) (hts _ (wg_t kw_1392)) (fun _ h9 => h9) (cd := (3, 1, 1568)) rfl dME_open_333 (fun v37 hv37 => ?_)
                  obtain ⟨r38, rfl, kr37⟩ := (show ∃ r : Nat, v37 = .ref r ∧ T r = some (1, 1568) from hv37)
                  refine lv_iload hx hb dME_open_336 (lv_at hl 0 rfl) ?_
                  refine ty_bald hx hb hK hO kr37 (nxg hc0 kr37 rfl) hP (vp_in_nI (by omega) (by decide)) dME_open_338 (fun z23 => ?_)
                  refine lv_aload_n hx hb dME_open_339 rfl (lv_at hl 6 rfl) ?_
                  refine lv_iload hx hb dME_open_340 (lv_at hl 0 rfl) ?_
                  refine ty_bald hx hb hK hO k_ct (nxg hc0 k_ct rfl) hP (vp_in_nI (by omega) (by decide)) dME_open_342 (fun z24 => ?_)
                  refine lv_icmp_ne (tgt := 350) hx hb dME_open_343 (by decide) (fun h29 => ?_) (fun h29 => ?_)
                  · refine lv_iconst (v := nI 0) hx hb dME_open_350 (by decide) ?_
                    refine lv_iand hx hb dME_open_351 ?_
                    refine mi_any (fun z25 => ?_)
                    refine lv_istore (lv' := [(7, .int z25), (8, .int (nI i24)), (6, .int (nI 768)), (5, .int (nI 2)), (0, .ref h0), (2, .ref dk), (3, .ref ct), (4, .ref to)]) hx hb dME_open_352 hl (by decide) rfl (fun ls hl => ?_)
                    refine mi_iinc (k := 1) (x := i24) (d := 1) (y := i24 + 1) (lv' := [(8, .int (nI (i24 + 1))), (7, .int z25), (6, .int (nI 768)), (5, .int (nI 2)), (0, .ref h0), (2, .ref dk), (3, .ref ct), (4, .ref to)]) hx hb dME_open_354 hl rfl (by decide) rfl (by decide) rfl (fun ls hl => ?_)
                    refine lv_goto (tgt := 323) hx hb dME_open_357 (by decide) ?_
                    exact ih24 (i24 + 1) z25 pl ls H locs (by omega) (lv_sub hl [0, 1, 2, 3, 4, 5, 6, 7] rfl) hO hP hD hS
                  · refine lv_iconst (v := nI 1) hx hb dME_open_346 (by decide) ?_
                    refine lv_goto (tgt := 351) hx hb dME_open_347 (by decide) ?_
                    refine mi_iand hx hb 1 dME_open_351 (by decide) (fun z26 hz21 => ?_)
                    have hz21 : z26 < 2 := hz21
                    refine lv_istore (lv' := [(7, .int (nI z26)), (8, .int (nI i24)), (6, .int (nI 768)), (5, .int (nI 2)), (0, .ref h0), (2, .ref dk), (3, .ref ct), (4, .ref to)]) hx hb dME_open_352 hl (by decide) rfl (fun ls hl => ?_)
                    refine mi_iinc (k := 1) (x := i24) (d := 1) (y := i24 + 1) (lv' := [(8, .int (nI (i24 + 1))), (7, .int (nI z26)), (6, .int (nI 768)), (5, .int (nI 2)), (0, .ref h0), (2, .ref dk), (3, .ref ct), (4, .ref to)]) hx hb dME_open_354 hl rfl (by decide) rfl (by decide) rfl (fun ls hl => ?_)
                    refine lv_goto (tgt := 323) hx hb dME_open_357 (by decide) ?_
                    exact ih24 (i24 + 1) (nI z26) pl ls H locs (by omega) (lv_sub hl [0, 1, 2, 3, 4, 5, 6, 7] rfl) hO hP hD hS
              exact lp24 768 0 (nI 1) pl ls _ _ (by omega) (lv_sub hl [0, 1, 2, 3, 4, 6, 7, 8] rfl) hO hP hD hS
            | succ n23 ih23 =>
              intro i23 pl ls H locs hm23  hl hO hP hD hS
              refine lv_iload hx hb dME_open_255 (lv_at hl 0 rfl) ?_
              refine lv_bipush (v := nI 32) hx hb dME_open_257 (by decide) ?_
              refine mi_ge (tgt := 289) hx hb dME_open_259 (by decide) (by omega) (by omega) (fun h30 => absurd h30 (by omega)) (fun h30 => ?_)
              refine lv_aload_n hx hb dME_open_262 rfl (lv_at hl 3 rfl) ?_
              refine ty_get (ci := 11) (C := "LatticeKeysModel$Secrets") (TT := T_ME) (N := 14) (kd := (23, 0)) hx hb hts (wg_ft i_ME) hown hK hO k_h0 (nxg hc0 k_h0 rfl) hP (fun _ h9 => h9) rfl 11 (by decide) (hts _ (wg_t kw_1390)) (fun _ h9 => h9) (cd := (3, 1, 32)) rfl dME_open_263 (fun v38 hv38 => ?_)
              obtain ⟨r39, rfl, kr38⟩ := (show ∃ r : Nat, v38 = .ref r ∧ T r = some (1, 32) from hv38)
              refine lv_iload hx hb dME_open_266 (lv_at hl 0 rfl) ?_
              refine lv_aload_n hx hb dME_open_268 rfl (lv_at hl 5 rfl) ?_
              refine lv_sipush (v := nI 768) hx hb dME_open_269 (by decide) ?_
              refine lv_iload hx hb dME_open_272 (lv_at hl 2 rfl) ?_
              refine mi_imul hx hb dME_open_274 ?_
              refine mi_as (show nI (768 * 2) = nI 1536 from rfl) ?_
              refine lv_bipush (v := nI 32) hx hb dME_open_275 (by decide) ?_
              refine mi_iadd hx hb dME_open_277 ?_
              refine mi_as (show nI (1536 + 32) = nI 1568 from rfl) ?_
              refine lv_iload hx hb dME_open_278 (lv_at hl 0 rfl) ?_
              refine mi_iadd hx hb dME_open_280 ?_
              refine ty_bald hx hb hK hO k_dk (nxg hc0 k_dk rfl) hP (vp_in_nI (by omega) (by decide)) dME_open_281 (fun z27 => ?_)
              refine ty_bast hx hb hK hO kr38 (nxg hc0 kr38 rfl) hP hD hS (vp_in_nI (by omega) (by decide)) dME_open_282 (fun pl H locs hO hP hD hS => ?_)
              refine mi_iinc (k := 0) (x := i23) (d := 1) (y := i23 + 1) (lv' := [(7, .int (nI (i23 + 1))), (6, .int (nI 768)), (5, .int (nI 2)), (0, .ref h0), (1, .int (nI 0)), (2, .ref dk), (3, .ref ct), (4, .ref to)]) hx hb dME_open_283 hl rfl (by decide) rfl (by decide) rfl (fun ls hl => ?_)
              refine lv_goto (tgt := 255) hx hb dME_open_286 (by decide) ?_
              exact ih23 (i23 + 1) pl ls H locs (by omega) (lv_sub hl [0, 1, 2, 3, 4, 5, 6, 7] rfl) hO hP hD hS
          exact lp23 32 0 pl ls _ _ (by omega) (lv_sub hl [0, 1, 2, 3, 4, 5, 6, 7] rfl) hO hP hD hS
        | succ n22 ih22 =>
          intro i22 pl ls H locs hm22  hl hO hP hD hS
          refine lv_iload hx hb dME_open_187 (lv_at hl 0 rfl) ?_
          refine lv_sipush (v := nI 256) hx hb dME_open_189 (by decide) ?_
          refine mi_ge (tgt := 231) hx hb dME_open_192 (by decide) (by omega) (by omega) (fun h31 => absurd h31 (by omega)) (fun h31 => ?_)
          refine lv_aload_n hx hb dME_open_195 rfl (lv_at hl 3 rfl) ?_
          refine ty_get (ci := 11) (C := "LatticeKeysModel$Secrets") (TT := T_ME) (N := 14) (kd := (23, 0)) hx hb hts (wg_ft i_ME) hown hK hO k_h0 (nxg hc0 k_h0 rfl) hP (fun _ h9 => h9) rfl 7 (by decide) (hts _ (wg_t kw_1386)) (fun _ h9 => h9) (cd := (3, 0, 256)) rfl dME_open_196 (fun v39 hv39 => ?_)
          obtain ⟨r40, rfl, kr39⟩ := (show ∃ r : Nat, v39 = .ref r ∧ T r = some (0, 256) from hv39)
          refine lv_iload hx hb dME_open_199 (lv_at hl 0 rfl) ?_
          refine lv_aload_n hx hb dME_open_201 rfl (lv_at hl 3 rfl) ?_
          refine ty_get (ci := 11) (C := "LatticeKeysModel$Secrets") (TT := T_ME) (N := 14) (kd := (23, 0)) hx hb hts (wg_ft i_ME) hown hK hO k_h0 (nxg hc0 k_h0 rfl) hP (fun _ h9 => h9) rfl 7 (by decide) (hts _ (wg_t kw_1386)) (fun _ h9 => h9) (cd := (3, 0, 256)) rfl dME_open_202 (fun v40 hv40 => ?_)
          obtain ⟨r41, rfl, kr40⟩ := (show ∃ r : Nat, v40 = .ref r ∧ T r = some (0, 256) from hv40)
          refine lv_iload hx hb dME_open_205 (lv_at hl 0 rfl) ?_
          refine ty_iald hx hb hK hO kr40 (nxg hc0 kr40 rfl) hP (vp_in_nI (by omega) (by decide)) dME_open_207 (fun z28 => ?_)
          refine lv_aload_n hx hb dME_open_208 rfl (lv_at hl 3 rfl) ?_
          refine ty_get (ci := 11) (C := "LatticeKeysModel$Secrets") (TT := T_ME) (N := 14) (kd := (23, 0)) hx hb hts (wg_ft i_ME) hown hK hO k_h0 (nxg hc0 k_h0 rfl) hP (fun _ h9 => h9) rfl 6 (by decide) (hts _ (wg_t kw_1385)) (fun _ h9 => h9) (cd := (3, 0, 256)) rfl dME_open_209 (fun v41 hv41 => ?_)
          obtain ⟨r42, rfl, kr41⟩ := (show ∃ r : Nat, v41 = .ref r ∧ T r = some (0, 256) from hv41)
          refine lv_iload hx hb dME_open_212 (lv_at hl 0 rfl) ?_
          refine ty_iald hx hb hK hO kr41 (nxg hc0 kr41 rfl) hP (vp_in_nI (by omega) (by decide)) dME_open_214 (fun z29 => ?_)
          refine lv_isub hx hb dME_open_215 ?_
          refine mi_any (fun z30 => ?_)
          refine lv_sipush (v := nI 3329) hx hb dME_open_216 (by decide) ?_
          refine lv_iadd hx hb dME_open_219 ?_
          refine mi_any (fun z31 => ?_)
          refine lv_sipush (v := nI 3329) hx hb dME_open_220 (by decide) ?_
          refine lv_irem hx hb dME_open_223 (nI_ne0 (by omega) (by omega)) ?_
          refine mi_any (fun z32 => ?_)
          refine ty_iast hx hb hK hO kr39 (nxg hc0 kr39 rfl) hP hD hS (vp_in_nI (by omega) (by decide)) dME_open_224 (fun pl H locs hO hP hD hS => ?_)
          refine mi_iinc (k := 0) (x := i22) (d := 1) (y := i22 + 1) (lv' := [(7, .int (nI (i22 + 1))), (6, .int (nI 768)), (5, .int (nI 2)), (0, .ref h0), (1, .int (nI 0)), (2, .ref dk), (3, .ref ct), (4, .ref to)]) hx hb dME_open_225 hl rfl (by decide) rfl (by decide) rfl (fun ls hl => ?_)
          refine lv_goto (tgt := 187) hx hb dME_open_228 (by decide) ?_
          exact ih22 (i22 + 1) pl ls H locs (by omega) (lv_sub hl [0, 1, 2, 3, 4, 5, 6, 7] rfl) hO hP hD hS
      exact lp22 256 0 pl ls _ _ (by omega) (lv_sub hl [0, 1, 2, 3, 4, 5, 6, 7] rfl) hO hP hD hS
    | succ n21 ih21 =>
      intro i21 pl ls H locs hm21  hl hO hP hD hS
      refine lv_iload hx hb dME_open_23 (lv_at hl 0 rfl) ?_
      refine lv_iload hx hb dME_open_25 (lv_at hl 2 rfl) ?_
      refine mi_ge (tgt := 140) hx hb dME_open_27 (by decide) (by omega) (by omega) (fun h32 => absurd h32 (by omega)) (fun h32 => ?_)
      refine lv_aload_n hx hb dME_open_30 rfl (lv_at hl 6 rfl) ?_
      refine lv_bipush (v := nI 32) hx hb dME_open_31 (by decide) ?_
      refine va_gets hx hb (hE.2.1 21 _ rfl).1 hS hown (hts _ (wg_t kw_1830)) (fun _ h9 => h9) dME_open_33 ?_
      refine lv_iload_n hx hb dME_open_36 rfl (lv_at hl 4 rfl) ?_
      refine va_ti (v := .int (nI 10)) hx hb (hE.2.1 21 _ rfl).2 hS (vp_in_nI (by decide) (by decide)) (by decide +kernel) dME_open_37 ?_
      refine mi_imul hx hb dME_open_38 ?_
      refine mi_as (show nI (32 * 10) = nI 320 from rfl) ?_
      refine lv_iload hx hb dME_open_39 (lv_at hl 0 rfl) ?_
      refine mi_imul hx hb dME_open_41 ?_
      refine va_gets hx hb (hE.2.1 21 _ rfl).1 hS hown (hts _ (wg_t kw_1830)) (fun _ h9 => h9) dME_open_42 ?_
      refine lv_iload_n hx hb dME_open_45 rfl (lv_at hl 4 rfl) ?_
      refine va_ti (v := .int (nI 10)) hx hb (hE.2.1 21 _ rfl).2 hS (vp_in_nI (by decide) (by decide)) (by decide +kernel) dME_open_46 ?_
      refine lv_aload_n hx hb dME_open_47 rfl (lv_at hl 3 rfl) ?_
      refine ty_get (ci := 11) (C := "LatticeKeysModel$Secrets") (TT := T_ME) (N := 14) (kd := (23, 0)) hx hb hts (wg_ft i_ME) hown hK hO k_h0 (nxg hc0 k_h0 rfl) hP (fun _ h9 => h9) rfl 3 (by decide) (hts _ (wg_t kw_1382)) (fun _ h9 => h9) (cd := (3, 3, 4)) rfl dME_open_48 (fun v42 hv42 => ?_)
      obtain ⟨r43, rfl, kr42⟩ := (show ∃ r : Nat, v42 = .ref r ∧ T r = some (3, 4) from hv42)
      refine lv_iload hx hb dME_open_51 (lv_at hl 0 rfl) ?_
      refine ty_aald3 hx hb hK hO kr42 (nxg hc0 kr42 rfl) hP (by omega) (by decide) dME_open_53 (fun r44 kr43 => ?_)
      refine mp_v (cx := []) (wr := []) hP hD hS hA [] [] rfl rfl rfl (by decide) (va_runS (As := [.ref ct, .int (nI (320 * i21)), .int (nI 10), .ref r44]) (rest := []) F (t_ME_read_10 l g _ T xs pl hO hU hc0 ct r44 16384 (320 * i21) k_ct kr43 (by omega) (by omega)) (va_cwS 4 hts (wg_app (wg_c kw_1813 (wg_c kw_1814 (wg_c kw_11 wg_n))) kw_1815) rfl rfl rfl (by decide +kernel) ⟨by decide, by decide⟩) (pp_S (en_ok g) hP hD hS hA hE [] rfl rfl) rfl rfl hl.1 rfl (lv_room (Nat.le_of_ble_eq_true rfl)) dME_open_54 ⟨by omega, by omega⟩) (fun  pl H locs hu35 hP hD hS => ?_)
      obtain ⟨hq35, hO⟩ := hu35
      have hP : va_P g.1 vcl ([] ++ pl) _ := hP
      have hD : va_D _ ([] ++ pl) := hD
      refine W.widen (k := 0) (n := 0) (by omega) (by omega) ?_
      refine lv_aload_n hx hb dME_open_57 rfl (lv_at hl 3 rfl) ?_
      refine ty_get (ci := 11) (C := "LatticeKeysModel$Secrets") (TT := T_ME) (N := 14) (kd := (23, 0)) hx hb hts (wg_ft i_ME) hown hK hO k_h0 (nxg hc0 k_h0 rfl) hP (fun _ h9 => h9) rfl 3 (by decide) (hts _ (wg_t kw_1382)) (fun _ h9 => h9) (cd := (3, 3, 4)) rfl dME_open_58 (fun v43 hv43 => ?_)
      obtain ⟨r45, rfl, kr44⟩ := (show ∃ r : Nat, v43 = .ref r ∧ T r = some (3, 4) from hv43)
      refine lv_iload hx hb dME_open_61 (lv_at hl 0 rfl) ?_
      refine ty_aald3 hx hb hK hO kr44 (nxg hc0 kr44 rfl) hP (by omega) (by decide) dME_open_63 (fun r46 kr45 => ?_)
      refine va_gets hx hb (hE.2.1 21 _ rfl).1 hS hown (hts _ (wg_t kw_1830)) (fun _ h9 => h9) dME_open_64 ?_
      refine lv_iload_n hx hb dME_open_67 rfl (lv_at hl 4 rfl) ?_
      refine va_ti (v := .int (nI 10)) hx hb (hE.2.1 21 _ rfl).2 hS (vp_in_nI (by decide) (by decide)) (by decide +kernel) dME_open_68 ?_
      refine mp_v (cx := []) (wr := []) hP hD hS hA [] [] rfl rfl rfl (by decide) (va_runS (As := [.ref r46, .int (nI 10)]) (rest := []) F (t_ME_more_10 l g _ T xs pl hO hU hc0 r46 kr45) (va_cwS 2 hts (wg_app (wg_c kw_1835 (wg_c kw_1836 (wg_c kw_11 wg_n))) kw_1837) rfl rfl rfl (by decide +kernel) ⟨by decide, by decide⟩) (pp_S (en_ok g) hP hD hS hA hE [] rfl rfl) rfl rfl hl.1 rfl (lv_room (Nat.le_of_ble_eq_true rfl)) dME_open_69 ⟨by omega, by omega⟩) (fun  pl H locs hu36 hP hD hS => ?_)
      obtain ⟨hq36, hO⟩ := hu36
      have hP : va_P g.1 vcl ([] ++ pl) _ := hP
      have hD : va_D _ ([] ++ pl) := hD
      refine W.widen (k := 0) (n := 0) (by omega) (by omega) ?_
      refine lv_aload_n hx hb dME_open_72 rfl (lv_at hl 3 rfl) ?_
      refine lv_aload_n hx hb dME_open_73 rfl (lv_at hl 3 rfl) ?_
      refine ty_get (ci := 11) (C := "LatticeKeysModel$Secrets") (TT := T_ME) (N := 14) (kd := (23, 0)) hx hb hts (wg_ft i_ME) hown hK hO k_h0 (nxg hc0 k_h0 rfl) hP (fun _ h9 => h9) rfl 3 (by decide) (hts _ (wg_t kw_1382)) (fun _ h9 => h9) (cd := (3, 3, 4)) rfl dME_open_74 (fun v44 hv44 => ?_)
      obtain ⟨r47, rfl, kr46⟩ := (show ∃ r : Nat, v44 = .ref r ∧ T r = some (3, 4) from hv44)
      refine lv_iload hx hb dME_open_77 (lv_at hl 0 rfl) ?_
      refine ty_aald3 hx hb hK hO kr46 (nxg hc0 kr46 rfl) hP (by omega) (by decide) dME_open_79 (fun r48 kr47 => ?_)
      refine mp_v (cx := []) (wr := []) hP hD hS hA [] [] rfl rfl rfl (by decide) (va_runV (As := [.ref r48]) (rest := []) F (t_ME_forth l g _ T xs pl hO hU hc0 h0 r48 k_h0 kr47) (cwV 1 hts (wg_app (wg_c kw_1668 (wg_c kw_1670 (wg_c ks_57 (wg_c kw_11 wg_n)))) kw_1671) rfl rfl rfl (by decide +kernel) ⟨by decide, by decide⟩) (pp_VT (en_ok g) (ci := 11) (kd := (23, 0)) hK hO k_h0 (nxg hc0 k_h0 rfl) (fun _ h9 => ko1 h9) hP hD hS hA hE [] rfl rfl rfl) rfl rfl hl.1 rfl (lv_room (Nat.le_of_ble_eq_true rfl)) dME_open_80 ⟨by omega, by omega⟩) (fun  pl H locs hu37 hP hD hS => ?_)
      obtain ⟨hq37, hO⟩ := hu37
      have hP : va_P g.1 vcl ([] ++ pl) _ := hP
      have hD : va_D _ ([] ++ pl) := hD
      refine W.widen (k := 0) (n := 0) (by omega) (by omega) ?_
      refine lv_aload_n hx hb dME_open_83 rfl (lv_at hl 5 rfl) ?_
      refine lv_sipush (v := nI 384) hx hb dME_open_84 (by decide) ?_
      refine lv_iload hx hb dME_open_87 (lv_at hl 0 rfl) ?_
      refine mi_imul hx hb dME_open_89 ?_
      refine lv_bipush (v := nI 12) hx hb dME_open_90 (by decide) ?_
      refine lv_aload_n hx hb dME_open_92 rfl (lv_at hl 3 rfl) ?_
      refine ty_get (ci := 11) (C := "LatticeKeysModel$Secrets") (TT := T_ME) (N := 14) (kd := (23, 0)) hx hb hts (wg_ft i_ME) hown hK hO k_h0 (nxg hc0 k_h0 rfl) hP (fun _ h9 => h9) rfl 4 (by decide) (hts _ (wg_t kw_1383)) (fun _ h9 => h9) (cd := (3, 3, 4)) rfl dME_open_93 (fun v45 hv45 => ?_)
      obtain ⟨r49, rfl, kr48⟩ := (show ∃ r : Nat, v45 = .ref r ∧ T r = some (3, 4) from hv45)
      refine lv_iload hx hb dME_open_96 (lv_at hl 0 rfl) ?_
      refine ty_aald3 hx hb hK hO kr48 (nxg hc0 kr48 rfl) hP (by omega) (by decide) dME_open_98 (fun r50 kr49 => ?_)
      refine mp_v (cx := []) (wr := []) hP hD hS hA [] [] rfl rfl rfl (by decide) (va_runS (As := [.ref dk, .int (nI (384 * i21)), .int (nI 12), .ref r50]) (rest := []) F (t_ME_read_12 l g _ T xs pl hO hU hc0 dk r50 4896 (384 * i21) k_dk kr49 (by omega) (by omega)) (va_cwS 4 hts (wg_app (wg_c kw_1813 (wg_c kw_1814 (wg_c kw_11 wg_n))) kw_1815) rfl rfl rfl (by decide +kernel) ⟨by decide, by decide⟩) (pp_S (en_ok g) hP hD hS hA hE [] rfl rfl) rfl rfl hl.1 rfl (lv_room (Nat.le_of_ble_eq_true rfl)) dME_open_99 ⟨by omega, by omega⟩) (fun  pl H locs hu38 hP hD hS => ?_)
      obtain ⟨hq38, hO⟩ := hu38
      have hP : va_P g.1 vcl ([] ++ pl) _ := hP
      have hD : va_D _ ([] ++ pl) := hD
      refine W.widen (k := 0) (n := 0) (by omega) (by omega) ?_
      refine lv_aload_n hx hb dME_open_102 rfl (lv_at hl 3 rfl) ?_
      refine ty_get (ci := 11) (C := "LatticeKeysModel$Secrets") (TT := T_ME) (N := 14) (kd := (23, 0)) hx hb hts (wg_ft i_ME) hown hK hO k_h0 (nxg hc0 k_h0 rfl) hP (fun _ h9 => h9) rfl 4 (by decide) (hts _ (wg_t kw_1383)) (fun _ h9 => h9) (cd := (3, 3, 4)) rfl dME_open_103 (fun v46 hv46 => ?_)
      obtain ⟨r51, rfl, kr50⟩ := (show ∃ r : Nat, v46 = .ref r ∧ T r = some (3, 4) from hv46)
      refine lv_iload hx hb dME_open_106 (lv_at hl 0 rfl) ?_
      refine ty_aald3 hx hb hK hO kr50 (nxg hc0 kr50 rfl) hP (by omega) (by decide) dME_open_108 (fun r52 kr51 => ?_)
      refine mp_v (cx := []) (wr := []) hP hD hS hA [] [] rfl rfl rfl (by decide) (va_runS (As := [.ref r52]) (rest := []) F (t_ME_proper l g _ T xs pl hO hU hc0 r52 kr51) (va_cwS 1 hts (wg_app (wg_c kw_1816 (wg_c kw_1817 (wg_c kw_11 wg_n))) kw_1818) rfl rfl rfl (by decide +kernel) ⟨by decide, by decide⟩) (pp_S (en_ok g) hP hD hS hA hE [] rfl rfl) rfl rfl hl.1 rfl (lv_room (Nat.le_of_ble_eq_true rfl)) dME_open_109 ⟨by omega, by omega⟩) (fun  pl H locs hu39 hP hD hS => ?_)
      obtain ⟨hq39, hO⟩ := hu39
      have hP : va_P g.1 vcl ([] ++ pl) _ := hP
      have hD : va_D _ ([] ++ pl) := hD
      refine W.widen (k := 0) (n := 0) (by omega) (by omega) ?_
      refine lv_aload_n hx hb dME_open_112 rfl (lv_at hl 3 rfl) ?_
      refine lv_aload_n hx hb dME_open_113 rfl (lv_at hl 3 rfl) ?_
      refine ty_get (ci := 11) (C := "LatticeKeysModel$Secrets") (TT := T_ME) (N := 14) (kd := (23, 0)) hx hb hts (wg_ft i_ME) hown hK hO k_h0 (nxg hc0 k_h0 rfl) hP (fun _ h9 => h9) rfl 4 (by decide) (hts _ (wg_t kw_1383)) (fun _ h9 => h9) (cd := (3, 3, 4)) rfl dME_open_114 (fun v47 hv47 => ?_)
      obtain ⟨r53, rfl, kr52⟩ := (show ∃ r : Nat, v47 = .ref r ∧ T r = some (3, 4) from hv47)
      refine lv_iload hx hb dME_open_117 (lv_at hl 0 rfl) ?_
      refine ty_aald3 hx hb hK hO kr52 (nxg hc0 kr52 rfl) hP (by omega) (by decide) dME_open_119 (fun r54 kr53 => ?_)
      refine lv_aload_n hx hb dME_open_120 rfl (lv_at hl 3 rfl) ?_
      refine ty_get (ci := 11) (C := "LatticeKeysModel$Secrets") (TT := T_ME) (N := 14) (kd := (23, 0)) hx hb hts (wg_ft i_ME) hown hK hO k_h0 (nxg hc0 k_h0 rfl) hP (fun _ h9 => h9) rfl 3 (by decide) (hts _ (wg_t kw_1382)) (fun _ h9 => h9) (cd := (3, 3, 4)) rfl dME_open_121 (fun v48 hv48 => ?_)
      obtain ⟨r55, rfl, kr54⟩ := (show ∃ r : Nat, v48 = .ref r ∧ T r = some (3, 4) from hv48)
      refine lv_iload hx hb dME_open_124 (lv_at hl 0 rfl) ?_
      refine ty_aald3 hx hb hK hO kr54 (nxg hc0 kr54 rfl) hP (by omega) (by decide) dME_open_126 (fun r56 kr55 => ?_)
      refine lv_aload_n hx hb dME_open_127 rfl (lv_at hl 3 rfl) ?_
      refine ty_get (ci := 11) (C := "LatticeKeysModel$Secrets") (TT := T_ME) (N := 14) (kd := (23, 0)) hx hb hts (wg_ft i_ME) hown hK hO k_h0 (nxg hc0 k_h0 rfl) hP (fun _ h9 => h9) rfl 6 (by decide) (hts _ (wg_t kw_1385)) (fun _ h9 => h9) (cd := (3, 0, 256)) rfl dME_open_128 (fun v49 hv49 => ?_)
      obtain ⟨r57, rfl, kr56⟩ := (show ∃ r : Nat, v49 = .ref r ∧ T r = some (0, 256) from hv49)
      refine mp_v (cx := []) (wr := []) hP hD hS hA [] [] rfl rfl rfl (by decide) (va_runV (As := [.ref r54, .ref r56, .ref r57]) (rest := []) F (t_ME_product l g _ T xs pl hO hU hc0 h0 r54 r56 r57 k_h0 kr53 kr55 kr56) (cwV 3 hts (wg_app (wg_c kw_1676 (wg_c kw_1678 (wg_c ks_58 (wg_c kw_11 wg_n)))) kw_1679) rfl rfl rfl (by decide +kernel) ⟨by decide, by decide⟩) (pp_VT (en_ok g) (ci := 11) (kd := (23, 0)) hK hO k_h0 (nxg hc0 k_h0 rfl) (fun _ h9 => ko1 h9) hP hD hS hA hE [] rfl rfl rfl) rfl rfl hl.1 rfl (lv_room (Nat.le_of_ble_eq_true rfl)) dME_open_131 ⟨by omega, by omega⟩) (fun  pl H locs hu40 hP hD hS => ?_)
      obtain ⟨hq40, hO⟩ := hu40
      have hP : va_P g.1 vcl ([] ++ pl) _ := hP
      have hD : va_D _ ([] ++ pl) := hD
      refine W.widen (k := 0) (n := 0) (by omega) (by omega) ?_
      refine mi_iinc (k := 0) (x := i21) (d := 1) (y := i21 + 1) (lv' := [(7, .int (nI (i21 + 1))), (6, .int (nI 768)), (5, .int (nI 2)), (0, .ref h0), (1, .int (nI 0)), (2, .ref dk), (3, .ref ct), (4, .ref to)]) hx hb dME_open_134 hl rfl (by decide) rfl (by decide) rfl (fun ls hl => ?_)
      refine lv_goto (tgt := 23) hx hb dME_open_137 (by decide) ?_
      exact ih21 (i21 + 1) pl ls H locs (by omega) (lv_sub hl [0, 1, 2, 3, 4, 5, 6, 7] rfl) hO hP hD hS
  exact lp21 2 0 pl ls _ _ (by omega) (lv_sub hl [0, 1, 2, 3, 4, 5, 6, 7] rfl) hO hP hD hS
set_option maxHeartbeats 400000 in
set_option maxRecDepth 100000 in
theorem t_ME_open_1 (l : Launch) (g : Gd) (sz : Nat) (T : Ty) (xs : List Nat) (pl : va_W) (hO : okx g T xs pl) (hU : uni T) (hc0 : clo T xs 0) (hc9 : clo T xs 9) (h0 dk ct to : Nat) (k_h0 : T h0 = some (23, 0)) (k_dk : T dk = some (1, 4896)) (k_ct : T ct = some (1, 16384)) (k_to : T to = some (1, 8192))  : Met l y_ME_open w_ME_open ({ frames := 6, cells := 0, slots := 0, locals := 154 } : Room) (va_Pc [.ref h0, .int (nI 1), .ref dk, .ref ct, .ref to] (pr (en g) g.1 vcl sz ([] ++ pl))) (va_Qv (fun (u : va_W) => (True) ∧ okx g T xs u) (po g.1 vcl (va_A ([] ++ pl) sz) (fun (u : va_W) => [] ++ u)) (va_A ([] ++ pl) sz)) 0 0 (va_A ([] ++ pl) sz) := by
  refine mc_entry (cc := c_ME_open) (maxL := 9) (ret := none) (by decide) rfl (Nat.le_of_ble_eq_true rfl) ?_
  intro p e s m args below meth c ls F hr hlk hnm hsz hP hD hE hA hl
  obtain ⟨hx, hb, hml, hown, hts⟩ := id F
  have hK := hE.1
  generalize va_A ([] ++ pl) sz = A at hD hE hA ⊢
  have hS : va_S A s.heap s.heap [] := va_S.rf
  have hl : lv_has ls 9 [(0, .ref h0), (1, .int (nI 1)), (2, .ref dk), (3, .ref ct), (4, .ref to)] := hl
  refine va_gets hx hb (hE.2.1 19 _ rfl).1 hS hown (hts _ (wg_t kw_1605)) (fun _ h9 => h9) dME_open_0 ?_
  refine lv_iload_n hx hb dME_open_3 rfl (lv_at hl 1 rfl) ?_
  refine va_ti (v := .int (nI 3)) hx hb (hE.2.1 19 _ rfl).2 hS (vp_in_nI (by decide) (by decide)) (by decide +kernel) dME_open_4 ?_
  refine lv_istore (lv' := [(5, .int (nI 3)), (0, .ref h0), (1, .int (nI 1)), (2, .ref dk), (3, .ref ct), (4, .ref to)]) hx hb dME_open_5 hl (by decide) rfl (fun ls hl => ?_)
  refine lv_iload_n hx hb dME_open_7 rfl (lv_at hl 2 rfl) ?_
  refine mp_i (cx := []) (wr := []) hP hD hS hA [] [] rfl rfl rfl (by decide) (va_runS (As := [.int (nI 1)]) (rest := []) F (t_ME_sealedSize_1 l g _ T xs pl hO hU  ) (va_cwS 1 hts (wg_app (wg_c kw_1840 (wg_c kw_1841 (wg_c kw_11 wg_n))) kw_1842) rfl rfl rfl (by decide +kernel) ⟨by decide, by decide⟩) (pp_S (en_ok g) hP hD hS hA hE [] rfl rfl) rfl rfl hl.1 rfl (lv_room (Nat.le_of_ble_eq_true rfl)) dME_open_8 ⟨by omega, by omega⟩) (fun r21 pl H locs hu21 hP hD hS => ?_)
  obtain ⟨hq21, hO⟩ := hu21
  have hP : va_P g.1 vcl ([] ++ pl) _ := hP
  have hD : va_D _ ([] ++ pl) := hD
  obtain rfl := hq21
  refine W.widen (k := 0) (n := 0) (by omega) (by omega) ?_
  refine lv_istore (lv' := [(6, .int (nI 1088)), (5, .int (nI 3)), (0, .ref h0), (1, .int (nI 1)), (2, .ref dk), (3, .ref ct), (4, .ref to)]) hx hb dME_open_11 hl (by decide) rfl (fun ls hl => ?_)
  refine lv_aload_n hx hb dME_open_13 rfl (lv_at hl 2 rfl) ?_
  refine ty_get (ci := 11) (C := "LatticeKeysModel$Secrets") (TT := T_ME) (N := 14) (kd := (23, 0)) hx hb hts (wg_ft i_ME) hown hK hO k_h0 (nxg hc0 k_h0 rfl) hP (fun _ h9 => h9) rfl 6 (by decide) (hts _ (wg_t kw_1385)) (fun _ h9 => h9) (cd := (3, 0, 256)) rfl dME_open_14 (fun v21 hv21 => ?_)
  obtain ⟨r22, rfl, kr21⟩ := (show ∃ r : Nat, v21 = .ref r ∧ T r = some (0, 256) from hv21)
  refine mp_v (cx := []) (wr := []) hP hD hS hA [] [] rfl rfl rfl (by decide) (va_runS (As := [.ref r22]) (rest := []) F (t_ME_clear l g _ T xs pl hO hU hc0 r22 kr21) (va_cwS 1 hts (wg_app (wg_c kw_1819 (wg_c kw_1820 (wg_c kw_11 wg_n))) kw_1821) rfl rfl rfl (by decide +kernel) ⟨by decide, by decide⟩) (pp_S (en_ok g) hP hD hS hA hE [] rfl rfl) rfl rfl hl.1 rfl (lv_room (Nat.le_of_ble_eq_true rfl)) dME_open_17 ⟨by omega, by omega⟩) (fun  pl H locs hu22 hP hD hS => ?_)
  obtain ⟨hq22, hO⟩ := hu22
  have hP : va_P g.1 vcl ([] ++ pl) _ := hP
  have hD : va_D _ ([] ++ pl) := hD
  refine W.widen (k := 0) (n := 0) (by omega) (by omega) ?_
  refine lv_iconst (v := nI 0) hx hb dME_open_20 (by decide) ?_
  refine lv_istore (lv' := [(7, .int (nI 0)), (6, .int (nI 1088)), (5, .int (nI 3)), (0, .ref h0), (1, .int (nI 1)), (2, .ref dk), (3, .ref ct), (4, .ref to)]) hx hb dME_open_21 hl (by decide) rfl (fun ls hl => ?_)
  have lp21 : ∀ (n21 : Nat) (i21 : Nat) (pl : va_W) (ls : Array Slot) (H : Heap) (locs : List Loc), n21 + i21 = 3 → lv_has ls 9 [(7, .int (nI i21)), (6, .int (nI 1088)), (5, .int (nI 3)), (0, .ref h0), (1, .int (nI 1)), (2, .ref dk), (3, .ref ct), (4, .ref to)] → okx g T xs pl → va_P g.1 vcl ([] ++ pl) H → va_D A ([] ++ pl) → va_S A s.heap H locs → W p l e ({ frames := 6, cells := 0, slots := 0, locals := 154 } : Room) s m args below meth c H locs 0 0 (MQ below (va_Qv (fun (u : va_W) => (True) ∧ okx g T xs u) (po g.1 vcl A (fun (u : va_W) => [] ++ u)) A) args s 0 0 A) (F0 m 23 ls []) := by
    intro n21
    induction n21 with
    | zero =>
      intro i21 pl ls H locs hm21  hl hO hP hD hS
      refine lv_iload hx hb dME_open_23 (lv_at hl 0 rfl) ?_
      refine lv_iload hx hb dME_open_25 (lv_at hl 2 rfl) ?_
      refine mi_ge (tgt := 140) hx hb dME_open_27 (by decide) (by omega) (by omega) (fun h21 => ?_) (fun h21 => absurd h21 (by omega))
      refine lv_aload_n hx hb dME_open_140 rfl (lv_at hl 3 rfl) ?_
      refine lv_aload_n hx hb dME_open_141 rfl (lv_at hl 3 rfl) ?_
      refine ty_get (ci := 11) (C := "LatticeKeysModel$Secrets") (TT := T_ME) (N := 14) (kd := (23, 0)) hx hb hts (wg_ft i_ME) hown hK hO k_h0 (nxg hc0 k_h0 rfl) hP (fun _ h9 => h9) rfl 6 (by decide) (hts _ (wg_t kw_1385)) (fun _ h9 => h9) (cd := (3, 0, 256)) rfl dME_open_142 (fun v22 hv22 => ?_)
      obtain ⟨r23, rfl, kr22⟩ := (show ∃ r : Nat, v22 = .ref r ∧ T r = some (0, 256) from hv22)
      refine mp_v (cx := []) (wr := []) hP hD hS hA [] [] rfl rfl rfl (by decide) (va_runV (As := [.ref r23]) (rest := []) F (t_ME_back l g _ T xs pl hO hU hc0 h0 r23 k_h0 kr22) (cwV 1 hts (wg_app (wg_c kw_1822 (wg_c kw_1824 (wg_c ks_69 (wg_c kw_11 wg_n)))) kw_1825) rfl rfl rfl (by decide +kernel) ⟨by decide, by decide⟩) (pp_VT (en_ok g) (ci := 11) (kd := (23, 0)) hK hO k_h0 (nxg hc0 k_h0 rfl) (fun _ h9 => ko1 h9) hP hD hS hA hE [] rfl rfl rfl) rfl rfl hl.1 rfl (lv_room (Nat.le_of_ble_eq_true rfl)) dME_open_145 ⟨by omega, by omega⟩) (fun  pl H locs hu23 hP hD hS => ?_)
      obtain ⟨hq23, hO⟩ := hu23
      have hP : va_P g.1 vcl ([] ++ pl) _ := hP
      have hD : va_D _ ([] ++ pl) := hD
      refine W.widen (k := 0) (n := 0) (by omega) (by omega) ?_
      refine lv_aload_n hx hb dME_open_148 rfl (lv_at hl 6 rfl) ?_
      refine lv_bipush (v := nI 32) hx hb dME_open_149 (by decide) ?_
      refine va_gets hx hb (hE.2.1 21 _ rfl).1 hS hown (hts _ (wg_t kw_1830)) (fun _ h9 => h9) dME_open_151 ?_
      refine lv_iload_n hx hb dME_open_154 rfl (lv_at hl 4 rfl) ?_
      refine va_ti (v := .int (nI 10)) hx hb (hE.2.1 21 _ rfl).2 hS (vp_in_nI (by decide) (by decide)) (by decide +kernel) dME_open_155 ?_
      refine mi_imul hx hb dME_open_156 ?_
      refine mi_as (show nI (32 * 10) = nI 320 from rfl) ?_
      refine lv_iload hx hb dME_open_157 (lv_at hl 2 rfl) ?_
      refine mi_imul hx hb dME_open_159 ?_
      refine mi_as (show nI (320 * 3) = nI 960 from rfl) ?_
      refine va_gets hx hb (hE.2.1 22 _ rfl).1 hS hown (hts _ (wg_t kw_1838)) (fun _ h9 => h9) dME_open_160 ?_
      refine lv_iload_n hx hb dME_open_163 rfl (lv_at hl 4 rfl) ?_
      refine va_ti (v := .int (nI 4)) hx hb (hE.2.1 22 _ rfl).2 hS (vp_in_nI (by decide) (by decide)) (by decide +kernel) dME_open_164 ?_
      refine lv_aload_n hx hb dME_open_165 rfl (lv_at hl 3 rfl) ?_
      refine ty_get (ci := 11) (C := "LatticeKeysModel$Secrets") (TT := T_ME) (N := 14) (kd := (23, 0)) hx hb hts (wg_ft i_ME) hown hK hO k_h0 (nxg hc0 k_h0 rfl) hP (fun _ h9 => h9) rfl 7 (by decide) (hts _ (wg_t kw_1386)) (fun _ h9 => h9) (cd := (3, 0, 256)) rfl dME_open_166 (fun v23 hv23 => ?_)
      obtain ⟨r24, rfl, kr23⟩ := (show ∃ r : Nat, v23 = .ref r ∧ T r = some (0, 256) from hv23)
      refine mp_v (cx := []) (wr := []) hP hD hS hA [] [] rfl rfl rfl (by decide) (va_runS (As := [.ref ct, .int (nI 960), .int (nI 4), .ref r24]) (rest := []) F (t_ME_read_4 l g _ T xs pl hO hU hc0 ct r24 16384 960 k_ct kr23 (by omega) (by omega)) (va_cwS 4 hts (wg_app (wg_c kw_1813 (wg_c kw_1814 (wg_c kw_11 wg_n))) kw_1815) rfl rfl rfl (by decide +kernel) ⟨by decide, by decide⟩) (pp_S (en_ok g) hP hD hS hA hE [] rfl rfl) rfl rfl hl.1 rfl (lv_room (Nat.le_of_ble_eq_true rfl)) dME_open_169 ⟨by omega, by omega⟩) (fun  pl H locs hu24 hP hD hS => ?_)
      obtain ⟨hq24, hO⟩ := hu24
      have hP : va_P g.1 vcl ([] ++ pl) _ := hP
      have hD : va_D _ ([] ++ pl) := hD
      refine W.widen (k := 0) (n := 0) (by omega) (by omega) ?_
      refine lv_aload_n hx hb dME_open_172 rfl (lv_at hl 3 rfl) ?_
      refine ty_get (ci := 11) (C := "LatticeKeysModel$Secrets") (TT := T_ME) (N := 14) (kd := (23, 0)) hx hb hts (wg_ft i_ME) hown hK hO k_h0 (nxg hc0 k_h0 rfl) hP (fun _ h9 => h9) rfl 7 (by decide) (hts _ (wg_t kw_1386)) (fun _ h9 => h9) (cd := (3, 0, 256)) rfl dME_open_173 (fun v24 hv24 => ?_)
      obtain ⟨r25, rfl, kr24⟩ := (show ∃ r : Nat, v24 = .ref r ∧ T r = some (0, 256) from hv24)
      refine va_gets hx hb (hE.2.1 22 _ rfl).1 hS hown (hts _ (wg_t kw_1838)) (fun _ h9 => h9) dME_open_176 ?_
      refine lv_iload_n hx hb dME_open_179 rfl (lv_at hl 4 rfl) ?_
      refine va_ti (v := .int (nI 4)) hx hb (hE.2.1 22 _ rfl).2 hS (vp_in_nI (by decide) (by decide)) (by decide +kernel) dME_open_180 ?_
      refine mp_v (cx := []) (wr := []) hP hD hS hA [] [] rfl rfl rfl (by decide) (va_runS (As := [.ref r25, .int (nI 4)]) (rest := []) F (t_ME_more_4 l g _ T xs pl hO hU hc0 r25 kr24) (va_cwS 2 hts (wg_app (wg_c kw_1835 (wg_c kw_1836 (wg_c kw_11 wg_n))) kw_1837) rfl rfl rfl (by decide +kernel) ⟨by decide, by decide⟩) (pp_S (en_ok g) hP hD hS hA hE [] rfl rfl) rfl rfl hl.1 rfl (lv_room (Nat.le_of_ble_eq_true rfl)) dME_open_181 ⟨by omega, by omega⟩) (fun  pl H locs hu25 hP hD hS => ?_)
      obtain ⟨hq25, hO⟩ := hu25
      have hP : va_P g.1 vcl ([] ++ pl) _ := hP
      have hD : va_D _ ([] ++ pl) := hD
      refine W.widen (k := 0) (n := 0) (by omega) (by omega) ?_
      refine lv_iconst (v := nI 0) hx hb dME_open_184 (by decide) ?_
      refine lv_istore (lv' := [(7, .int (nI 0)), (6, .int (nI 1088)), (5, .int (nI 3)), (0, .ref h0), (1, .int (nI 1)), (2, .ref dk), (3, .ref ct), (4, .ref to)]) hx hb dME_open_185 hl (by decide) rfl (fun ls hl => ?_)
      have lp22 : ∀ (n22 : Nat) (i22 : Nat) (pl : va_W) (ls : Array Slot) (H : Heap) (locs : List Loc), n22 + i22 = 256 → lv_has ls 9 [(7, .int (nI i22)), (6, .int (nI 1088)), (5, .int (nI 3)), (0, .ref h0), (1, .int (nI 1)), (2, .ref dk), (3, .ref ct), (4, .ref to)] → okx g T xs pl → va_P g.1 vcl ([] ++ pl) H → va_D A ([] ++ pl) → va_S A s.heap H locs → W p l e ({ frames := 6, cells := 0, slots := 0, locals := 154 } : Room) s m args below meth c H locs 0 0 (MQ below (va_Qv (fun (u : va_W) => (True) ∧ okx g T xs u) (po g.1 vcl A (fun (u : va_W) => [] ++ u)) A) args s 0 0 A) (F0 m 187 ls []) := by
        intro n22
        induction n22 with
        | zero =>
          intro i22 pl ls H locs hm22  hl hO hP hD hS
          refine lv_iload hx hb dME_open_187 (lv_at hl 0 rfl) ?_
          refine lv_sipush (v := nI 256) hx hb dME_open_189 (by decide) ?_
          refine mi_ge (tgt := 231) hx hb dME_open_192 (by decide) (by omega) (by omega) (fun h22 => ?_) (fun h22 => absurd h22 (by omega))
          refine lv_aload_n hx hb dME_open_231 rfl (lv_at hl 3 rfl) ?_
          refine ty_get (ci := 11) (C := "LatticeKeysModel$Secrets") (TT := T_ME) (N := 14) (kd := (23, 0)) hx hb hts (wg_ft i_ME) hown hK hO k_h0 (nxg hc0 k_h0 rfl) hP (fun _ h9 => h9) rfl 7 (by decide) (hts _ (wg_t kw_1386)) (fun _ h9 => h9) (cd := (3, 0, 256)) rfl dME_open_232 (fun v25 hv25 => ?_)
          obtain ⟨r26, rfl, kr25⟩ := (show ∃ r : Nat, v25 = .ref r ∧ T r = some (0, 256) from hv25)
          refine lv_iconst (v := nI 1) hx hb dME_open_235 (by decide) ?_
          refine mp_v (cx := []) (wr := []) hP hD hS hA [] [] rfl rfl rfl (by decide) (va_runS (As := [.ref r26, .int (nI 1)]) (rest := []) F (t_ME_less_1 l g _ T xs pl hO hU hc0 r26 kr25) (va_cwS 2 hts (wg_app (wg_c kw_1832 (wg_c kw_1833 (wg_c kw_11 wg_n))) kw_1834) rfl rfl rfl (by decide +kernel) ⟨by decide, by decide⟩) (pp_S (en_ok g) hP hD hS hA hE [] rfl rfl) rfl rfl hl.1 rfl (lv_room (Nat.le_of_ble_eq_true rfl)) dME_open_236 ⟨by omega, by omega⟩) (fun  pl H locs hu26 hP hD hS => ?_)
          obtain ⟨hq26, hO⟩ := hu26
          have hP : va_P g.1 vcl ([] ++ pl) _ := hP
          have hD : va_D _ ([] ++ pl) := hD
          refine W.widen (k := 0) (n := 0) (by omega) (by omega) ?_
          refine lv_aload_n hx hb dME_open_239 rfl (lv_at hl 3 rfl) ?_
          refine ty_get (ci := 11) (C := "LatticeKeysModel$Secrets") (TT := T_ME) (N := 14) (kd := (23, 0)) hx hb hts (wg_ft i_ME) hown hK hO k_h0 (nxg hc0 k_h0 rfl) hP (fun _ h9 => h9) rfl 7 (by decide) (hts _ (wg_t kw_1386)) (fun _ h9 => h9) (cd := (3, 0, 256)) rfl dME_open_240 (fun v26 hv26 => ?_)
          obtain ⟨r27, rfl, kr26⟩ := (show ∃ r : Nat, v26 = .ref r ∧ T r = some (0, 256) from hv26)
          refine lv_aload_n hx hb dME_open_243 rfl (lv_at hl 3 rfl) ?_
          refine ty_get (ci := 11) (C := "LatticeKeysModel$Secrets") (TT := T_ME) (N := 14) (kd := (23, 0)) hx hb hts (wg_ft i_ME) hown hK hO k_h0 (nxg hc0 k_h0 rfl) hP (fun _ h9 => h9) rfl 12 (by decide) (hts _ (wg_t kw_1391)) (fun _ h9 => h9) (cd := (3, 1, 32)) rfl dME_open_244 (fun v27 hv27 => ?_)
          obtain ⟨r28, rfl, kr27⟩ := (show ∃ r : Nat, v27 = .ref r ∧ T r = some (1, 32) from hv27)
          refine lv_iconst (v := nI 0) hx hb dME_open_247 (by decide) ?_
          refine lv_iconst (v := nI 1) hx hb dME_open_248 (by decide) ?_
          refine mp_v (cx := []) (wr := []) hP hD hS hA [] [] rfl rfl rfl (by decide) (va_runS (As := [.ref r27, .ref r28, .int (nI 0), .int (nI 1)]) (rest := []) F (t_ME_write_1 l g _ T xs pl hO hU hc0 r27 r28 32 0 kr26 kr27 (by omega) (by omega)) (va_cwS 4 hts (wg_app (wg_c kw_1685 (wg_c kw_1686 (wg_c kw_11 wg_n))) kw_1687) rfl rfl rfl (by decide +kernel) ⟨by decide, by decide⟩) (pp_S (en_ok g) hP hD hS hA hE [] rfl rfl) rfl rfl hl.1 rfl (lv_room (Nat.le_of_ble_eq_true rfl)) dME_open_249 ⟨by omega, by omega⟩) (fun  pl H locs hu27 hP hD hS => ?_)
          obtain ⟨hq27, hO⟩ := hu27
          have hP : va_P g.1 vcl ([] ++ pl) _ := hP
          have hD : va_D _ ([] ++ pl) := hD
          refine W.widen (k := 0) (n := 0) (by omega) (by omega) ?_
          refine lv_iconst (v := nI 0) hx hb dME_open_252 (by decide) ?_
          refine lv_istore (lv' := [(7, .int (nI 0)), (6, .int (nI 1088)), (5, .int (nI 3)), (0, .ref h0), (1, .int (nI 1)), (2, .ref dk), (3, .ref ct), (4, .ref to)]) hx hb dME_open_253 hl (by decide) rfl (fun ls hl => ?_)
          have lp23 : ∀ (n23 : Nat) (i23 : Nat) (pl : va_W) (ls : Array Slot) (H : Heap) (locs : List Loc), n23 + i23 = 32 → lv_has ls 9 [(7, .int (nI i23)), (6, .int (nI 1088)), (5, .int (nI 3)), (0, .ref h0), (1, .int (nI 1)), (2, .ref dk), (3, .ref ct), (4, .ref to)] → okx g T xs pl → va_P g.1 vcl ([] ++ pl) H → va_D A ([] ++ pl) → va_S A s.heap H locs → W p l e ({ frames := 6, cells := 0, slots := 0, locals := 154 } : Room) s m args below meth c H locs 0 0 (MQ below (va_Qv (fun (u : va_W) => (True) ∧ okx g T xs u) (po g.1 vcl A (fun (u : va_W) => [] ++ u)) A) args s 0 0 A) (F0 m 255 ls []) := by
            intro n23
            induction n23 with
            | zero =>
              intro i23 pl ls H locs hm23  hl hO hP hD hS
              refine lv_iload hx hb dME_open_255 (lv_at hl 0 rfl) ?_
              refine lv_bipush (v := nI 32) hx hb dME_open_257 (by decide) ?_
              refine mi_ge (tgt := 289) hx hb dME_open_259 (by decide) (by omega) (by omega) (fun h23 => ?_) (fun h23 => absurd h23 (by omega))
              refine lv_aload_n hx hb dME_open_289 rfl (lv_at hl 3 rfl) ?_
              refine lv_aload_n hx hb dME_open_290 rfl (lv_at hl 3 rfl) ?_
              refine ty_get (ci := 11) (C := "LatticeKeysModel$Secrets") (TT := T_ME) (N := 14) (kd := (23, 0)) hx hb hts (wg_ft i_ME) hown hK hO k_h0 (nxg hc0 k_h0 rfl) hP (fun _ h9 => h9) rfl 12 (by decide) (hts _ (wg_t kw_1391)) (fun _ h9 => h9) (cd := (3, 1, 32)) rfl dME_open_291 (fun v28 hv28 => ?_)
              obtain ⟨r29, rfl, kr28⟩ := (show ∃ r : Nat, v28 = .ref r ∧ T r = some (1, 32) from hv28)
              refine mp_v (cx := []) (wr := []) hP hD hS hA [] [] rfl rfl rfl (by decide) (va_runV (As := [.ref r29]) (rest := []) F (t_ME_both l g _ T xs pl hO hU hc0 hc9 h0 r29 32 k_h0 kr28 (by omega) (by omega)) (cwV 1 hts (wg_app (wg_c kw_1805 (wg_c kw_1807 (wg_c ks_67 (wg_c kw_11 wg_n)))) kw_1808) rfl rfl rfl (by decide +kernel) ⟨by decide, by decide⟩) (pp_VT (en_ok g) (ci := 11) (kd := (23, 0)) hK hO k_h0 (nxg hc0 k_h0 rfl) (fun _ h9 => ko1 h9) hP hD hS hA hE [] rfl rfl rfl) rfl rfl hl.1 rfl (lv_room (Nat.le_of_ble_eq_true rfl)) dME_open_294 ⟨by omega, by omega⟩) (fun  pl H locs hu28 hP hD hS => ?_)
              obtain ⟨hq28, hO⟩ := hu28
              have hP : va_P g.1 vcl ([] ++ pl) _ := hP
              have hD : va_D _ ([] ++ pl) := hD
              refine W.widen (k := 0) (n := 0) (by omega) (by omega) ?_
              refine lv_aload_n hx hb dME_open_297 rfl (lv_at hl 3 rfl) ?_
              refine lv_iload_n hx hb dME_open_298 rfl (lv_at hl 4 rfl) ?_
              refine lv_aload_n hx hb dME_open_299 rfl (lv_at hl 5 rfl) ?_
              refine lv_sipush (v := nI 384) hx hb dME_open_300 (by decide) ?_
              refine lv_iload hx hb dME_open_303 (lv_at hl 2 rfl) ?_
              refine mi_imul hx hb dME_open_305 ?_
              refine mi_as (show nI (384 * 3) = nI 1152 from rfl) ?_
              refine lv_aload_n hx hb dME_open_306 rfl (lv_at hl 3 rfl) ?_
              refine ty_get (ci := 11) (C := "LatticeKeysModel$Secrets") (TT := T_ME) (N := 14) (kd := (23, 0)) hx hb hts (wg_ft i_ME) hown hK hO k_h0 (nxg hc0 k_h0 rfl) hP (fun _ h9 => h9) rfl 12 (by decide) (hts _ (wg_t kw_1391)) (fun _ h9 => h9) (cd := (3, 1, 32)) rfl dME_open_307 (fun v29 hv29 => ?_)
              obtain ⟨r30, rfl, kr29⟩ := (show ∃ r : Nat, v29 = .ref r ∧ T r = some (1, 32) from hv29)
              refine lv_aload_n hx hb dME_open_310 rfl (lv_at hl 3 rfl) ?_
              refine ty_get (ci := 11) (C := "LatticeKeysModel$Secrets") (TT := T_ME) (N := 14) (kd := (23, 0)) hx hb hts (wg_ft i_ME) hown hK hO k_h0 (nxg hc0 k_h0 rfl) hP (fun _ h9 => h9) rfl 13 (by decide) (hts _ (wg_t kw_1392)) (fun _ h9 => h9) (cd := (3, 1, 1568)) rfl dME_open_311 (fun v30 hv30 => ?_)
              obtain ⟨r31, rfl, kr30⟩ := (show ∃ r : Nat, v30 = .ref r ∧ T r = some (1, 1568) from hv30)
              refine mp_v (cx := []) (wr := []) hP hD hS hA [] [] rfl rfl rfl (by decide) (va_runV (As := [.int (nI 1), .ref dk, .int (nI 1152), .ref r30, .ref r31]) (rest := []) F (t_ME_encrypt_1 l g _ T xs pl hO hU hc0 hc9 h0 dk r30 r31 4896 32 1568 1152 k_h0 k_dk kr29 kr30 (by omega) (by omega) (by omega) (by omega) (by omega) (by omega)) (cwV 5 hts (wg_app (wg_c kw_1809 (wg_c kw_1811 (wg_c ks_68 (wg_c kw_11 wg_n)))) kw_1812) rfl rfl rfl (by decide +kernel) ⟨by decide, by decide⟩) (pp_VT (en_ok g) (ci := 11) (kd := (23, 0)) hK hO k_h0 (nxg hc0 k_h0 rfl) (fun _ h9 => ko1 h9) hP hD hS hA hE [] rfl rfl rfl) rfl rfl hl.1 rfl (lv_room (Nat.le_of_ble_eq_true rfl)) dME_open_314 ⟨by omega, by omega⟩) (fun  pl H locs hu29 hP hD hS => ?_)
              obtain ⟨hq29, hO⟩ := hu29
              have hP : va_P g.1 vcl ([] ++ pl) _ := hP
              have hD : va_D _ ([] ++ pl) := hD
              refine W.widen (k := 0) (n := 0) (by omega) (by omega) ?_
              refine lv_iconst (v := nI 1) hx hb dME_open_317 (by decide) ?_
              refine lv_istore (lv' := [(7, .int (nI 1)), (6, .int (nI 1088)), (5, .int (nI 3)), (0, .ref h0), (1, .int (nI 1)), (2, .ref dk), (3, .ref ct), (4, .ref to)]) hx hb dME_open_318 hl (by decide) rfl (fun ls hl => ?_)
              refine lv_iconst (v := nI 0) hx hb dME_open_320 (by decide) ?_
              refine lv_istore (lv' := [(8, .int (nI 0)), (7, .int (nI 1)), (6, .int (nI 1088)), (5, .int (nI 3)), (0, .ref h0), (1, .int (nI 1)), (2, .ref dk), (3, .ref ct), (4, .ref to)]) hx hb dME_open_321 hl (by decide) rfl (fun ls hl => ?_)
              have lp24 : ∀ (n24 : Nat) (i24 : Nat) (z21 : Int32) (pl : va_W) (ls : Array Slot) (H : Heap) (locs : List Loc), n24 + i24 = 1088 → lv_has ls 9 [(8, .int (nI i24)), (7, .int z21), (6, .int (nI 1088)), (5, .int (nI 3)), (0, .ref h0), (2, .ref dk), (3, .ref ct), (4, .ref to)] → okx g T xs pl → va_P g.1 vcl ([] ++ pl) H → va_D A ([] ++ pl) → va_S A s.heap H locs → W p l e ({ frames := 6, cells := 0, slots := 0, locals := 154 } : Room) s m args below meth c H locs 0 0 (MQ below (va_Qv (fun (u : va_W) => (True) ∧ okx g T xs u) (po g.1 vcl A (fun (u : va_W) => [] ++ u)) A) args s 0 0 A) (F0 m 323 ls []) := by
                intro n24
                induction n24 with
                | zero =>
                  intro i24 z21 pl ls H locs hm24  hl hO hP hD hS
                  refine lv_iload hx hb dME_open_323 (lv_at hl 0 rfl) ?_
                  refine lv_iload hx hb dME_open_325 (lv_at hl 2 rfl) ?_
                  refine mi_ge (tgt := 360) hx hb dME_open_327 (by decide) (by omega) (by omega) (fun h24 => ?_) (fun h24 => absurd h24 (by omega))
                  refine lv_iconst (v := nI 0) hx hb dME_open_360 (by decide) ?_
                  refine lv_istore (lv' := [(8, .int (nI 0)), (7, .int z21), (6, .int (nI 1088)), (5, .int (nI 3)), (0, .ref h0), (2, .ref dk), (3, .ref ct), (4, .ref to)]) hx hb dME_open_361 hl (by decide) rfl (fun ls hl => ?_)
                  have lp25 : ∀ (n25 : Nat) (i25 : Nat) (pl : va_W) (ls : Array Slot) (H : Heap) (locs : List Loc), n25 + i25 = 32 → lv_has ls 9 [(8, .int (nI i25)), (7, .int z21), (6, .int (nI 1088)), (5, .int (nI 3)), (0, .ref h0), (2, .ref dk), (3, .ref ct), (4, .ref to)] → okx g T xs pl → va_P g.1 vcl ([] ++ pl) H → va_D A ([] ++ pl) → va_S A s.heap H locs → W p l e ({ frames := 6, cells := 0, slots := 0, locals := 154 } : Room) s m args below meth c H locs 0 0 (MQ below (va_Qv (fun (u : va_W) => (True) ∧ okx g T xs u) (po g.1 vcl A (fun (u : va_W) => [] ++ u)) A) args s 0 0 A) (F0 m 363 ls []) := by
                    intro n25
                    induction n25 with
                    | zero =>
                      intro i25 pl ls H locs hm25  hl hO hP hD hS
                      refine lv_iload hx hb dME_open_363 (lv_at hl 0 rfl) ?_
                      refine lv_bipush (v := nI 32) hx hb dME_open_365 (by decide) ?_
                      refine mi_ge (tgt := 388) hx hb dME_open_367 (by decide) (by omega) (by omega) (fun h25 => ?_) (fun h25 => absurd h25 (by omega))
                      refine lv_iload hx hb dME_open_388 (lv_at hl 1 rfl) ?_
                      refine lv_if_eq (tgt := 394) hx hb dME_open_390 (by decide) (fun h26 => ?_) (fun h26 => ?_)
                      · refine lv_aload_n hx hb dME_open_394 rfl (lv_at hl 4 rfl) ?_
                        refine ty_get (ci := 11) (C := "LatticeKeysModel$Secrets") (TT := T_ME) (N := 14) (kd := (23, 0)) hx hb hts (wg_ft i_ME) hown hK hO k_h0 (nxg hc0 k_h0 rfl) hP (fun _ h9 => h9) rfl 0 (by decide) (hts _ (wg_t kw_1379)) (fun _ h9 => h9) (cd := (3, 20, 0)) rfl dME_open_395 (fun v31 hv31 => ?_)
                        obtain ⟨r32, rfl, kr31⟩ := (show ∃ r : Nat, v31 = .ref r ∧ T r = some (20, 0) from hv31)
                        obtain ⟨e21, pl, hP, hD, hk21, hO⟩ := open1 hP hD hO kr31 (nxg hc9 kr31 rfl)
                        obtain ⟨am21, am22, am23, am24, am25, rt21, ps21, x21, rfl, km21, km22, km23, km24, km25, hr21, hr22, hr23⟩ := hk21
                        obtain ⟨e22, pl, hP, hD, hk22, hO⟩ := open1 hP hD hO km21 (nmc (knd_ne km21 kr31 (by decide)) (nxg hc9 km21 rfl))
                        obtain ⟨f21, rfl⟩ := hk22
                        obtain ⟨e23, pl, hP, hD, hk23, hO⟩ := open1 hP hD hO km22 (nmc (knd_ne km22 km21 (by decide)) (nmc (knd_ne km22 kr31 (by decide)) (nxg hc9 km22 rfl)))
                        obtain ⟨f22, rfl⟩ := hk23
                        obtain ⟨e24, pl, hP, hD, hk24, hO⟩ := open1 hP hD hO km23 (nmc (knd_ne km23 km22 (by decide)) (nmc (knd_ne km23 km21 (by decide)) (nmc (knd_ne km23 kr31 (by decide)) (nxg hc9 km23 rfl))))
                        obtain ⟨f23, rfl⟩ := hk24
                        obtain ⟨e25, pl, hP, hD, hk25, hO⟩ := open1 hP hD hO km24 (nmc (knd_ne km24 km23 (by decide)) (nmc (knd_ne km24 km22 (by decide)) (nmc (knd_ne km24 km21 (by decide)) (nmc (knd_ne km24 kr31 (by decide)) (nxg hc9 km24 rfl)))))
                        obtain ⟨f24, rfl⟩ := hk25
                        obtain ⟨e26, pl, hP, hD, hk26, hO⟩ := open1 hP hD hO km25 (nmc (knd_ne km25 km24 (by decide)) (nmc (knd_ne km25 km23 (by decide)) (nmc (knd_ne km25 km22 (by decide)) (nmc (knd_ne km25 km21 (by decide)) (nmc (knd_ne km25 kr31 (by decide)) (nxg hc9 km25 rfl))))))
                        obtain ⟨f25, rfl⟩ := hk26
                        have hP : va_P g.1 vcl ([(r32, .inr (9, [.ref am21, .ref am22, .ref am23, .ref am24, .ref am25, .int (nI rt21), .int (nI ps21), .int x21])), (am21, .inl (g.2.1 2, 25, .inr (.inl f21))), (am22, .inl (g.2.1 2, 25, .inr (.inl f22))), (am23, .inl (g.2.1 2, 5, .inr (.inl f23))), (am24, .inl (g.2.1 2, 24, .inr (.inl f24))), (am25, .inl (g.2.1 0, 25, .inl f25))] ++ pl) _ := hP
                        have hD : va_D _ ([(r32, .inr (9, [.ref am21, .ref am22, .ref am23, .ref am24, .ref am25, .int (nI rt21), .int (nI ps21), .int x21])), (am21, .inl (g.2.1 2, 25, .inr (.inl f21))), (am22, .inl (g.2.1 2, 25, .inr (.inl f22))), (am23, .inl (g.2.1 2, 5, .inr (.inl f23))), (am24, .inl (g.2.1 2, 24, .inr (.inl f24))), (am25, .inl (g.2.1 0, 25, .inl f25))] ++ pl) := hD
                        refine mp_v (cx := [(r32, .inr (9, [.ref am21, .ref am22, .ref am23, .ref am24, .ref am25, .int (nI rt21), .int (nI ps21), .int x21])), (am21, .inl (g.2.1 2, 25, .inr (.inl f21))), (am22, .inl (g.2.1 2, 25, .inr (.inl f22))), (am23, .inl (g.2.1 2, 5, .inr (.inl f23))), (am24, .inl (g.2.1 2, 24, .inr (.inl f24))), (am25, .inl (g.2.1 0, 25, .inl f25))]) (wr := []) hP hD hS hA [0, 1, 2, 3, 4, 5] [] rfl rfl rfl (by decide) (va_runV (As := []) (rest := []) F (t_MS_shake l g _ T (am25 :: (am24 :: (am23 :: (am22 :: (am21 :: (r32 :: xs)))))) pl hO hU  r32 am21 am22 am23 am24 am25 rt21 ps21 x21 f21 f22 f23 f24 f25) (cwV 0 hts (wg_app (wg_c kw_1660 (wg_c kw_1661 (wg_c kw_1662 (wg_c kw_10 wg_n)))) kw_1663) rfl rfl rfl (by decide +kernel) ⟨by decide, by decide⟩) (pp_V (en_ok g) (q0 := 0) hK hP hD hS hA hE [0, 1, 2, 3, 4, 5] rfl rfl rfl rfl) rfl rfl hl.1 rfl (lv_room (Nat.le_of_ble_eq_true rfl)) dME_open_398 ⟨by omega, by omega⟩) (fun  u21 H locs hu30 hP hD hS => ?_)
                        obtain ⟨u22, pl⟩ := u21
                        obtain ⟨hq30, hO⟩ := hu30
                        obtain ⟨ps22, f26, f27, f28⟩ := u22
                        have hP : va_P g.1 vcl ([(r32, .inr (9, [.ref am21, .ref am22, .ref am23, .ref am24, .ref am25, .int (nI 136), .int (nI ps22), .int (nI 31)])), (am21, .inl (g.2.1 2, 25, .inr (.inl f26))), (am22, .inl (g.2.1 2, 25, .inr (.inl f27))), (am23, .inl (g.2.1 2, 5, .inr (.inl f28))), (am24, .inl (g.2.1 2, 24, .inr (.inl f24))), (am25, .inl (g.2.1 0, 25, .inl f25))] ++ pl) _ := hP
                        have hD : va_D _ ([(r32, .inr (9, [.ref am21, .ref am22, .ref am23, .ref am24, .ref am25, .int (nI 136), .int (nI ps22), .int (nI 31)])), (am21, .inl (g.2.1 2, 25, .inr (.inl f26))), (am22, .inl (g.2.1 2, 25, .inr (.inl f27))), (am23, .inl (g.2.1 2, 5, .inr (.inl f28))), (am24, .inl (g.2.1 2, 24, .inr (.inl f24))), (am25, .inl (g.2.1 0, 25, .inl f25))] ++ pl) := hD
                        have hq30 : ps22 ≤ 136 := hq30
                        refine W.widen (k := 0) (n := 0) (by omega) (by omega) ?_
                        refine lv_aload_n hx hb dME_open_401 rfl (lv_at hl 4 rfl) ?_
                        refine ty_get (ci := 11) (C := "LatticeKeysModel$Secrets") (TT := T_ME) (N := 14) (kd := (23, 0)) hx hb hts (wg_ft i_ME) hown hK hO k_h0 (nxg (clo_cons (clo_cons (clo_cons (clo_cons (clo_cons (clo_cons hc0 kr31 (by decide)) km21 (by decide)) km22 (by decide)) km23 (by decide)) km24 (by decide)) km25 (by decide)) k_h0 rfl) hP (fun _ h9 => h9) rfl 0 (by decide) (hts _ (wg_t kw_1379)) (fun _ h9 => h9) (cd := (3, 20, 0)) rfl dME_open_402 (fun v32 hv32 => ?_)
                        obtain ⟨r33, rfl, kr32⟩ := (show ∃ r : Nat, v32 = .ref r ∧ T r = some (20, 0) from hv32)
                        obtain rfl : r32 = r33 := hU _ _ _ (by decide) kr31 kr32
                        refine lv_aload_n hx hb dME_open_405 rfl (lv_at hl 5 rfl) ?_
                        refine lv_sipush (v := nI 768) hx hb dME_open_406 (by decide) ?_
                        refine lv_iload hx hb dME_open_409 (lv_at hl 3 rfl) ?_
                        refine mi_imul hx hb dME_open_411 ?_
                        refine mi_as (show nI (768 * 3) = nI 2304 from rfl) ?_
                        refine lv_bipush (v := nI 64) hx hb dME_open_412 (by decide) ?_
                        refine mi_iadd hx hb dME_open_414 ?_
                        refine mi_as (show nI (2304 + 64) = nI 2368 from rfl) ?_
                        refine lv_bipush (v := nI 32) hx hb dME_open_415 (by decide) ?_
                        refine mp_v (cx := [(r32, .inr (9, [.ref am21, .ref am22, .ref am23, .ref am24, .ref am25, .int (nI 136), .int (nI ps22), .int (nI 31)])), (am21, .inl (g.2.1 2, 25, .inr (.inl f26))), (am22, .inl (g.2.1 2, 25, .inr (.inl f27))), (am23, .inl (g.2.1 2, 5, .inr (.inl f28))), (am24, .inl (g.2.1 2, 24, .inr (.inl f24))), (am25, .inl (g.2.1 0, 25, .inl f25))]) (wr := []) hP hD hS hA [0, 1, 2, 3, 4, 5] [] rfl rfl rfl (by decide) (va_runV (As := [.ref dk, .int (nI 2368), .int (nI 32)]) (rest := []) F (t_MS_puts l g _ T (am25 :: (am24 :: (am23 :: (am22 :: (am21 :: (r32 :: xs)))))) pl hO hU (clo_cons (clo_cons (clo_cons (clo_cons (clo_cons (clo_cons hc0 kr31 (by decide)) km21 (by decide)) km22 (by decide)) km23 (by decide)) km24 (by decide)) km25 (by decide)) dk 4896 2368 32 r32 am21 am22 am23 am24 am25 136 ps22 (nI 31) f26 f27 f28 f24 f25 k_dk (by omega) (by omega) (by omega) (by omega)) (cwV 3 hts (wg_app (wg_c kw_1611 (wg_c kw_1612 (wg_c kw_1613 (wg_c kw_10 wg_n)))) kw_1614) rfl rfl rfl (by decide +kernel) ⟨by decide, by decide⟩) (pp_V (en_ok g) (q0 := 0) hK hP hD hS hA hE [0, 1, 2, 3, 4, 5] rfl rfl rfl rfl) rfl rfl hl.1 rfl (lv_room (Nat.le_of_ble_eq_true rfl)) dME_open_417 ⟨by omega, by omega⟩) (fun  u23 H locs hu31 hP hD hS => ?_)
                        obtain ⟨u24, pl⟩ := u23
                        obtain ⟨hq31, hO⟩ := hu31
                        obtain ⟨ps23, f29, f30, f31⟩ := u24
                        have hP : va_P g.1 vcl ([(r32, .inr (9, [.ref am21, .ref am22, .ref am23, .ref am24, .ref am25, .int (nI 136), .int (nI ps23), .int (nI 31)])), (am21, .inl (g.2.1 2, 25, .inr (.inl f29))), (am22, .inl (g.2.1 2, 25, .inr (.inl f30))), (am23, .inl (g.2.1 2, 5, .inr (.inl f31))), (am24, .inl (g.2.1 2, 24, .inr (.inl f24))), (am25, .inl (g.2.1 0, 25, .inl f25))] ++ pl) _ := hP
                        have hD : va_D _ ([(r32, .inr (9, [.ref am21, .ref am22, .ref am23, .ref am24, .ref am25, .int (nI 136), .int (nI ps23), .int (nI 31)])), (am21, .inl (g.2.1 2, 25, .inr (.inl f29))), (am22, .inl (g.2.1 2, 25, .inr (.inl f30))), (am23, .inl (g.2.1 2, 5, .inr (.inl f31))), (am24, .inl (g.2.1 2, 24, .inr (.inl f24))), (am25, .inl (g.2.1 0, 25, .inl f25))] ++ pl) := hD
                        have hq31 : ps23 ≤ 136 := hq31
                        refine W.widen (k := 0) (n := 0) (by omega) (by omega) ?_
                        refine lv_aload_n hx hb dME_open_420 rfl (lv_at hl 4 rfl) ?_
                        refine ty_get (ci := 11) (C := "LatticeKeysModel$Secrets") (TT := T_ME) (N := 14) (kd := (23, 0)) hx hb hts (wg_ft i_ME) hown hK hO k_h0 (nxg (clo_cons (clo_cons (clo_cons (clo_cons (clo_cons (clo_cons hc0 kr31 (by decide)) km21 (by decide)) km22 (by decide)) km23 (by decide)) km24 (by decide)) km25 (by decide)) k_h0 rfl) hP (fun _ h9 => h9) rfl 0 (by decide) (hts _ (wg_t kw_1379)) (fun _ h9 => h9) (cd := (3, 20, 0)) rfl dME_open_421 (fun v33 hv33 => ?_)
                        obtain ⟨r34, rfl, kr33⟩ := (show ∃ r : Nat, v33 = .ref r ∧ T r = some (20, 0) from hv33)
                        obtain rfl : r32 = r34 := hU _ _ _ (by decide) kr31 kr33
                        refine lv_aload_n hx hb dME_open_424 rfl (lv_at hl 6 rfl) ?_
                        refine lv_iconst (v := nI 0) hx hb dME_open_425 (by decide) ?_
                        refine lv_iload hx hb dME_open_426 (lv_at hl 2 rfl) ?_
                        refine mp_v (cx := [(r32, .inr (9, [.ref am21, .ref am22, .ref am23, .ref am24, .ref am25, .int (nI 136), .int (nI ps23), .int (nI 31)])), (am21, .inl (g.2.1 2, 25, .inr (.inl f29))), (am22, .inl (g.2.1 2, 25, .inr (.inl f30))), (am23, .inl (g.2.1 2, 5, .inr (.inl f31))), (am24, .inl (g.2.1 2, 24, .inr (.inl f24))), (am25, .inl (g.2.1 0, 25, .inl f25))]) (wr := []) hP hD hS hA [0, 1, 2, 3, 4, 5] [] rfl rfl rfl (by decide) (va_runV (As := [.ref ct, .int (nI 0), .int (nI 1088)]) (rest := []) F (t_MS_puts l g _ T (am25 :: (am24 :: (am23 :: (am22 :: (am21 :: (r32 :: xs)))))) pl hO hU (clo_cons (clo_cons (clo_cons (clo_cons (clo_cons (clo_cons hc0 kr31 (by decide)) km21 (by decide)) km22 (by decide)) km23 (by decide)) km24 (by decide)) km25 (by decide)) ct 16384 0 1088 r32 am21 am22 am23 am24 am25 136 ps23 (nI 31) f29 f30 f31 f24 f25 k_ct (by omega) (by omega) (by omega) (by omega)) (cwV 3 hts (wg_app (wg_c kw_1611 (wg_c kw_1612 (wg_c kw_1613 (wg_c kw_10 wg_n)))) kw_1614) rfl rfl rfl (by decide +kernel) ⟨by decide, by decide⟩) (pp_V (en_ok g) (q0 := 0) hK hP hD hS hA hE [0, 1, 2, 3, 4, 5] rfl rfl rfl rfl) rfl rfl hl.1 rfl (lv_room (Nat.le_of_ble_eq_true rfl)) dME_open_428 ⟨by omega, by omega⟩) (fun  u25 H locs hu32 hP hD hS => ?_)
                        obtain ⟨u26, pl⟩ := u25
                        obtain ⟨hq32, hO⟩ := hu32
                        obtain ⟨ps24, f32, f33, f34⟩ := u26
                        have hP : va_P g.1 vcl ([(r32, .inr (9, [.ref am21, .ref am22, .ref am23, .ref am24, .ref am25, .int (nI 136), .int (nI ps24), .int (nI 31)])), (am21, .inl (g.2.1 2, 25, .inr (.inl f32))), (am22, .inl (g.2.1 2, 25, .inr (.inl f33))), (am23, .inl (g.2.1 2, 5, .inr (.inl f34))), (am24, .inl (g.2.1 2, 24, .inr (.inl f24))), (am25, .inl (g.2.1 0, 25, .inl f25))] ++ pl) _ := hP
                        have hD : va_D _ ([(r32, .inr (9, [.ref am21, .ref am22, .ref am23, .ref am24, .ref am25, .int (nI 136), .int (nI ps24), .int (nI 31)])), (am21, .inl (g.2.1 2, 25, .inr (.inl f32))), (am22, .inl (g.2.1 2, 25, .inr (.inl f33))), (am23, .inl (g.2.1 2, 5, .inr (.inl f34))), (am24, .inl (g.2.1 2, 24, .inr (.inl f24))), (am25, .inl (g.2.1 0, 25, .inl f25))] ++ pl) := hD
                        have hq32 : ps24 ≤ 136 := hq32
                        refine W.widen (k := 0) (n := 0) (by omega) (by omega) ?_
                        refine lv_aload_n hx hb dME_open_431 rfl (lv_at hl 4 rfl) ?_
                        refine ty_get (ci := 11) (C := "LatticeKeysModel$Secrets") (TT := T_ME) (N := 14) (kd := (23, 0)) hx hb hts (wg_ft i_ME) hown hK hO k_h0 (nxg (clo_cons (clo_cons (clo_cons (clo_cons (clo_cons (clo_cons hc0 kr31 (by decide)) km21 (by decide)) km22 (by decide)) km23 (by decide)) km24 (by decide)) km25 (by decide)) k_h0 rfl) hP (fun _ h9 => h9) rfl 0 (by decide) (hts _ (wg_t kw_1379)) (fun _ h9 => h9) (cd := (3, 20, 0)) rfl dME_open_432 (fun v34 hv34 => ?_)
                        obtain ⟨r35, rfl, kr34⟩ := (show ∃ r : Nat, v34 = .ref r ∧ T r = some (20, 0) from hv34)
                        obtain rfl : r32 = r35 := hU _ _ _ (by decide) kr31 kr34
                        refine mp_v (cx := [(r32, .inr (9, [.ref am21, .ref am22, .ref am23, .ref am24, .ref am25, .int (nI 136), .int (nI ps24), .int (nI 31)])), (am21, .inl (g.2.1 2, 25, .inr (.inl f32))), (am22, .inl (g.2.1 2, 25, .inr (.inl f33))), (am23, .inl (g.2.1 2, 5, .inr (.inl f34))), (am24, .inl (g.2.1 2, 24, .inr (.inl f24))), (am25, .inl (g.2.1 0, 25, .inl f25))]) (wr := []) hP hD hS hA [0, 1, 2, 3, 4, 5] [] rfl rfl rfl (by decide) (va_runV (As := []) (rest := []) F (t_MS_end l g _ T (am25 :: (am24 :: (am23 :: (am22 :: (am21 :: (r32 :: xs)))))) pl hO hU  r32 am21 am22 am23 am24 am25 136 ps24 (nI 31) f32 f33 f34 f24 f25 (by omega) (by omega)) (cwV 0 hts (wg_app (wg_c kw_1633 (wg_c kw_1634 (wg_c kw_1635 (wg_c kw_10 wg_n)))) kw_1636) rfl rfl rfl (by decide +kernel) ⟨by decide, by decide⟩) (pp_V (en_ok g) (q0 := 0) hK hP hD hS hA hE [0, 1, 2, 3, 4, 5] rfl rfl rfl rfl) rfl rfl hl.1 rfl (lv_room (Nat.le_of_ble_eq_true rfl)) dME_open_435 ⟨by omega, by omega⟩) (fun  u27 H locs hu33 hP hD hS => ?_)
                        obtain ⟨u28, pl⟩ := u27
                        obtain ⟨hq33, hO⟩ := hu33
                        obtain ⟨ps25, f35, f36, f37⟩ := u28
                        have hP : va_P g.1 vcl ([(r32, .inr (9, [.ref am21, .ref am22, .ref am23, .ref am24, .ref am25, .int (nI 136), .int (nI ps25), .int (nI 31)])), (am21, .inl (g.2.1 2, 25, .inr (.inl f35))), (am22, .inl (g.2.1 2, 25, .inr (.inl f36))), (am23, .inl (g.2.1 2, 5, .inr (.inl f37))), (am24, .inl (g.2.1 2, 24, .inr (.inl f24))), (am25, .inl (g.2.1 0, 25, .inl f25))] ++ pl) _ := hP
                        have hD : va_D _ ([(r32, .inr (9, [.ref am21, .ref am22, .ref am23, .ref am24, .ref am25, .int (nI 136), .int (nI ps25), .int (nI 31)])), (am21, .inl (g.2.1 2, 25, .inr (.inl f35))), (am22, .inl (g.2.1 2, 25, .inr (.inl f36))), (am23, .inl (g.2.1 2, 5, .inr (.inl f37))), (am24, .inl (g.2.1 2, 24, .inr (.inl f24))), (am25, .inl (g.2.1 0, 25, .inl f25))] ++ pl) := hD
                        have hq33 : ps25 ≤ 136 := hq33
                        refine W.widen (k := 0) (n := 0) (by omega) (by omega) ?_
                        refine lv_aload_n hx hb dME_open_438 rfl (lv_at hl 4 rfl) ?_
                        refine ty_get (ci := 11) (C := "LatticeKeysModel$Secrets") (TT := T_ME) (N := 14) (kd := (23, 0)) hx hb hts (wg_ft i_ME) hown hK hO k_h0 (nxg (clo_cons (clo_cons (clo_cons (clo_cons (clo_cons (clo_cons hc0 kr31 (by decide)) km21 (by decide)) km22 (by decide)) km23 (by decide)) km24 (by decide)) km25 (by decide)) k_h0 rfl) hP (fun _ h9 => h9) rfl 0 (by decide) (hts _ (wg_t kw_1379)) (fun _ h9 => h9) (cd := (3, 20, 0)) rfl dME_open_439 (fun v35 hv35 => ?_)
                        obtain ⟨r36, rfl, kr35⟩ := (show ∃ r : Nat, v35 = .ref r ∧ T r = some (20, 0) from hv35)
                        obtain rfl : r32 = r36 := hU _ _ _ (by decide) kr31 kr35
                        refine lv_aload hx hb dME_open_442 (lv_at hl 7 rfl) ?_
                        refine lv_iconst (v := nI 0) hx hb dME_open_444 (by decide) ?_
                        refine lv_bipush (v := nI 32) hx hb dME_open_445 (by decide) ?_
                        refine mp_v (cx := [(r32, .inr (9, [.ref am21, .ref am22, .ref am23, .ref am24, .ref am25, .int (nI 136), .int (nI ps25), .int (nI 31)])), (am21, .inl (g.2.1 2, 25, .inr (.inl f35))), (am22, .inl (g.2.1 2, 25, .inr (.inl f36))), (am23, .inl (g.2.1 2, 5, .inr (.inl f37))), (am24, .inl (g.2.1 2, 24, .inr (.inl f24))), (am25, .inl (g.2.1 0, 25, .inl f25))]) (wr := []) hP hD hS hA [0, 1, 2, 3, 4, 5] [] rfl rfl rfl (by decide) (va_runV (As := [.ref to, .int (nI 0), .int (nI 32)]) (rest := []) F (t_MS_take l g _ T (am25 :: (am24 :: (am23 :: (am22 :: (am21 :: (r32 :: xs)))))) pl hO hU (clo_cons (clo_cons (clo_cons (clo_cons (clo_cons (clo_cons hc0 kr31 (by decide)) km21 (by decide)) km22 (by decide)) km23 (by decide)) km24 (by decide)) km25 (by decide)) to 8192 0 32 r32 am21 am22 am23 am24 am25 136 ps25 (nI 31) f35 f36 f37 f24 f25 k_to (by omega) (by omega) (by omega) (by omega)) (cwV 3 hts (wg_app (wg_c kw_1637 (wg_c kw_1638 (wg_c kw_1639 (wg_c kw_10 wg_n)))) kw_1640) rfl rfl rfl (by decide +kernel) ⟨by decide, by decide⟩) (pp_V (en_ok g) (q0 := 0) hK hP hD hS hA hE [0, 1, 2, 3, 4, 5] rfl rfl rfl rfl) rfl rfl hl.1 rfl (lv_room (Nat.le_of_ble_eq_true rfl)) dME_open_447 ⟨by omega, by omega⟩) (fun  u29 H locs hu34 hP hD hS => ?_)
                        obtain ⟨u30, pl⟩ := u29
                        obtain ⟨hq34, hO⟩ := hu34
                        obtain ⟨ps26, f38, f39, f40⟩ := u30
                        have hP : va_P g.1 vcl ([(r32, .inr (9, [.ref am21, .ref am22, .ref am23, .ref am24, .ref am25, .int (nI 136), .int (nI ps26), .int (nI 31)])), (am21, .inl (g.2.1 2, 25, .inr (.inl f38))), (am22, .inl (g.2.1 2, 25, .inr (.inl f39))), (am23, .inl (g.2.1 2, 5, .inr (.inl f40))), (am24, .inl (g.2.1 2, 24, .inr (.inl f24))), (am25, .inl (g.2.1 0, 25, .inl f25))] ++ pl) _ := hP
                        have hD : va_D _ ([(r32, .inr (9, [.ref am21, .ref am22, .ref am23, .ref am24, .ref am25, .int (nI 136), .int (nI ps26), .int (nI 31)])), (am21, .inl (g.2.1 2, 25, .inr (.inl f38))), (am22, .inl (g.2.1 2, 25, .inr (.inl f39))), (am23, .inl (g.2.1 2, 5, .inr (.inl f40))), (am24, .inl (g.2.1 2, 24, .inr (.inl f24))), (am25, .inl (g.2.1 0, 25, .inl f25))] ++ pl) := hD
                        have hq34 : ps26 ≤ 136 := hq34
                        refine W.widen (k := 0) (n := 0) (by omega) (by omega) ?_
                        have hO := close1 (e := .inl (g.2.1 0, 25, .inl f25)) hO km25 ⟨_, rfl⟩
                        have hO := close1 (e := .inl (g.2.1 2, 24, .inr (.inl f24))) hO km24 ⟨_, rfl⟩
                        have hO := close1 (e := .inl (g.2.1 2, 5, .inr (.inl f40))) hO km23 ⟨_, rfl⟩
                        have hO := close1 (e := .inl (g.2.1 2, 25, .inr (.inl f39))) hO km22 ⟨_, rfl⟩
                        have hO := close1 (e := .inl (g.2.1 2, 25, .inr (.inl f38))) hO km21 ⟨_, rfl⟩
                        have hO := close1 (e := .inr (9, [.ref am21, .ref am22, .ref am23, .ref am24, .ref am25, .int (nI 136), .int (nI ps26), .int (nI 31)])) hO kr31 ⟨_, _, _, _, _, _, _, _, rfl, km21, km22, km23, km24, km25, by omega, by omega, by omega⟩
                        have hO : okx g T xs ((r32, .inr (9, [.ref am21, .ref am22, .ref am23, .ref am24, .ref am25, .int (nI 136), .int (nI ps26), .int (nI 31)])) :: (am21, .inl (g.2.1 2, 25, .inr (.inl f38))) :: (am22, .inl (g.2.1 2, 25, .inr (.inl f39))) :: (am23, .inl (g.2.1 2, 5, .inr (.inl f40))) :: (am24, .inl (g.2.1 2, 24, .inr (.inl f24))) :: (am25, .inl (g.2.1 0, 25, .inl f25)) :: pl) := hO
                        have hP : va_P g.1 vcl ([] ++ ((r32, .inr (9, [.ref am21, .ref am22, .ref am23, .ref am24, .ref am25, .int (nI 136), .int (nI ps26), .int (nI 31)])) :: (am21, .inl (g.2.1 2, 25, .inr (.inl f38))) :: (am22, .inl (g.2.1 2, 25, .inr (.inl f39))) :: (am23, .inl (g.2.1 2, 5, .inr (.inl f40))) :: (am24, .inl (g.2.1 2, 24, .inr (.inl f24))) :: (am25, .inl (g.2.1 0, 25, .inl f25)) :: pl)) _ := hP
                        have hD : va_D _ ([] ++ ((r32, .inr (9, [.ref am21, .ref am22, .ref am23, .ref am24, .ref am25, .int (nI 136), .int (nI ps26), .int (nI 31)])) :: (am21, .inl (g.2.1 2, 25, .inr (.inl f38))) :: (am22, .inl (g.2.1 2, 25, .inr (.inl f39))) :: (am23, .inl (g.2.1 2, 5, .inr (.inl f40))) :: (am24, .inl (g.2.1 2, 24, .inr (.inl f24))) :: (am25, .inl (g.2.1 0, 25, .inl f25)) :: pl)) := hD
                        generalize ((r32, .inr (9, [.ref am21, .ref am22, .ref am23, .ref am24, .ref am25, .int (nI 136), .int (nI ps26), .int (nI 31)])) :: (am21, .inl (g.2.1 2, 25, .inr (.inl f38))) :: (am22, .inl (g.2.1 2, 25, .inr (.inl f39))) :: (am23, .inl (g.2.1 2, 5, .inr (.inl f40))) :: (am24, .inl (g.2.1 2, 24, .inr (.inl f24))) :: (am25, .inl (g.2.1 0, 25, .inl f25)) :: pl) = pl at hO hP hD
                        exact mp_vret hx hb hr hlk hP hD hS pl ⟨trivial, hO⟩ [] rfl rfl rfl (by omega) (by omega) dME_open_450
                      · exact mp_vret hx hb hr hlk hP hD hS pl ⟨trivial, hO⟩ [] rfl rfl rfl (by omega) (by omega) dME_open_393
                    | succ n25 ih25 =>
                      intro i25 pl ls H locs hm25  hl hO hP hD hS
                      refine lv_iload hx hb dME_open_363 (lv_at hl 0 rfl) ?_
                      refine lv_bipush (v := nI 32) hx hb dME_open_365 (by decide) ?_
                      refine mi_ge (tgt := 388) hx hb dME_open_367 (by decide) (by omega) (by omega) (fun h27 => absurd h27 (by omega)) (fun h27 => ?_)
                      refine lv_aload hx hb dME_open_370 (lv_at hl 7 rfl) ?_
                      refine lv_iload hx hb dME_open_372 (lv_at hl 0 rfl) ?_
                      refine lv_aload_n hx hb dME_open_374 rfl (lv_at hl 4 rfl) ?_
                      refine ty_get (ci := 11) (C := "LatticeKeysModel$Secrets") (TT := T_ME) (N := 14) (kd := (23, 0)) hx hb hts (wg_ft i_ME) hown hK hO k_h0 (nxg hc0 k_h0 rfl) hP (fun _ h9 => h9) rfl 9 (by decide) (hts _ (wg_t kw_1388)) (fun _ h9 => h9) (cd := (3, 1, 64)) rfl dME_open_375 (fun v36 hv36 => ?_)
                      obtain ⟨r37, rfl, kr36⟩ := (show ∃ r : Nat, v36 = .ref r ∧ T r = some (1, 64) from hv36)
                      refine lv_iload hx hb dME_open_378 (lv_at hl 0 rfl) ?_
                      refine ty_bald hx hb hK hO kr36 (nxg hc0 kr36 rfl) hP (vp_in_nI (by omega) (by decide)) dME_open_380 (fun z22 => ?_)
                      refine ty_bast hx hb hK hO k_to (nxg hc0 k_to rfl) hP hD hS (vp_in_nI (by omega) (by decide)) dME_open_381 (fun pl H locs hO hP hD hS => ?_)
                      refine mi_iinc (k := 0) (x := i25) (d := 1) (y := i25 + 1) (lv' := [(8, .int (nI (i25 + 1))), (7, .int z21), (6, .int (nI 1088)), (5, .int (nI 3)), (0, .ref h0), (2, .ref dk), (3, .ref ct), (4, .ref to)]) hx hb dME_open_382 hl rfl (by decide) rfl (by decide) rfl (fun ls hl => ?_)
                      refine lv_goto (tgt := 363) hx hb dME_open_385 (by decide) ?_
                      exact ih25 (i25 + 1) pl ls H locs (by omega) (lv_sub hl [0, 1, 2, 3, 4, 5, 6, 7] rfl) hO hP hD hS
                  exact lp25 32 0 pl ls _ _ (by omega) (lv_sub hl [0, 1, 2, 3, 4, 5, 6, 7] rfl) hO hP hD hS
                | succ n24 ih24 =>
                  intro i24 z21 pl ls H locs hm24  hl hO hP hD hS
                  refine lv_iload hx hb dME_open_323 (lv_at hl 0 rfl) ?_
                  refine lv_iload hx hb dME_open_325 (lv_at hl 2 rfl) ?_
                  refine mi_ge (tgt := 360) hx hb dME_open_327 (by decide) (by omega) (by omega) (fun h28 => absurd h28 (by omega)) (fun h28 => ?_)
                  refine lv_iload hx hb dME_open_330 (lv_at hl 1 rfl) ?_
                  refine lv_aload_n hx hb dME_open_332 rfl (lv_at hl 4 rfl) ?_
                  refine ty_get (ci := 11) (C := "LatticeKeysModel$Secrets") (TT := T_ME) (N := 14) (kd := (23, 0)) hx hb hts (wg_ft i_ME) hown hK hO k_h0 (nxg hc0 k_h0 rfl) hP (fun _ h9 => h9) rfl 13 (by decide) (hts _ (wg_t kw_1392)) (fun _ h9 => h9) (cd := (3, 1, 1568)) rfl dME_open_333 (fun v37 hv37 => ?_)
                  obtain ⟨r38, rfl, kr37⟩ := (show ∃ r : Nat, v37 = .ref r ∧ T r = some (1, 1568) from hv37)
                  refine lv_iload hx hb dME_open_336 (lv_at hl 0 rfl) ?_
                  refine ty_bald hx hb hK hO kr37 (nxg hc0 kr37 rfl) hP (vp_in_nI (by omega) (by decide)) dME_open_338 (fun z23 => ?_)
                  refine lv_aload_n hx hb dME_open_339 rfl (lv_at hl 6 rfl) ?_
                  refine lv_iload hx hb dME_open_340 (lv_at hl 0 rfl) ?_
                  refine ty_bald hx hb hK hO k_ct (nxg hc0 k_ct rfl) hP (vp_in_nI (by omega) (by decide)) dME_open_342 (fun z24 => ?_)
                  refine lv_icmp_ne (tgt := 350) hx hb dME_open_343 (by decide) (fun h29 => ?_) (fun h29 => ?_)
                  · refine lv_iconst (v := nI 0) hx hb dME_open_350 (by decide) ?_
                    refine lv_iand hx hb dME_open_351 ?_
                    refine mi_any (fun z25 => ?_)
                    refine lv_istore (lv' := [(7, .int z25), (8, .int (nI i24)), (6, .int (nI 1088)), (5, .int (nI 3)), (0, .ref h0), (2, .ref dk), (3, .ref ct), (4, .ref to)]) hx hb dME_open_352 hl (by decide) rfl (fun ls hl => ?_)
                    refine mi_iinc (k := 1) (x := i24) (d := 1) (y := i24 + 1) (lv' := [(8, .int (nI (i24 + 1))), (7, .int z25), (6, .int (nI 1088)), (5, .int (nI 3)), (0, .ref h0), (2, .ref dk), (3, .ref ct), (4, .ref to)]) hx hb dME_open_354 hl rfl (by decide) rfl (by decide) rfl (fun ls hl => ?_)
                    refine lv_goto (tgt := 323) hx hb dME_open_357 (by decide) ?_
                    exact ih24 (i24 + 1) z25 pl ls H locs (by omega) (lv_sub hl [0, 1, 2, 3, 4, 5, 6, 7] rfl) hO hP hD hS
                  · refine lv_iconst (v := nI 1) hx hb dME_open_346 (by decide) ?_
                    refine lv_goto (tgt := 351) hx hb dME_open_347 (by decide) ?_
                    refine mi_iand hx hb 1 dME_open_351 (by decide) (fun z26 hz21 => ?_)
                    have hz21 : z26 < 2 := hz21
                    refine lv_istore (lv' := [(7, .int (nI z26)), (8, .int (nI i24)), (6, .int (nI 1088)), (5, .int (nI 3)), (0, .ref h0), (2, .ref dk), (3, .ref ct), (4, .ref to)]) hx hb dME_open_352 hl (by decide) rfl (fun ls hl => ?_)
                    refine mi_iinc (k := 1) (x := i24) (d := 1) (y := i24 + 1) (lv' := [(8, .int (nI (i24 + 1))), (7, .int (nI z26)), (6, .int (nI 1088)), (5, .int (nI 3)), (0, .ref h0), (2, .ref dk), (3, .ref ct), (4, .ref to)]) hx hb dME_open_354 hl rfl (by decide) rfl (by decide) rfl (fun ls hl => ?_)
                    refine lv_goto (tgt := 323) hx hb dME_open_357 (by decide) ?_
                    exact ih24 (i24 + 1) (nI z26) pl ls H locs (by omega) (lv_sub hl [0, 1, 2, 3, 4, 5, 6, 7] rfl) hO hP hD hS
              exact lp24 1088 0 (nI 1) pl ls _ _ (by omega) (lv_sub hl [0, 1, 2, 3, 4, 6, 7, 8] rfl) hO hP hD hS
            | succ n23 ih23 =>
              intro i23 pl ls H locs hm23  hl hO hP hD hS
              refine lv_iload hx hb dME_open_255 (lv_at hl 0 rfl) ?_
              refine lv_bipush (v := nI 32) hx hb dME_open_257 (by decide) ?_
              refine mi_ge (tgt := 289) hx hb dME_open_259 (by decide) (by omega) (by omega) (fun h30 => absurd h30 (by omega)) (fun h30 => ?_)
              refine lv_aload_n hx hb dME_open_262 rfl (lv_at hl 3 rfl) ?_
              refine ty_get (ci := 11) (C := "LatticeKeysModel$Secrets") (TT := T_ME) (N := 14) (kd := (23, 0)) hx hb hts (wg_ft i_ME) hown hK hO k_h0 (nxg hc0 k_h0 rfl) hP (fun _ h9 => h9) rfl 11 (by decide) (hts _ (wg_t kw_1390)) (fun _ h9 => h9) (cd := (3, 1, 32)) rfl dME_open_263 (fun v38 hv38 => ?_)
              obtain ⟨r39, rfl, kr38⟩ := (show ∃ r : Nat, v38 = .ref r ∧ T r = some (1, 32) from hv38)
              refine lv_iload hx hb dME_open_266 (lv_at hl 0 rfl) ?_
              refine lv_aload_n hx hb dME_open_268 rfl (lv_at hl 5 rfl) ?_
              refine lv_sipush (v := nI 768) hx hb dME_open_269 (by decide) ?_
              refine lv_iload hx hb dME_open_272 (lv_at hl 2 rfl) ?_
              refine mi_imul hx hb dME_open_274 ?_
              refine mi_as (show nI (768 * 3) = nI 2304 from rfl) ?_
              refine lv_bipush (v := nI 32) hx hb dME_open_275 (by decide) ?_
              refine mi_iadd hx hb dME_open_277 ?_
              refine mi_as (show nI (2304 + 32) = nI 2336 from rfl) ?_
              refine lv_iload hx hb dME_open_278 (lv_at hl 0 rfl) ?_
              refine mi_iadd hx hb dME_open_280 ?_
              refine ty_bald hx hb hK hO k_dk (nxg hc0 k_dk rfl) hP (vp_in_nI (by omega) (by decide)) dME_open_281 (fun z27 => ?_)
              refine ty_bast hx hb hK hO kr38 (nxg hc0 kr38 rfl) hP hD hS (vp_in_nI (by omega) (by decide)) dME_open_282 (fun pl H locs hO hP hD hS => ?_)
              refine mi_iinc (k := 0) (x := i23) (d := 1) (y := i23 + 1) (lv' := [(7, .int (nI (i23 + 1))), (6, .int (nI 1088)), (5, .int (nI 3)), (0, .ref h0), (1, .int (nI 1)), (2, .ref dk), (3, .ref ct), (4, .ref to)]) hx hb dME_open_283 hl rfl (by decide) rfl (by decide) rfl (fun ls hl => ?_)
              refine lv_goto (tgt := 255) hx hb dME_open_286 (by decide) ?_
              exact ih23 (i23 + 1) pl ls H locs (by omega) (lv_sub hl [0, 1, 2, 3, 4, 5, 6, 7] rfl) hO hP hD hS
          exact lp23 32 0 pl ls _ _ (by omega) (lv_sub hl [0, 1, 2, 3, 4, 5, 6, 7] rfl) hO hP hD hS
        | succ n22 ih22 =>
          intro i22 pl ls H locs hm22  hl hO hP hD hS
          refine lv_iload hx hb dME_open_187 (lv_at hl 0 rfl) ?_
          refine lv_sipush (v := nI 256) hx hb dME_open_189 (by decide) ?_
          refine mi_ge (tgt := 231) hx hb dME_open_192 (by decide) (by omega) (by omega) (fun h31 => absurd h31 (by omega)) (fun h31 => ?_)
          refine lv_aload_n hx hb dME_open_195 rfl (lv_at hl 3 rfl) ?_
          refine ty_get (ci := 11) (C := "LatticeKeysModel$Secrets") (TT := T_ME) (N := 14) (kd := (23, 0)) hx hb hts (wg_ft i_ME) hown hK hO k_h0 (nxg hc0 k_h0 rfl) hP (fun _ h9 => h9) rfl 7 (by decide) (hts _ (wg_t kw_1386)) (fun _ h9 => h9) (cd := (3, 0, 256)) rfl dME_open_196 (fun v39 hv39 => ?_)
          obtain ⟨r40, rfl, kr39⟩ := (show ∃ r : Nat, v39 = .ref r ∧ T r = some (0, 256) from hv39)
          refine lv_iload hx hb dME_open_199 (lv_at hl 0 rfl) ?_
          refine lv_aload_n hx hb dME_open_201 rfl (lv_at hl 3 rfl) ?_
          refine ty_get (ci := 11) (C := "LatticeKeysModel$Secrets") (TT := T_ME) (N := 14) (kd := (23, 0)) hx hb hts (wg_ft i_ME) hown hK hO k_h0 (nxg hc0 k_h0 rfl) hP (fun _ h9 => h9) rfl 7 (by decide) (hts _ (wg_t kw_1386)) (fun _ h9 => h9) (cd := (3, 0, 256)) rfl dME_open_202 (fun v40 hv40 => ?_)
          obtain ⟨r41, rfl, kr40⟩ := (show ∃ r : Nat, v40 = .ref r ∧ T r = some (0, 256) from hv40)
          refine lv_iload hx hb dME_open_205 (lv_at hl 0 rfl) ?_
          refine ty_iald hx hb hK hO kr40 (nxg hc0 kr40 rfl) hP (vp_in_nI (by omega) (by decide)) dME_open_207 (fun z28 => ?_)
          refine lv_aload_n hx hb dME_open_208 rfl (lv_at hl 3 rfl) ?_
          refine ty_get (ci := 11) (C := "LatticeKeysModel$Secrets") (TT := T_ME) (N := 14) (kd := (23, 0)) hx hb hts (wg_ft i_ME) hown hK hO k_h0 (nxg hc0 k_h0 rfl) hP (fun _ h9 => h9) rfl 6 (by decide) (hts _ (wg_t kw_1385)) (fun _ h9 => h9) (cd := (3, 0, 256)) rfl dME_open_209 (fun v41 hv41 => ?_)
          obtain ⟨r42, rfl, kr41⟩ := (show ∃ r : Nat, v41 = .ref r ∧ T r = some (0, 256) from hv41)
          refine lv_iload hx hb dME_open_212 (lv_at hl 0 rfl) ?_
          refine ty_iald hx hb hK hO kr41 (nxg hc0 kr41 rfl) hP (vp_in_nI (by omega) (by decide)) dME_open_214 (fun z29 => ?_)
          refine lv_isub hx hb dME_open_215 ?_
          refine mi_any (fun z30 => ?_)
          refine lv_sipush (v := nI 3329) hx hb dME_open_216 (by decide) ?_
          refine lv_iadd hx hb dME_open_219 ?_
          refine mi_any (fun z31 => ?_)
          refine lv_sipush (v := nI 3329) hx hb dME_open_220 (by decide) ?_
          refine lv_irem hx hb dME_open_223 (nI_ne0 (by omega) (by omega)) ?_
          refine mi_any (fun z32 => ?_)
          refine ty_iast hx hb hK hO kr39 (nxg hc0 kr39 rfl) hP hD hS (vp_in_nI (by omega) (by decide)) dME_open_224 (fun pl H locs hO hP hD hS => ?_)
          refine mi_iinc (k := 0) (x := i22) (d := 1) (y := i22 + 1) (lv' := [(7, .int (nI (i22 + 1))), (6, .int (nI 1088)), (5, .int (nI 3)), (0, .ref h0), (1, .int (nI 1)), (2, .ref dk), (3, .ref ct), (4, .ref to)]) hx hb dME_open_225 hl rfl (by decide) rfl (by decide) rfl (fun ls hl => ?_)
          refine lv_goto (tgt := 187) hx hb dME_open_228 (by decide) ?_
          exact ih22 (i22 + 1) pl ls H locs (by omega) (lv_sub hl [0, 1, 2, 3, 4, 5, 6, 7] rfl) hO hP hD hS
      exact lp22 256 0 pl ls _ _ (by omega) (lv_sub hl [0, 1, 2, 3, 4, 5, 6, 7] rfl) hO hP hD hS
    | succ n21 ih21 =>
      intro i21 pl ls H locs hm21  hl hO hP hD hS
      refine lv_iload hx hb dME_open_23 (lv_at hl 0 rfl) ?_
      refine lv_iload hx hb dME_open_25 (lv_at hl 2 rfl) ?_
      refine mi_ge (tgt := 140) hx hb dME_open_27 (by decide) (by omega) (by omega) (fun h32 => absurd h32 (by omega)) (fun h32 => ?_)
      refine lv_aload_n hx hb dME_open_30 rfl (lv_at hl 6 rfl) ?_
      refine lv_bipush (v := nI 32) hx hb dME_open_31 (by decide) ?_
      refine va_gets hx hb (hE.2.1 21 _ rfl).1 hS hown (hts _ (wg_t kw_1830)) (fun _ h9 => h9) dME_open_33 ?_
      refine lv_iload_n hx hb dME_open_36 rfl (lv_at hl 4 rfl) ?_
      refine va_ti (v := .int (nI 10)) hx hb (hE.2.1 21 _ rfl).2 hS (vp_in_nI (by decide) (by decide)) (by decide +kernel) dME_open_37 ?_
      refine mi_imul hx hb dME_open_38 ?_
      refine mi_as (show nI (32 * 10) = nI 320 from rfl) ?_
      refine lv_iload hx hb dME_open_39 (lv_at hl 0 rfl) ?_
      refine mi_imul hx hb dME_open_41 ?_
      refine va_gets hx hb (hE.2.1 21 _ rfl).1 hS hown (hts _ (wg_t kw_1830)) (fun _ h9 => h9) dME_open_42 ?_
      refine lv_iload_n hx hb dME_open_45 rfl (lv_at hl 4 rfl) ?_
      refine va_ti (v := .int (nI 10)) hx hb (hE.2.1 21 _ rfl).2 hS (vp_in_nI (by decide) (by decide)) (by decide +kernel) dME_open_46 ?_
      refine lv_aload_n hx hb dME_open_47 rfl (lv_at hl 3 rfl) ?_
      refine ty_get (ci := 11) (C := "LatticeKeysModel$Secrets") (TT := T_ME) (N := 14) (kd := (23, 0)) hx hb hts (wg_ft i_ME) hown hK hO k_h0 (nxg hc0 k_h0 rfl) hP (fun _ h9 => h9) rfl 3 (by decide) (hts _ (wg_t kw_1382)) (fun _ h9 => h9) (cd := (3, 3, 4)) rfl dME_open_48 (fun v42 hv42 => ?_)
      obtain ⟨r43, rfl, kr42⟩ := (show ∃ r : Nat, v42 = .ref r ∧ T r = some (3, 4) from hv42)
      refine lv_iload hx hb dME_open_51 (lv_at hl 0 rfl) ?_
      refine ty_aald3 hx hb hK hO kr42 (nxg hc0 kr42 rfl) hP (by omega) (by decide) dME_open_53 (fun r44 kr43 => ?_)
      refine mp_v (cx := []) (wr := []) hP hD hS hA [] [] rfl rfl rfl (by decide) (va_runS (As := [.ref ct, .int (nI (320 * i21)), .int (nI 10), .ref r44]) (rest := []) F (t_ME_read_10 l g _ T xs pl hO hU hc0 ct r44 16384 (320 * i21) k_ct kr43 (by omega) (by omega)) (va_cwS 4 hts (wg_app (wg_c kw_1813 (wg_c kw_1814 (wg_c kw_11 wg_n))) kw_1815) rfl rfl rfl (by decide +kernel) ⟨by decide, by decide⟩) (pp_S (en_ok g) hP hD hS hA hE [] rfl rfl) rfl rfl hl.1 rfl (lv_room (Nat.le_of_ble_eq_true rfl)) dME_open_54 ⟨by omega, by omega⟩) (fun  pl H locs hu35 hP hD hS => ?_)
      obtain ⟨hq35, hO⟩ := hu35
      have hP : va_P g.1 vcl ([] ++ pl) _ := hP
      have hD : va_D _ ([] ++ pl) := hD
      refine W.widen (k := 0) (n := 0) (by omega) (by omega) ?_
      refine lv_aload_n hx hb dME_open_57 rfl (lv_at hl 3 rfl) ?_
      refine ty_get (ci := 11) (C := "LatticeKeysModel$Secrets") (TT := T_ME) (N := 14) (kd := (23, 0)) hx hb hts (wg_ft i_ME) hown hK hO k_h0 (nxg hc0 k_h0 rfl) hP (fun _ h9 => h9) rfl 3 (by decide) (hts _ (wg_t kw_1382)) (fun _ h9 => h9) (cd := (3, 3, 4)) rfl dME_open_58 (fun v43 hv43 => ?_)
      obtain ⟨r45, rfl, kr44⟩ := (show ∃ r : Nat, v43 = .ref r ∧ T r = some (3, 4) from hv43)
      refine lv_iload hx hb dME_open_61 (lv_at hl 0 rfl) ?_
      refine ty_aald3 hx hb hK hO kr44 (nxg hc0 kr44 rfl) hP (by omega) (by decide) dME_open_63 (fun r46 kr45 => ?_)
      refine va_gets hx hb (hE.2.1 21 _ rfl).1 hS hown (hts _ (wg_t kw_1830)) (fun _ h9 => h9) dME_open_64 ?_
      refine lv_iload_n hx hb dME_open_67 rfl (lv_at hl 4 rfl) ?_
      refine va_ti (v := .int (nI 10)) hx hb (hE.2.1 21 _ rfl).2 hS (vp_in_nI (by decide) (by decide)) (by decide +kernel) dME_open_68 ?_
      refine mp_v (cx := []) (wr := []) hP hD hS hA [] [] rfl rfl rfl (by decide) (va_runS (As := [.ref r46, .int (nI 10)]) (rest := []) F (t_ME_more_10 l g _ T xs pl hO hU hc0 r46 kr45) (va_cwS 2 hts (wg_app (wg_c kw_1835 (wg_c kw_1836 (wg_c kw_11 wg_n))) kw_1837) rfl rfl rfl (by decide +kernel) ⟨by decide, by decide⟩) (pp_S (en_ok g) hP hD hS hA hE [] rfl rfl) rfl rfl hl.1 rfl (lv_room (Nat.le_of_ble_eq_true rfl)) dME_open_69 ⟨by omega, by omega⟩) (fun  pl H locs hu36 hP hD hS => ?_)
      obtain ⟨hq36, hO⟩ := hu36
      have hP : va_P g.1 vcl ([] ++ pl) _ := hP
      have hD : va_D _ ([] ++ pl) := hD
      refine W.widen (k := 0) (n := 0) (by omega) (by omega) ?_
      refine lv_aload_n hx hb dME_open_72 rfl (lv_at hl 3 rfl) ?_
      refine lv_aload_n hx hb dME_open_73 rfl (lv_at hl 3 rfl) ?_
      refine ty_get (ci := 11) (C := "LatticeKeysModel$Secrets") (TT := T_ME) (N := 14) (kd := (23, 0)) hx hb hts (wg_ft i_ME) hown hK hO k_h0 (nxg hc0 k_h0 rfl) hP (fun _ h9 => h9) rfl 3 (by decide) (hts _ (wg_t kw_1382)) (fun _ h9 => h9) (cd := (3, 3, 4)) rfl dME_open_74 (fun v44 hv44 => ?_)
      obtain ⟨r47, rfl, kr46⟩ := (show ∃ r : Nat, v44 = .ref r ∧ T r = some (3, 4) from hv44)
      refine lv_iload hx hb dME_open_77 (lv_at hl 0 rfl) ?_
      refine ty_aald3 hx hb hK hO kr46 (nxg hc0 kr46 rfl) hP (by omega) (by decide) dME_open_79 (fun r48 kr47 => ?_)
      refine mp_v (cx := []) (wr := []) hP hD hS hA [] [] rfl rfl rfl (by decide) (va_runV (As := [.ref r48]) (rest := []) F (t_ME_forth l g _ T xs pl hO hU hc0 h0 r48 k_h0 kr47) (cwV 1 hts (wg_app (wg_c kw_1668 (wg_c kw_1670 (wg_c ks_57 (wg_c kw_11 wg_n)))) kw_1671) rfl rfl rfl (by decide +kernel) ⟨by decide, by decide⟩) (pp_VT (en_ok g) (ci := 11) (kd := (23, 0)) hK hO k_h0 (nxg hc0 k_h0 rfl) (fun _ h9 => ko1 h9) hP hD hS hA hE [] rfl rfl rfl) rfl rfl hl.1 rfl (lv_room (Nat.le_of_ble_eq_true rfl)) dME_open_80 ⟨by omega, by omega⟩) (fun  pl H locs hu37 hP hD hS => ?_)
      obtain ⟨hq37, hO⟩ := hu37
      have hP : va_P g.1 vcl ([] ++ pl) _ := hP
      have hD : va_D _ ([] ++ pl) := hD
      refine W.widen (k := 0) (n := 0) (by omega) (by omega) ?_
      refine lv_aload_n hx hb dME_open_83 rfl (lv_at hl 5 rfl) ?_
      refine lv_sipush (v := nI 384) hx hb dME_open_84 (by decide) ?_
      refine lv_iload hx hb dME_open_87 (lv_at hl 0 rfl) ?_
      refine mi_imul hx hb dME_open_89 ?_
      refine lv_bipush (v := nI 12) hx hb dME_open_90 (by decide) ?_
      refine lv_aload_n hx hb dME_open_92 rfl (lv_at hl 3 rfl) ?_
      refine ty_get (ci := 11) (C := "LatticeKeysModel$Secrets") (TT := T_ME) (N := 14) (kd := (23, 0)) hx hb hts (wg_ft i_ME) hown hK hO k_h0 (nxg hc0 k_h0 rfl) hP (fun _ h9 => h9) rfl 4 (by decide) (hts _ (wg_t kw_1383)) (fun _ h9 => h9) (cd := (3, 3, 4)) rfl dME_open_93 (fun v45 hv45 => ?_)
      obtain ⟨r49, rfl, kr48⟩ := (show ∃ r : Nat, v45 = .ref r ∧ T r = some (3, 4) from hv45)
      refine lv_iload hx hb dME_open_96 (lv_at hl 0 rfl) ?_
      refine ty_aald3 hx hb hK hO kr48 (nxg hc0 kr48 rfl) hP (by omega) (by decide) dME_open_98 (fun r50 kr49 => ?_)
      refine mp_v (cx := []) (wr := []) hP hD hS hA [] [] rfl rfl rfl (by decide) (va_runS (As := [.ref dk, .int (nI (384 * i21)), .int (nI 12), .ref r50]) (rest := []) F (t_ME_read_12 l g _ T xs pl hO hU hc0 dk r50 4896 (384 * i21) k_dk kr49 (by omega) (by omega)) (va_cwS 4 hts (wg_app (wg_c kw_1813 (wg_c kw_1814 (wg_c kw_11 wg_n))) kw_1815) rfl rfl rfl (by decide +kernel) ⟨by decide, by decide⟩) (pp_S (en_ok g) hP hD hS hA hE [] rfl rfl) rfl rfl hl.1 rfl (lv_room (Nat.le_of_ble_eq_true rfl)) dME_open_99 ⟨by omega, by omega⟩) (fun  pl H locs hu38 hP hD hS => ?_)
      obtain ⟨hq38, hO⟩ := hu38
      have hP : va_P g.1 vcl ([] ++ pl) _ := hP
      have hD : va_D _ ([] ++ pl) := hD
      refine W.widen (k := 0) (n := 0) (by omega) (by omega) ?_
      refine lv_aload_n hx hb dME_open_102 rfl (lv_at hl 3 rfl) ?_
      refine ty_get (ci := 11) (C := "LatticeKeysModel$Secrets") (TT := T_ME) (N := 14) (kd := (23, 0)) hx hb hts (wg_ft i_ME) hown hK hO k_h0 (nxg hc0 k_h0 rfl) hP (fun _ h9 => h9) rfl 4 (by decide) (hts _ (wg_t kw_1383)) (fun _ h9 => h9) (cd := (3, 3, 4)) rfl dME_open_103 (fun v46 hv46 => ?_)
      obtain ⟨r51, rfl, kr50⟩ := (show ∃ r : Nat, v46 = .ref r ∧ T r = some (3, 4) from hv46)
      refine lv_iload hx hb dME_open_106 (lv_at hl 0 rfl) ?_
      refine ty_aald3 hx hb hK hO kr50 (nxg hc0 kr50 rfl) hP (by omega) (by decide) dME_open_108 (fun r52 kr51 => ?_)
      refine mp_v (cx := []) (wr := []) hP hD hS hA [] [] rfl rfl rfl (by decide) (va_runS (As := [.ref r52]) (rest := []) F (t_ME_proper l g _ T xs pl hO hU hc0 r52 kr51) (va_cwS 1 hts (wg_app (wg_c kw_1816 (wg_c kw_1817 (wg_c kw_11 wg_n))) kw_1818) rfl rfl rfl (by decide +kernel) ⟨by decide, by decide⟩) (pp_S (en_ok g) hP hD hS hA hE [] rfl rfl) rfl rfl hl.1 rfl (lv_room (Nat.le_of_ble_eq_true rfl)) dME_open_109 ⟨by omega, by omega⟩) (fun  pl H locs hu39 hP hD hS => ?_)
      obtain ⟨hq39, hO⟩ := hu39
      have hP : va_P g.1 vcl ([] ++ pl) _ := hP
      have hD : va_D _ ([] ++ pl) := hD
      refine W.widen (k := 0) (n := 0) (by omega) (by omega) ?_
      refine lv_aload_n hx hb dME_open_112 rfl (lv_at hl 3 rfl) ?_
      refine lv_aload_n hx hb dME_open_113 rfl (lv_at hl 3 rfl) ?_
      refine ty_get (ci := 11) (C := "LatticeKeysModel$Secrets") (TT := T_ME) (N := 14) (kd := (23, 0)) hx hb hts (wg_ft i_ME) hown hK hO k_h0 (nxg hc0 k_h0 rfl) hP (fun _ h9 => h9) rfl 4 (by decide) (hts _ (wg_t kw_1383)) (fun _ h9 => h9) (cd := (3, 3, 4)) rfl dME_open_114 (fun v47 hv47 => ?_)
      obtain ⟨r53, rfl, kr52⟩ := (show ∃ r : Nat, v47 = .ref r ∧ T r = some (3, 4) from hv47)
      refine lv_iload hx hb dME_open_117 (lv_at hl 0 rfl) ?_
      refine ty_aald3 hx hb hK hO kr52 (nxg hc0 kr52 rfl) hP (by omega) (by decide) dME_open_119 (fun r54 kr53 => ?_)
      refine lv_aload_n hx hb dME_open_120 rfl (lv_at hl 3 rfl) ?_
      refine ty_get (ci := 11) (C := "LatticeKeysModel$Secrets") (TT := T_ME) (N := 14) (kd := (23, 0)) hx hb hts (wg_ft i_ME) hown hK hO k_h0 (nxg hc0 k_h0 rfl) hP (fun _ h9 => h9) rfl 3 (by decide) (hts _ (wg_t kw_1382)) (fun _ h9 => h9) (cd := (3, 3, 4)) rfl dME_open_121 (fun v48 hv48 => ?_)
      obtain ⟨r55, rfl, kr54⟩ := (show ∃ r : Nat, v48 = .ref r ∧ T r = some (3, 4) from hv48)
      refine lv_iload hx hb dME_open_124 (lv_at hl 0 rfl) ?_
      refine ty_aald3 hx hb hK hO kr54 (nxg hc0 kr54 rfl) hP (by omega) (by decide) dME_open_126 (fun r56 kr55 => ?_)
      refine lv_aload_n hx hb dME_open_127 rfl (lv_at hl 3 rfl) ?_
      refine ty_get (ci := 11) (C := "LatticeKeysModel$Secrets") (TT := T_ME) (N := 14) (kd := (23, 0)) hx hb hts (wg_ft i_ME) hown hK hO k_h0 (nxg hc0 k_h0 rfl) hP (fun _ h9 => h9) rfl 6 (by decide) (hts _ (wg_t kw_1385)) (fun _ h9 => h9) (cd := (3, 0, 256)) rfl dME_open_128 (fun v49 hv49 => ?_)
      obtain ⟨r57, rfl, kr56⟩ := (show ∃ r : Nat, v49 = .ref r ∧ T r = some (0, 256) from hv49)
      refine mp_v (cx := []) (wr := []) hP hD hS hA [] [] rfl rfl rfl (by decide) (va_runV (As := [.ref r54, .ref r56, .ref r57]) (rest := []) F (t_ME_product l g _ T xs pl hO hU hc0 h0 r54 r56 r57 k_h0 kr53 kr55 kr56) (cwV 3 hts (wg_app (wg_c kw_1676 (wg_c kw_1678 (wg_c ks_58 (wg_c kw_11 wg_n)))) kw_1679) rfl rfl rfl (by decide +kernel) ⟨by decide, by decide⟩) (pp_VT (en_ok g) (ci := 11) (kd := (23, 0)) hK hO k_h0 (nxg hc0 k_h0 rfl) (fun _ h9 => ko1 h9) hP hD hS hA hE [] rfl rfl rfl) rfl rfl hl.1 rfl (lv_room (Nat.le_of_ble_eq_true rfl)) dME_open_131 ⟨by omega, by omega⟩) (fun  pl H locs hu40 hP hD hS => ?_)
      obtain ⟨hq40, hO⟩ := hu40
      have hP : va_P g.1 vcl ([] ++ pl) _ := hP
      have hD : va_D _ ([] ++ pl) := hD
      refine W.widen (k := 0) (n := 0) (by omega) (by omega) ?_
      refine mi_iinc (k := 0) (x := i21) (d := 1) (y := i21 + 1) (lv' := [(7, .int (nI (i21 + 1))), (6, .int (nI 1088)), (5, .int (nI 3)), (0, .ref h0), (1, .int (nI 1)), (2, .ref dk), (3, .ref ct), (4, .ref to)]) hx hb dME_open_134 hl rfl (by decide) rfl (by decide) rfl (fun ls hl => ?_)
      refine lv_goto (tgt := 23) hx hb dME_open_137 (by decide) ?_
      exact ih21 (i21 + 1) pl ls H locs (by omega) (lv_sub hl [0, 1, 2, 3, 4, 5, 6, 7] rfl) hO hP hD hS
  exact lp21 3 0 pl ls _ _ (by omega) (lv_sub hl [0, 1, 2, 3, 4, 5, 6, 7] rfl) hO hP hD hS
set_option maxHeartbeats 400000 in
set_option maxRecDepth 100000 in
theorem t_ME_open_2 (l : Launch) (g : Gd) (sz : Nat) (T : Ty) (xs : List Nat) (pl : va_W) (hO : okx g T xs pl) (hU : uni T) (hc0 : clo T xs 0) (hc9 : clo T xs 9) (h0 dk ct to : Nat) (k_h0 : T h0 = some (23, 0)) (k_dk : T dk = some (1, 4896)) (k_ct : T ct = some (1, 16384)) (k_to : T to = some (1, 8192))  : Met l y_ME_open w_ME_open ({ frames := 6, cells := 0, slots := 0, locals := 154 } : Room) (va_Pc [.ref h0, .int (nI 2), .ref dk, .ref ct, .ref to] (pr (en g) g.1 vcl sz ([] ++ pl))) (va_Qv (fun (u : va_W) => (True) ∧ okx g T xs u) (po g.1 vcl (va_A ([] ++ pl) sz) (fun (u : va_W) => [] ++ u)) (va_A ([] ++ pl) sz)) 0 0 (va_A ([] ++ pl) sz) := by
  refine mc_entry (cc := c_ME_open) (maxL := 9) (ret := none) (by decide) rfl (Nat.le_of_ble_eq_true rfl) ?_
  intro p e s m args below meth c ls F hr hlk hnm hsz hP hD hE hA hl
  obtain ⟨hx, hb, hml, hown, hts⟩ := id F
  have hK := hE.1
  generalize va_A ([] ++ pl) sz = A at hD hE hA ⊢
  have hS : va_S A s.heap s.heap [] := va_S.rf
  have hl : lv_has ls 9 [(0, .ref h0), (1, .int (nI 2)), (2, .ref dk), (3, .ref ct), (4, .ref to)] := hl
  refine va_gets hx hb (hE.2.1 19 _ rfl).1 hS hown (hts _ (wg_t kw_1605)) (fun _ h9 => h9) dME_open_0 ?_
  refine lv_iload_n hx hb dME_open_3 rfl (lv_at hl 1 rfl) ?_
  refine va_ti (v := .int (nI 4)) hx hb (hE.2.1 19 _ rfl).2 hS (vp_in_nI (by decide) (by decide)) (by decide +kernel) dME_open_4 ?_
  refine lv_istore (lv' := [(5, .int (nI 4)), (0, .ref h0), (1, .int (nI 2)), (2, .ref dk), (3, .ref ct), (4, .ref to)]) hx hb dME_open_5 hl (by decide) rfl (fun ls hl => ?_)
  refine lv_iload_n hx hb dME_open_7 rfl (lv_at hl 2 rfl) ?_
  refine mp_i (cx := []) (wr := []) hP hD hS hA [] [] rfl rfl rfl (by decide) (va_runS (As := [.int (nI 2)]) (rest := []) F (t_ME_sealedSize_2 l g _ T xs pl hO hU  ) (va_cwS 1 hts (wg_app (wg_c kw_1840 (wg_c kw_1841 (wg_c kw_11 wg_n))) kw_1842) rfl rfl rfl (by decide +kernel) ⟨by decide, by decide⟩) (pp_S (en_ok g) hP hD hS hA hE [] rfl rfl) rfl rfl hl.1 rfl (lv_room (Nat.le_of_ble_eq_true rfl)) dME_open_8 ⟨by omega, by omega⟩) (fun r21 pl H locs hu21 hP hD hS => ?_)
  obtain ⟨hq21, hO⟩ := hu21
  have hP : va_P g.1 vcl ([] ++ pl) _ := hP
  have hD : va_D _ ([] ++ pl) := hD
  obtain rfl := hq21
  refine W.widen (k := 0) (n := 0) (by omega) (by omega) ?_
  refine lv_istore (lv' := [(6, .int (nI 1568)), (5, .int (nI 4)), (0, .ref h0), (1, .int (nI 2)), (2, .ref dk), (3, .ref ct), (4, .ref to)]) hx hb dME_open_11 hl (by decide) rfl (fun ls hl => ?_)
  refine lv_aload_n hx hb dME_open_13 rfl (lv_at hl 2 rfl) ?_
  refine ty_get (ci := 11) (C := "LatticeKeysModel$Secrets") (TT := T_ME) (N := 14) (kd := (23, 0)) hx hb hts (wg_ft i_ME) hown hK hO k_h0 (nxg hc0 k_h0 rfl) hP (fun _ h9 => h9) rfl 6 (by decide) (hts _ (wg_t kw_1385)) (fun _ h9 => h9) (cd := (3, 0, 256)) rfl dME_open_14 (fun v21 hv21 => ?_)
  obtain ⟨r22, rfl, kr21⟩ := (show ∃ r : Nat, v21 = .ref r ∧ T r = some (0, 256) from hv21)
  refine mp_v (cx := []) (wr := []) hP hD hS hA [] [] rfl rfl rfl (by decide) (va_runS (As := [.ref r22]) (rest := []) F (t_ME_clear l g _ T xs pl hO hU hc0 r22 kr21) (va_cwS 1 hts (wg_app (wg_c kw_1819 (wg_c kw_1820 (wg_c kw_11 wg_n))) kw_1821) rfl rfl rfl (by decide +kernel) ⟨by decide, by decide⟩) (pp_S (en_ok g) hP hD hS hA hE [] rfl rfl) rfl rfl hl.1 rfl (lv_room (Nat.le_of_ble_eq_true rfl)) dME_open_17 ⟨by omega, by omega⟩) (fun  pl H locs hu22 hP hD hS => ?_)
  obtain ⟨hq22, hO⟩ := hu22
  have hP : va_P g.1 vcl ([] ++ pl) _ := hP
  have hD : va_D _ ([] ++ pl) := hD
  refine W.widen (k := 0) (n := 0) (by omega) (by omega) ?_
  refine lv_iconst (v := nI 0) hx hb dME_open_20 (by decide) ?_
  refine lv_istore (lv' := [(7, .int (nI 0)), (6, .int (nI 1568)), (5, .int (nI 4)), (0, .ref h0), (1, .int (nI 2)), (2, .ref dk), (3, .ref ct), (4, .ref to)]) hx hb dME_open_21 hl (by decide) rfl (fun ls hl => ?_)
  have lp21 : ∀ (n21 : Nat) (i21 : Nat) (pl : va_W) (ls : Array Slot) (H : Heap) (locs : List Loc), n21 + i21 = 4 → lv_has ls 9 [(7, .int (nI i21)), (6, .int (nI 1568)), (5, .int (nI 4)), (0, .ref h0), (1, .int (nI 2)), (2, .ref dk), (3, .ref ct), (4, .ref to)] → okx g T xs pl → va_P g.1 vcl ([] ++ pl) H → va_D A ([] ++ pl) → va_S A s.heap H locs → W p l e ({ frames := 6, cells := 0, slots := 0, locals := 154 } : Room) s m args below meth c H locs 0 0 (MQ below (va_Qv (fun (u : va_W) => (True) ∧ okx g T xs u) (po g.1 vcl A (fun (u : va_W) => [] ++ u)) A) args s 0 0 A) (F0 m 23 ls []) := by
    intro n21
    induction n21 with
    | zero =>
      intro i21 pl ls H locs hm21  hl hO hP hD hS
      refine lv_iload hx hb dME_open_23 (lv_at hl 0 rfl) ?_
      refine lv_iload hx hb dME_open_25 (lv_at hl 2 rfl) ?_
      refine mi_ge (tgt := 140) hx hb dME_open_27 (by decide) (by omega) (by omega) (fun h21 => ?_) (fun h21 => absurd h21 (by omega))
      refine lv_aload_n hx hb dME_open_140 rfl (lv_at hl 3 rfl) ?_
      refine lv_aload_n hx hb dME_open_141 rfl (lv_at hl 3 rfl) ?_
      refine ty_get (ci := 11) (C := "LatticeKeysModel$Secrets") (TT := T_ME) (N := 14) (kd := (23, 0)) hx hb hts (wg_ft i_ME) hown hK hO k_h0 (nxg hc0 k_h0 rfl) hP (fun _ h9 => h9) rfl 6 (by decide) (hts _ (wg_t kw_1385)) (fun _ h9 => h9) (cd := (3, 0, 256)) rfl dME_open_142 (fun v22 hv22 => ?_)
      obtain ⟨r23, rfl, kr22⟩ := (show ∃ r : Nat, v22 = .ref r ∧ T r = some (0, 256) from hv22)
      refine mp_v (cx := []) (wr := []) hP hD hS hA [] [] rfl rfl rfl (by decide) (va_runV (As := [.ref r23]) (rest := []) F (t_ME_back l g _ T xs pl hO hU hc0 h0 r23 k_h0 kr22) (cwV 1 hts (wg_app (wg_c kw_1822 (wg_c kw_1824 (wg_c ks_69 (wg_c kw_11 wg_n)))) kw_1825) rfl rfl rfl (by decide +kernel) ⟨by decide, by decide⟩) (pp_VT (en_ok g) (ci := 11) (kd := (23, 0)) hK hO k_h0 (nxg hc0 k_h0 rfl) (fun _ h9 => ko1 h9) hP hD hS hA hE [] rfl rfl rfl) rfl rfl hl.1 rfl (lv_room (Nat.le_of_ble_eq_true rfl)) dME_open_145 ⟨by omega, by omega⟩) (fun  pl H locs hu23 hP hD hS => ?_)
      obtain ⟨hq23, hO⟩ := hu23
      have hP : va_P g.1 vcl ([] ++ pl) _ := hP
      have hD : va_D _ ([] ++ pl) := hD
      refine W.widen (k := 0) (n := 0) (by omega) (by omega) ?_
      refine lv_aload_n hx hb dME_open_148 rfl (lv_at hl 6 rfl) ?_
      refine lv_bipush (v := nI 32) hx hb dME_open_149 (by decide) ?_
      refine va_gets hx hb (hE.2.1 21 _ rfl).1 hS hown (hts _ (wg_t kw_1830)) (fun _ h9 => h9) dME_open_151 ?_
      refine lv_iload_n hx hb dME_open_154 rfl (lv_at hl 4 rfl) ?_
      refine va_ti (v := .int (nI 11)) hx hb (hE.2.1 21 _ rfl).2 hS (vp_in_nI (by decide) (by decide)) (by decide +kernel) dME_open_155 ?_
      refine mi_imul hx hb dME_open_156 ?_
      refine mi_as (show nI (32 * 11) = nI 352 from rfl) ?_
      refine lv_iload hx hb dME_open_157 (lv_at hl 2 rfl) ?_
      refine mi_imul hx hb dME_open_159 ?_
      refine mi_as (show nI (352 * 4) = nI 1408 from rfl) ?_
      refine va_gets hx hb (hE.2.1 22 _ rfl).1 hS hown (hts _ (wg_t kw_1838)) (fun _ h9 => h9) dME_open_160 ?_
      refine lv_iload_n hx hb dME_open_163 rfl (lv_at hl 4 rfl) ?_
      refine va_ti (v := .int (nI 5)) hx hb (hE.2.1 22 _ rfl).2 hS (vp_in_nI (by decide) (by decide)) (by decide +kernel) dME_open_164 ?_
      refine lv_aload_n hx hb dME_open_165 rfl (lv_at hl 3 rfl) ?_
      refine ty_get (ci := 11) (C := "LatticeKeysModel$Secrets") (TT := T_ME) (N := 14) (kd := (23, 0)) hx hb hts (wg_ft i_ME) hown hK hO k_h0 (nxg hc0 k_h0 rfl) hP (fun _ h9 => h9) rfl 7 (by decide) (hts _ (wg_t kw_1386)) (fun _ h9 => h9) (cd := (3, 0, 256)) rfl dME_open_166 (fun v23 hv23 => ?_)
      obtain ⟨r24, rfl, kr23⟩ := (show ∃ r : Nat, v23 = .ref r ∧ T r = some (0, 256) from hv23)
      refine mp_v (cx := []) (wr := []) hP hD hS hA [] [] rfl rfl rfl (by decide) (va_runS (As := [.ref ct, .int (nI 1408), .int (nI 5), .ref r24]) (rest := []) F (t_ME_read_5 l g _ T xs pl hO hU hc0 ct r24 16384 1408 k_ct kr23 (by omega) (by omega)) (va_cwS 4 hts (wg_app (wg_c kw_1813 (wg_c kw_1814 (wg_c kw_11 wg_n))) kw_1815) rfl rfl rfl (by decide +kernel) ⟨by decide, by decide⟩) (pp_S (en_ok g) hP hD hS hA hE [] rfl rfl) rfl rfl hl.1 rfl (lv_room (Nat.le_of_ble_eq_true rfl)) dME_open_169 ⟨by omega, by omega⟩) (fun  pl H locs hu24 hP hD hS => ?_)
      obtain ⟨hq24, hO⟩ := hu24
      have hP : va_P g.1 vcl ([] ++ pl) _ := hP
      have hD : va_D _ ([] ++ pl) := hD
      refine W.widen (k := 0) (n := 0) (by omega) (by omega) ?_
      refine lv_aload_n hx hb dME_open_172 rfl (lv_at hl 3 rfl) ?_
      refine ty_get (ci := 11) (C := "LatticeKeysModel$Secrets") (TT := T_ME) (N := 14) (kd := (23, 0)) hx hb hts (wg_ft i_ME) hown hK hO k_h0 (nxg hc0 k_h0 rfl) hP (fun _ h9 => h9) rfl 7 (by decide) (hts _ (wg_t kw_1386)) (fun _ h9 => h9) (cd := (3, 0, 256)) rfl dME_open_173 (fun v24 hv24 => ?_)
      obtain ⟨r25, rfl, kr24⟩ := (show ∃ r : Nat, v24 = .ref r ∧ T r = some (0, 256) from hv24)
      refine va_gets hx hb (hE.2.1 22 _ rfl).1 hS hown (hts _ (wg_t kw_1838)) (fun _ h9 => h9) dME_open_176 ?_
      refine lv_iload_n hx hb dME_open_179 rfl (lv_at hl 4 rfl) ?_
      refine va_ti (v := .int (nI 5)) hx hb (hE.2.1 22 _ rfl).2 hS (vp_in_nI (by decide) (by decide)) (by decide +kernel) dME_open_180 ?_
      refine mp_v (cx := []) (wr := []) hP hD hS hA [] [] rfl rfl rfl (by decide) (va_runS (As := [.ref r25, .int (nI 5)]) (rest := []) F (t_ME_more_5 l g _ T xs pl hO hU hc0 r25 kr24) (va_cwS 2 hts (wg_app (wg_c kw_1835 (wg_c kw_1836 (wg_c kw_11 wg_n))) kw_1837) rfl rfl rfl (by decide +kernel) ⟨by decide, by decide⟩) (pp_S (en_ok g) hP hD hS hA hE [] rfl rfl) rfl rfl hl.1 rfl (lv_room (Nat.le_of_ble_eq_true rfl)) dME_open_181 ⟨by omega, by omega⟩) (fun  pl H locs hu25 hP hD hS => ?_)
      obtain ⟨hq25, hO⟩ := hu25
      have hP : va_P g.1 vcl ([] ++ pl) _ := hP
      have hD : va_D _ ([] ++ pl) := hD
      refine W.widen (k := 0) (n := 0) (by omega) (by omega) ?_
      refine lv_iconst (v := nI 0) hx hb dME_open_184 (by decide) ?_
      refine lv_istore (lv' := [(7, .int (nI 0)), (6, .int (nI 1568)), (5, .int (nI 4)), (0, .ref h0), (1, .int (nI 2)), (2, .ref dk), (3, .ref ct), (4, .ref to)]) hx hb dME_open_185 hl (by decide) rfl (fun ls hl => ?_)
      have lp22 : ∀ (n22 : Nat) (i22 : Nat) (pl : va_W) (ls : Array Slot) (H : Heap) (locs : List Loc), n22 + i22 = 256 → lv_has ls 9 [(7, .int (nI i22)), (6, .int (nI 1568)), (5, .int (nI 4)), (0, .ref h0), (1, .int (nI 2)), (2, .ref dk), (3, .ref ct), (4, .ref to)] → okx g T xs pl → va_P g.1 vcl ([] ++ pl) H → va_D A ([] ++ pl) → va_S A s.heap H locs → W p l e ({ frames := 6, cells := 0, slots := 0, locals := 154 } : Room) s m args below meth c H locs 0 0 (MQ below (va_Qv (fun (u : va_W) => (True) ∧ okx g T xs u) (po g.1 vcl A (fun (u : va_W) => [] ++ u)) A) args s 0 0 A) (F0 m 187 ls []) := by
        intro n22
        induction n22 with
        | zero =>
          intro i22 pl ls H locs hm22  hl hO hP hD hS
          refine lv_iload hx hb dME_open_187 (lv_at hl 0 rfl) ?_
          refine lv_sipush (v := nI 256) hx hb dME_open_189 (by decide) ?_
          refine mi_ge (tgt := 231) hx hb dME_open_192 (by decide) (by omega) (by omega) (fun h22 => ?_) (fun h22 => absurd h22 (by omega))
          refine lv_aload_n hx hb dME_open_231 rfl (lv_at hl 3 rfl) ?_
          refine ty_get (ci := 11) (C := "LatticeKeysModel$Secrets") (TT := T_ME) (N := 14) (kd := (23, 0)) hx hb hts (wg_ft i_ME) hown hK hO k_h0 (nxg hc0 k_h0 rfl) hP (fun _ h9 => h9) rfl 7 (by decide) (hts _ (wg_t kw_1386)) (fun _ h9 => h9) (cd := (3, 0, 256)) rfl dME_open_232 (fun v25 hv25 => ?_)
          obtain ⟨r26, rfl, kr25⟩ := (show ∃ r : Nat, v25 = .ref r ∧ T r = some (0, 256) from hv25)
          refine lv_iconst (v := nI 1) hx hb dME_open_235 (by decide) ?_
          refine mp_v (cx := []) (wr := []) hP hD hS hA [] [] rfl rfl rfl (by decide) (va_runS (As := [.ref r26, .int (nI 1)]) (rest := []) F (t_ME_less_1 l g _ T xs pl hO hU hc0 r26 kr25) (va_cwS 2 hts (wg_app (wg_c kw_1832 (wg_c kw_1833 (wg_c kw_11 wg_n))) kw_1834) rfl rfl rfl (by decide +kernel) ⟨by decide, by decide⟩) (pp_S (en_ok g) hP hD hS hA hE [] rfl rfl) rfl rfl hl.1 rfl (lv_room (Nat.le_of_ble_eq_true rfl)) dME_open_236 ⟨by omega, by omega⟩) (fun  pl H locs hu26 hP hD hS => ?_)
          obtain ⟨hq26, hO⟩ := hu26
          have hP : va_P g.1 vcl ([] ++ pl) _ := hP
          have hD : va_D _ ([] ++ pl) := hD
          refine W.widen (k := 0) (n := 0) (by omega) (by omega) ?_
          refine lv_aload_n hx hb dME_open_239 rfl (lv_at hl 3 rfl) ?_
          refine ty_get (ci := 11) (C := "LatticeKeysModel$Secrets") (TT := T_ME) (N := 14) (kd := (23, 0)) hx hb hts (wg_ft i_ME) hown hK hO k_h0 (nxg hc0 k_h0 rfl) hP (fun _ h9 => h9) rfl 7 (by decide) (hts _ (wg_t kw_1386)) (fun _ h9 => h9) (cd := (3, 0, 256)) rfl dME_open_240 (fun v26 hv26 => ?_)
          obtain ⟨r27, rfl, kr26⟩ := (show ∃ r : Nat, v26 = .ref r ∧ T r = some (0, 256) from hv26)
          refine lv_aload_n hx hb dME_open_243 rfl (lv_at hl 3 rfl) ?_
          refine ty_get (ci := 11) (C := "LatticeKeysModel$Secrets") (TT := T_ME) (N := 14) (kd := (23, 0)) hx hb hts (wg_ft i_ME) hown hK hO k_h0 (nxg hc0 k_h0 rfl) hP (fun _ h9 => h9) rfl 12 (by decide) (hts _ (wg_t kw_1391)) (fun _ h9 => h9) (cd := (3, 1, 32)) rfl dME_open_244 (fun v27 hv27 => ?_)
          obtain ⟨r28, rfl, kr27⟩ := (show ∃ r : Nat, v27 = .ref r ∧ T r = some (1, 32) from hv27)
          refine lv_iconst (v := nI 0) hx hb dME_open_247 (by decide) ?_
          refine lv_iconst (v := nI 1) hx hb dME_open_248 (by decide) ?_
          refine mp_v (cx := []) (wr := []) hP hD hS hA [] [] rfl rfl rfl (by decide) (va_runS (As := [.ref r27, .ref r28, .int (nI 0), .int (nI 1)]) (rest := []) F (t_ME_write_1 l g _ T xs pl hO hU hc0 r27 r28 32 0 kr26 kr27 (by omega) (by omega)) (va_cwS 4 hts (wg_app (wg_c kw_1685 (wg_c kw_1686 (wg_c kw_11 wg_n))) kw_1687) rfl rfl rfl (by decide +kernel) ⟨by decide, by decide⟩) (pp_S (en_ok g) hP hD hS hA hE [] rfl rfl) rfl rfl hl.1 rfl (lv_room (Nat.le_of_ble_eq_true rfl)) dME_open_249 ⟨by omega, by omega⟩) (fun  pl H locs hu27 hP hD hS => ?_)
          obtain ⟨hq27, hO⟩ := hu27
          have hP : va_P g.1 vcl ([] ++ pl) _ := hP
          have hD : va_D _ ([] ++ pl) := hD
          refine W.widen (k := 0) (n := 0) (by omega) (by omega) ?_
          refine lv_iconst (v := nI 0) hx hb dME_open_252 (by decide) ?_
          refine lv_istore (lv' := [(7, .int (nI 0)), (6, .int (nI 1568)), (5, .int (nI 4)), (0, .ref h0), (1, .int (nI 2)), (2, .ref dk), (3, .ref ct), (4, .ref to)]) hx hb dME_open_253 hl (by decide) rfl (fun ls hl => ?_)
          have lp23 : ∀ (n23 : Nat) (i23 : Nat) (pl : va_W) (ls : Array Slot) (H : Heap) (locs : List Loc), n23 + i23 = 32 → lv_has ls 9 [(7, .int (nI i23)), (6, .int (nI 1568)), (5, .int (nI 4)), (0, .ref h0), (1, .int (nI 2)), (2, .ref dk), (3, .ref ct), (4, .ref to)] → okx g T xs pl → va_P g.1 vcl ([] ++ pl) H → va_D A ([] ++ pl) → va_S A s.heap H locs → W p l e ({ frames := 6, cells := 0, slots := 0, locals := 154 } : Room) s m args below meth c H locs 0 0 (MQ below (va_Qv (fun (u : va_W) => (True) ∧ okx g T xs u) (po g.1 vcl A (fun (u : va_W) => [] ++ u)) A) args s 0 0 A) (F0 m 255 ls []) := by
            intro n23
            induction n23 with
            | zero =>
              intro i23 pl ls H locs hm23  hl hO hP hD hS
              refine lv_iload hx hb dME_open_255 (lv_at hl 0 rfl) ?_
              refine lv_bipush (v := nI 32) hx hb dME_open_257 (by decide) ?_
              refine mi_ge (tgt := 289) hx hb dME_open_259 (by decide) (by omega) (by omega) (fun h23 => ?_) (fun h23 => absurd h23 (by omega))
              refine lv_aload_n hx hb dME_open_289 rfl (lv_at hl 3 rfl) ?_
              refine lv_aload_n hx hb dME_open_290 rfl (lv_at hl 3 rfl) ?_
              refine ty_get (ci := 11) (C := "LatticeKeysModel$Secrets") (TT := T_ME) (N := 14) (kd := (23, 0)) hx hb hts (wg_ft i_ME) hown hK hO k_h0 (nxg hc0 k_h0 rfl) hP (fun _ h9 => h9) rfl 12 (by decide) (hts _ (wg_t kw_1391)) (fun _ h9 => h9) (cd := (3, 1, 32)) rfl dME_open_291 (fun v28 hv28 => ?_)
              obtain ⟨r29, rfl, kr28⟩ := (show ∃ r : Nat, v28 = .ref r ∧ T r = some (1, 32) from hv28)
              refine mp_v (cx := []) (wr := []) hP hD hS hA [] [] rfl rfl rfl (by decide) (va_runV (As := [.ref r29]) (rest := []) F (t_ME_both l g _ T xs pl hO hU hc0 hc9 h0 r29 32 k_h0 kr28 (by omega) (by omega)) (cwV 1 hts (wg_app (wg_c kw_1805 (wg_c kw_1807 (wg_c ks_67 (wg_c kw_11 wg_n)))) kw_1808) rfl rfl rfl (by decide +kernel) ⟨by decide, by decide⟩) (pp_VT (en_ok g) (ci := 11) (kd := (23, 0)) hK hO k_h0 (nxg hc0 k_h0 rfl) (fun _ h9 => ko1 h9) hP hD hS hA hE [] rfl rfl rfl) rfl rfl hl.1 rfl (lv_room (Nat.le_of_ble_eq_true rfl)) dME_open_294 ⟨by omega, by omega⟩) (fun  pl H locs hu28 hP hD hS => ?_)
              obtain ⟨hq28, hO⟩ := hu28
              have hP : va_P g.1 vcl ([] ++ pl) _ := hP
              have hD : va_D _ ([] ++ pl) := hD
              refine W.widen (k := 0) (n := 0) (by omega) (by omega) ?_
              refine lv_aload_n hx hb dME_open_297 rfl (lv_at hl 3 rfl) ?_
              refine lv_iload_n hx hb dME_open_298 rfl (lv_at hl 4 rfl) ?_
              refine lv_aload_n hx hb dME_open_299 rfl (lv_at hl 5 rfl) ?_
              refine lv_sipush (v := nI 384) hx hb dME_open_300 (by decide) ?_
              refine lv_iload hx hb dME_open_303 (lv_at hl 2 rfl) ?_
              refine mi_imul hx hb dME_open_305 ?_
              refine mi_as (show nI (384 * 4) = nI 1536 from rfl) ?_
              refine lv_aload_n hx hb dME_open_306 rfl (lv_at hl 3 rfl) ?_
              refine ty_get (ci := 11) (C := "LatticeKeysModel$Secrets") (TT := T_ME) (N := 14) (kd := (23, 0)) hx hb hts (wg_ft i_ME) hown hK hO k_h0 (nxg hc0 k_h0 rfl) hP (fun _ h9 => h9) rfl 12 (by decide) (hts _ (wg_t kw_1391)) (fun _ h9 => h9) (cd := (3, 1, 32)) rfl dME_open_307 (fun v29 hv29 => ?_)
              obtain ⟨r30, rfl, kr29⟩ := (show ∃ r : Nat, v29 = .ref r ∧ T r = some (1, 32) from hv29)
              refine lv_aload_n hx hb dME_open_310 rfl (lv_at hl 3 rfl) ?_
              refine ty_get (ci := 11) (C := "LatticeKeysModel$Secrets") (TT := T_ME) (N := 14) (kd := (23, 0)) hx hb hts (wg_ft i_ME) hown hK hO k_h0 (nxg hc0 k_h0 rfl) hP (fun _ h9 => h9) rfl 13 (by decide) (hts _ (wg_t kw_1392)) (fun _ h9 => h9) (cd := (3, 1, 1568)) rfl dME_open_311 (fun v30 hv30 => ?_)
              obtain ⟨r31, rfl, kr30⟩ := (show ∃ r : Nat, v30 = .ref r ∧ T r = some (1, 1568) from hv30)
              refine mp_v (cx := []) (wr := []) hP hD hS hA [] [] rfl rfl rfl (by decide) (va_runV (As := [.int (nI 2), .ref dk, .int (nI 1536), .ref r30, .ref r31]) (rest := []) F (t_ME_encrypt_2 l g _ T xs pl hO hU hc0 hc9 h0 dk r30 r31 4896 32 1568 1536 k_h0 k_dk kr29 kr30 (by omega) (by omega) (by omega) (by omega) (by omega) (by omega)) (cwV 5 hts (wg_app (wg_c kw_1809 (wg_c kw_1811 (wg_c ks_68 (wg_c kw_11 wg_n)))) kw_1812) rfl rfl rfl (by decide +kernel) ⟨by decide, by decide⟩) (pp_VT (en_ok g) (ci := 11) (kd := (23, 0)) hK hO k_h0 (nxg hc0 k_h0 rfl) (fun _ h9 => ko1 h9) hP hD hS hA hE [] rfl rfl rfl) rfl rfl hl.1 rfl (lv_room (Nat.le_of_ble_eq_true rfl)) dME_open_314 ⟨by omega, by omega⟩) (fun  pl H locs hu29 hP hD hS => ?_)
              obtain ⟨hq29, hO⟩ := hu29
              have hP : va_P g.1 vcl ([] ++ pl) _ := hP
              have hD : va_D _ ([] ++ pl) := hD
              refine W.widen (k := 0) (n := 0) (by omega) (by omega) ?_
              refine lv_iconst (v := nI 1) hx hb dME_open_317 (by decide) ?_
              refine lv_istore (lv' := [(7, .int (nI 1)), (6, .int (nI 1568)), (5, .int (nI 4)), (0, .ref h0), (1, .int (nI 2)), (2, .ref dk), (3, .ref ct), (4, .ref to)]) hx hb dME_open_318 hl (by decide) rfl (fun ls hl => ?_)
              refine lv_iconst (v := nI 0) hx hb dME_open_320 (by decide) ?_
              refine lv_istore (lv' := [(8, .int (nI 0)), (7, .int (nI 1)), (6, .int (nI 1568)), (5, .int (nI 4)), (0, .ref h0), (1, .int (nI 2)), (2, .ref dk), (3, .ref ct), (4, .ref to)]) hx hb dME_open_321 hl (by decide) rfl (fun ls hl => ?_)
              have lp24 : ∀ (n24 : Nat) (i24 : Nat) (z21 : Int32) (pl : va_W) (ls : Array Slot) (H : Heap) (locs : List Loc), n24 + i24 = 1568 → lv_has ls 9 [(8, .int (nI i24)), (7, .int z21), (6, .int (nI 1568)), (5, .int (nI 4)), (0, .ref h0), (2, .ref dk), (3, .ref ct), (4, .ref to)] → okx g T xs pl → va_P g.1 vcl ([] ++ pl) H → va_D A ([] ++ pl) → va_S A s.heap H locs → W p l e ({ frames := 6, cells := 0, slots := 0, locals := 154 } : Room) s m args below meth c H locs 0 0 (MQ below (va_Qv (fun (u : va_W) => (True) ∧ okx g T xs u) (po g.1 vcl A (fun (u : va_W) => [] ++ u)) A) args s 0 0 A) (F0 m 323 ls []) := by
                intro n24
                induction n24 with
                | zero =>
                  intro i24 z21 pl ls H locs hm24  hl hO hP hD hS
                  refine lv_iload hx hb dME_open_323 (lv_at hl 0 rfl) ?_
                  refine lv_iload hx hb dME_open_325 (lv_at hl 2 rfl) ?_
                  refine mi_ge (tgt := 360) hx hb dME_open_327 (by decide) (by omega) (by omega) (fun h24 => ?_) (fun h24 => absurd h24 (by omega))
                  refine lv_iconst (v := nI 0) hx hb dME_open_360 (by decide) ?_
                  refine lv_istore (lv' := [(8, .int (nI 0)), (7, .int z21), (6, .int (nI 1568)), (5, .int (nI 4)), (0, .ref h0), (2, .ref dk), (3, .ref ct), (4, .ref to)]) hx hb dME_open_361 hl (by decide) rfl (fun ls hl => ?_)
                  have lp25 : ∀ (n25 : Nat) (i25 : Nat) (pl : va_W) (ls : Array Slot) (H : Heap) (locs : List Loc), n25 + i25 = 32 → lv_has ls 9 [(8, .int (nI i25)), (7, .int z21), (6, .int (nI 1568)), (5, .int (nI 4)), (0, .ref h0), (2, .ref dk), (3, .ref ct), (4, .ref to)] → okx g T xs pl → va_P g.1 vcl ([] ++ pl) H → va_D A ([] ++ pl) → va_S A s.heap H locs → W p l e ({ frames := 6, cells := 0, slots := 0, locals := 154 } : Room) s m args below meth c H locs 0 0 (MQ below (va_Qv (fun (u : va_W) => (True) ∧ okx g T xs u) (po g.1 vcl A (fun (u : va_W) => [] ++ u)) A) args s 0 0 A) (F0 m 363 ls []) := by
                    intro n25
                    induction n25 with
                    | zero =>
                      intro i25 pl ls H locs hm25  hl hO hP hD hS
                      refine lv_iload hx hb dME_open_363 (lv_at hl 0 rfl) ?_
                      refine lv_bipush (v := nI 32) hx hb dME_open_365 (by decide) ?_
                      refine mi_ge (tgt := 388) hx hb dME_open_367 (by decide) (by omega) (by omega) (fun h25 => ?_) (fun h25 => absurd h25 (by omega))
                      refine lv_iload hx hb dME_open_388 (lv_at hl 1 rfl) ?_
                      refine lv_if_eq (tgt := 394) hx hb dME_open_390 (by decide) (fun h26 => ?_) (fun h26 => ?_)
                      · refine lv_aload_n hx hb dME_open_394 rfl (lv_at hl 4 rfl) ?_
                        refine ty_get (ci := 11) (C := "LatticeKeysModel$Secrets") (TT := T_ME) (N := 14) (kd := (23, 0)) hx hb hts (wg_ft i_ME) hown hK hO k_h0 (nxg hc0 k_h0 rfl) hP (fun _ h9 => h9) rfl 0 (by decide) (hts _ (wg_t kw_1379)) (fun _ h9 => h9) (cd := (3, 20, 0)) rfl dME_open_395 (fun v31 hv31 => ?_)
                        obtain ⟨r32, rfl, kr31⟩ := (show ∃ r : Nat, v31 = .ref r ∧ T r = some (20, 0) from hv31)
                        obtain ⟨e21, pl, hP, hD, hk21, hO⟩ := open1 hP hD hO kr31 (nxg hc9 kr31 rfl)
                        obtain ⟨am21, am22, am23, am24, am25, rt21, ps21, x21, rfl, km21, km22, km23, km24, km25, hr21, hr22, hr23⟩ := hk21
                        obtain ⟨e22, pl, hP, hD, hk22, hO⟩ := open1 hP hD hO km21 (nmc (knd_ne km21 kr31 (by decide)) (nxg hc9 km21 rfl))
                        obtain ⟨f21, rfl⟩ := hk22
                        obtain ⟨e23, pl, hP, hD, hk23, hO⟩ := open1 hP hD hO km22 (nmc (knd_ne km22 km21 (by decide)) (nmc (knd_ne km22 kr31 (by decide)) (nxg hc9 km22 rfl)))
                        obtain ⟨f22, rfl⟩ := hk23
                        obtain ⟨e24, pl, hP, hD, hk24, hO⟩ := open1 hP hD hO km23 (nmc (knd_ne km23 km22 (by decide)) (nmc (knd_ne km23 km21 (by decide)) (nmc (knd_ne km23 kr31 (by decide)) (nxg hc9 km23 rfl))))
                        obtain ⟨f23, rfl⟩ := hk24
                        obtain ⟨e25, pl, hP, hD, hk25, hO⟩ := open1 hP hD hO km24 (nmc (knd_ne km24 km23 (by decide)) (nmc (knd_ne km24 km22 (by decide)) (nmc (knd_ne km24 km21 (by decide)) (nmc (knd_ne km24 kr31 (by decide)) (nxg hc9 km24 rfl)))))
                        obtain ⟨f24, rfl⟩ := hk25
                        obtain ⟨e26, pl, hP, hD, hk26, hO⟩ := open1 hP hD hO km25 (nmc (knd_ne km25 km24 (by decide)) (nmc (knd_ne km25 km23 (by decide)) (nmc (knd_ne km25 km22 (by decide)) (nmc (knd_ne km25 km21 (by decide)) (nmc (knd_ne km25 kr31 (by decide)) (nxg hc9 km25 rfl))))))
                        obtain ⟨f25, rfl⟩ := hk26
                        have hP : va_P g.1 vcl ([(r32, .inr (9, [.ref am21, .ref am22, .ref am23, .ref am24, .ref am25, .int (nI rt21), .int (nI ps21), .int x21])), (am21, .inl (g.2.1 2, 25, .inr (.inl f21))), (am22, .inl (g.2.1 2, 25, .inr (.inl f22))), (am23, .inl (g.2.1 2, 5, .inr (.inl f23))), (am24, .inl (g.2.1 2, 24, .inr (.inl f24))), (am25, .inl (g.2.1 0, 25, .inl f25))] ++ pl) _ := hP
                        have hD : va_D _ ([(r32, .inr (9, [.ref am21, .ref am22, .ref am23, .ref am24, .ref am25, .int (nI rt21), .int (nI ps21), .int x21])), (am21, .inl (g.2.1 2, 25, .inr (.inl f21))), (am22, .inl (g.2.1 2, 25, .inr (.inl f22))), (am23, .inl (g.2.1 2, 5, .inr (.inl f23))), (am24, .inl (g.2.1 2, 24, .inr (.inl f24))), (am25, .inl (g.2.1 0, 25, .inl f25))] ++ pl) := hD
                        refine mp_v (cx := [(r32, .inr (9, [.ref am21, .ref am22, .ref am23, .ref am24, .ref am25, .int (nI rt21), .int (nI ps21), .int x21])), (am21, .inl (g.2.1 2, 25, .inr (.inl f21))), (am22, .inl (g.2.1 2, 25, .inr (.inl f22))), (am23, .inl (g.2.1 2, 5, .inr (.inl f23))), (am24, .inl (g.2.1 2, 24, .inr (.inl f24))), (am25, .inl (g.2.1 0, 25, .inl f25))]) (wr := []) hP hD hS hA [0, 1, 2, 3, 4, 5] [] rfl rfl rfl (by decide) (va_runV (As := []) (rest := []) F (t_MS_shake l g _ T (am25 :: (am24 :: (am23 :: (am22 :: (am21 :: (r32 :: xs)))))) pl hO hU  r32 am21 am22 am23 am24 am25 rt21 ps21 x21 f21 f22 f23 f24 f25) (cwV 0 hts (wg_app (wg_c kw_1660 (wg_c kw_1661 (wg_c kw_1662 (wg_c kw_10 wg_n)))) kw_1663) rfl rfl rfl (by decide +kernel) ⟨by decide, by decide⟩) (pp_V (en_ok g) (q0 := 0) hK hP hD hS hA hE [0, 1, 2, 3, 4, 5] rfl rfl rfl rfl) rfl rfl hl.1 rfl (lv_room (Nat.le_of_ble_eq_true rfl)) dME_open_398 ⟨by omega, by omega⟩) (fun  u21 H locs hu30 hP hD hS => ?_)
                        obtain ⟨u22, pl⟩ := u21
                        obtain ⟨hq30, hO⟩ := hu30
                        obtain ⟨ps22, f26, f27, f28⟩ := u22
                        have hP : va_P g.1 vcl ([(r32, .inr (9, [.ref am21, .ref am22, .ref am23, .ref am24, .ref am25, .int (nI 136), .int (nI ps22), .int (nI 31)])), (am21, .inl (g.2.1 2, 25, .inr (.inl f26))), (am22, .inl (g.2.1 2, 25, .inr (.inl f27))), (am23, .inl (g.2.1 2, 5, .inr (.inl f28))), (am24, .inl (g.2.1 2, 24, .inr (.inl f24))), (am25, .inl (g.2.1 0, 25, .inl f25))] ++ pl) _ := hP
                        have hD : va_D _ ([(r32, .inr (9, [.ref am21, .ref am22, .ref am23, .ref am24, .ref am25, .int (nI 136), .int (nI ps22), .int (nI 31)])), (am21, .inl (g.2.1 2, 25, .inr (.inl f26))), (am22, .inl (g.2.1 2, 25, .inr (.inl f27))), (am23, .inl (g.2.1 2, 5, .inr (.inl f28))), (am24, .inl (g.2.1 2, 24, .inr (.inl f24))), (am25, .inl (g.2.1 0, 25, .inl f25))] ++ pl) := hD
                        have hq30 : ps22 ≤ 136 := hq30
                        refine W.widen (k := 0) (n := 0) (by omega) (by omega) ?_
                        refine lv_aload_n hx hb dME_open_401 rfl (lv_at hl 4 rfl) ?_
                        refine ty_get (ci := 11) (C := "LatticeKeysModel$Secrets") (TT := T_ME) (N := 14) (kd := (23, 0)) hx hb hts (wg_ft i_ME) hown hK hO k_h0 (nxg (clo_cons (clo_cons (clo_cons (clo_cons (clo_cons (clo_cons hc0 kr31 (by decide)) km21 (by decide)) km22 (by decide)) km23 (by decide)) km24 (by decide)) km25 (by decide)) k_h0 rfl) hP (fun _ h9 => h9) rfl 0 (by decide) (hts _ (wg_t kw_1379)) (fun _ h9 => h9) (cd := (3, 20, 0)) rfl dME_open_402 (fun v32 hv32 => ?_)
                        obtain ⟨r33, rfl, kr32⟩ := (show ∃ r : Nat, v32 = .ref r ∧ T r = some (20, 0) from hv32)
                        obtain rfl : r32 = r33 := hU _ _ _ (by decide) kr31 kr32
                        refine lv_aload_n hx hb dME_open_405 rfl (lv_at hl 5 rfl) ?_
                        refine lv_sipush (v := nI 768) hx hb dME_open_406 (by decide) ?_
                        refine lv_iload hx hb dME_open_409 (lv_at hl 3 rfl) ?_
                        refine mi_imul hx hb dME_open_411 ?_
                        refine mi_as (show nI (768 * 4) = nI 3072 from rfl) ?_
                        refine lv_bipush (v := nI 64) hx hb dME_open_412 (by decide) ?_
                        refine mi_iadd hx hb dME_open_414 ?_
                        refine mi_as (show nI (3072 + 64) = nI 3136 from rfl) ?_
                        refine lv_bipush (v := nI 32) hx hb dME_open_415 (by decide) ?_
                        refine mp_v (cx := [(r32, .inr (9, [.ref am21, .ref am22, .ref am23, .ref am24, .ref am25, .int (nI 136), .int (nI ps22), .int (nI 31)])), (am21, .inl (g.2.1 2, 25, .inr (.inl f26))), (am22, .inl (g.2.1 2, 25, .inr (.inl f27))), (am23, .inl (g.2.1 2, 5, .inr (.inl f28))), (am24, .inl (g.2.1 2, 24, .inr (.inl f24))), (am25, .inl (g.2.1 0, 25, .inl f25))]) (wr := []) hP hD hS hA [0, 1, 2, 3, 4, 5] [] rfl rfl rfl (by decide) (va_runV (As := [.ref dk, .int (nI 3136), .int (nI 32)]) (rest := []) F (t_MS_puts l g _ T (am25 :: (am24 :: (am23 :: (am22 :: (am21 :: (r32 :: xs)))))) pl hO hU (clo_cons (clo_cons (clo_cons (clo_cons (clo_cons (clo_cons hc0 kr31 (by decide)) km21 (by decide)) km22 (by decide)) km23 (by decide)) km24 (by decide)) km25 (by decide)) dk 4896 3136 32 r32 am21 am22 am23 am24 am25 136 ps22 (nI 31) f26 f27 f28 f24 f25 k_dk (by omega) (by omega) (by omega) (by omega)) (cwV 3 hts (wg_app (wg_c kw_1611 (wg_c kw_1612 (wg_c kw_1613 (wg_c kw_10 wg_n)))) kw_1614) rfl rfl rfl (by decide +kernel) ⟨by decide, by decide⟩) (pp_V (en_ok g) (q0 := 0) hK hP hD hS hA hE [0, 1, 2, 3, 4, 5] rfl rfl rfl rfl) rfl rfl hl.1 rfl (lv_room (Nat.le_of_ble_eq_true rfl)) dME_open_417 ⟨by omega, by omega⟩) (fun  u23 H locs hu31 hP hD hS => ?_)
                        obtain ⟨u24, pl⟩ := u23
                        obtain ⟨hq31, hO⟩ := hu31
                        obtain ⟨ps23, f29, f30, f31⟩ := u24
                        have hP : va_P g.1 vcl ([(r32, .inr (9, [.ref am21, .ref am22, .ref am23, .ref am24, .ref am25, .int (nI 136), .int (nI ps23), .int (nI 31)])), (am21, .inl (g.2.1 2, 25, .inr (.inl f29))), (am22, .inl (g.2.1 2, 25, .inr (.inl f30))), (am23, .inl (g.2.1 2, 5, .inr (.inl f31))), (am24, .inl (g.2.1 2, 24, .inr (.inl f24))), (am25, .inl (g.2.1 0, 25, .inl f25))] ++ pl) _ := hP
                        have hD : va_D _ ([(r32, .inr (9, [.ref am21, .ref am22, .ref am23, .ref am24, .ref am25, .int (nI 136), .int (nI ps23), .int (nI 31)])), (am21, .inl (g.2.1 2, 25, .inr (.inl f29))), (am22, .inl (g.2.1 2, 25, .inr (.inl f30))), (am23, .inl (g.2.1 2, 5, .inr (.inl f31))), (am24, .inl (g.2.1 2, 24, .inr (.inl f24))), (am25, .inl (g.2.1 0, 25, .inl f25))] ++ pl) := hD
                        have hq31 : ps23 ≤ 136 := hq31
                        refine W.widen (k := 0) (n := 0) (by omega) (by omega) ?_
                        refine lv_aload_n hx hb dME_open_420 rfl (lv_at hl 4 rfl) ?_
                        refine ty_get (ci := 11) (C := "LatticeKeysModel$Secrets") (TT := T_ME) (N := 14) (kd := (23, 0)) hx hb hts (wg_ft i_ME) hown hK hO k_h0 (nxg (clo_cons (clo_cons (clo_cons (clo_cons (clo_cons (clo_cons hc0 kr31 (by decide)) km21 (by decide)) km22 (by decide)) km23 (by decide)) km24 (by decide)) km25 (by decide)) k_h0 rfl) hP (fun _ h9 => h9) rfl 0 (by decide) (hts _ (wg_t kw_1379)) (fun _ h9 => h9) (cd := (3, 20, 0)) rfl dME_open_421 (fun v33 hv33 => ?_)
                        obtain ⟨r34, rfl, kr33⟩ := (show ∃ r : Nat, v33 = .ref r ∧ T r = some (20, 0) from hv33)
                        obtain rfl : r32 = r34 := hU _ _ _ (by decide) kr31 kr33
                        refine lv_aload_n hx hb dME_open_424 rfl (lv_at hl 6 rfl) ?_
                        refine lv_iconst (v := nI 0) hx hb dME_open_425 (by decide) ?_
                        refine lv_iload hx hb dME_open_426 (lv_at hl 2 rfl) ?_
                        refine mp_v (cx := [(r32, .inr (9, [.ref am21, .ref am22, .ref am23, .ref am24, .ref am25, .int (nI 136), .int (nI ps23), .int (nI 31)])), (am21, .inl (g.2.1 2, 25, .inr (.inl f29))), (am22, .inl (g.2.1 2, 25, .inr (.inl f30))), (am23, .inl (g.2.1 2, 5, .inr (.inl f31))), (am24, .inl (g.2.1 2, 24, .inr (.inl f24))), (am25, .inl (g.2.1 0, 25, .inl f25))]) (wr := []) hP hD hS hA [0, 1, 2, 3, 4, 5] [] rfl rfl rfl (by decide) (va_runV (As := [.ref ct, .int (nI 0), .int (nI 1568)]) (rest := []) F (t_MS_puts l g _ T (am25 :: (am24 :: (am23 :: (am22 :: (am21 :: (r32 :: xs)))))) pl hO hU (clo_cons (clo_cons (clo_cons (clo_cons (clo_cons (clo_cons hc0 kr31 (by decide)) km21 (by decide)) km22 (by decide)) km23 (by decide)) km24 (by decide)) km25 (by decide)) ct 16384 0 1568 r32 am21 am22 am23 am24 am25 136 ps23 (nI 31) f29 f30 f31 f24 f25 k_ct (by omega) (by omega) (by omega) (by omega)) (cwV 3 hts (wg_app (wg_c kw_1611 (wg_c kw_1612 (wg_c kw_1613 (wg_c kw_10 wg_n)))) kw_1614) rfl rfl rfl (by decide +kernel) ⟨by decide, by decide⟩) (pp_V (en_ok g) (q0 := 0) hK hP hD hS hA hE [0, 1, 2, 3, 4, 5] rfl rfl rfl rfl) rfl rfl hl.1 rfl (lv_room (Nat.le_of_ble_eq_true rfl)) dME_open_428 ⟨by omega, by omega⟩) (fun  u25 H locs hu32 hP hD hS => ?_)
                        obtain ⟨u26, pl⟩ := u25
                        obtain ⟨hq32, hO⟩ := hu32
                        obtain ⟨ps24, f32, f33, f34⟩ := u26
                        have hP : va_P g.1 vcl ([(r32, .inr (9, [.ref am21, .ref am22, .ref am23, .ref am24, .ref am25, .int (nI 136), .int (nI ps24), .int (nI 31)])), (am21, .inl (g.2.1 2, 25, .inr (.inl f32))), (am22, .inl (g.2.1 2, 25, .inr (.inl f33))), (am23, .inl (g.2.1 2, 5, .inr (.inl f34))), (am24, .inl (g.2.1 2, 24, .inr (.inl f24))), (am25, .inl (g.2.1 0, 25, .inl f25))] ++ pl) _ := hP
                        have hD : va_D _ ([(r32, .inr (9, [.ref am21, .ref am22, .ref am23, .ref am24, .ref am25, .int (nI 136), .int (nI ps24), .int (nI 31)])), (am21, .inl (g.2.1 2, 25, .inr (.inl f32))), (am22, .inl (g.2.1 2, 25, .inr (.inl f33))), (am23, .inl (g.2.1 2, 5, .inr (.inl f34))), (am24, .inl (g.2.1 2, 24, .inr (.inl f24))), (am25, .inl (g.2.1 0, 25, .inl f25))] ++ pl) := hD
                        have hq32 : ps24 ≤ 136 := hq32
                        refine W.widen (k := 0) (n := 0) (by omega) (by omega) ?_
                        refine lv_aload_n hx hb dME_open_431 rfl (lv_at hl 4 rfl) ?_
                        refine ty_get (ci := 11) (C := "LatticeKeysModel$Secrets") (TT := T_ME) (N := 14) (kd := (23, 0)) hx hb hts (wg_ft i_ME) hown hK hO k_h0 (nxg (clo_cons (clo_cons (clo_cons (clo_cons (clo_cons (clo_cons hc0 kr31 (by decide)) km21 (by decide)) km22 (by decide)) km23 (by decide)) km24 (by decide)) km25 (by decide)) k_h0 rfl) hP (fun _ h9 => h9) rfl 0 (by decide) (hts _ (wg_t kw_1379)) (fun _ h9 => h9) (cd := (3, 20, 0)) rfl dME_open_432 (fun v34 hv34 => ?_)
                        obtain ⟨r35, rfl, kr34⟩ := (show ∃ r : Nat, v34 = .ref r ∧ T r = some (20, 0) from hv34)
                        obtain rfl : r32 = r35 := hU _ _ _ (by decide) kr31 kr34
                        refine mp_v (cx := [(r32, .inr (9, [.ref am21, .ref am22, .ref am23, .ref am24, .ref am25, .int (nI 136), .int (nI ps24), .int (nI 31)])), (am21, .inl (g.2.1 2, 25, .inr (.inl f32))), (am22, .inl (g.2.1 2, 25, .inr (.inl f33))), (am23, .inl (g.2.1 2, 5, .inr (.inl f34))), (am24, .inl (g.2.1 2, 24, .inr (.inl f24))), (am25, .inl (g.2.1 0, 25, .inl f25))]) (wr := []) hP hD hS hA [0, 1, 2, 3, 4, 5] [] rfl rfl rfl (by decide) (va_runV (As := []) (rest := []) F (t_MS_end l g _ T (am25 :: (am24 :: (am23 :: (am22 :: (am21 :: (r32 :: xs)))))) pl hO hU  r32 am21 am22 am23 am24 am25 136 ps24 (nI 31) f32 f33 f34 f24 f25 (by omega) (by omega)) (cwV 0 hts (wg_app (wg_c kw_1633 (wg_c kw_1634 (wg_c kw_1635 (wg_c kw_10 wg_n)))) kw_1636) rfl rfl rfl (by decide +kernel) ⟨by decide, by decide⟩) (pp_V (en_ok g) (q0 := 0) hK hP hD hS hA hE [0, 1, 2, 3, 4, 5] rfl rfl rfl rfl) rfl rfl hl.1 rfl (lv_room (Nat.le_of_ble_eq_true rfl)) dME_open_435 ⟨by omega, by omega⟩) (fun  u27 H locs hu33 hP hD hS => ?_)
                        obtain ⟨u28, pl⟩ := u27
                        obtain ⟨hq33, hO⟩ := hu33
                        obtain ⟨ps25, f35, f36, f37⟩ := u28
                        have hP : va_P g.1 vcl ([(r32, .inr (9, [.ref am21, .ref am22, .ref am23, .ref am24, .ref am25, .int (nI 136), .int (nI ps25), .int (nI 31)])), (am21, .inl (g.2.1 2, 25, .inr (.inl f35))), (am22, .inl (g.2.1 2, 25, .inr (.inl f36))), (am23, .inl (g.2.1 2, 5, .inr (.inl f37))), (am24, .inl (g.2.1 2, 24, .inr (.inl f24))), (am25, .inl (g.2.1 0, 25, .inl f25))] ++ pl) _ := hP
                        have hD : va_D _ ([(r32, .inr (9, [.ref am21, .ref am22, .ref am23, .ref am24, .ref am25, .int (nI 136), .int (nI ps25), .int (nI 31)])), (am21, .inl (g.2.1 2, 25, .inr (.inl f35))), (am22, .inl (g.2.1 2, 25, .inr (.inl f36))), (am23, .inl (g.2.1 2, 5, .inr (.inl f37))), (am24, .inl (g.2.1 2, 24, .inr (.inl f24))), (am25, .inl (g.2.1 0, 25, .inl f25))] ++ pl) := hD
                        have hq33 : ps25 ≤ 136 := hq33
                        refine W.widen (k := 0) (n := 0) (by omega) (by omega) ?_
                        refine lv_aload_n hx hb dME_open_438 rfl (lv_at hl 4 rfl) ?_
                        refine ty_get (ci := 11) (C := "LatticeKeysModel$Secrets") (TT := T_ME) (N := 14) (kd := (23, 0)) hx hb hts (wg_ft i_ME) hown hK hO k_h0 (nxg (clo_cons (clo_cons (clo_cons (clo_cons (clo_cons (clo_cons hc0 kr31 (by decide)) km21 (by decide)) km22 (by decide)) km23 (by decide)) km24 (by decide)) km25 (by decide)) k_h0 rfl) hP (fun _ h9 => h9) rfl 0 (by decide) (hts _ (wg_t kw_1379)) (fun _ h9 => h9) (cd := (3, 20, 0)) rfl dME_open_439 (fun v35 hv35 => ?_)
                        obtain ⟨r36, rfl, kr35⟩ := (show ∃ r : Nat, v35 = .ref r ∧ T r = some (20, 0) from hv35)
                        obtain rfl : r32 = r36 := hU _ _ _ (by decide) kr31 kr35
                        refine lv_aload hx hb dME_open_442 (lv_at hl 7 rfl) ?_
                        refine lv_iconst (v := nI 0) hx hb dME_open_444 (by decide) ?_
                        refine lv_bipush (v := nI 32) hx hb dME_open_445 (by decide) ?_
                        refine mp_v (cx := [(r32, .inr (9, [.ref am21, .ref am22, .ref am23, .ref am24, .ref am25, .int (nI 136), .int (nI ps25), .int (nI 31)])), (am21, .inl (g.2.1 2, 25, .inr (.inl f35))), (am22, .inl (g.2.1 2, 25, .inr (.inl f36))), (am23, .inl (g.2.1 2, 5, .inr (.inl f37))), (am24, .inl (g.2.1 2, 24, .inr (.inl f24))), (am25, .inl (g.2.1 0, 25, .inl f25))]) (wr := []) hP hD hS hA [0, 1, 2, 3, 4, 5] [] rfl rfl rfl (by decide) (va_runV (As := [.ref to, .int (nI 0), .int (nI 32)]) (rest := []) F (t_MS_take l g _ T (am25 :: (am24 :: (am23 :: (am22 :: (am21 :: (r32 :: xs)))))) pl hO hU (clo_cons (clo_cons (clo_cons (clo_cons (clo_cons (clo_cons hc0 kr31 (by decide)) km21 (by decide)) km22 (by decide)) km23 (by decide)) km24 (by decide)) km25 (by decide)) to 8192 0 32 r32 am21 am22 am23 am24 am25 136 ps25 (nI 31) f35 f36 f37 f24 f25 k_to (by omega) (by omega) (by omega) (by omega)) (cwV 3 hts (wg_app (wg_c kw_1637 (wg_c kw_1638 (wg_c kw_1639 (wg_c kw_10 wg_n)))) kw_1640) rfl rfl rfl (by decide +kernel) ⟨by decide, by decide⟩) (pp_V (en_ok g) (q0 := 0) hK hP hD hS hA hE [0, 1, 2, 3, 4, 5] rfl rfl rfl rfl) rfl rfl hl.1 rfl (lv_room (Nat.le_of_ble_eq_true rfl)) dME_open_447 ⟨by omega, by omega⟩) (fun  u29 H locs hu34 hP hD hS => ?_)
                        obtain ⟨u30, pl⟩ := u29
                        obtain ⟨hq34, hO⟩ := hu34
                        obtain ⟨ps26, f38, f39, f40⟩ := u30
                        have hP : va_P g.1 vcl ([(r32, .inr (9, [.ref am21, .ref am22, .ref am23, .ref am24, .ref am25, .int (nI 136), .int (nI ps26), .int (nI 31)])), (am21, .inl (g.2.1 2, 25, .inr (.inl f38))), (am22, .inl (g.2.1 2, 25, .inr (.inl f39))), (am23, .inl (g.2.1 2, 5, .inr (.inl f40))), (am24, .inl (g.2.1 2, 24, .inr (.inl f24))), (am25, .inl (g.2.1 0, 25, .inl f25))] ++ pl) _ := hP
                        have hD : va_D _ ([(r32, .inr (9, [.ref am21, .ref am22, .ref am23, .ref am24, .ref am25, .int (nI 136), .int (nI ps26), .int (nI 31)])), (am21, .inl (g.2.1 2, 25, .inr (.inl f38))), (am22, .inl (g.2.1 2, 25, .inr (.inl f39))), (am23, .inl (g.2.1 2, 5, .inr (.inl f40))), (am24, .inl (g.2.1 2, 24, .inr (.inl f24))), (am25, .inl (g.2.1 0, 25, .inl f25))] ++ pl) := hD
                        have hq34 : ps26 ≤ 136 := hq34
                        refine W.widen (k := 0) (n := 0) (by omega) (by omega) ?_
                        have hO := close1 (e := .inl (g.2.1 0, 25, .inl f25)) hO km25 ⟨_, rfl⟩
                        have hO := close1 (e := .inl (g.2.1 2, 24, .inr (.inl f24))) hO km24 ⟨_, rfl⟩
                        have hO := close1 (e := .inl (g.2.1 2, 5, .inr (.inl f40))) hO km23 ⟨_, rfl⟩
                        have hO := close1 (e := .inl (g.2.1 2, 25, .inr (.inl f39))) hO km22 ⟨_, rfl⟩
                        have hO := close1 (e := .inl (g.2.1 2, 25, .inr (.inl f38))) hO km21 ⟨_, rfl⟩
                        have hO := close1 (e := .inr (9, [.ref am21, .ref am22, .ref am23, .ref am24, .ref am25, .int (nI 136), .int (nI ps26), .int (nI 31)])) hO kr31 ⟨_, _, _, _, _, _, _, _, rfl, km21, km22, km23, km24, km25, by omega, by omega, by omega⟩
                        have hO : okx g T xs ((r32, .inr (9, [.ref am21, .ref am22, .ref am23, .ref am24, .ref am25, .int (nI 136), .int (nI ps26), .int (nI 31)])) :: (am21, .inl (g.2.1 2, 25, .inr (.inl f38))) :: (am22, .inl (g.2.1 2, 25, .inr (.inl f39))) :: (am23, .inl (g.2.1 2, 5, .inr (.inl f40))) :: (am24, .inl (g.2.1 2, 24, .inr (.inl f24))) :: (am25, .inl (g.2.1 0, 25, .inl f25)) :: pl) := hO
                        have hP : va_P g.1 vcl ([] ++ ((r32, .inr (9, [.ref am21, .ref am22, .ref am23, .ref am24, .ref am25, .int (nI 136), .int (nI ps26), .int (nI 31)])) :: (am21, .inl (g.2.1 2, 25, .inr (.inl f38))) :: (am22, .inl (g.2.1 2, 25, .inr (.inl f39))) :: (am23, .inl (g.2.1 2, 5, .inr (.inl f40))) :: (am24, .inl (g.2.1 2, 24, .inr (.inl f24))) :: (am25, .inl (g.2.1 0, 25, .inl f25)) :: pl)) _ := hP
                        have hD : va_D _ ([] ++ ((r32, .inr (9, [.ref am21, .ref am22, .ref am23, .ref am24, .ref am25, .int (nI 136), .int (nI ps26), .int (nI 31)])) :: (am21, .inl (g.2.1 2, 25, .inr (.inl f38))) :: (am22, .inl (g.2.1 2, 25, .inr (.inl f39))) :: (am23, .inl (g.2.1 2, 5, .inr (.inl f40))) :: (am24, .inl (g.2.1 2, 24, .inr (.inl f24))) :: (am25, .inl (g.2.1 0, 25, .inl f25)) :: pl)) := hD
                        generalize ((r32, .inr (9, [.ref am21, .ref am22, .ref am23, .ref am24, .ref am25, .int (nI 136), .int (nI ps26), .int (nI 31)])) :: (am21, .inl (g.2.1 2, 25, .inr (.inl f38))) :: (am22, .inl (g.2.1 2, 25, .inr (.inl f39))) :: (am23, .inl (g.2.1 2, 5, .inr (.inl f40))) :: (am24, .inl (g.2.1 2, 24, .inr (.inl f24))) :: (am25, .inl (g.2.1 0, 25, .inl f25)) :: pl) = pl at hO hP hD
                        exact mp_vret hx hb hr hlk hP hD hS pl ⟨trivial, hO⟩ [] rfl rfl rfl (by omega) (by omega) dME_open_450
                      · exact mp_vret hx hb hr hlk hP hD hS pl ⟨trivial, hO⟩ [] rfl rfl rfl (by omega) (by omega) dME_open_393
                    | succ n25 ih25 =>
                      intro i25 pl ls H locs hm25  hl hO hP hD hS
                      refine lv_iload hx hb dME_open_363 (lv_at hl 0 rfl) ?_
                      refine lv_bipush (v := nI 32) hx hb dME_open_365 (by decide) ?_
                      refine mi_ge (tgt := 388) hx hb dME_open_367 (by decide) (by omega) (by omega) (fun h27 => absurd h27 (by omega)) (fun h27 => ?_)
                      refine lv_aload hx hb dME_open_370 (lv_at hl 7 rfl) ?_
                      refine lv_iload hx hb dME_open_372 (lv_at hl 0 rfl) ?_
                      refine lv_aload_n hx hb dME_open_374 rfl (lv_at hl 4 rfl) ?_
                      refine ty_get (ci := 11) (C := "LatticeKeysModel$Secrets") (TT := T_ME) (N := 14) (kd := (23, 0)) hx hb hts (wg_ft i_ME) hown hK hO k_h0 (nxg hc0 k_h0 rfl) hP (fun _ h9 => h9) rfl 9 (by decide) (hts _ (wg_t kw_1388)) (fun _ h9 => h9) (cd := (3, 1, 64)) rfl dME_open_375 (fun v36 hv36 => ?_)
                      obtain ⟨r37, rfl, kr36⟩ := (show ∃ r : Nat, v36 = .ref r ∧ T r = some (1, 64) from hv36)
                      refine lv_iload hx hb dME_open_378 (lv_at hl 0 rfl) ?_
                      refine ty_bald hx hb hK hO kr36 (nxg hc0 kr36 rfl) hP (vp_in_nI (by omega) (by decide)) dME_open_380 (fun z22 => ?_)
                      refine ty_bast hx hb hK hO k_to (nxg hc0 k_to rfl) hP hD hS (vp_in_nI (by omega) (by decide)) dME_open_381 (fun pl H locs hO hP hD hS => ?_)
                      refine mi_iinc (k := 0) (x := i25) (d := 1) (y := i25 + 1) (lv' := [(8, .int (nI (i25 + 1))), (7, .int z21), (6, .int (nI 1568)), (5, .int (nI 4)), (0, .ref h0), (2, .ref dk), (3, .ref ct), (4, .ref to)]) hx hb dME_open_382 hl rfl (by decide) rfl (by decide) rfl (fun ls hl => ?_)
                      refine lv_goto (tgt := 363) hx hb dME_open_385 (by decide) ?_
                      exact ih25 (i25 + 1) pl ls H locs (by omega) (lv_sub hl [0, 1, 2, 3, 4, 5, 6, 7] rfl) hO hP hD hS
                  exact lp25 32 0 pl ls _ _ (by omega) (lv_sub hl [0, 1, 2, 3, 4, 5, 6, 7] rfl) hO hP hD hS
                | succ n24 ih24 =>
                  intro i24 z21 pl ls H locs hm24  hl hO hP hD hS
                  refine lv_iload hx hb dME_open_323 (lv_at hl 0 rfl) ?_
                  refine lv_iload hx hb dME_open_325 (lv_at hl 2 rfl) ?_
                  refine mi_ge (tgt := 360) hx hb dME_open_327 (by decide) (by omega) (by omega) (fun h28 => absurd h28 (by omega)) (fun h28 => ?_)
                  refine lv_iload hx hb dME_open_330 (lv_at hl 1 rfl) ?_
                  refine lv_aload_n hx hb dME_open_332 rfl (lv_at hl 4 rfl) ?_
                  refine ty_get (ci := 11) (C := "LatticeKeysModel$Secrets") (TT := T_ME) (N := 14) (kd := (23, 0)) hx hb hts (wg_ft i_ME) hown hK hO k_h0 (nxg hc0 k_h0 rfl) hP (fun _ h9 => h9) rfl 13 (by decide) (hts _ (wg_t kw_1392)) (fun _ h9 => h9) (cd := (3, 1, 1568)) rfl dME_open_333 (fun v37 hv37 => ?_)
                  obtain ⟨r38, rfl, kr37⟩ := (show ∃ r : Nat, v37 = .ref r ∧ T r = some (1, 1568) from hv37)
                  refine lv_iload hx hb dME_open_336 (lv_at hl 0 rfl) ?_
                  refine ty_bald hx hb hK hO kr37 (nxg hc0 kr37 rfl) hP (vp_in_nI (by omega) (by decide)) dME_open_338 (fun z23 => ?_)
                  refine lv_aload_n hx hb dME_open_339 rfl (lv_at hl 6 rfl) ?_
                  refine lv_iload hx hb dME_open_340 (lv_at hl 0 rfl) ?_
                  refine ty_bald hx hb hK hO k_ct (nxg hc0 k_ct rfl) hP (vp_in_nI (by omega) (by decide)) dME_open_342 (fun z24 => ?_)
                  refine lv_icmp_ne (tgt := 350) hx hb dME_open_343 (by decide) (fun h29 => ?_) (fun h29 => ?_)
                  · refine lv_iconst (v := nI 0) hx hb dME_open_350 (by decide) ?_
                    refine lv_iand hx hb dME_open_351 ?_
                    refine mi_any (fun z25 => ?_)
                    refine lv_istore (lv' := [(7, .int z25), (8, .int (nI i24)), (6, .int (nI 1568)), (5, .int (nI 4)), (0, .ref h0), (2, .ref dk), (3, .ref ct), (4, .ref to)]) hx hb dME_open_352 hl (by decide) rfl (fun ls hl => ?_)
                    refine mi_iinc (k := 1) (x := i24) (d := 1) (y := i24 + 1) (lv' := [(8, .int (nI (i24 + 1))), (7, .int z25), (6, .int (nI 1568)), (5, .int (nI 4)), (0, .ref h0), (2, .ref dk), (3, .ref ct), (4, .ref to)]) hx hb dME_open_354 hl rfl (by decide) rfl (by decide) rfl (fun ls hl => ?_)
                    refine lv_goto (tgt := 323) hx hb dME_open_357 (by decide) ?_
                    exact ih24 (i24 + 1) z25 pl ls H locs (by omega) (lv_sub hl [0, 1, 2, 3, 4, 5, 6, 7] rfl) hO hP hD hS
                  · refine lv_iconst (v := nI 1) hx hb dME_open_346 (by decide) ?_
                    refine lv_goto (tgt := 351) hx hb dME_open_347 (by decide) ?_
                    refine mi_iand hx hb 1 dME_open_351 (by decide) (fun z26 hz21 => ?_)
                    have hz21 : z26 < 2 := hz21
                    refine lv_istore (lv' := [(7, .int (nI z26)), (8, .int (nI i24)), (6, .int (nI 1568)), (5, .int (nI 4)), (0, .ref h0), (2, .ref dk), (3, .ref ct), (4, .ref to)]) hx hb dME_open_352 hl (by decide) rfl (fun ls hl => ?_)
                    refine mi_iinc (k := 1) (x := i24) (d := 1) (y := i24 + 1) (lv' := [(8, .int (nI (i24 + 1))), (7, .int (nI z26)), (6, .int (nI 1568)), (5, .int (nI 4)), (0, .ref h0), (2, .ref dk), (3, .ref ct), (4, .ref to)]) hx hb dME_open_354 hl rfl (by decide) rfl (by decide) rfl (fun ls hl => ?_)
                    refine lv_goto (tgt := 323) hx hb dME_open_357 (by decide) ?_
                    exact ih24 (i24 + 1) (nI z26) pl ls H locs (by omega) (lv_sub hl [0, 1, 2, 3, 4, 5, 6, 7] rfl) hO hP hD hS
              exact lp24 1568 0 (nI 1) pl ls _ _ (by omega) (lv_sub hl [0, 1, 2, 3, 4, 6, 7, 8] rfl) hO hP hD hS
            | succ n23 ih23 =>
              intro i23 pl ls H locs hm23  hl hO hP hD hS
              refine lv_iload hx hb dME_open_255 (lv_at hl 0 rfl) ?_
              refine lv_bipush (v := nI 32) hx hb dME_open_257 (by decide) ?_
              refine mi_ge (tgt := 289) hx hb dME_open_259 (by decide) (by omega) (by omega) (fun h30 => absurd h30 (by omega)) (fun h30 => ?_)
              refine lv_aload_n hx hb dME_open_262 rfl (lv_at hl 3 rfl) ?_
              refine ty_get (ci := 11) (C := "LatticeKeysModel$Secrets") (TT := T_ME) (N := 14) (kd := (23, 0)) hx hb hts (wg_ft i_ME) hown hK hO k_h0 (nxg hc0 k_h0 rfl) hP (fun _ h9 => h9) rfl 11 (by decide) (hts _ (wg_t kw_1390)) (fun _ h9 => h9) (cd := (3, 1, 32)) rfl dME_open_263 (fun v38 hv38 => ?_)
              obtain ⟨r39, rfl, kr38⟩ := (show ∃ r : Nat, v38 = .ref r ∧ T r = some (1, 32) from hv38)
              refine lv_iload hx hb dME_open_266 (lv_at hl 0 rfl) ?_
              refine lv_aload_n hx hb dME_open_268 rfl (lv_at hl 5 rfl) ?_
              refine lv_sipush (v := nI 768) hx hb dME_open_269 (by decide) ?_
              refine lv_iload hx hb dME_open_272 (lv_at hl 2 rfl) ?_
              refine mi_imul hx hb dME_open_274 ?_
              refine mi_as (show nI (768 * 4) = nI 3072 from rfl) ?_
              refine lv_bipush (v := nI 32) hx hb dME_open_275 (by decide) ?_
              refine mi_iadd hx hb dME_open_277 ?_
              refine mi_as (show nI (3072 + 32) = nI 3104 from rfl) ?_
              refine lv_iload hx hb dME_open_278 (lv_at hl 0 rfl) ?_
              refine mi_iadd hx hb dME_open_280 ?_
              refine ty_bald hx hb hK hO k_dk (nxg hc0 k_dk rfl) hP (vp_in_nI (by omega) (by decide)) dME_open_281 (fun z27 => ?_)
              refine ty_bast hx hb hK hO kr38 (nxg hc0 kr38 rfl) hP hD hS (vp_in_nI (by omega) (by decide)) dME_open_282 (fun pl H locs hO hP hD hS => ?_)
              refine mi_iinc (k := 0) (x := i23) (d := 1) (y := i23 + 1) (lv' := [(7, .int (nI (i23 + 1))), (6, .int (nI 1568)), (5, .int (nI 4)), (0, .ref h0), (1, .int (nI 2)), (2, .ref dk), (3, .ref ct), (4, .ref to)]) hx hb dME_open_283 hl rfl (by decide) rfl (by decide) rfl (fun ls hl => ?_)
              refine lv_goto (tgt := 255) hx hb dME_open_286 (by decide) ?_
              exact ih23 (i23 + 1) pl ls H locs (by omega) (lv_sub hl [0, 1, 2, 3, 4, 5, 6, 7] rfl) hO hP hD hS
          exact lp23 32 0 pl ls _ _ (by omega) (lv_sub hl [0, 1, 2, 3, 4, 5, 6, 7] rfl) hO hP hD hS
        | succ n22 ih22 =>
          intro i22 pl ls H locs hm22  hl hO hP hD hS
          refine lv_iload hx hb dME_open_187 (lv_at hl 0 rfl) ?_
          refine lv_sipush (v := nI 256) hx hb dME_open_189 (by decide) ?_
          refine mi_ge (tgt := 231) hx hb dME_open_192 (by decide) (by omega) (by omega) (fun h31 => absurd h31 (by omega)) (fun h31 => ?_)
          refine lv_aload_n hx hb dME_open_195 rfl (lv_at hl 3 rfl) ?_
          refine ty_get (ci := 11) (C := "LatticeKeysModel$Secrets") (TT := T_ME) (N := 14) (kd := (23, 0)) hx hb hts (wg_ft i_ME) hown hK hO k_h0 (nxg hc0 k_h0 rfl) hP (fun _ h9 => h9) rfl 7 (by decide) (hts _ (wg_t kw_1386)) (fun _ h9 => h9) (cd := (3, 0, 256)) rfl dME_open_196 (fun v39 hv39 => ?_)
          obtain ⟨r40, rfl, kr39⟩ := (show ∃ r : Nat, v39 = .ref r ∧ T r = some (0, 256) from hv39)
          refine lv_iload hx hb dME_open_199 (lv_at hl 0 rfl) ?_
          refine lv_aload_n hx hb dME_open_201 rfl (lv_at hl 3 rfl) ?_
          refine ty_get (ci := 11) (C := "LatticeKeysModel$Secrets") (TT := T_ME) (N := 14) (kd := (23, 0)) hx hb hts (wg_ft i_ME) hown hK hO k_h0 (nxg hc0 k_h0 rfl) hP (fun _ h9 => h9) rfl 7 (by decide) (hts _ (wg_t kw_1386)) (fun _ h9 => h9) (cd := (3, 0, 256)) rfl dME_open_202 (fun v40 hv40 => ?_)
          obtain ⟨r41, rfl, kr40⟩ := (show ∃ r : Nat, v40 = .ref r ∧ T r = some (0, 256) from hv40)
          refine lv_iload hx hb dME_open_205 (lv_at hl 0 rfl) ?_
          refine ty_iald hx hb hK hO kr40 (nxg hc0 kr40 rfl) hP (vp_in_nI (by omega) (by decide)) dME_open_207 (fun z28 => ?_)
          refine lv_aload_n hx hb dME_open_208 rfl (lv_at hl 3 rfl) ?_
          refine ty_get (ci := 11) (C := "LatticeKeysModel$Secrets") (TT := T_ME) (N := 14) (kd := (23, 0)) hx hb hts (wg_ft i_ME) hown hK hO k_h0 (nxg hc0 k_h0 rfl) hP (fun _ h9 => h9) rfl 6 (by decide) (hts _ (wg_t kw_1385)) (fun _ h9 => h9) (cd := (3, 0, 256)) rfl dME_open_209 (fun v41 hv41 => ?_)
          obtain ⟨r42, rfl, kr41⟩ := (show ∃ r : Nat, v41 = .ref r ∧ T r = some (0, 256) from hv41)
          refine lv_iload hx hb dME_open_212 (lv_at hl 0 rfl) ?_
          refine ty_iald hx hb hK hO kr41 (nxg hc0 kr41 rfl) hP (vp_in_nI (by omega) (by decide)) dME_open_214 (fun z29 => ?_)
          refine lv_isub hx hb dME_open_215 ?_
          refine mi_any (fun z30 => ?_)
          refine lv_sipush (v := nI 3329) hx hb dME_open_216 (by decide) ?_
          refine lv_iadd hx hb dME_open_219 ?_
          refine mi_any (fun z31 => ?_)
          refine lv_sipush (v := nI 3329) hx hb dME_open_220 (by decide) ?_
          refine lv_irem hx hb dME_open_223 (nI_ne0 (by omega) (by omega)) ?_
          refine mi_any (fun z32 => ?_)
          refine ty_iast hx hb hK hO kr39 (nxg hc0 kr39 rfl) hP hD hS (vp_in_nI (by omega) (by decide)) dME_open_224 (fun pl H locs hO hP hD hS => ?_)
          refine mi_iinc (k := 0) (x := i22) (d := 1) (y := i22 + 1) (lv' := [(7, .int (nI (i22 + 1))), (6, .int (nI 1568)), (5, .int (nI 4)), (0, .ref h0), (1, .int (nI 2)), (2, .ref dk), (3, .ref ct), (4, .ref to)]) hx hb dME_open_225 hl rfl (by decide) rfl (by decide) rfl (fun ls hl => ?_)
          refine lv_goto (tgt := 187) hx hb dME_open_228 (by decide) ?_
          exact ih22 (i22 + 1) pl ls H locs (by omega) (lv_sub hl [0, 1, 2, 3, 4, 5, 6, 7] rfl) hO hP hD hS
      exact lp22 256 0 pl ls _ _ (by omega) (lv_sub hl [0, 1, 2, 3, 4, 5, 6, 7] rfl) hO hP hD hS
    | succ n21 ih21 =>
      intro i21 pl ls H locs hm21  hl hO hP hD hS
      refine lv_iload hx hb dME_open_23 (lv_at hl 0 rfl) ?_
      refine lv_iload hx hb dME_open_25 (lv_at hl 2 rfl) ?_
      refine mi_ge (tgt := 140) hx hb dME_open_27 (by decide) (by omega) (by omega) (fun h32 => absurd h32 (by omega)) (fun h32 => ?_)
      refine lv_aload_n hx hb dME_open_30 rfl (lv_at hl 6 rfl) ?_
      refine lv_bipush (v := nI 32) hx hb dME_open_31 (by decide) ?_
      refine va_gets hx hb (hE.2.1 21 _ rfl).1 hS hown (hts _ (wg_t kw_1830)) (fun _ h9 => h9) dME_open_33 ?_
      refine lv_iload_n hx hb dME_open_36 rfl (lv_at hl 4 rfl) ?_
      refine va_ti (v := .int (nI 11)) hx hb (hE.2.1 21 _ rfl).2 hS (vp_in_nI (by decide) (by decide)) (by decide +kernel) dME_open_37 ?_
      refine mi_imul hx hb dME_open_38 ?_
      refine mi_as (show nI (32 * 11) = nI 352 from rfl) ?_
      refine lv_iload hx hb dME_open_39 (lv_at hl 0 rfl) ?_
      refine mi_imul hx hb dME_open_41 ?_
      refine va_gets hx hb (hE.2.1 21 _ rfl).1 hS hown (hts _ (wg_t kw_1830)) (fun _ h9 => h9) dME_open_42 ?_
      refine lv_iload_n hx hb dME_open_45 rfl (lv_at hl 4 rfl) ?_
      refine va_ti (v := .int (nI 11)) hx hb (hE.2.1 21 _ rfl).2 hS (vp_in_nI (by decide) (by decide)) (by decide +kernel) dME_open_46 ?_
      refine lv_aload_n hx hb dME_open_47 rfl (lv_at hl 3 rfl) ?_
      refine ty_get (ci := 11) (C := "LatticeKeysModel$Secrets") (TT := T_ME) (N := 14) (kd := (23, 0)) hx hb hts (wg_ft i_ME) hown hK hO k_h0 (nxg hc0 k_h0 rfl) hP (fun _ h9 => h9) rfl 3 (by decide) (hts _ (wg_t kw_1382)) (fun _ h9 => h9) (cd := (3, 3, 4)) rfl dME_open_48 (fun v42 hv42 => ?_)
      obtain ⟨r43, rfl, kr42⟩ := (show ∃ r : Nat, v42 = .ref r ∧ T r = some (3, 4) from hv42)
      refine lv_iload hx hb dME_open_51 (lv_at hl 0 rfl) ?_
      refine ty_aald3 hx hb hK hO kr42 (nxg hc0 kr42 rfl) hP (by omega) (by decide) dME_open_53 (fun r44 kr43 => ?_)
      refine mp_v (cx := []) (wr := []) hP hD hS hA [] [] rfl rfl rfl (by decide) (va_runS (As := [.ref ct, .int (nI (352 * i21)), .int (nI 11), .ref r44]) (rest := []) F (t_ME_read_11 l g _ T xs pl hO hU hc0 ct r44 16384 (352 * i21) k_ct kr43 (by omega) (by omega)) (va_cwS 4 hts (wg_app (wg_c kw_1813 (wg_c kw_1814 (wg_c kw_11 wg_n))) kw_1815) rfl rfl rfl (by decide +kernel) ⟨by decide, by decide⟩) (pp_S (en_ok g) hP hD hS hA hE [] rfl rfl) rfl rfl hl.1 rfl (lv_room (Nat.le_of_ble_eq_true rfl)) dME_open_54 ⟨by omega, by omega⟩) (fun  pl H locs hu35 hP hD hS => ?_)
      obtain ⟨hq35, hO⟩ := hu35
      have hP : va_P g.1 vcl ([] ++ pl) _ := hP
      have hD : va_D _ ([] ++ pl) := hD
      refine W.widen (k := 0) (n := 0) (by omega) (by omega) ?_
      refine lv_aload_n hx hb dME_open_57 rfl (lv_at hl 3 rfl) ?_
      refine ty_get (ci := 11) (C := "LatticeKeysModel$Secrets") (TT := T_ME) (N := 14) (kd := (23, 0)) hx hb hts (wg_ft i_ME) hown hK hO k_h0 (nxg hc0 k_h0 rfl) hP (fun _ h9 => h9) rfl 3 (by decide) (hts _ (wg_t kw_1382)) (fun _ h9 => h9) (cd := (3, 3, 4)) rfl dME_open_58 (fun v43 hv43 => ?_)
      obtain ⟨r45, rfl, kr44⟩ := (show ∃ r : Nat, v43 = .ref r ∧ T r = some (3, 4) from hv43)
      refine lv_iload hx hb dME_open_61 (lv_at hl 0 rfl) ?_
      refine ty_aald3 hx hb hK hO kr44 (nxg hc0 kr44 rfl) hP (by omega) (by decide) dME_open_63 (fun r46 kr45 => ?_)
      refine va_gets hx hb (hE.2.1 21 _ rfl).1 hS hown (hts _ (wg_t kw_1830)) (fun _ h9 => h9) dME_open_64 ?_
      refine lv_iload_n hx hb dME_open_67 rfl (lv_at hl 4 rfl) ?_
      refine va_ti (v := .int (nI 11)) hx hb (hE.2.1 21 _ rfl).2 hS (vp_in_nI (by decide) (by decide)) (by decide +kernel) dME_open_68 ?_
      refine mp_v (cx := []) (wr := []) hP hD hS hA [] [] rfl rfl rfl (by decide) (va_runS (As := [.ref r46, .int (nI 11)]) (rest := []) F (t_ME_more_11 l g _ T xs pl hO hU hc0 r46 kr45) (va_cwS 2 hts (wg_app (wg_c kw_1835 (wg_c kw_1836 (wg_c kw_11 wg_n))) kw_1837) rfl rfl rfl (by decide +kernel) ⟨by decide, by decide⟩) (pp_S (en_ok g) hP hD hS hA hE [] rfl rfl) rfl rfl hl.1 rfl (lv_room (Nat.le_of_ble_eq_true rfl)) dME_open_69 ⟨by omega, by omega⟩) (fun  pl H locs hu36 hP hD hS => ?_)
      obtain ⟨hq36, hO⟩ := hu36
      have hP : va_P g.1 vcl ([] ++ pl) _ := hP
      have hD : va_D _ ([] ++ pl) := hD
      refine W.widen (k := 0) (n := 0) (by omega) (by omega) ?_
      refine lv_aload_n hx hb dME_open_72 rfl (lv_at hl 3 rfl) ?_
      refine lv_aload_n hx hb dME_open_73 rfl (lv_at hl 3 rfl) ?_
      refine ty_get (ci := 11) (C := "LatticeKeysModel$Secrets") (TT := T_ME) (N := 14) (kd := (23, 0)) hx hb hts (wg_ft i_ME) hown hK hO k_h0 (nxg hc0 k_h0 rfl) hP (fun _ h9 => h9) rfl 3 (by decide) (hts _ (wg_t kw_1382)) (fun _ h9 => h9) (cd := (3, 3, 4)) rfl dME_open_74 (fun v44 hv44 => ?_)
      obtain ⟨r47, rfl, kr46⟩ := (show ∃ r : Nat, v44 = .ref r ∧ T r = some (3, 4) from hv44)
      refine lv_iload hx hb dME_open_77 (lv_at hl 0 rfl) ?_
      refine ty_aald3 hx hb hK hO kr46 (nxg hc0 kr46 rfl) hP (by omega) (by decide) dME_open_79 (fun r48 kr47 => ?_)
      refine mp_v (cx := []) (wr := []) hP hD hS hA [] [] rfl rfl rfl (by decide) (va_runV (As := [.ref r48]) (rest := []) F (t_ME_forth l g _ T xs pl hO hU hc0 h0 r48 k_h0 kr47) (cwV 1 hts (wg_app (wg_c kw_1668 (wg_c kw_1670 (wg_c ks_57 (wg_c kw_11 wg_n)))) kw_1671) rfl rfl rfl (by decide +kernel) ⟨by decide, by decide⟩) (pp_VT (en_ok g) (ci := 11) (kd := (23, 0)) hK hO k_h0 (nxg hc0 k_h0 rfl) (fun _ h9 => ko1 h9) hP hD hS hA hE [] rfl rfl rfl) rfl rfl hl.1 rfl (lv_room (Nat.le_of_ble_eq_true rfl)) dME_open_80 ⟨by omega, by omega⟩) (fun  pl H locs hu37 hP hD hS => ?_)
      obtain ⟨hq37, hO⟩ := hu37
      have hP : va_P g.1 vcl ([] ++ pl) _ := hP
      have hD : va_D _ ([] ++ pl) := hD
      refine W.widen (k := 0) (n := 0) (by omega) (by omega) ?_
      refine lv_aload_n hx hb dME_open_83 rfl (lv_at hl 5 rfl) ?_
      refine lv_sipush (v := nI 384) hx hb dME_open_84 (by decide) ?_
      refine lv_iload hx hb dME_open_87 (lv_at hl 0 rfl) ?_
      refine mi_imul hx hb dME_open_89 ?_
      refine lv_bipush (v := nI 12) hx hb dME_open_90 (by decide) ?_
      refine lv_aload_n hx hb dME_open_92 rfl (lv_at hl 3 rfl) ?_
      refine ty_get (ci := 11) (C := "LatticeKeysModel$Secrets") (TT := T_ME) (N := 14) (kd := (23, 0)) hx hb hts (wg_ft i_ME) hown hK hO k_h0 (nxg hc0 k_h0 rfl) hP (fun _ h9 => h9) rfl 4 (by decide) (hts _ (wg_t kw_1383)) (fun _ h9 => h9) (cd := (3, 3, 4)) rfl dME_open_93 (fun v45 hv45 => ?_)
      obtain ⟨r49, rfl, kr48⟩ := (show ∃ r : Nat, v45 = .ref r ∧ T r = some (3, 4) from hv45)
      refine lv_iload hx hb dME_open_96 (lv_at hl 0 rfl) ?_
      refine ty_aald3 hx hb hK hO kr48 (nxg hc0 kr48 rfl) hP (by omega) (by decide) dME_open_98 (fun r50 kr49 => ?_)
      refine mp_v (cx := []) (wr := []) hP hD hS hA [] [] rfl rfl rfl (by decide) (va_runS (As := [.ref dk, .int (nI (384 * i21)), .int (nI 12), .ref r50]) (rest := []) F (t_ME_read_12 l g _ T xs pl hO hU hc0 dk r50 4896 (384 * i21) k_dk kr49 (by omega) (by omega)) (va_cwS 4 hts (wg_app (wg_c kw_1813 (wg_c kw_1814 (wg_c kw_11 wg_n))) kw_1815) rfl rfl rfl (by decide +kernel) ⟨by decide, by decide⟩) (pp_S (en_ok g) hP hD hS hA hE [] rfl rfl) rfl rfl hl.1 rfl (lv_room (Nat.le_of_ble_eq_true rfl)) dME_open_99 ⟨by omega, by omega⟩) (fun  pl H locs hu38 hP hD hS => ?_)
      obtain ⟨hq38, hO⟩ := hu38
      have hP : va_P g.1 vcl ([] ++ pl) _ := hP
      have hD : va_D _ ([] ++ pl) := hD
      refine W.widen (k := 0) (n := 0) (by omega) (by omega) ?_
      refine lv_aload_n hx hb dME_open_102 rfl (lv_at hl 3 rfl) ?_
      refine ty_get (ci := 11) (C := "LatticeKeysModel$Secrets") (TT := T_ME) (N := 14) (kd := (23, 0)) hx hb hts (wg_ft i_ME) hown hK hO k_h0 (nxg hc0 k_h0 rfl) hP (fun _ h9 => h9) rfl 4 (by decide) (hts _ (wg_t kw_1383)) (fun _ h9 => h9) (cd := (3, 3, 4)) rfl dME_open_103 (fun v46 hv46 => ?_)
      obtain ⟨r51, rfl, kr50⟩ := (show ∃ r : Nat, v46 = .ref r ∧ T r = some (3, 4) from hv46)
      refine lv_iload hx hb dME_open_106 (lv_at hl 0 rfl) ?_
      refine ty_aald3 hx hb hK hO kr50 (nxg hc0 kr50 rfl) hP (by omega) (by decide) dME_open_108 (fun r52 kr51 => ?_)
      refine mp_v (cx := []) (wr := []) hP hD hS hA [] [] rfl rfl rfl (by decide) (va_runS (As := [.ref r52]) (rest := []) F (t_ME_proper l g _ T xs pl hO hU hc0 r52 kr51) (va_cwS 1 hts (wg_app (wg_c kw_1816 (wg_c kw_1817 (wg_c kw_11 wg_n))) kw_1818) rfl rfl rfl (by decide +kernel) ⟨by decide, by decide⟩) (pp_S (en_ok g) hP hD hS hA hE [] rfl rfl) rfl rfl hl.1 rfl (lv_room (Nat.le_of_ble_eq_true rfl)) dME_open_109 ⟨by omega, by omega⟩) (fun  pl H locs hu39 hP hD hS => ?_)
      obtain ⟨hq39, hO⟩ := hu39
      have hP : va_P g.1 vcl ([] ++ pl) _ := hP
      have hD : va_D _ ([] ++ pl) := hD
      refine W.widen (k := 0) (n := 0) (by omega) (by omega) ?_
      refine lv_aload_n hx hb dME_open_112 rfl (lv_at hl 3 rfl) ?_
      refine lv_aload_n hx hb dME_open_113 rfl (lv_at hl 3 rfl) ?_
      refine ty_get (ci := 11) (C := "LatticeKeysModel$Secrets") (TT := T_ME) (N := 14) (kd := (23, 0)) hx hb hts (wg_ft i_ME) hown hK hO k_h0 (nxg hc0 k_h0 rfl) hP (fun _ h9 => h9) rfl 4 (by decide) (hts _ (wg_t kw_1383)) (fun _ h9 => h9) (cd := (3, 3, 4)) rfl dME_open_114 (fun v47 hv47 => ?_)
      obtain ⟨r53, rfl, kr52⟩ := (show ∃ r : Nat, v47 = .ref r ∧ T r = some (3, 4) from hv47)
      refine lv_iload hx hb dME_open_117 (lv_at hl 0 rfl) ?_
      refine ty_aald3 hx hb hK hO kr52 (nxg hc0 kr52 rfl) hP (by omega) (by decide) dME_open_119 (fun r54 kr53 => ?_)
      refine lv_aload_n hx hb dME_open_120 rfl (lv_at hl 3 rfl) ?_
      refine ty_get (ci := 11) (C := "LatticeKeysModel$Secrets") (TT := T_ME) (N := 14) (kd := (23, 0)) hx hb hts (wg_ft i_ME) hown hK hO k_h0 (nxg hc0 k_h0 rfl) hP (fun _ h9 => h9) rfl 3 (by decide) (hts _ (wg_t kw_1382)) (fun _ h9 => h9) (cd := (3, 3, 4)) rfl dME_open_121 (fun v48 hv48 => ?_)
      obtain ⟨r55, rfl, kr54⟩ := (show ∃ r : Nat, v48 = .ref r ∧ T r = some (3, 4) from hv48)
      refine lv_iload hx hb dME_open_124 (lv_at hl 0 rfl) ?_
      refine ty_aald3 hx hb hK hO kr54 (nxg hc0 kr54 rfl) hP (by omega) (by decide) dME_open_126 (fun r56 kr55 => ?_)
      refine lv_aload_n hx hb dME_open_127 rfl (lv_at hl 3 rfl) ?_
      refine ty_get (ci := 11) (C := "LatticeKeysModel$Secrets") (TT := T_ME) (N := 14) (kd := (23, 0)) hx hb hts (wg_ft i_ME) hown hK hO k_h0 (nxg hc0 k_h0 rfl) hP (fun _ h9 => h9) rfl 6 (by decide) (hts _ (wg_t kw_1385)) (fun _ h9 => h9) (cd := (3, 0, 256)) rfl dME_open_128 (fun v49 hv49 => ?_)
      obtain ⟨r57, rfl, kr56⟩ := (show ∃ r : Nat, v49 = .ref r ∧ T r = some (0, 256) from hv49)
      refine mp_v (cx := []) (wr := []) hP hD hS hA [] [] rfl rfl rfl (by decide) (va_runV (As := [.ref r54, .ref r56, .ref r57]) (rest := []) F (t_ME_product l g _ T xs pl hO hU hc0 h0 r54 r56 r57 k_h0 kr53 kr55 kr56) (cwV 3 hts (wg_app (wg_c kw_1676 (wg_c kw_1678 (wg_c ks_58 (wg_c kw_11 wg_n)))) kw_1679) rfl rfl rfl (by decide +kernel) ⟨by decide, by decide⟩) (pp_VT (en_ok g) (ci := 11) (kd := (23, 0)) hK hO k_h0 (nxg hc0 k_h0 rfl) (fun _ h9 => ko1 h9) hP hD hS hA hE [] rfl rfl rfl) rfl rfl hl.1 rfl (lv_room (Nat.le_of_ble_eq_true rfl)) dME_open_131 ⟨by omega, by omega⟩) (fun  pl H locs hu40 hP hD hS => ?_)
      obtain ⟨hq40, hO⟩ := hu40
      have hP : va_P g.1 vcl ([] ++ pl) _ := hP
      have hD : va_D _ ([] ++ pl) := hD
      refine W.widen (k := 0) (n := 0) (by omega) (by omega) ?_
      refine mi_iinc (k := 0) (x := i21) (d := 1) (y := i21 + 1) (lv' := [(7, .int (nI (i21 + 1))), (6, .int (nI 1568)), (5, .int (nI 4)), (0, .ref h0), (1, .int (nI 2)), (2, .ref dk), (3, .ref ct), (4, .ref to)]) hx hb dME_open_134 hl rfl (by decide) rfl (by decide) rfl (fun ls hl => ?_)
      refine lv_goto (tgt := 23) hx hb dME_open_137 (by decide) ?_
      exact ih21 (i21 + 1) pl ls H locs (by omega) (lv_sub hl [0, 1, 2, 3, 4, 5, 6, 7] rfl) hO hP hD hS
  exact lp21 4 0 pl ls _ _ (by omega) (lv_sub hl [0, 1, 2, 3, 4, 5, 6, 7] rfl) hO hP hD hS
set_option maxHeartbeats 400000 in
set_option maxRecDepth 100000 in
theorem t_ME_goodOpen_0 (l : Launch) (g : Gd) (sz : Nat) (T : Ty) (xs : List Nat) (pl : va_W) (hO : okx g T xs pl) (hU : uni T) (hc0 : clo T xs 0) (h0 ek : Nat) (k_h0 : T h0 = some (23, 0)) (k_ek : T ek = some (1, 16384))  : Met l y_ME_goodOpen w_ME_goodOpen ({ frames := 1, cells := 0, slots := 0, locals := 24 } : Room) (va_Pc [.ref h0, .int (nI 0), .ref ek] (pr (en g) g.1 vcl sz ([] ++ pl))) (va_Qi (fun (r : Int32) (u : va_W) => (r = nI 0 ∨ r = nI 1) ∧ okx g T xs u) (po g.1 vcl (va_A ([] ++ pl) sz) (fun (u : va_W) => [] ++ u)) (va_A ([] ++ pl) sz)) 0 0 (va_A ([] ++ pl) sz) := by
  refine mc_entry (cc := c_ME_goodOpen) (maxL := 4) (ret := (some .boolean)) (by decide) rfl (Nat.le_of_ble_eq_true rfl) ?_
  intro p e s m args below meth c ls F hr hlk hnm hsz hP hD hE hA hl
  obtain ⟨hx, hb, hml, hown, hts⟩ := id F
  have hK := hE.1
  generalize va_A ([] ++ pl) sz = A at hD hE hA ⊢
  have hS : va_S A s.heap s.heap [] := va_S.rf
  have hl : lv_has ls 4 [(0, .ref h0), (1, .int (nI 0)), (2, .ref ek)] := hl
  refine lv_iconst (v := nI 0) hx hb dME_goodOpen_0 (by decide) ?_
  refine lv_istore_n (lv' := [(3, .int (nI 0)), (0, .ref h0), (1, .int (nI 0)), (2, .ref ek)]) hx hb dME_goodOpen_1 rfl hl (by decide) rfl (fun ls hl => ?_)
  have lp21 : ∀ (n21 : Nat) (i21 : Nat) (pl : va_W) (ls : Array Slot) (H : Heap) (locs : List Loc), n21 + i21 = 512 → lv_has ls 4 [(3, .int (nI i21)), (1, .int (nI 0)), (2, .ref ek)] → okx g T xs pl → va_P g.1 vcl ([] ++ pl) H → va_D A ([] ++ pl) → va_S A s.heap H locs → W p l e ({ frames := 1, cells := 0, slots := 0, locals := 24 } : Room) s m args below meth c H locs 0 0 (MQ below (va_Qi (fun (r : Int32) (u : va_W) => (r = nI 0 ∨ r = nI 1) ∧ okx g T xs u) (po g.1 vcl A (fun (u : va_W) => [] ++ u)) A) args s 0 0 A) (F0 m 2 ls []) := by
    intro n21
    induction n21 with
    | zero =>
      intro i21 pl ls H locs hm21  hl hO hP hD hS
      refine lv_iload_n hx hb dME_goodOpen_2 rfl (lv_at hl 0 rfl) ?_
      refine lv_sipush (v := nI 256) hx hb dME_goodOpen_3 (by decide) ?_
      refine va_gets hx hb (hE.2.1 19 _ rfl).1 hS hown (hts _ (wg_t kw_1605)) (fun _ h9 => h9) dME_goodOpen_6 ?_
      refine lv_iload_n hx hb dME_goodOpen_9 rfl (lv_at hl 1 rfl) ?_
      refine va_ti (v := .int (nI 2)) hx hb (hE.2.1 19 _ rfl).2 hS (vp_in_nI (by decide) (by decide)) (by decide +kernel) dME_goodOpen_10 ?_
      refine mi_imul hx hb dME_goodOpen_11 ?_
      refine mi_as (show nI (256 * 2) = nI 512 from rfl) ?_
      refine mi_ge (tgt := 39) hx hb dME_goodOpen_12 (by decide) (by omega) (by omega) (fun h21 => ?_) (fun h21 => absurd h21 (by omega))
      refine lv_iconst (v := nI 1) hx hb dME_goodOpen_39 (by decide) ?_
      exact mp_zret hx hb hr hlk rfl hP hD hS pl ⟨(Or.inr rfl), hO⟩ [] rfl rfl rfl (by omega) (by omega) dME_goodOpen_40
    | succ n21 ih21 =>
      intro i21 pl ls H locs hm21  hl hO hP hD hS
      refine lv_iload_n hx hb dME_goodOpen_2 rfl (lv_at hl 0 rfl) ?_
      refine lv_sipush (v := nI 256) hx hb dME_goodOpen_3 (by decide) ?_
      refine va_gets hx hb (hE.2.1 19 _ rfl).1 hS hown (hts _ (wg_t kw_1605)) (fun _ h9 => h9) dME_goodOpen_6 ?_
      refine lv_iload_n hx hb dME_goodOpen_9 rfl (lv_at hl 1 rfl) ?_
      refine va_ti (v := .int (nI 2)) hx hb (hE.2.1 19 _ rfl).2 hS (vp_in_nI (by decide) (by decide)) (by decide +kernel) dME_goodOpen_10 ?_
      refine mi_imul hx hb dME_goodOpen_11 ?_
      refine mi_as (show nI (256 * 2) = nI 512 from rfl) ?_
      refine mi_ge (tgt := 39) hx hb dME_goodOpen_12 (by decide) (by omega) (by omega) (fun h22 => absurd h22 (by omega)) (fun h22 => ?_)
      refine lv_aload_n hx hb dME_goodOpen_15 rfl (lv_at hl 2 rfl) ?_
      refine lv_bipush (v := nI 12) hx hb dME_goodOpen_16 (by decide) ?_
      refine lv_iload_n hx hb dME_goodOpen_18 rfl (lv_at hl 0 rfl) ?_
      refine mi_imul hx hb dME_goodOpen_19 ?_
      refine lv_bipush (v := nI 12) hx hb dME_goodOpen_20 (by decide) ?_
      refine mp_i (cx := []) (wr := []) hP hD hS hA [] [] rfl rfl rfl (by decide) (va_runSN (As := [.ref ek, .int (nI (12 * i21)), .int (nI 12)]) (rest := []) F (t_M_unpack l g _ T xs pl hO hU hc0 ek 16384 (12 * i21) 12 k_ek (by omega) (by omega) (by omega)) ⟨va_cnB 3 hts (wg_in kw_1667) rfl rfl rfl (hE.2.2.2.2.2.2.2.1) (hts _ (wg_t kw_9)) (by decide +kernel) ⟨by decide, by decide⟩, hts _ (wg_t kw_1666), trivial⟩ (pp_S (en_ok g) hP hD hS hA hE [] rfl rfl) rfl rfl hl.1 rfl (lv_room (Nat.le_of_ble_eq_true rfl)) dME_goodOpen_22 ⟨by omega, by omega⟩) (fun r21 pl H locs hu21 hP hD hS => ?_)
      obtain ⟨hq21, hO⟩ := hu21
      have hP : va_P g.1 vcl ([] ++ pl) _ := hP
      have hD : va_D _ ([] ++ pl) := hD
      refine W.widen (k := 0) (n := 0) (by omega) (by omega) ?_
      refine lv_sipush (v := nI 3329) hx hb dME_goodOpen_25 (by decide) ?_
      refine lv_icmp_lt (tgt := 33) hx hb dME_goodOpen_28 (by decide) (fun h23 => ?_) (fun h23 => ?_)
      · refine mi_iinc (k := 0) (x := i21) (d := 1) (y := i21 + 1) (lv' := [(3, .int (nI (i21 + 1))), (1, .int (nI 0)), (2, .ref ek)]) hx hb dME_goodOpen_33 hl rfl (by decide) rfl (by decide) rfl (fun ls hl => ?_)
        refine lv_goto (tgt := 2) hx hb dME_goodOpen_36 (by decide) ?_
        exact ih21 (i21 + 1) pl ls H locs (by omega) (lv_sub hl [0, 1, 2] rfl) hO hP hD hS
      · refine lv_iconst (v := nI 0) hx hb dME_goodOpen_31 (by decide) ?_
        exact mp_zret hx hb hr hlk rfl hP hD hS pl ⟨(Or.inl rfl), hO⟩ [] rfl rfl rfl (by omega) (by omega) dME_goodOpen_32
  exact lp21 512 0 pl ls _ _ (by omega) (lv_sub hl [0, 2, 3] rfl) hO hP hD hS
set_option maxHeartbeats 400000 in
set_option maxRecDepth 100000 in
theorem t_ME_goodOpen_1 (l : Launch) (g : Gd) (sz : Nat) (T : Ty) (xs : List Nat) (pl : va_W) (hO : okx g T xs pl) (hU : uni T) (hc0 : clo T xs 0) (h0 ek : Nat) (k_h0 : T h0 = some (23, 0)) (k_ek : T ek = some (1, 16384))  : Met l y_ME_goodOpen w_ME_goodOpen ({ frames := 1, cells := 0, slots := 0, locals := 24 } : Room) (va_Pc [.ref h0, .int (nI 1), .ref ek] (pr (en g) g.1 vcl sz ([] ++ pl))) (va_Qi (fun (r : Int32) (u : va_W) => (r = nI 0 ∨ r = nI 1) ∧ okx g T xs u) (po g.1 vcl (va_A ([] ++ pl) sz) (fun (u : va_W) => [] ++ u)) (va_A ([] ++ pl) sz)) 0 0 (va_A ([] ++ pl) sz) := by
  refine mc_entry (cc := c_ME_goodOpen) (maxL := 4) (ret := (some .boolean)) (by decide) rfl (Nat.le_of_ble_eq_true rfl) ?_
  intro p e s m args below meth c ls F hr hlk hnm hsz hP hD hE hA hl
  obtain ⟨hx, hb, hml, hown, hts⟩ := id F
  have hK := hE.1
  generalize va_A ([] ++ pl) sz = A at hD hE hA ⊢
  have hS : va_S A s.heap s.heap [] := va_S.rf
  have hl : lv_has ls 4 [(0, .ref h0), (1, .int (nI 1)), (2, .ref ek)] := hl
  refine lv_iconst (v := nI 0) hx hb dME_goodOpen_0 (by decide) ?_
  refine lv_istore_n (lv' := [(3, .int (nI 0)), (0, .ref h0), (1, .int (nI 1)), (2, .ref ek)]) hx hb dME_goodOpen_1 rfl hl (by decide) rfl (fun ls hl => ?_)
  have lp21 : ∀ (n21 : Nat) (i21 : Nat) (pl : va_W) (ls : Array Slot) (H : Heap) (locs : List Loc), n21 + i21 = 768 → lv_has ls 4 [(3, .int (nI i21)), (1, .int (nI 1)), (2, .ref ek)] → okx g T xs pl → va_P g.1 vcl ([] ++ pl) H → va_D A ([] ++ pl) → va_S A s.heap H locs → W p l e ({ frames := 1, cells := 0, slots := 0, locals := 24 } : Room) s m args below meth c H locs 0 0 (MQ below (va_Qi (fun (r : Int32) (u : va_W) => (r = nI 0 ∨ r = nI 1) ∧ okx g T xs u) (po g.1 vcl A (fun (u : va_W) => [] ++ u)) A) args s 0 0 A) (F0 m 2 ls []) := by
    intro n21
    induction n21 with
    | zero =>
      intro i21 pl ls H locs hm21  hl hO hP hD hS
      refine lv_iload_n hx hb dME_goodOpen_2 rfl (lv_at hl 0 rfl) ?_
      refine lv_sipush (v := nI 256) hx hb dME_goodOpen_3 (by decide) ?_
      refine va_gets hx hb (hE.2.1 19 _ rfl).1 hS hown (hts _ (wg_t kw_1605)) (fun _ h9 => h9) dME_goodOpen_6 ?_
      refine lv_iload_n hx hb dME_goodOpen_9 rfl (lv_at hl 1 rfl) ?_
      refine va_ti (v := .int (nI 3)) hx hb (hE.2.1 19 _ rfl).2 hS (vp_in_nI (by decide) (by decide)) (by decide +kernel) dME_goodOpen_10 ?_
      refine mi_imul hx hb dME_goodOpen_11 ?_
      refine mi_as (show nI (256 * 3) = nI 768 from rfl) ?_
      refine mi_ge (tgt := 39) hx hb dME_goodOpen_12 (by decide) (by omega) (by omega) (fun h21 => ?_) (fun h21 => absurd h21 (by omega))
      refine lv_iconst (v := nI 1) hx hb dME_goodOpen_39 (by decide) ?_
      exact mp_zret hx hb hr hlk rfl hP hD hS pl ⟨(Or.inr rfl), hO⟩ [] rfl rfl rfl (by omega) (by omega) dME_goodOpen_40
    | succ n21 ih21 =>
      intro i21 pl ls H locs hm21  hl hO hP hD hS
      refine lv_iload_n hx hb dME_goodOpen_2 rfl (lv_at hl 0 rfl) ?_
      refine lv_sipush (v := nI 256) hx hb dME_goodOpen_3 (by decide) ?_
      refine va_gets hx hb (hE.2.1 19 _ rfl).1 hS hown (hts _ (wg_t kw_1605)) (fun _ h9 => h9) dME_goodOpen_6 ?_
      refine lv_iload_n hx hb dME_goodOpen_9 rfl (lv_at hl 1 rfl) ?_
      refine va_ti (v := .int (nI 3)) hx hb (hE.2.1 19 _ rfl).2 hS (vp_in_nI (by decide) (by decide)) (by decide +kernel) dME_goodOpen_10 ?_
      refine mi_imul hx hb dME_goodOpen_11 ?_
      refine mi_as (show nI (256 * 3) = nI 768 from rfl) ?_
      refine mi_ge (tgt := 39) hx hb dME_goodOpen_12 (by decide) (by omega) (by omega) (fun h22 => absurd h22 (by omega)) (fun h22 => ?_)
      refine lv_aload_n hx hb dME_goodOpen_15 rfl (lv_at hl 2 rfl) ?_
      refine lv_bipush (v := nI 12) hx hb dME_goodOpen_16 (by decide) ?_
      refine lv_iload_n hx hb dME_goodOpen_18 rfl (lv_at hl 0 rfl) ?_
      refine mi_imul hx hb dME_goodOpen_19 ?_
      refine lv_bipush (v := nI 12) hx hb dME_goodOpen_20 (by decide) ?_
      refine mp_i (cx := []) (wr := []) hP hD hS hA [] [] rfl rfl rfl (by decide) (va_runSN (As := [.ref ek, .int (nI (12 * i21)), .int (nI 12)]) (rest := []) F (t_M_unpack l g _ T xs pl hO hU hc0 ek 16384 (12 * i21) 12 k_ek (by omega) (by omega) (by omega)) ⟨va_cnB 3 hts (wg_in kw_1667) rfl rfl rfl (hE.2.2.2.2.2.2.2.1) (hts _ (wg_t kw_9)) (by decide +kernel) ⟨by decide, by decide⟩, hts _ (wg_t kw_1666), trivial⟩ (pp_S (en_ok g) hP hD hS hA hE [] rfl rfl) rfl rfl hl.1 rfl (lv_room (Nat.le_of_ble_eq_true rfl)) dME_goodOpen_22 ⟨by omega, by omega⟩) (fun r21 pl H locs hu21 hP hD hS => ?_)
      obtain ⟨hq21, hO⟩ := hu21
      have hP : va_P g.1 vcl ([] ++ pl) _ := hP
      have hD : va_D _ ([] ++ pl) := hD
      refine W.widen (k := 0) (n := 0) (by omega) (by omega) ?_
      refine lv_sipush (v := nI 3329) hx hb dME_goodOpen_25 (by decide) ?_
      refine lv_icmp_lt (tgt := 33) hx hb dME_goodOpen_28 (by decide) (fun h23 => ?_) (fun h23 => ?_)
      · refine mi_iinc (k := 0) (x := i21) (d := 1) (y := i21 + 1) (lv' := [(3, .int (nI (i21 + 1))), (1, .int (nI 1)), (2, .ref ek)]) hx hb dME_goodOpen_33 hl rfl (by decide) rfl (by decide) rfl (fun ls hl => ?_)
        refine lv_goto (tgt := 2) hx hb dME_goodOpen_36 (by decide) ?_
        exact ih21 (i21 + 1) pl ls H locs (by omega) (lv_sub hl [0, 1, 2] rfl) hO hP hD hS
      · refine lv_iconst (v := nI 0) hx hb dME_goodOpen_31 (by decide) ?_
        exact mp_zret hx hb hr hlk rfl hP hD hS pl ⟨(Or.inl rfl), hO⟩ [] rfl rfl rfl (by omega) (by omega) dME_goodOpen_32
  exact lp21 768 0 pl ls _ _ (by omega) (lv_sub hl [0, 2, 3] rfl) hO hP hD hS
set_option maxHeartbeats 400000 in
set_option maxRecDepth 100000 in
theorem t_ME_goodOpen_2 (l : Launch) (g : Gd) (sz : Nat) (T : Ty) (xs : List Nat) (pl : va_W) (hO : okx g T xs pl) (hU : uni T) (hc0 : clo T xs 0) (h0 ek : Nat) (k_h0 : T h0 = some (23, 0)) (k_ek : T ek = some (1, 16384))  : Met l y_ME_goodOpen w_ME_goodOpen ({ frames := 1, cells := 0, slots := 0, locals := 24 } : Room) (va_Pc [.ref h0, .int (nI 2), .ref ek] (pr (en g) g.1 vcl sz ([] ++ pl))) (va_Qi (fun (r : Int32) (u : va_W) => (r = nI 0 ∨ r = nI 1) ∧ okx g T xs u) (po g.1 vcl (va_A ([] ++ pl) sz) (fun (u : va_W) => [] ++ u)) (va_A ([] ++ pl) sz)) 0 0 (va_A ([] ++ pl) sz) := by
  refine mc_entry (cc := c_ME_goodOpen) (maxL := 4) (ret := (some .boolean)) (by decide) rfl (Nat.le_of_ble_eq_true rfl) ?_
  intro p e s m args below meth c ls F hr hlk hnm hsz hP hD hE hA hl
  obtain ⟨hx, hb, hml, hown, hts⟩ := id F
  have hK := hE.1
  generalize va_A ([] ++ pl) sz = A at hD hE hA ⊢
  have hS : va_S A s.heap s.heap [] := va_S.rf
  have hl : lv_has ls 4 [(0, .ref h0), (1, .int (nI 2)), (2, .ref ek)] := hl
  refine lv_iconst (v := nI 0) hx hb dME_goodOpen_0 (by decide) ?_
  refine lv_istore_n (lv' := [(3, .int (nI 0)), (0, .ref h0), (1, .int (nI 2)), (2, .ref ek)]) hx hb dME_goodOpen_1 rfl hl (by decide) rfl (fun ls hl => ?_)
  have lp21 : ∀ (n21 : Nat) (i21 : Nat) (pl : va_W) (ls : Array Slot) (H : Heap) (locs : List Loc), n21 + i21 = 1024 → lv_has ls 4 [(3, .int (nI i21)), (1, .int (nI 2)), (2, .ref ek)] → okx g T xs pl → va_P g.1 vcl ([] ++ pl) H → va_D A ([] ++ pl) → va_S A s.heap H locs → W p l e ({ frames := 1, cells := 0, slots := 0, locals := 24 } : Room) s m args below meth c H locs 0 0 (MQ below (va_Qi (fun (r : Int32) (u : va_W) => (r = nI 0 ∨ r = nI 1) ∧ okx g T xs u) (po g.1 vcl A (fun (u : va_W) => [] ++ u)) A) args s 0 0 A) (F0 m 2 ls []) := by
    intro n21
    induction n21 with
    | zero =>
      intro i21 pl ls H locs hm21  hl hO hP hD hS
      refine lv_iload_n hx hb dME_goodOpen_2 rfl (lv_at hl 0 rfl) ?_
      refine lv_sipush (v := nI 256) hx hb dME_goodOpen_3 (by decide) ?_
      refine va_gets hx hb (hE.2.1 19 _ rfl).1 hS hown (hts _ (wg_t kw_1605)) (fun _ h9 => h9) dME_goodOpen_6 ?_
      refine lv_iload_n hx hb dME_goodOpen_9 rfl (lv_at hl 1 rfl) ?_
      refine va_ti (v := .int (nI 4)) hx hb (hE.2.1 19 _ rfl).2 hS (vp_in_nI (by decide) (by decide)) (by decide +kernel) dME_goodOpen_10 ?_
      refine mi_imul hx hb dME_goodOpen_11 ?_
      refine mi_as (show nI (256 * 4) = nI 1024 from rfl) ?_
      refine mi_ge (tgt := 39) hx hb dME_goodOpen_12 (by decide) (by omega) (by omega) (fun h21 => ?_) (fun h21 => absurd h21 (by omega))
      refine lv_iconst (v := nI 1) hx hb dME_goodOpen_39 (by decide) ?_
      exact mp_zret hx hb hr hlk rfl hP hD hS pl ⟨(Or.inr rfl), hO⟩ [] rfl rfl rfl (by omega) (by omega) dME_goodOpen_40
    | succ n21 ih21 =>
      intro i21 pl ls H locs hm21  hl hO hP hD hS
      refine lv_iload_n hx hb dME_goodOpen_2 rfl (lv_at hl 0 rfl) ?_
      refine lv_sipush (v := nI 256) hx hb dME_goodOpen_3 (by decide) ?_
      refine va_gets hx hb (hE.2.1 19 _ rfl).1 hS hown (hts _ (wg_t kw_1605)) (fun _ h9 => h9) dME_goodOpen_6 ?_
      refine lv_iload_n hx hb dME_goodOpen_9 rfl (lv_at hl 1 rfl) ?_
      refine va_ti (v := .int (nI 4)) hx hb (hE.2.1 19 _ rfl).2 hS (vp_in_nI (by decide) (by decide)) (by decide +kernel) dME_goodOpen_10 ?_
      refine mi_imul hx hb dME_goodOpen_11 ?_
      refine mi_as (show nI (256 * 4) = nI 1024 from rfl) ?_
      refine mi_ge (tgt := 39) hx hb dME_goodOpen_12 (by decide) (by omega) (by omega) (fun h22 => absurd h22 (by omega)) (fun h22 => ?_)
      refine lv_aload_n hx hb dME_goodOpen_15 rfl (lv_at hl 2 rfl) ?_
      refine lv_bipush (v := nI 12) hx hb dME_goodOpen_16 (by decide) ?_
      refine lv_iload_n hx hb dME_goodOpen_18 rfl (lv_at hl 0 rfl) ?_
      refine mi_imul hx hb dME_goodOpen_19 ?_
      refine lv_bipush (v := nI 12) hx hb dME_goodOpen_20 (by decide) ?_
      refine mp_i (cx := []) (wr := []) hP hD hS hA [] [] rfl rfl rfl (by decide) (va_runSN (As := [.ref ek, .int (nI (12 * i21)), .int (nI 12)]) (rest := []) F (t_M_unpack l g _ T xs pl hO hU hc0 ek 16384 (12 * i21) 12 k_ek (by omega) (by omega) (by omega)) ⟨va_cnB 3 hts (wg_in kw_1667) rfl rfl rfl (hE.2.2.2.2.2.2.2.1) (hts _ (wg_t kw_9)) (by decide +kernel) ⟨by decide, by decide⟩, hts _ (wg_t kw_1666), trivial⟩ (pp_S (en_ok g) hP hD hS hA hE [] rfl rfl) rfl rfl hl.1 rfl (lv_room (Nat.le_of_ble_eq_true rfl)) dME_goodOpen_22 ⟨by omega, by omega⟩) (fun r21 pl H locs hu21 hP hD hS => ?_)
      obtain ⟨hq21, hO⟩ := hu21
      have hP : va_P g.1 vcl ([] ++ pl) _ := hP
      have hD : va_D _ ([] ++ pl) := hD
      refine W.widen (k := 0) (n := 0) (by omega) (by omega) ?_
      refine lv_sipush (v := nI 3329) hx hb dME_goodOpen_25 (by decide) ?_
      refine lv_icmp_lt (tgt := 33) hx hb dME_goodOpen_28 (by decide) (fun h23 => ?_) (fun h23 => ?_)
      · refine mi_iinc (k := 0) (x := i21) (d := 1) (y := i21 + 1) (lv' := [(3, .int (nI (i21 + 1))), (1, .int (nI 2)), (2, .ref ek)]) hx hb dME_goodOpen_33 hl rfl (by decide) rfl (by decide) rfl (fun ls hl => ?_)
        refine lv_goto (tgt := 2) hx hb dME_goodOpen_36 (by decide) ?_
        exact ih21 (i21 + 1) pl ls H locs (by omega) (lv_sub hl [0, 1, 2] rfl) hO hP hD hS
      · refine lv_iconst (v := nI 0) hx hb dME_goodOpen_31 (by decide) ?_
        exact mp_zret hx hb hr hlk rfl hP hD hS pl ⟨(Or.inl rfl), hO⟩ [] rfl rfl rfl (by omega) (by omega) dME_goodOpen_32
  exact lp21 1024 0 pl ls _ _ (by omega) (lv_sub hl [0, 2, 3] rfl) hO hP hD hS
set_option maxHeartbeats 400000 in
set_option maxRecDepth 100000 in
theorem t_ME_goodHidden_0 (l : Launch) (g : Gd) (sz : Nat) (T : Ty) (xs : List Nat) (pl : va_W) (hO : okx g T xs pl) (hU : uni T) (hc0 : clo T xs 0) (hc9 : clo T xs 9) (h0 dk : Nat) (k_h0 : T h0 = some (23, 0)) (k_dk : T dk = some (1, 16384))  : Met l y_ME_goodHidden w_ME_goodHidden ({ frames := 5, cells := 0, slots := 0, locals := 123 } : Room) (va_Pc [.ref h0, .int (nI 0), .ref dk] (pr (en g) g.1 vcl sz ([] ++ pl))) (va_Qi (fun (r : Int32) (u : va_W) => (r = nI 0 ∨ r = nI 1) ∧ okx g T xs u) (po g.1 vcl (va_A ([] ++ pl) sz) (fun (u : va_W) => [] ++ u)) (va_A ([] ++ pl) sz)) 0 0 (va_A ([] ++ pl) sz) := by
  refine mc_entry (cc := c_ME_goodHidden) (maxL := 5) (ret := (some .boolean)) (by decide) rfl (Nat.le_of_ble_eq_true rfl) ?_
  intro p e s m args below meth c ls F hr hlk hnm hsz hP hD hE hA hl
  obtain ⟨hx, hb, hml, hown, hts⟩ := id F
  have hK := hE.1
  generalize va_A ([] ++ pl) sz = A at hD hE hA ⊢
  have hS : va_S A s.heap s.heap [] := va_S.rf
  have hl : lv_has ls 5 [(0, .ref h0), (1, .int (nI 0)), (2, .ref dk)] := hl
  refine va_gets hx hb (hE.2.1 19 _ rfl).1 hS hown (hts _ (wg_t kw_1605)) (fun _ h9 => h9) dME_goodHidden_0 ?_
  refine lv_iload_n hx hb dME_goodHidden_3 rfl (lv_at hl 1 rfl) ?_
  refine va_ti (v := .int (nI 2)) hx hb (hE.2.1 19 _ rfl).2 hS (vp_in_nI (by decide) (by decide)) (by decide +kernel) dME_goodHidden_4 ?_
  refine lv_istore_n (lv' := [(3, .int (nI 2)), (0, .ref h0), (1, .int (nI 0)), (2, .ref dk)]) hx hb dME_goodHidden_5 rfl hl (by decide) rfl (fun ls hl => ?_)
  refine lv_aload_n hx hb dME_goodHidden_6 rfl (lv_at hl 1 rfl) ?_
  refine lv_aload_n hx hb dME_goodHidden_7 rfl (lv_at hl 3 rfl) ?_
  refine lv_sipush (v := nI 384) hx hb dME_goodHidden_8 (by decide) ?_
  refine lv_iload_n hx hb dME_goodHidden_11 rfl (lv_at hl 0 rfl) ?_
  refine mi_imul hx hb dME_goodHidden_12 ?_
  refine mi_as (show nI (384 * 2) = nI 768 from rfl) ?_
  refine lv_iload_n hx hb dME_goodHidden_13 rfl (lv_at hl 2 rfl) ?_
  refine mp_i (cx := []) (wr := []) hP hD hS hA [] [] rfl rfl rfl (by decide) (va_runS (As := [.int (nI 0)]) (rest := [.int (nI 768), .ref dk, .ref h0]) F (t_ME_openSize_0 l g _ T xs pl hO hU  ) (va_cwS 1 hts (wg_app (wg_c kw_1691 (wg_c kw_1692 (wg_c kw_11 wg_n))) kw_1693) rfl rfl rfl (by decide +kernel) ⟨by decide, by decide⟩) (pp_S (en_ok g) hP hD hS hA hE [] rfl rfl) rfl rfl hl.1 rfl (lv_room (Nat.le_of_ble_eq_true rfl)) dME_goodHidden_14 ⟨by omega, by omega⟩) (fun r21 pl H locs hu21 hP hD hS => ?_)
  obtain ⟨hq21, hO⟩ := hu21
  have hP : va_P g.1 vcl ([] ++ pl) _ := hP
  have hD : va_D _ ([] ++ pl) := hD
  obtain rfl := hq21
  refine W.widen (k := 0) (n := 0) (by omega) (by omega) ?_
  refine lv_aload_n hx hb dME_goodHidden_17 rfl (lv_at hl 1 rfl) ?_
  refine ty_get (ci := 11) (C := "LatticeKeysModel$Secrets") (TT := T_ME) (N := 14) (kd := (23, 0)) hx hb hts (wg_ft i_ME) hown hK hO k_h0 (nxg hc0 k_h0 rfl) hP (fun _ h9 => h9) rfl 11 (by decide) (hts _ (wg_t kw_1390)) (fun _ h9 => h9) (cd := (3, 1, 32)) rfl dME_goodHidden_18 (fun v21 hv21 => ?_)
  obtain ⟨r22, rfl, kr21⟩ := (show ∃ r : Nat, v21 = .ref r ∧ T r = some (1, 32) from hv21)
  refine lv_iconst (v := nI 0) hx hb dME_goodHidden_21 (by decide) ?_
  refine mp_v (cx := []) (wr := []) hP hD hS hA [] [] rfl rfl rfl (by decide) (va_runV (As := [.ref dk, .int (nI 768), .int (nI 800), .ref r22, .int (nI 0)]) (rest := []) F (t_ME_hash l g _ T xs pl hO hU hc0 hc9 h0 dk r22 16384 32 768 800 0 k_h0 k_dk kr21 (by omega) (by omega) (by omega) (by omega)) (cwV 5 hts (wg_app (wg_c kw_1694 (wg_c kw_1696 (wg_c ks_59 (wg_c kw_11 wg_n)))) kw_1697) rfl rfl rfl (by decide +kernel) ⟨by decide, by decide⟩) (pp_VT (en_ok g) (ci := 11) (kd := (23, 0)) hK hO k_h0 (nxg hc0 k_h0 rfl) (fun _ h9 => ko1 h9) hP hD hS hA hE [] rfl rfl rfl) rfl rfl hl.1 rfl (lv_room (Nat.le_of_ble_eq_true rfl)) dME_goodHidden_22 ⟨by omega, by omega⟩) (fun  pl H locs hu22 hP hD hS => ?_)
  obtain ⟨hq22, hO⟩ := hu22
  have hP : va_P g.1 vcl ([] ++ pl) _ := hP
  have hD : va_D _ ([] ++ pl) := hD
  refine W.widen (k := 0) (n := 0) (by omega) (by omega) ?_
  refine lv_iconst (v := nI 0) hx hb dME_goodHidden_25 (by decide) ?_
  refine lv_istore (lv' := [(4, .int (nI 0)), (3, .int (nI 2)), (0, .ref h0), (1, .int (nI 0)), (2, .ref dk)]) hx hb dME_goodHidden_26 hl (by decide) rfl (fun ls hl => ?_)
  have lp21 : ∀ (n21 : Nat) (i21 : Nat) (pl : va_W) (ls : Array Slot) (H : Heap) (locs : List Loc), n21 + i21 = 32 → lv_has ls 5 [(4, .int (nI i21)), (3, .int (nI 2)), (0, .ref h0), (2, .ref dk)] → okx g T xs pl → va_P g.1 vcl ([] ++ pl) H → va_D A ([] ++ pl) → va_S A s.heap H locs → W p l e ({ frames := 5, cells := 0, slots := 0, locals := 123 } : Room) s m args below meth c H locs 0 0 (MQ below (va_Qi (fun (r : Int32) (u : va_W) => (r = nI 0 ∨ r = nI 1) ∧ okx g T xs u) (po g.1 vcl A (fun (u : va_W) => [] ++ u)) A) args s 0 0 A) (F0 m 28 ls []) := by
    intro n21
    induction n21 with
    | zero =>
      intro i21 pl ls H locs hm21  hl hO hP hD hS
      refine lv_iload hx hb dME_goodHidden_28 (lv_at hl 0 rfl) ?_
      refine lv_bipush (v := nI 32) hx hb dME_goodHidden_30 (by decide) ?_
      refine mi_ge (tgt := 66) hx hb dME_goodHidden_32 (by decide) (by omega) (by omega) (fun h21 => ?_) (fun h21 => absurd h21 (by omega))
      refine lv_iconst (v := nI 1) hx hb dME_goodHidden_66 (by decide) ?_
      exact mp_zret hx hb hr hlk rfl hP hD hS pl ⟨(Or.inr rfl), hO⟩ [] rfl rfl rfl (by omega) (by omega) dME_goodHidden_67
    | succ n21 ih21 =>
      intro i21 pl ls H locs hm21  hl hO hP hD hS
      refine lv_iload hx hb dME_goodHidden_28 (lv_at hl 0 rfl) ?_
      refine lv_bipush (v := nI 32) hx hb dME_goodHidden_30 (by decide) ?_
      refine mi_ge (tgt := 66) hx hb dME_goodHidden_32 (by decide) (by omega) (by omega) (fun h22 => absurd h22 (by omega)) (fun h22 => ?_)
      refine lv_aload_n hx hb dME_goodHidden_35 rfl (lv_at hl 2 rfl) ?_
      refine ty_get (ci := 11) (C := "LatticeKeysModel$Secrets") (TT := T_ME) (N := 14) (kd := (23, 0)) hx hb hts (wg_ft i_ME) hown hK hO k_h0 (nxg hc0 k_h0 rfl) hP (fun _ h9 => h9) rfl 11 (by decide) (hts _ (wg_t kw_1390)) (fun _ h9 => h9) (cd := (3, 1, 32)) rfl dME_goodHidden_36 (fun v22 hv22 => ?_)
      obtain ⟨r23, rfl, kr22⟩ := (show ∃ r : Nat, v22 = .ref r ∧ T r = some (1, 32) from hv22)
      refine lv_iload hx hb dME_goodHidden_39 (lv_at hl 0 rfl) ?_
      refine ty_bald hx hb hK hO kr22 (nxg hc0 kr22 rfl) hP (vp_in_nI (by omega) (by decide)) dME_goodHidden_41 (fun z21 => ?_)
      refine lv_aload_n hx hb dME_goodHidden_42 rfl (lv_at hl 3 rfl) ?_
      refine lv_sipush (v := nI 768) hx hb dME_goodHidden_43 (by decide) ?_
      refine lv_iload_n hx hb dME_goodHidden_46 rfl (lv_at hl 1 rfl) ?_
      refine mi_imul hx hb dME_goodHidden_47 ?_
      refine mi_as (show nI (768 * 2) = nI 1536 from rfl) ?_
      refine lv_bipush (v := nI 32) hx hb dME_goodHidden_48 (by decide) ?_
      refine mi_iadd hx hb dME_goodHidden_50 ?_
      refine mi_as (show nI (1536 + 32) = nI 1568 from rfl) ?_
      refine lv_iload hx hb dME_goodHidden_51 (lv_at hl 0 rfl) ?_
      refine mi_iadd hx hb dME_goodHidden_53 ?_
      refine ty_bald hx hb hK hO k_dk (nxg hc0 k_dk rfl) hP (vp_in_nI (by omega) (by decide)) dME_goodHidden_54 (fun z22 => ?_)
      refine lv_icmp_eq (tgt := 60) hx hb dME_goodHidden_55 (by decide) (fun h23 => ?_) (fun h23 => ?_)
      · refine mi_iinc (k := 0) (x := i21) (d := 1) (y := i21 + 1) (lv' := [(4, .int (nI (i21 + 1))), (3, .int (nI 2)), (0, .ref h0), (2, .ref dk)]) hx hb dME_goodHidden_60 hl rfl (by decide) rfl (by decide) rfl (fun ls hl => ?_)
        refine lv_goto (tgt := 28) hx hb dME_goodHidden_63 (by decide) ?_
        exact ih21 (i21 + 1) pl ls H locs (by omega) (lv_sub hl [0, 1, 2, 3] rfl) hO hP hD hS
      · refine lv_iconst (v := nI 0) hx hb dME_goodHidden_58 (by decide) ?_
        exact mp_zret hx hb hr hlk rfl hP hD hS pl ⟨(Or.inl rfl), hO⟩ [] rfl rfl rfl (by omega) (by omega) dME_goodHidden_59
  exact lp21 32 0 pl ls _ _ (by omega) (lv_sub hl [0, 1, 2, 4] rfl) hO hP hD hS
set_option maxHeartbeats 400000 in
set_option maxRecDepth 100000 in
theorem t_ME_goodHidden_1 (l : Launch) (g : Gd) (sz : Nat) (T : Ty) (xs : List Nat) (pl : va_W) (hO : okx g T xs pl) (hU : uni T) (hc0 : clo T xs 0) (hc9 : clo T xs 9) (h0 dk : Nat) (k_h0 : T h0 = some (23, 0)) (k_dk : T dk = some (1, 16384))  : Met l y_ME_goodHidden w_ME_goodHidden ({ frames := 5, cells := 0, slots := 0, locals := 123 } : Room) (va_Pc [.ref h0, .int (nI 1), .ref dk] (pr (en g) g.1 vcl sz ([] ++ pl))) (va_Qi (fun (r : Int32) (u : va_W) => (r = nI 0 ∨ r = nI 1) ∧ okx g T xs u) (po g.1 vcl (va_A ([] ++ pl) sz) (fun (u : va_W) => [] ++ u)) (va_A ([] ++ pl) sz)) 0 0 (va_A ([] ++ pl) sz) := by
  refine mc_entry (cc := c_ME_goodHidden) (maxL := 5) (ret := (some .boolean)) (by decide) rfl (Nat.le_of_ble_eq_true rfl) ?_
  intro p e s m args below meth c ls F hr hlk hnm hsz hP hD hE hA hl
  obtain ⟨hx, hb, hml, hown, hts⟩ := id F
  have hK := hE.1
  generalize va_A ([] ++ pl) sz = A at hD hE hA ⊢
  have hS : va_S A s.heap s.heap [] := va_S.rf
  have hl : lv_has ls 5 [(0, .ref h0), (1, .int (nI 1)), (2, .ref dk)] := hl
  refine va_gets hx hb (hE.2.1 19 _ rfl).1 hS hown (hts _ (wg_t kw_1605)) (fun _ h9 => h9) dME_goodHidden_0 ?_
  refine lv_iload_n hx hb dME_goodHidden_3 rfl (lv_at hl 1 rfl) ?_
  refine va_ti (v := .int (nI 3)) hx hb (hE.2.1 19 _ rfl).2 hS (vp_in_nI (by decide) (by decide)) (by decide +kernel) dME_goodHidden_4 ?_
  refine lv_istore_n (lv' := [(3, .int (nI 3)), (0, .ref h0), (1, .int (nI 1)), (2, .ref dk)]) hx hb dME_goodHidden_5 rfl hl (by decide) rfl (fun ls hl => ?_)
  refine lv_aload_n hx hb dME_goodHidden_6 rfl (lv_at hl 1 rfl) ?_
  refine lv_aload_n hx hb dME_goodHidden_7 rfl (lv_at hl 3 rfl) ?_
  refine lv_sipush (v := nI 384) hx hb dME_goodHidden_8 (by decide) ?_
  refine lv_iload_n hx hb dME_goodHidden_11 rfl (lv_at hl 0 rfl) ?_
  refine mi_imul hx hb dME_goodHidden_12 ?_
  refine mi_as (show nI (384 * 3) = nI 1152 from rfl) ?_
  refine lv_iload_n hx hb dME_goodHidden_13 rfl (lv_at hl 2 rfl) ?_
  refine mp_i (cx := []) (wr := []) hP hD hS hA [] [] rfl rfl rfl (by decide) (va_runS (As := [.int (nI 1)]) (rest := [.int (nI 1152), .ref dk, .ref h0]) F (t_ME_openSize_1 l g _ T xs pl hO hU  ) (va_cwS 1 hts (wg_app (wg_c kw_1691 (wg_c kw_1692 (wg_c kw_11 wg_n))) kw_1693) rfl rfl rfl (by decide +kernel) ⟨by decide, by decide⟩) (pp_S (en_ok g) hP hD hS hA hE [] rfl rfl) rfl rfl hl.1 rfl (lv_room (Nat.le_of_ble_eq_true rfl)) dME_goodHidden_14 ⟨by omega, by omega⟩) (fun r21 pl H locs hu21 hP hD hS => ?_)
  obtain ⟨hq21, hO⟩ := hu21
  have hP : va_P g.1 vcl ([] ++ pl) _ := hP
  have hD : va_D _ ([] ++ pl) := hD
  obtain rfl := hq21
  refine W.widen (k := 0) (n := 0) (by omega) (by omega) ?_
  refine lv_aload_n hx hb dME_goodHidden_17 rfl (lv_at hl 1 rfl) ?_
  refine ty_get (ci := 11) (C := "LatticeKeysModel$Secrets") (TT := T_ME) (N := 14) (kd := (23, 0)) hx hb hts (wg_ft i_ME) hown hK hO k_h0 (nxg hc0 k_h0 rfl) hP (fun _ h9 => h9) rfl 11 (by decide) (hts _ (wg_t kw_1390)) (fun _ h9 => h9) (cd := (3, 1, 32)) rfl dME_goodHidden_18 (fun v21 hv21 => ?_)
  obtain ⟨r22, rfl, kr21⟩ := (show ∃ r : Nat, v21 = .ref r ∧ T r = some (1, 32) from hv21)
  refine lv_iconst (v := nI 0) hx hb dME_goodHidden_21 (by decide) ?_
  refine mp_v (cx := []) (wr := []) hP hD hS hA [] [] rfl rfl rfl (by decide) (va_runV (As := [.ref dk, .int (nI 1152), .int (nI 1184), .ref r22, .int (nI 0)]) (rest := []) F (t_ME_hash l g _ T xs pl hO hU hc0 hc9 h0 dk r22 16384 32 1152 1184 0 k_h0 k_dk kr21 (by omega) (by omega) (by omega) (by omega)) (cwV 5 hts (wg_app (wg_c kw_1694 (wg_c kw_1696 (wg_c ks_59 (wg_c kw_11 wg_n)))) kw_1697) rfl rfl rfl (by decide +kernel) ⟨by decide, by decide⟩) (pp_VT (en_ok g) (ci := 11) (kd := (23, 0)) hK hO k_h0 (nxg hc0 k_h0 rfl) (fun _ h9 => ko1 h9) hP hD hS hA hE [] rfl rfl rfl) rfl rfl hl.1 rfl (lv_room (Nat.le_of_ble_eq_true rfl)) dME_goodHidden_22 ⟨by omega, by omega⟩) (fun  pl H locs hu22 hP hD hS => ?_)
  obtain ⟨hq22, hO⟩ := hu22
  have hP : va_P g.1 vcl ([] ++ pl) _ := hP
  have hD : va_D _ ([] ++ pl) := hD
  refine W.widen (k := 0) (n := 0) (by omega) (by omega) ?_
  refine lv_iconst (v := nI 0) hx hb dME_goodHidden_25 (by decide) ?_
  refine lv_istore (lv' := [(4, .int (nI 0)), (3, .int (nI 3)), (0, .ref h0), (1, .int (nI 1)), (2, .ref dk)]) hx hb dME_goodHidden_26 hl (by decide) rfl (fun ls hl => ?_)
  have lp21 : ∀ (n21 : Nat) (i21 : Nat) (pl : va_W) (ls : Array Slot) (H : Heap) (locs : List Loc), n21 + i21 = 32 → lv_has ls 5 [(4, .int (nI i21)), (3, .int (nI 3)), (0, .ref h0), (2, .ref dk)] → okx g T xs pl → va_P g.1 vcl ([] ++ pl) H → va_D A ([] ++ pl) → va_S A s.heap H locs → W p l e ({ frames := 5, cells := 0, slots := 0, locals := 123 } : Room) s m args below meth c H locs 0 0 (MQ below (va_Qi (fun (r : Int32) (u : va_W) => (r = nI 0 ∨ r = nI 1) ∧ okx g T xs u) (po g.1 vcl A (fun (u : va_W) => [] ++ u)) A) args s 0 0 A) (F0 m 28 ls []) := by
    intro n21
    induction n21 with
    | zero =>
      intro i21 pl ls H locs hm21  hl hO hP hD hS
      refine lv_iload hx hb dME_goodHidden_28 (lv_at hl 0 rfl) ?_
      refine lv_bipush (v := nI 32) hx hb dME_goodHidden_30 (by decide) ?_
      refine mi_ge (tgt := 66) hx hb dME_goodHidden_32 (by decide) (by omega) (by omega) (fun h21 => ?_) (fun h21 => absurd h21 (by omega))
      refine lv_iconst (v := nI 1) hx hb dME_goodHidden_66 (by decide) ?_
      exact mp_zret hx hb hr hlk rfl hP hD hS pl ⟨(Or.inr rfl), hO⟩ [] rfl rfl rfl (by omega) (by omega) dME_goodHidden_67
    | succ n21 ih21 =>
      intro i21 pl ls H locs hm21  hl hO hP hD hS
      refine lv_iload hx hb dME_goodHidden_28 (lv_at hl 0 rfl) ?_
      refine lv_bipush (v := nI 32) hx hb dME_goodHidden_30 (by decide) ?_
      refine mi_ge (tgt := 66) hx hb dME_goodHidden_32 (by decide) (by omega) (by omega) (fun h22 => absurd h22 (by omega)) (fun h22 => ?_)
      refine lv_aload_n hx hb dME_goodHidden_35 rfl (lv_at hl 2 rfl) ?_
      refine ty_get (ci := 11) (C := "LatticeKeysModel$Secrets") (TT := T_ME) (N := 14) (kd := (23, 0)) hx hb hts (wg_ft i_ME) hown hK hO k_h0 (nxg hc0 k_h0 rfl) hP (fun _ h9 => h9) rfl 11 (by decide) (hts _ (wg_t kw_1390)) (fun _ h9 => h9) (cd := (3, 1, 32)) rfl dME_goodHidden_36 (fun v22 hv22 => ?_)
      obtain ⟨r23, rfl, kr22⟩ := (show ∃ r : Nat, v22 = .ref r ∧ T r = some (1, 32) from hv22)
      refine lv_iload hx hb dME_goodHidden_39 (lv_at hl 0 rfl) ?_
      refine ty_bald hx hb hK hO kr22 (nxg hc0 kr22 rfl) hP (vp_in_nI (by omega) (by decide)) dME_goodHidden_41 (fun z21 => ?_)
      refine lv_aload_n hx hb dME_goodHidden_42 rfl (lv_at hl 3 rfl) ?_
      refine lv_sipush (v := nI 768) hx hb dME_goodHidden_43 (by decide) ?_
      refine lv_iload_n hx hb dME_goodHidden_46 rfl (lv_at hl 1 rfl) ?_
      refine mi_imul hx hb dME_goodHidden_47 ?_
      refine mi_as (show nI (768 * 3) = nI 2304 from rfl) ?_
      refine lv_bipush (v := nI 32) hx hb dME_goodHidden_48 (by decide) ?_
      refine mi_iadd hx hb dME_goodHidden_50 ?_
      refine mi_as (show nI (2304 + 32) = nI 2336 from rfl) ?_
      refine lv_iload hx hb dME_goodHidden_51 (lv_at hl 0 rfl) ?_
      refine mi_iadd hx hb dME_goodHidden_53 ?_
      refine ty_bald hx hb hK hO k_dk (nxg hc0 k_dk rfl) hP (vp_in_nI (by omega) (by decide)) dME_goodHidden_54 (fun z22 => ?_)
      refine lv_icmp_eq (tgt := 60) hx hb dME_goodHidden_55 (by decide) (fun h23 => ?_) (fun h23 => ?_)
      · refine mi_iinc (k := 0) (x := i21) (d := 1) (y := i21 + 1) (lv' := [(4, .int (nI (i21 + 1))), (3, .int (nI 3)), (0, .ref h0), (2, .ref dk)]) hx hb dME_goodHidden_60 hl rfl (by decide) rfl (by decide) rfl (fun ls hl => ?_)
        refine lv_goto (tgt := 28) hx hb dME_goodHidden_63 (by decide) ?_
        exact ih21 (i21 + 1) pl ls H locs (by omega) (lv_sub hl [0, 1, 2, 3] rfl) hO hP hD hS
      · refine lv_iconst (v := nI 0) hx hb dME_goodHidden_58 (by decide) ?_
        exact mp_zret hx hb hr hlk rfl hP hD hS pl ⟨(Or.inl rfl), hO⟩ [] rfl rfl rfl (by omega) (by omega) dME_goodHidden_59
  exact lp21 32 0 pl ls _ _ (by omega) (lv_sub hl [0, 1, 2, 4] rfl) hO hP hD hS
set_option maxHeartbeats 400000 in
set_option maxRecDepth 100000 in
theorem t_ME_goodHidden_2 (l : Launch) (g : Gd) (sz : Nat) (T : Ty) (xs : List Nat) (pl : va_W) (hO : okx g T xs pl) (hU : uni T) (hc0 : clo T xs 0) (hc9 : clo T xs 9) (h0 dk : Nat) (k_h0 : T h0 = some (23, 0)) (k_dk : T dk = some (1, 16384))  : Met l y_ME_goodHidden w_ME_goodHidden ({ frames := 5, cells := 0, slots := 0, locals := 123 } : Room) (va_Pc [.ref h0, .int (nI 2), .ref dk] (pr (en g) g.1 vcl sz ([] ++ pl))) (va_Qi (fun (r : Int32) (u : va_W) => (r = nI 0 ∨ r = nI 1) ∧ okx g T xs u) (po g.1 vcl (va_A ([] ++ pl) sz) (fun (u : va_W) => [] ++ u)) (va_A ([] ++ pl) sz)) 0 0 (va_A ([] ++ pl) sz) := by
  refine mc_entry (cc := c_ME_goodHidden) (maxL := 5) (ret := (some .boolean)) (by decide) rfl (Nat.le_of_ble_eq_true rfl) ?_
  intro p e s m args below meth c ls F hr hlk hnm hsz hP hD hE hA hl
  obtain ⟨hx, hb, hml, hown, hts⟩ := id F
  have hK := hE.1
  generalize va_A ([] ++ pl) sz = A at hD hE hA ⊢
  have hS : va_S A s.heap s.heap [] := va_S.rf
  have hl : lv_has ls 5 [(0, .ref h0), (1, .int (nI 2)), (2, .ref dk)] := hl
  refine va_gets hx hb (hE.2.1 19 _ rfl).1 hS hown (hts _ (wg_t kw_1605)) (fun _ h9 => h9) dME_goodHidden_0 ?_
  refine lv_iload_n hx hb dME_goodHidden_3 rfl (lv_at hl 1 rfl) ?_
  refine va_ti (v := .int (nI 4)) hx hb (hE.2.1 19 _ rfl).2 hS (vp_in_nI (by decide) (by decide)) (by decide +kernel) dME_goodHidden_4 ?_
  refine lv_istore_n (lv' := [(3, .int (nI 4)), (0, .ref h0), (1, .int (nI 2)), (2, .ref dk)]) hx hb dME_goodHidden_5 rfl hl (by decide) rfl (fun ls hl => ?_)
  refine lv_aload_n hx hb dME_goodHidden_6 rfl (lv_at hl 1 rfl) ?_
  refine lv_aload_n hx hb dME_goodHidden_7 rfl (lv_at hl 3 rfl) ?_
  refine lv_sipush (v := nI 384) hx hb dME_goodHidden_8 (by decide) ?_
  refine lv_iload_n hx hb dME_goodHidden_11 rfl (lv_at hl 0 rfl) ?_
  refine mi_imul hx hb dME_goodHidden_12 ?_
  refine mi_as (show nI (384 * 4) = nI 1536 from rfl) ?_
  refine lv_iload_n hx hb dME_goodHidden_13 rfl (lv_at hl 2 rfl) ?_
  refine mp_i (cx := []) (wr := []) hP hD hS hA [] [] rfl rfl rfl (by decide) (va_runS (As := [.int (nI 2)]) (rest := [.int (nI 1536), .ref dk, .ref h0]) F (t_ME_openSize_2 l g _ T xs pl hO hU  ) (va_cwS 1 hts (wg_app (wg_c kw_1691 (wg_c kw_1692 (wg_c kw_11 wg_n))) kw_1693) rfl rfl rfl (by decide +kernel) ⟨by decide, by decide⟩) (pp_S (en_ok g) hP hD hS hA hE [] rfl rfl) rfl rfl hl.1 rfl (lv_room (Nat.le_of_ble_eq_true rfl)) dME_goodHidden_14 ⟨by omega, by omega⟩) (fun r21 pl H locs hu21 hP hD hS => ?_)
  obtain ⟨hq21, hO⟩ := hu21
  have hP : va_P g.1 vcl ([] ++ pl) _ := hP
  have hD : va_D _ ([] ++ pl) := hD
  obtain rfl := hq21
  refine W.widen (k := 0) (n := 0) (by omega) (by omega) ?_
  refine lv_aload_n hx hb dME_goodHidden_17 rfl (lv_at hl 1 rfl) ?_
  refine ty_get (ci := 11) (C := "LatticeKeysModel$Secrets") (TT := T_ME) (N := 14) (kd := (23, 0)) hx hb hts (wg_ft i_ME) hown hK hO k_h0 (nxg hc0 k_h0 rfl) hP (fun _ h9 => h9) rfl 11 (by decide) (hts _ (wg_t kw_1390)) (fun _ h9 => h9) (cd := (3, 1, 32)) rfl dME_goodHidden_18 (fun v21 hv21 => ?_)
  obtain ⟨r22, rfl, kr21⟩ := (show ∃ r : Nat, v21 = .ref r ∧ T r = some (1, 32) from hv21)
  refine lv_iconst (v := nI 0) hx hb dME_goodHidden_21 (by decide) ?_
  refine mp_v (cx := []) (wr := []) hP hD hS hA [] [] rfl rfl rfl (by decide) (va_runV (As := [.ref dk, .int (nI 1536), .int (nI 1568), .ref r22, .int (nI 0)]) (rest := []) F (t_ME_hash l g _ T xs pl hO hU hc0 hc9 h0 dk r22 16384 32 1536 1568 0 k_h0 k_dk kr21 (by omega) (by omega) (by omega) (by omega)) (cwV 5 hts (wg_app (wg_c kw_1694 (wg_c kw_1696 (wg_c ks_59 (wg_c kw_11 wg_n)))) kw_1697) rfl rfl rfl (by decide +kernel) ⟨by decide, by decide⟩) (pp_VT (en_ok g) (ci := 11) (kd := (23, 0)) hK hO k_h0 (nxg hc0 k_h0 rfl) (fun _ h9 => ko1 h9) hP hD hS hA hE [] rfl rfl rfl) rfl rfl hl.1 rfl (lv_room (Nat.le_of_ble_eq_true rfl)) dME_goodHidden_22 ⟨by omega, by omega⟩) (fun  pl H locs hu22 hP hD hS => ?_)
  obtain ⟨hq22, hO⟩ := hu22
  have hP : va_P g.1 vcl ([] ++ pl) _ := hP
  have hD : va_D _ ([] ++ pl) := hD
  refine W.widen (k := 0) (n := 0) (by omega) (by omega) ?_
  refine lv_iconst (v := nI 0) hx hb dME_goodHidden_25 (by decide) ?_
  refine lv_istore (lv' := [(4, .int (nI 0)), (3, .int (nI 4)), (0, .ref h0), (1, .int (nI 2)), (2, .ref dk)]) hx hb dME_goodHidden_26 hl (by decide) rfl (fun ls hl => ?_)
  have lp21 : ∀ (n21 : Nat) (i21 : Nat) (pl : va_W) (ls : Array Slot) (H : Heap) (locs : List Loc), n21 + i21 = 32 → lv_has ls 5 [(4, .int (nI i21)), (3, .int (nI 4)), (0, .ref h0), (2, .ref dk)] → okx g T xs pl → va_P g.1 vcl ([] ++ pl) H → va_D A ([] ++ pl) → va_S A s.heap H locs → W p l e ({ frames := 5, cells := 0, slots := 0, locals := 123 } : Room) s m args below meth c H locs 0 0 (MQ below (va_Qi (fun (r : Int32) (u : va_W) => (r = nI 0 ∨ r = nI 1) ∧ okx g T xs u) (po g.1 vcl A (fun (u : va_W) => [] ++ u)) A) args s 0 0 A) (F0 m 28 ls []) := by
    intro n21
    induction n21 with
    | zero =>
      intro i21 pl ls H locs hm21  hl hO hP hD hS
      refine lv_iload hx hb dME_goodHidden_28 (lv_at hl 0 rfl) ?_
      refine lv_bipush (v := nI 32) hx hb dME_goodHidden_30 (by decide) ?_
      refine mi_ge (tgt := 66) hx hb dME_goodHidden_32 (by decide) (by omega) (by omega) (fun h21 => ?_) (fun h21 => absurd h21 (by omega))
      refine lv_iconst (v := nI 1) hx hb dME_goodHidden_66 (by decide) ?_
      exact mp_zret hx hb hr hlk rfl hP hD hS pl ⟨(Or.inr rfl), hO⟩ [] rfl rfl rfl (by omega) (by omega) dME_goodHidden_67
    | succ n21 ih21 =>
      intro i21 pl ls H locs hm21  hl hO hP hD hS
      refine lv_iload hx hb dME_goodHidden_28 (lv_at hl 0 rfl) ?_
      refine lv_bipush (v := nI 32) hx hb dME_goodHidden_30 (by decide) ?_
      refine mi_ge (tgt := 66) hx hb dME_goodHidden_32 (by decide) (by omega) (by omega) (fun h22 => absurd h22 (by omega)) (fun h22 => ?_)
      refine lv_aload_n hx hb dME_goodHidden_35 rfl (lv_at hl 2 rfl) ?_
      refine ty_get (ci := 11) (C := "LatticeKeysModel$Secrets") (TT := T_ME) (N := 14) (kd := (23, 0)) hx hb hts (wg_ft i_ME) hown hK hO k_h0 (nxg hc0 k_h0 rfl) hP (fun _ h9 => h9) rfl 11 (by decide) (hts _ (wg_t kw_1390)) (fun _ h9 => h9) (cd := (3, 1, 32)) rfl dME_goodHidden_36 (fun v22 hv22 => ?_)
      obtain ⟨r23, rfl, kr22⟩ := (show ∃ r : Nat, v22 = .ref r ∧ T r = some (1, 32) from hv22)
      refine lv_iload hx hb dME_goodHidden_39 (lv_at hl 0 rfl) ?_
      refine ty_bald hx hb hK hO kr22 (nxg hc0 kr22 rfl) hP (vp_in_nI (by omega) (by decide)) dME_goodHidden_41 (fun z21 => ?_)
      refine lv_aload_n hx hb dME_goodHidden_42 rfl (lv_at hl 3 rfl) ?_
      refine lv_sipush (v := nI 768) hx hb dME_goodHidden_43 (by decide) ?_
      refine lv_iload_n hx hb dME_goodHidden_46 rfl (lv_at hl 1 rfl) ?_
      refine mi_imul hx hb dME_goodHidden_47 ?_
      refine mi_as (show nI (768 * 4) = nI 3072 from rfl) ?_
      refine lv_bipush (v := nI 32) hx hb dME_goodHidden_48 (by decide) ?_
      refine mi_iadd hx hb dME_goodHidden_50 ?_
      refine mi_as (show nI (3072 + 32) = nI 3104 from rfl) ?_
      refine lv_iload hx hb dME_goodHidden_51 (lv_at hl 0 rfl) ?_
      refine mi_iadd hx hb dME_goodHidden_53 ?_
      refine ty_bald hx hb hK hO k_dk (nxg hc0 k_dk rfl) hP (vp_in_nI (by omega) (by decide)) dME_goodHidden_54 (fun z22 => ?_)
      refine lv_icmp_eq (tgt := 60) hx hb dME_goodHidden_55 (by decide) (fun h23 => ?_) (fun h23 => ?_)
      · refine mi_iinc (k := 0) (x := i21) (d := 1) (y := i21 + 1) (lv' := [(4, .int (nI (i21 + 1))), (3, .int (nI 4)), (0, .ref h0), (2, .ref dk)]) hx hb dME_goodHidden_60 hl rfl (by decide) rfl (by decide) rfl (fun ls hl => ?_)
        refine lv_goto (tgt := 28) hx hb dME_goodHidden_63 (by decide) ?_
        exact ih21 (i21 + 1) pl ls H locs (by omega) (lv_sub hl [0, 1, 2, 3] rfl) hO hP hD hS
      · refine lv_iconst (v := nI 0) hx hb dME_goodHidden_58 (by decide) ?_
        exact mp_zret hx hb hr hlk rfl hP hD hS pl ⟨(Or.inl rfl), hO⟩ [] rfl rfl rfl (by omega) (by omega) dME_goodHidden_59
  exact lp21 32 0 pl ls _ _ (by omega) (lv_sub hl [0, 1, 2, 4] rfl) hO hP hD hS
