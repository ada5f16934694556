set_option linter.all false
abbrev c_ME_openSize : ByteArray := prog_15_method_2_code
abbrev y_ME_openSize : MethodName := ⟨"LatticeKeysModel$Secrets", "openSize", "(I)I"⟩
abbrev w_ME_openSize : List Cond := Cond.code y_ME_openSize c_ME_openSize 1 (some .int) :: WG
theorem dME_openSize_0 : decode c_ME_openSize 0 = .ok (.sipush 384, 3) := by decide +kernel
theorem dME_openSize_3 : decode c_ME_openSize 3 = .ok (.getstatic 62, 3) := by decide +kernel
theorem dME_openSize_6 : decode c_ME_openSize 6 = .ok (.iload_n 0, 1) := by decide +kernel
theorem dME_openSize_7 : decode c_ME_openSize 7 = .ok (.iaload, 1) := by decide +kernel
theorem dME_openSize_8 : decode c_ME_openSize 8 = .ok (.imul, 1) := by decide +kernel
theorem dME_openSize_9 : decode c_ME_openSize 9 = .ok (.bipush 32, 2) := by decide +kernel
theorem dME_openSize_11 : decode c_ME_openSize 11 = .ok (.iadd, 1) := by decide +kernel
theorem dME_openSize_12 : decode c_ME_openSize 12 = .ok (.ireturn, 1) := by decide +kernel
abbrev c_ME_sealedSize : ByteArray := prog_15_method_4_code
abbrev y_ME_sealedSize : MethodName := ⟨"LatticeKeysModel$Secrets", "sealedSize", "(I)I"⟩
abbrev w_ME_sealedSize : List Cond := Cond.code y_ME_sealedSize c_ME_sealedSize 1 (some .int) :: WG
theorem dME_sealedSize_0 : decode c_ME_sealedSize 0 = .ok (.bipush 32, 2) := by decide +kernel
theorem dME_sealedSize_2 : decode c_ME_sealedSize 2 = .ok (.getstatic 65, 3) := by decide +kernel
theorem dME_sealedSize_5 : decode c_ME_sealedSize 5 = .ok (.iload_n 0, 1) := by decide +kernel
theorem dME_sealedSize_6 : decode c_ME_sealedSize 6 = .ok (.iaload, 1) := by decide +kernel
theorem dME_sealedSize_7 : decode c_ME_sealedSize 7 = .ok (.getstatic 62, 3) := by decide +kernel
theorem dME_sealedSize_10 : decode c_ME_sealedSize 10 = .ok (.iload_n 0, 1) := by decide +kernel
theorem dME_sealedSize_11 : decode c_ME_sealedSize 11 = .ok (.iaload, 1) := by decide +kernel
theorem dME_sealedSize_12 : decode c_ME_sealedSize 12 = .ok (.imul, 1) := by decide +kernel
theorem dME_sealedSize_13 : decode c_ME_sealedSize 13 = .ok (.getstatic 68, 3) := by decide +kernel
theorem dME_sealedSize_16 : decode c_ME_sealedSize 16 = .ok (.iload_n 0, 1) := by decide +kernel
theorem dME_sealedSize_17 : decode c_ME_sealedSize 17 = .ok (.iaload, 1) := by decide +kernel
theorem dME_sealedSize_18 : decode c_ME_sealedSize 18 = .ok (.iadd, 1) := by decide +kernel
theorem dME_sealedSize_19 : decode c_ME_sealedSize 19 = .ok (.imul, 1) := by decide +kernel
theorem dME_sealedSize_20 : decode c_ME_sealedSize 20 = .ok (.ireturn, 1) := by decide +kernel
abbrev c_ME_hiddenSize : ByteArray := prog_15_method_3_code
abbrev y_ME_hiddenSize : MethodName := ⟨"LatticeKeysModel$Secrets", "hiddenSize", "(I)I"⟩
abbrev w_ME_hiddenSize : List Cond := Cond.code y_ME_hiddenSize c_ME_hiddenSize 1 (some .int) :: WG
theorem dME_hiddenSize_0 : decode c_ME_hiddenSize 0 = .ok (.sipush 768, 3) := by decide +kernel
theorem dME_hiddenSize_3 : decode c_ME_hiddenSize 3 = .ok (.getstatic 62, 3) := by decide +kernel
theorem dME_hiddenSize_6 : decode c_ME_hiddenSize 6 = .ok (.iload_n 0, 1) := by decide +kernel
theorem dME_hiddenSize_7 : decode c_ME_hiddenSize 7 = .ok (.iaload, 1) := by decide +kernel
theorem dME_hiddenSize_8 : decode c_ME_hiddenSize 8 = .ok (.imul, 1) := by decide +kernel
theorem dME_hiddenSize_9 : decode c_ME_hiddenSize 9 = .ok (.bipush 96, 2) := by decide +kernel
theorem dME_hiddenSize_11 : decode c_ME_hiddenSize 11 = .ok (.iadd, 1) := by decide +kernel
theorem dME_hiddenSize_12 : decode c_ME_hiddenSize 12 = .ok (.ireturn, 1) := by decide +kernel
abbrev c_ME_keys : ByteArray := prog_15_method_19_code
abbrev y_ME_keys : MethodName := ⟨"LatticeKeysModel$Secrets", "keys", "(I[B[B[B)V"⟩
abbrev w_ME_keys : List Cond := Cond.code y_ME_keys c_ME_keys 8 none :: WG
theorem dME_keys_0 : decode c_ME_keys 0 = .ok (.getstatic 62, 3) := by decide +kernel
theorem dME_keys_3 : decode c_ME_keys 3 = .ok (.iload_n 1, 1) := by decide +kernel
theorem dME_keys_4 : decode c_ME_keys 4 = .ok (.iaload, 1) := by decide +kernel
theorem dME_keys_5 : decode c_ME_keys 5 = .ok (.istore 5, 2) := by decide +kernel
theorem dME_keys_7 : decode c_ME_keys 7 = .ok (.aload_n 0, 1) := by decide +kernel
theorem dME_keys_8 : decode c_ME_keys 8 = .ok (.getfield 58, 3) := by decide +kernel
theorem dME_keys_11 : decode c_ME_keys 11 = .ok (.bipush 72, 2) := by decide +kernel
theorem dME_keys_13 : decode c_ME_keys 13 = .ok (.bipush 6, 2) := by decide +kernel
theorem dME_keys_15 : decode c_ME_keys 15 = .ok (.invokevirtual 71, 3) := by decide +kernel
theorem dME_keys_18 : decode c_ME_keys 18 = .ok (.aload_n 0, 1) := by decide +kernel
theorem dME_keys_19 : decode c_ME_keys 19 = .ok (.getfield 58, 3) := by decide +kernel
theorem dME_keys_22 : decode c_ME_keys 22 = .ok (.aload_n 2, 1) := by decide +kernel
theorem dME_keys_23 : decode c_ME_keys 23 = .ok (.iconst 0, 1) := by decide +kernel
theorem dME_keys_24 : decode c_ME_keys 24 = .ok (.bipush 32, 2) := by decide +kernel
theorem dME_keys_26 : decode c_ME_keys 26 = .ok (.invokevirtual 77, 3) := by decide +kernel
theorem dME_keys_29 : decode c_ME_keys 29 = .ok (.aload_n 0, 1) := by decide +kernel
theorem dME_keys_30 : decode c_ME_keys 30 = .ok (.getfield 58, 3) := by decide +kernel
theorem dME_keys_33 : decode c_ME_keys 33 = .ok (.iload 5, 2) := by decide +kernel
theorem dME_keys_35 : decode c_ME_keys 35 = .ok (.invokevirtual 81, 3) := by decide +kernel
theorem dME_keys_38 : decode c_ME_keys 38 = .ok (.aload_n 0, 1) := by decide +kernel
theorem dME_keys_39 : decode c_ME_keys 39 = .ok (.getfield 58, 3) := by decide +kernel
theorem dME_keys_42 : decode c_ME_keys 42 = .ok (.invokevirtual 84, 3) := by decide +kernel
theorem dME_keys_45 : decode c_ME_keys 45 = .ok (.aload_n 0, 1) := by decide +kernel
theorem dME_keys_46 : decode c_ME_keys 46 = .ok (.getfield 58, 3) := by decide +kernel
theorem dME_keys_49 : decode c_ME_keys 49 = .ok (.aload_n 0, 1) := by decide +kernel
theorem dME_keys_50 : decode c_ME_keys 50 = .ok (.getfield 42, 3) := by decide +kernel
theorem dME_keys_53 : decode c_ME_keys 53 = .ok (.iconst 0, 1) := by decide +kernel
theorem dME_keys_54 : decode c_ME_keys 54 = .ok (.bipush 64, 2) := by decide +kernel
theorem dME_keys_56 : decode c_ME_keys 56 = .ok (.invokevirtual 98, 3) := by decide +kernel
theorem dME_keys_59 : decode c_ME_keys 59 = .ok (.aload_n 0, 1) := by decide +kernel
theorem dME_keys_60 : decode c_ME_keys 60 = .ok (.aload_n 0, 1) := by decide +kernel
theorem dME_keys_61 : decode c_ME_keys 61 = .ok (.getfield 42, 3) := by decide +kernel
theorem dME_keys_64 : decode c_ME_keys 64 = .ok (.iconst 0, 1) := by decide +kernel
theorem dME_keys_65 : decode c_ME_keys 65 = .ok (.iload 5, 2) := by decide +kernel
theorem dME_keys_67 : decode c_ME_keys 67 = .ok (.invokevirtual 124, 3) := by decide +kernel
theorem dME_keys_70 : decode c_ME_keys 70 = .ok (.iconst 0, 1) := by decide +kernel
theorem dME_keys_71 : decode c_ME_keys 71 = .ok (.istore 6, 2) := by decide +kernel
theorem dME_keys_73 : decode c_ME_keys 73 = .ok (.iload 6, 2) := by decide +kernel
theorem dME_keys_75 : decode c_ME_keys 75 = .ok (.iload 5, 2) := by decide +kernel
theorem dME_keys_77 : decode c_ME_keys 77 = .ok (.if_icmp .ge 82, 3) := by decide +kernel
theorem dME_keys_80 : decode c_ME_keys 80 = .ok (.aload_n 0, 1) := by decide +kernel
theorem dME_keys_81 : decode c_ME_keys 81 = .ok (.aload_n 0, 1) := by decide +kernel
theorem dME_keys_82 : decode c_ME_keys 82 = .ok (.getfield 23, 3) := by decide +kernel
theorem dME_keys_85 : decode c_ME_keys 85 = .ok (.iload 6, 2) := by decide +kernel
theorem dME_keys_87 : decode c_ME_keys 87 = .ok (.aaload, 1) := by decide +kernel
theorem dME_keys_88 : decode c_ME_keys 88 = .ok (.aload_n 0, 1) := by decide +kernel
theorem dME_keys_89 : decode c_ME_keys 89 = .ok (.getfield 42, 3) := by decide +kernel
theorem dME_keys_92 : decode c_ME_keys 92 = .ok (.bipush 32, 2) := by decide +kernel
theorem dME_keys_94 : decode c_ME_keys 94 = .ok (.iload 6, 2) := by decide +kernel
theorem dME_keys_96 : decode c_ME_keys 96 = .ok (.getstatic 127, 3) := by decide +kernel
theorem dME_keys_99 : decode c_ME_keys 99 = .ok (.iload_n 1, 1) := by decide +kernel
theorem dME_keys_100 : decode c_ME_keys 100 = .ok (.iaload, 1) := by decide +kernel
theorem dME_keys_101 : decode c_ME_keys 101 = .ok (.invokevirtual 130, 3) := by decide +kernel
theorem dME_keys_104 : decode c_ME_keys 104 = .ok (.aload_n 0, 1) := by decide +kernel
theorem dME_keys_105 : decode c_ME_keys 105 = .ok (.aload_n 0, 1) := by decide +kernel
theorem dME_keys_106 : decode c_ME_keys 106 = .ok (.getfield 26, 3) := by decide +kernel
theorem dME_keys_109 : decode c_ME_keys 109 = .ok (.iload 6, 2) := by decide +kernel
theorem dME_keys_111 : decode c_ME_keys 111 = .ok (.aaload, 1) := by decide +kernel
theorem dME_keys_112 : decode c_ME_keys 112 = .ok (.aload_n 0, 1) := by decide +kernel
theorem dME_keys_113 : decode c_ME_keys 113 = .ok (.getfield 42, 3) := by decide +kernel
theorem dME_keys_116 : decode c_ME_keys 116 = .ok (.bipush 32, 2) := by decide +kernel
theorem dME_keys_118 : decode c_ME_keys 118 = .ok (.iload 5, 2) := by decide +kernel
theorem dME_keys_120 : decode c_ME_keys 120 = .ok (.iload 6, 2) := by decide +kernel
theorem dME_keys_122 : decode c_ME_keys 122 = .ok (.iadd, 1) := by decide +kernel
theorem dME_keys_123 : decode c_ME_keys 123 = .ok (.getstatic 127, 3) := by decide +kernel
theorem dME_keys_126 : decode c_ME_keys 126 = .ok (.iload_n 1, 1) := by decide +kernel
theorem dME_keys_127 : decode c_ME_keys 127 = .ok (.iaload, 1) := by decide +kernel
theorem dME_keys_128 : decode c_ME_keys 128 = .ok (.invokevirtual 130, 3) := by decide +kernel
theorem dME_keys_131 : decode c_ME_keys 131 = .ok (.aload_n 0, 1) := by decide +kernel
theorem dME_keys_132 : decode c_ME_keys 132 = .ok (.aload_n 0, 1) := by decide +kernel
theorem dME_keys_133 : decode c_ME_keys 133 = .ok (.getfield 23, 3) := by decide +kernel
theorem dME_keys_136 : decode c_ME_keys 136 = .ok (.iload 6, 2) := by decide +kernel
theorem dME_keys_138 : decode c_ME_keys 138 = .ok (.aaload, 1) := by decide +kernel
theorem dME_keys_139 : decode c_ME_keys 139 = .ok (.invokevirtual 134, 3) := by decide +kernel
theorem dME_keys_142 : decode c_ME_keys 142 = .ok (.aload_n 0, 1) := by decide +kernel
theorem dME_keys_143 : decode c_ME_keys 143 = .ok (.aload_n 0, 1) := by decide +kernel
theorem dME_keys_144 : decode c_ME_keys 144 = .ok (.getfield 26, 3) := by decide +kernel
theorem dME_keys_147 : decode c_ME_keys 147 = .ok (.iload 6, 2) := by decide +kernel
theorem dME_keys_149 : decode c_ME_keys 149 = .ok (.aaload, 1) := by decide +kernel
theorem dME_keys_150 : decode c_ME_keys 150 = .ok (.invokevirtual 134, 3) := by decide +kernel
theorem dME_keys_153 : decode c_ME_keys 153 = .ok (.iinc 6 1, 3) := by decide +kernel
theorem dME_keys_156 : decode c_ME_keys 156 = .ok (.goto (-83), 3) := by decide +kernel
theorem dME_keys_159 : decode c_ME_keys 159 = .ok (.iconst 0, 1) := by decide +kernel
theorem dME_keys_160 : decode c_ME_keys 160 = .ok (.istore 6, 2) := by decide +kernel
theorem dME_keys_162 : decode c_ME_keys 162 = .ok (.iload 6, 2) := by decide +kernel
theorem dME_keys_164 : decode c_ME_keys 164 = .ok (.iload 5, 2) := by decide +kernel
theorem dME_keys_166 : decode c_ME_keys 166 = .ok (.if_icmp .ge 94, 3) := by decide +kernel
theorem dME_keys_169 : decode c_ME_keys 169 = .ok (.iconst 0, 1) := by decide +kernel
theorem dME_keys_170 : decode c_ME_keys 170 = .ok (.istore 7, 2) := by decide +kernel
theorem dME_keys_172 : decode c_ME_keys 172 = .ok (.iload 7, 2) := by decide +kernel
theorem dME_keys_174 : decode c_ME_keys 174 = .ok (.iload 5, 2) := by decide +kernel
theorem dME_keys_176 : decode c_ME_keys 176 = .ok (.if_icmp .ge 39, 3) := by decide +kernel
theorem dME_keys_179 : decode c_ME_keys 179 = .ok (.aload_n 0, 1) := by decide +kernel
theorem dME_keys_180 : decode c_ME_keys 180 = .ok (.aload_n 0, 1) := by decide +kernel
theorem dME_keys_181 : decode c_ME_keys 181 = .ok (.getfield 20, 3) := by decide +kernel
theorem dME_keys_184 : decode c_ME_keys 184 = .ok (.iconst 4, 1) := by decide +kernel
theorem dME_keys_185 : decode c_ME_keys 185 = .ok (.iload 6, 2) := by decide +kernel
theorem dME_keys_187 : decode c_ME_keys 187 = .ok (.imul, 1) := by decide +kernel
theorem dME_keys_188 : decode c_ME_keys 188 = .ok (.iload 7, 2) := by decide +kernel
theorem dME_keys_190 : decode c_ME_keys 190 = .ok (.iadd, 1) := by decide +kernel
theorem dME_keys_191 : decode c_ME_keys 191 = .ok (.aaload, 1) := by decide +kernel
theorem dME_keys_192 : decode c_ME_keys 192 = .ok (.aload_n 0, 1) := by decide +kernel
theorem dME_keys_193 : decode c_ME_keys 193 = .ok (.getfield 23, 3) := by decide +kernel
theorem dME_keys_196 : decode c_ME_keys 196 = .ok (.iload 7, 2) := by decide +kernel
theorem dME_keys_198 : decode c_ME_keys 198 = .ok (.aaload, 1) := by decide +kernel
theorem dME_keys_199 : decode c_ME_keys 199 = .ok (.aload_n 0, 1) := by decide +kernel
theorem dME_keys_200 : decode c_ME_keys 200 = .ok (.getfield 26, 3) := by decide +kernel
theorem dME_keys_203 : decode c_ME_keys 203 = .ok (.iload 6, 2) := by decide +kernel
theorem dME_keys_205 : decode c_ME_keys 205 = .ok (.aaload, 1) := by decide +kernel
theorem dME_keys_206 : decode c_ME_keys 206 = .ok (.invokevirtual 136, 3) := by decide +kernel
theorem dME_keys_209 : decode c_ME_keys 209 = .ok (.iinc 7 1, 3) := by decide +kernel
theorem dME_keys_212 : decode c_ME_keys 212 = .ok (.goto (-40), 3) := by decide +kernel
theorem dME_keys_215 : decode c_ME_keys 215 = .ok (.aload_n 0, 1) := by decide +kernel
theorem dME_keys_216 : decode c_ME_keys 216 = .ok (.getfield 26, 3) := by decide +kernel
theorem dME_keys_219 : decode c_ME_keys 219 = .ok (.iload 6, 2) := by decide +kernel
theorem dME_keys_221 : decode c_ME_keys 221 = .ok (.aaload, 1) := by decide +kernel
theorem dME_keys_222 : decode c_ME_keys 222 = .ok (.aload_n 3, 1) := by decide +kernel
theorem dME_keys_223 : decode c_ME_keys 223 = .ok (.sipush 384, 3) := by decide +kernel
theorem dME_keys_226 : decode c_ME_keys 226 = .ok (.iload 6, 2) := by decide +kernel
theorem dME_keys_228 : decode c_ME_keys 228 = .ok (.imul, 1) := by decide +kernel
theorem dME_keys_229 : decode c_ME_keys 229 = .ok (.bipush 12, 2) := by decide +kernel
theorem dME_keys_231 : decode c_ME_keys 231 = .ok (.invokestatic 140, 3) := by decide +kernel
theorem dME_keys_234 : decode c_ME_keys 234 = .ok (.aload_n 0, 1) := by decide +kernel
theorem dME_keys_235 : decode c_ME_keys 235 = .ok (.getfield 23, 3) := by decide +kernel
theorem dME_keys_238 : decode c_ME_keys 238 = .ok (.iload 6, 2) := by decide +kernel
theorem dME_keys_240 : decode c_ME_keys 240 = .ok (.aaload, 1) := by decide +kernel
theorem dME_keys_241 : decode c_ME_keys 241 = .ok (.aload 4, 2) := by decide +kernel
theorem dME_keys_243 : decode c_ME_keys 243 = .ok (.sipush 384, 3) := by decide +kernel
theorem dME_keys_246 : decode c_ME_keys 246 = .ok (.iload 6, 2) := by decide +kernel
theorem dME_keys_248 : decode c_ME_keys 248 = .ok (.imul, 1) := by decide +kernel
theorem dME_keys_249 : decode c_ME_keys 249 = .ok (.bipush 12, 2) := by decide +kernel
theorem dME_keys_251 : decode c_ME_keys 251 = .ok (.invokestatic 140, 3) := by decide +kernel
theorem dME_keys_254 : decode c_ME_keys 254 = .ok (.iinc 6 1, 3) := by decide +kernel
theorem dME_keys_257 : decode c_ME_keys 257 = .ok (.goto (-95), 3) := by decide +kernel
theorem dME_keys_260 : decode c_ME_keys 260 = .ok (.iconst 0, 1) := by decide +kernel
theorem dME_keys_261 : decode c_ME_keys 261 = .ok (.istore 6, 2) := by decide +kernel
theorem dME_keys_263 : decode c_ME_keys 263 = .ok (.iload 6, 2) := by decide +kernel
theorem dME_keys_265 : decode c_ME_keys 265 = .ok (.bipush 32, 2) := by decide +kernel
theorem dME_keys_267 : decode c_ME_keys 267 = .ok (.if_icmp .ge 27, 3) := by decide +kernel
theorem dME_keys_270 : decode c_ME_keys 270 = .ok (.aload_n 3, 1) := by decide +kernel
theorem dME_keys_271 : decode c_ME_keys 271 = .ok (.sipush 384, 3) := by decide +kernel
theorem dME_keys_274 : decode c_ME_keys 274 = .ok (.iload 5, 2) := by decide +kernel
theorem dME_keys_276 : decode c_ME_keys 276 = .ok (.imul, 1) := by decide +kernel
theorem dME_keys_277 : decode c_ME_keys 277 = .ok (.iload 6, 2) := by decide +kernel
theorem dME_keys_279 : decode c_ME_keys 279 = .ok (.iadd, 1) := by decide +kernel
theorem dME_keys_280 : decode c_ME_keys 280 = .ok (.aload_n 0, 1) := by decide +kernel
theorem dME_keys_281 : decode c_ME_keys 281 = .ok (.getfield 42, 3) := by decide +kernel
theorem dME_keys_284 : decode c_ME_keys 284 = .ok (.iload 6, 2) := by decide +kernel
theorem dME_keys_286 : decode c_ME_keys 286 = .ok (.baload, 1) := by decide +kernel
theorem dME_keys_287 : decode c_ME_keys 287 = .ok (.bastore, 1) := by decide +kernel
theorem dME_keys_288 : decode c_ME_keys 288 = .ok (.iinc 6 1, 3) := by decide +kernel
theorem dME_keys_291 : decode c_ME_keys 291 = .ok (.goto (-28), 3) := by decide +kernel
theorem dME_keys_294 : decode c_ME_keys 294 = .ok (.iconst 0, 1) := by decide +kernel
theorem dME_keys_295 : decode c_ME_keys 295 = .ok (.istore 6, 2) := by decide +kernel
theorem dME_keys_297 : decode c_ME_keys 297 = .ok (.iload 6, 2) := by decide +kernel
theorem dME_keys_299 : decode c_ME_keys 299 = .ok (.iload_n 1, 1) := by decide +kernel
theorem dME_keys_300 : decode c_ME_keys 300 = .ok (.invokestatic 144, 3) := by decide +kernel
theorem dME_keys_303 : decode c_ME_keys 303 = .ok (.if_icmp .ge 25, 3) := by decide +kernel
theorem dME_keys_306 : decode c_ME_keys 306 = .ok (.aload 4, 2) := by decide +kernel
theorem dME_keys_308 : decode c_ME_keys 308 = .ok (.sipush 384, 3) := by decide +kernel
theorem dME_keys_311 : decode c_ME_keys 311 = .ok (.iload 5, 2) := by decide +kernel
theorem dME_keys_313 : decode c_ME_keys 313 = .ok (.imul, 1) := by decide +kernel
theorem dME_keys_314 : decode c_ME_keys 314 = .ok (.iload 6, 2) := by decide +kernel
theorem dME_keys_316 : decode c_ME_keys 316 = .ok (.iadd, 1) := by decide +kernel
theorem dME_keys_317 : decode c_ME_keys 317 = .ok (.aload_n 3, 1) := by decide +kernel
theorem dME_keys_318 : decode c_ME_keys 318 = .ok (.iload 6, 2) := by decide +kernel
theorem dME_keys_320 : decode c_ME_keys 320 = .ok (.baload, 1) := by decide +kernel
theorem dME_keys_321 : decode c_ME_keys 321 = .ok (.bastore, 1) := by decide +kernel
theorem dME_keys_322 : decode c_ME_keys 322 = .ok (.iinc 6 1, 3) := by decide +kernel
theorem dME_keys_325 : decode c_ME_keys 325 = .ok (.goto (-28), 3) := by decide +kernel
theorem dME_keys_328 : decode c_ME_keys 328 = .ok (.aload_n 0, 1) := by decide +kernel
theorem dME_keys_329 : decode c_ME_keys 329 = .ok (.aload_n 3, 1) := by decide +kernel
theorem dME_keys_330 : decode c_ME_keys 330 = .ok (.iconst 0, 1) := by decide +kernel
theorem dME_keys_331 : decode c_ME_keys 331 = .ok (.iload_n 1, 1) := by decide +kernel
theorem dME_keys_332 : decode c_ME_keys 332 = .ok (.invokestatic 144, 3) := by decide +kernel
theorem dME_keys_335 : decode c_ME_keys 335 = .ok (.aload 4, 2) := by decide +kernel
theorem dME_keys_337 : decode c_ME_keys 337 = .ok (.sipush 768, 3) := by decide +kernel
theorem dME_keys_340 : decode c_ME_keys 340 = .ok (.iload 5, 2) := by decide +kernel
theorem dME_keys_342 : decode c_ME_keys 342 = .ok (.imul, 1) := by decide +kernel
theorem dME_keys_343 : decode c_ME_keys 343 = .ok (.bipush 32, 2) := by decide +kernel
theorem dME_keys_345 : decode c_ME_keys 345 = .ok (.iadd, 1) := by decide +kernel
theorem dME_keys_346 : decode c_ME_keys 346 = .ok (.invokevirtual 148, 3) := by decide +kernel
theorem dME_keys_349 : decode c_ME_keys 349 = .ok (.iconst 0, 1) := by decide +kernel
theorem dME_keys_350 : decode c_ME_keys 350 = .ok (.istore 6, 2) := by decide +kernel
theorem dME_keys_352 : decode c_ME_keys 352 = .ok (.iload 6, 2) := by decide +kernel
theorem dME_keys_354 : decode c_ME_keys 354 = .ok (.bipush 32, 2) := by decide +kernel
theorem dME_keys_356 : decode c_ME_keys 356 = .ok (.if_icmp .ge 31, 3) := by decide +kernel
theorem dME_keys_359 : decode c_ME_keys 359 = .ok (.aload 4, 2) := by decide +kernel
theorem dME_keys_361 : decode c_ME_keys 361 = .ok (.sipush 768, 3) := by decide +kernel
theorem dME_keys_364 : decode c_ME_keys 364 = .ok (.iload 5, 2) := by decide +kernel
theorem dME_keys_366 : decode c_ME_keys 366 = .ok (.imul, 1) := by decide +kernel
theorem dME_keys_367 : decode c_ME_keys 367 = .ok (.bipush 64, 2) := by decide +kernel
theorem dME_keys_369 : decode c_ME_keys 369 = .ok (.iadd, 1) := by decide +kernel
theorem dME_keys_370 : decode c_ME_keys 370 = .ok (.iload 6, 2) := by decide +kernel
theorem dME_keys_372 : decode c_ME_keys 372 = .ok (.iadd, 1) := by decide +kernel
theorem dME_keys_373 : decode c_ME_keys 373 = .ok (.aload_n 2, 1) := by decide +kernel
theorem dME_keys_374 : decode c_ME_keys 374 = .ok (.bipush 32, 2) := by decide +kernel
theorem dME_keys_376 : decode c_ME_keys 376 = .ok (.iload 6, 2) := by decide +kernel
theorem dME_keys_378 : decode c_ME_keys 378 = .ok (.iadd, 1) := by decide +kernel
theorem dME_keys_379 : decode c_ME_keys 379 = .ok (.baload, 1) := by decide +kernel
theorem dME_keys_380 : decode c_ME_keys 380 = .ok (.bastore, 1) := by decide +kernel
theorem dME_keys_381 : decode c_ME_keys 381 = .ok (.iinc 6 1, 3) := by decide +kernel
theorem dME_keys_384 : decode c_ME_keys 384 = .ok (.goto (-32), 3) := by decide +kernel
theorem dME_keys_387 : decode c_ME_keys 387 = .ok (.return_, 1) := by decide +kernel
abbrev c_ME_encrypt : ByteArray := prog_15_method_20_code
abbrev y_ME_encrypt : MethodName := ⟨"LatticeKeysModel$Secrets", "encrypt", "(I[BI[B[B)V"⟩
abbrev w_ME_encrypt : List Cond := Cond.code y_ME_encrypt c_ME_encrypt 9 none :: WG
theorem dME_encrypt_0 : decode c_ME_encrypt 0 = .ok (.getstatic 62, 3) := by decide +kernel
theorem dME_encrypt_3 : decode c_ME_encrypt 3 = .ok (.iload_n 1, 1) := by decide +kernel
theorem dME_encrypt_4 : decode c_ME_encrypt 4 = .ok (.iaload, 1) := by decide +kernel
theorem dME_encrypt_5 : decode c_ME_encrypt 5 = .ok (.istore 6, 2) := by decide +kernel
theorem dME_encrypt_7 : decode c_ME_encrypt 7 = .ok (.aload_n 0, 1) := by decide +kernel
theorem dME_encrypt_8 : decode c_ME_encrypt 8 = .ok (.aload_n 2, 1) := by decide +kernel
theorem dME_encrypt_9 : decode c_ME_encrypt 9 = .ok (.iload_n 3, 1) := by decide +kernel
theorem dME_encrypt_10 : decode c_ME_encrypt 10 = .ok (.sipush 384, 3) := by decide +kernel
theorem dME_encrypt_13 : decode c_ME_encrypt 13 = .ok (.iload 6, 2) := by decide +kernel
theorem dME_encrypt_15 : decode c_ME_encrypt 15 = .ok (.imul, 1) := by decide +kernel
theorem dME_encrypt_16 : decode c_ME_encrypt 16 = .ok (.iadd, 1) := by decide +kernel
theorem dME_encrypt_17 : decode c_ME_encrypt 17 = .ok (.iload 6, 2) := by decide +kernel
theorem dME_encrypt_19 : decode c_ME_encrypt 19 = .ok (.invokevirtual 124, 3) := by decide +kernel
theorem dME_encrypt_22 : decode c_ME_encrypt 22 = .ok (.iconst 0, 1) := by decide +kernel
theorem dME_encrypt_23 : decode c_ME_encrypt 23 = .ok (.istore 7, 2) := by decide +kernel
theorem dME_encrypt_25 : decode c_ME_encrypt 25 = .ok (.iload 7, 2) := by decide +kernel
theorem dME_encrypt_27 : decode c_ME_encrypt 27 = .ok (.iload 6, 2) := by decide +kernel
theorem dME_encrypt_29 : decode c_ME_encrypt 29 = .ok (.if_icmp .ge 98, 3) := by decide +kernel
theorem dME_encrypt_32 : decode c_ME_encrypt 32 = .ok (.aload_n 2, 1) := by decide +kernel
theorem dME_encrypt_33 : decode c_ME_encrypt 33 = .ok (.iload_n 3, 1) := by decide +kernel
theorem dME_encrypt_34 : decode c_ME_encrypt 34 = .ok (.sipush 384, 3) := by decide +kernel
theorem dME_encrypt_37 : decode c_ME_encrypt 37 = .ok (.iload 7, 2) := by decide +kernel
theorem dME_encrypt_39 : decode c_ME_encrypt 39 = .ok (.imul, 1) := by decide +kernel
theorem dME_encrypt_40 : decode c_ME_encrypt 40 = .ok (.iadd, 1) := by decide +kernel
theorem dME_encrypt_41 : decode c_ME_encrypt 41 = .ok (.bipush 12, 2) := by decide +kernel
theorem dME_encrypt_43 : decode c_ME_encrypt 43 = .ok (.aload_n 0, 1) := by decide +kernel
theorem dME_encrypt_44 : decode c_ME_encrypt 44 = .ok (.getfield 29, 3) := by decide +kernel
theorem dME_encrypt_47 : decode c_ME_encrypt 47 = .ok (.iload 7, 2) := by decide +kernel
theorem dME_encrypt_49 : decode c_ME_encrypt 49 = .ok (.aaload, 1) := by decide +kernel
theorem dME_encrypt_50 : decode c_ME_encrypt 50 = .ok (.invokestatic 151, 3) := by decide +kernel
theorem dME_encrypt_53 : decode c_ME_encrypt 53 = .ok (.aload_n 0, 1) := by decide +kernel
theorem dME_encrypt_54 : decode c_ME_encrypt 54 = .ok (.getfield 29, 3) := by decide +kernel
theorem dME_encrypt_57 : decode c_ME_encrypt 57 = .ok (.iload 7, 2) := by decide +kernel
theorem dME_encrypt_59 : decode c_ME_encrypt 59 = .ok (.aaload, 1) := by decide +kernel
theorem dME_encrypt_60 : decode c_ME_encrypt 60 = .ok (.invokestatic 155, 3) := by decide +kernel
theorem dME_encrypt_63 : decode c_ME_encrypt 63 = .ok (.aload_n 0, 1) := by decide +kernel
theorem dME_encrypt_64 : decode c_ME_encrypt 64 = .ok (.aload_n 0, 1) := by decide +kernel
theorem dME_encrypt_65 : decode c_ME_encrypt 65 = .ok (.getfield 23, 3) := by decide +kernel
theorem dME_encrypt_68 : decode c_ME_encrypt 68 = .ok (.iload 7, 2) := by decide +kernel
theorem dME_encrypt_70 : decode c_ME_encrypt 70 = .ok (.aaload, 1) := by decide +kernel
theorem dME_encrypt_71 : decode c_ME_encrypt 71 = .ok (.aload_n 0, 1) := by decide +kernel
theorem dME_encrypt_72 : decode c_ME_encrypt 72 = .ok (.getfield 42, 3) := by decide +kernel
theorem dME_encrypt_75 : decode c_ME_encrypt 75 = .ok (.bipush 32, 2) := by decide +kernel
theorem dME_encrypt_77 : decode c_ME_encrypt 77 = .ok (.iload 7, 2) := by decide +kernel
theorem dME_encrypt_79 : decode c_ME_encrypt 79 = .ok (.getstatic 127, 3) := by decide +kernel
theorem dME_encrypt_82 : decode c_ME_encrypt 82 = .ok (.iload_n 1, 1) := by decide +kernel
theorem dME_encrypt_83 : decode c_ME_encrypt 83 = .ok (.iaload, 1) := by decide +kernel
theorem dME_encrypt_84 : decode c_ME_encrypt 84 = .ok (.invokevirtual 130, 3) := by decide +kernel
theorem dME_encrypt_87 : decode c_ME_encrypt 87 = .ok (.aload_n 0, 1) := by decide +kernel
theorem dME_encrypt_88 : decode c_ME_encrypt 88 = .ok (.aload_n 0, 1) := by decide +kernel
theorem dME_encrypt_89 : decode c_ME_encrypt 89 = .ok (.getfield 26, 3) := by decide +kernel
theorem dME_encrypt_92 : decode c_ME_encrypt 92 = .ok (.iload 7, 2) := by decide +kernel
theorem dME_encrypt_94 : decode c_ME_encrypt 94 = .ok (.aaload, 1) := by decide +kernel
theorem dME_encrypt_95 : decode c_ME_encrypt 95 = .ok (.aload_n 0, 1) := by decide +kernel
theorem dME_encrypt_96 : decode c_ME_encrypt 96 = .ok (.getfield 42, 3) := by decide +kernel
theorem dME_encrypt_99 : decode c_ME_encrypt 99 = .ok (.bipush 32, 2) := by decide +kernel
theorem dME_encrypt_101 : decode c_ME_encrypt 101 = .ok (.iload 6, 2) := by decide +kernel
theorem dME_encrypt_103 : decode c_ME_encrypt 103 = .ok (.iload 7, 2) := by decide +kernel
theorem dME_encrypt_105 : decode c_ME_encrypt 105 = .ok (.iadd, 1) := by decide +kernel
theorem dME_encrypt_106 : decode c_ME_encrypt 106 = .ok (.iconst 2, 1) := by decide +kernel
theorem dME_encrypt_107 : decode c_ME_encrypt 107 = .ok (.invokevirtual 130, 3) := by decide +kernel
theorem dME_encrypt_110 : decode c_ME_encrypt 110 = .ok (.aload_n 0, 1) := by decide +kernel
theorem dME_encrypt_111 : decode c_ME_encrypt 111 = .ok (.aload_n 0, 1) := by decide +kernel
theorem dME_encrypt_112 : decode c_ME_encrypt 112 = .ok (.getfield 23, 3) := by decide +kernel
theorem dME_encrypt_115 : decode c_ME_encrypt 115 = .ok (.iload 7, 2) := by decide +kernel
theorem dME_encrypt_117 : decode c_ME_encrypt 117 = .ok (.aaload, 1) := by decide +kernel
theorem dME_encrypt_118 : decode c_ME_encrypt 118 = .ok (.invokevirtual 134, 3) := by decide +kernel
theorem dME_encrypt_121 : decode c_ME_encrypt 121 = .ok (.iinc 7 1, 3) := by decide +kernel
theorem dME_encrypt_124 : decode c_ME_encrypt 124 = .ok (.goto (-99), 3) := by decide +kernel
theorem dME_encrypt_127 : decode c_ME_encrypt 127 = .ok (.iconst 0, 1) := by decide +kernel
theorem dME_encrypt_128 : decode c_ME_encrypt 128 = .ok (.istore 7, 2) := by decide +kernel
theorem dME_encrypt_130 : decode c_ME_encrypt 130 = .ok (.iload 7, 2) := by decide +kernel
theorem dME_encrypt_132 : decode c_ME_encrypt 132 = .ok (.iload 6, 2) := by decide +kernel
theorem dME_encrypt_134 : decode c_ME_encrypt 134 = .ok (.if_icmp .ge 118, 3) := by decide +kernel
theorem dME_encrypt_137 : decode c_ME_encrypt 137 = .ok (.aload_n 0, 1) := by decide +kernel
theorem dME_encrypt_138 : decode c_ME_encrypt 138 = .ok (.getfield 32, 3) := by decide +kernel
theorem dME_encrypt_141 : decode c_ME_encrypt 141 = .ok (.invokestatic 158, 3) := by decide +kernel
theorem dME_encrypt_144 : decode c_ME_encrypt 144 = .ok (.iconst 0, 1) := by decide +kernel
theorem dME_encrypt_145 : decode c_ME_encrypt 145 = .ok (.istore 8, 2) := by decide +kernel
theorem dME_encrypt_147 : decode c_ME_encrypt 147 = .ok (.iload 8, 2) := by decide +kernel
theorem dME_encrypt_149 : decode c_ME_encrypt 149 = .ok (.iload 6, 2) := by decide +kernel
theorem dME_encrypt_151 : decode c_ME_encrypt 151 = .ok (.if_icmp .ge 36, 3) := by decide +kernel
theorem dME_encrypt_154 : decode c_ME_encrypt 154 = .ok (.aload_n 0, 1) := by decide +kernel
theorem dME_encrypt_155 : decode c_ME_encrypt 155 = .ok (.aload_n 0, 1) := by decide +kernel
theorem dME_encrypt_156 : decode c_ME_encrypt 156 = .ok (.getfield 20, 3) := by decide +kernel
theorem dME_encrypt_159 : decode c_ME_encrypt 159 = .ok (.iconst 4, 1) := by decide +kernel
theorem dME_encrypt_160 : decode c_ME_encrypt 160 = .ok (.iload 8, 2) := by decide +kernel
theorem dME_encrypt_162 : decode c_ME_encrypt 162 = .ok (.imul, 1) := by decide +kernel
theorem dME_encrypt_163 : decode c_ME_encrypt 163 = .ok (.iload 7, 2) := by decide +kernel
theorem dME_encrypt_165 : decode c_ME_encrypt 165 = .ok (.iadd, 1) := by decide +kernel
theorem dME_encrypt_166 : decode c_ME_encrypt 166 = .ok (.aaload, 1) := by decide +kernel
theorem dME_encrypt_167 : decode c_ME_encrypt 167 = .ok (.aload_n 0, 1) := by decide +kernel
theorem dME_encrypt_168 : decode c_ME_encrypt 168 = .ok (.getfield 23, 3) := by decide +kernel
theorem dME_encrypt_171 : decode c_ME_encrypt 171 = .ok (.iload 8, 2) := by decide +kernel
theorem dME_encrypt_173 : decode c_ME_encrypt 173 = .ok (.aaload, 1) := by decide +kernel
theorem dME_encrypt_174 : decode c_ME_encrypt 174 = .ok (.aload_n 0, 1) := by decide +kernel
theorem dME_encrypt_175 : decode c_ME_encrypt 175 = .ok (.getfield 32, 3) := by decide +kernel
theorem dME_encrypt_178 : decode c_ME_encrypt 178 = .ok (.invokevirtual 136, 3) := by decide +kernel
theorem dME_encrypt_181 : decode c_ME_encrypt 181 = .ok (.iinc 8 1, 3) := by decide +kernel
theorem dME_encrypt_184 : decode c_ME_encrypt 184 = .ok (.goto (-37), 3) := by decide +kernel
theorem dME_encrypt_187 : decode c_ME_encrypt 187 = .ok (.aload_n 0, 1) := by decide +kernel
theorem dME_encrypt_188 : decode c_ME_encrypt 188 = .ok (.aload_n 0, 1) := by decide +kernel
theorem dME_encrypt_189 : decode c_ME_encrypt 189 = .ok (.getfield 32, 3) := by decide +kernel
theorem dME_encrypt_192 : decode c_ME_encrypt 192 = .ok (.invokevirtual 161, 3) := by decide +kernel
theorem dME_encrypt_195 : decode c_ME_encrypt 195 = .ok (.aload_n 0, 1) := by decide +kernel
theorem dME_encrypt_196 : decode c_ME_encrypt 196 = .ok (.getfield 32, 3) := by decide +kernel
theorem dME_encrypt_199 : decode c_ME_encrypt 199 = .ok (.aload_n 0, 1) := by decide +kernel
theorem dME_encrypt_200 : decode c_ME_encrypt 200 = .ok (.getfield 26, 3) := by decide +kernel
theorem dME_encrypt_203 : decode c_ME_encrypt 203 = .ok (.iload 7, 2) := by decide +kernel
theorem dME_encrypt_205 : decode c_ME_encrypt 205 = .ok (.aaload, 1) := by decide +kernel
theorem dME_encrypt_206 : decode c_ME_encrypt 206 = .ok (.invokestatic 163, 3) := by decide +kernel
theorem dME_encrypt_209 : decode c_ME_encrypt 209 = .ok (.aload_n 0, 1) := by decide +kernel
theorem dME_encrypt_210 : decode c_ME_encrypt 210 = .ok (.getfield 32, 3) := by decide +kernel
theorem dME_encrypt_213 : decode c_ME_encrypt 213 = .ok (.getstatic 65, 3) := by decide +kernel
theorem dME_encrypt_216 : decode c_ME_encrypt 216 = .ok (.iload_n 1, 1) := by decide +kernel
theorem dME_encrypt_217 : decode c_ME_encrypt 217 = .ok (.iaload, 1) := by decide +kernel
theorem dME_encrypt_218 : decode c_ME_encrypt 218 = .ok (.invokestatic 167, 3) := by decide +kernel
theorem dME_encrypt_221 : decode c_ME_encrypt 221 = .ok (.aload_n 0, 1) := by decide +kernel
theorem dME_encrypt_222 : decode c_ME_encrypt 222 = .ok (.getfield 32, 3) := by decide +kernel
theorem dME_encrypt_225 : decode c_ME_encrypt 225 = .ok (.aload 5, 2) := by decide +kernel
theorem dME_encrypt_227 : decode c_ME_encrypt 227 = .ok (.bipush 32, 2) := by decide +kernel
theorem dME_encrypt_229 : decode c_ME_encrypt 229 = .ok (.getstatic 65, 3) := by decide +kernel
theorem dME_encrypt_232 : decode c_ME_encrypt 232 = .ok (.iload_n 1, 1) := by decide +kernel
theorem dME_encrypt_233 : decode c_ME_encrypt 233 = .ok (.iaload, 1) := by decide +kernel
theorem dME_encrypt_234 : decode c_ME_encrypt 234 = .ok (.imul, 1) := by decide +kernel
theorem dME_encrypt_235 : decode c_ME_encrypt 235 = .ok (.iload 7, 2) := by decide +kernel
theorem dME_encrypt_237 : decode c_ME_encrypt 237 = .ok (.imul, 1) := by decide +kernel
theorem dME_encrypt_238 : decode c_ME_encrypt 238 = .ok (.getstatic 65, 3) := by decide +kernel
theorem dME_encrypt_241 : decode c_ME_encrypt 241 = .ok (.iload_n 1, 1) := by decide +kernel
theorem dME_encrypt_242 : decode c_ME_encrypt 242 = .ok (.iaload, 1) := by decide +kernel
theorem dME_encrypt_243 : decode c_ME_encrypt 243 = .ok (.invokestatic 140, 3) := by decide +kernel
theorem dME_encrypt_246 : decode c_ME_encrypt 246 = .ok (.iinc 7 1, 3) := by decide +kernel
theorem dME_encrypt_249 : decode c_ME_encrypt 249 = .ok (.goto (-119), 3) := by decide +kernel
theorem dME_encrypt_252 : decode c_ME_encrypt 252 = .ok (.aload_n 0, 1) := by decide +kernel
theorem dME_encrypt_253 : decode c_ME_encrypt 253 = .ok (.getfield 32, 3) := by decide +kernel
theorem dME_encrypt_256 : decode c_ME_encrypt 256 = .ok (.invokestatic 158, 3) := by decide +kernel
theorem dME_encrypt_259 : decode c_ME_encrypt 259 = .ok (.iconst 0, 1) := by decide +kernel
theorem dME_encrypt_260 : decode c_ME_encrypt 260 = .ok (.istore 7, 2) := by decide +kernel
theorem dME_encrypt_262 : decode c_ME_encrypt 262 = .ok (.iload 7, 2) := by decide +kernel
theorem dME_encrypt_264 : decode c_ME_encrypt 264 = .ok (.iload 6, 2) := by decide +kernel
theorem dME_encrypt_266 : decode c_ME_encrypt 266 = .ok (.if_icmp .ge 31, 3) := by decide +kernel
theorem dME_encrypt_269 : decode c_ME_encrypt 269 = .ok (.aload_n 0, 1) := by decide +kernel
theorem dME_encrypt_270 : decode c_ME_encrypt 270 = .ok (.aload_n 0, 1) := by decide +kernel
theorem dME_encrypt_271 : decode c_ME_encrypt 271 = .ok (.getfield 29, 3) := by decide +kernel
theorem dME_encrypt_274 : decode c_ME_encrypt 274 = .ok (.iload 7, 2) := by decide +kernel
theorem dME_encrypt_276 : decode c_ME_encrypt 276 = .ok (.aaload, 1) := by decide +kernel
theorem dME_encrypt_277 : decode c_ME_encrypt 277 = .ok (.aload_n 0, 1) := by decide +kernel
theorem dME_encrypt_278 : decode c_ME_encrypt 278 = .ok (.getfield 23, 3) := by decide +kernel
theorem dME_encrypt_281 : decode c_ME_encrypt 281 = .ok (.iload 7, 2) := by decide +kernel
theorem dME_encrypt_283 : decode c_ME_encrypt 283 = .ok (.aaload, 1) := by decide +kernel
theorem dME_encrypt_284 : decode c_ME_encrypt 284 = .ok (.aload_n 0, 1) := by decide +kernel
theorem dME_encrypt_285 : decode c_ME_encrypt 285 = .ok (.getfield 32, 3) := by decide +kernel
theorem dME_encrypt_288 : decode c_ME_encrypt 288 = .ok (.invokevirtual 136, 3) := by decide +kernel
theorem dME_encrypt_291 : decode c_ME_encrypt 291 = .ok (.iinc 7 1, 3) := by decide +kernel
theorem dME_encrypt_294 : decode c_ME_encrypt 294 = .ok (.goto (-32), 3) := by decide +kernel
theorem dME_encrypt_297 : decode c_ME_encrypt 297 = .ok (.aload_n 0, 1) := by decide +kernel
theorem dME_encrypt_298 : decode c_ME_encrypt 298 = .ok (.aload_n 0, 1) := by decide +kernel
theorem dME_encrypt_299 : decode c_ME_encrypt 299 = .ok (.getfield 32, 3) := by decide +kernel
theorem dME_encrypt_302 : decode c_ME_encrypt 302 = .ok (.invokevirtual 161, 3) := by decide +kernel
theorem dME_encrypt_305 : decode c_ME_encrypt 305 = .ok (.aload_n 0, 1) := by decide +kernel
theorem dME_encrypt_306 : decode c_ME_encrypt 306 = .ok (.aload_n 0, 1) := by decide +kernel
theorem dME_encrypt_307 : decode c_ME_encrypt 307 = .ok (.getfield 36, 3) := by decide +kernel
theorem dME_encrypt_310 : decode c_ME_encrypt 310 = .ok (.aload_n 0, 1) := by decide +kernel
theorem dME_encrypt_311 : decode c_ME_encrypt 311 = .ok (.getfield 42, 3) := by decide +kernel
theorem dME_encrypt_314 : decode c_ME_encrypt 314 = .ok (.bipush 32, 2) := by decide +kernel
theorem dME_encrypt_316 : decode c_ME_encrypt 316 = .ok (.iconst 2, 1) := by decide +kernel
theorem dME_encrypt_317 : decode c_ME_encrypt 317 = .ok (.iload 6, 2) := by decide +kernel
theorem dME_encrypt_319 : decode c_ME_encrypt 319 = .ok (.imul, 1) := by decide +kernel
theorem dME_encrypt_320 : decode c_ME_encrypt 320 = .ok (.iconst 2, 1) := by decide +kernel
theorem dME_encrypt_321 : decode c_ME_encrypt 321 = .ok (.invokevirtual 130, 3) := by decide +kernel
theorem dME_encrypt_324 : decode c_ME_encrypt 324 = .ok (.aload_n 0, 1) := by decide +kernel
theorem dME_encrypt_325 : decode c_ME_encrypt 325 = .ok (.getfield 32, 3) := by decide +kernel
theorem dME_encrypt_328 : decode c_ME_encrypt 328 = .ok (.aload_n 0, 1) := by decide +kernel
theorem dME_encrypt_329 : decode c_ME_encrypt 329 = .ok (.getfield 36, 3) := by decide +kernel
theorem dME_encrypt_332 : decode c_ME_encrypt 332 = .ok (.invokestatic 163, 3) := by decide +kernel
theorem dME_encrypt_335 : decode c_ME_encrypt 335 = .ok (.aload 4, 2) := by decide +kernel
theorem dME_encrypt_337 : decode c_ME_encrypt 337 = .ok (.iconst 0, 1) := by decide +kernel
theorem dME_encrypt_338 : decode c_ME_encrypt 338 = .ok (.iconst 1, 1) := by decide +kernel
theorem dME_encrypt_339 : decode c_ME_encrypt 339 = .ok (.aload_n 0, 1) := by decide +kernel
theorem dME_encrypt_340 : decode c_ME_encrypt 340 = .ok (.getfield 36, 3) := by decide +kernel
theorem dME_encrypt_343 : decode c_ME_encrypt 343 = .ok (.invokestatic 151, 3) := by decide +kernel
theorem dME_encrypt_346 : decode c_ME_encrypt 346 = .ok (.aload_n 0, 1) := by decide +kernel
theorem dME_encrypt_347 : decode c_ME_encrypt 347 = .ok (.getfield 36, 3) := by decide +kernel
theorem dME_encrypt_350 : decode c_ME_encrypt 350 = .ok (.iconst 1, 1) := by decide +kernel
theorem dME_encrypt_351 : decode c_ME_encrypt 351 = .ok (.invokestatic 171, 3) := by decide +kernel
theorem dME_encrypt_354 : decode c_ME_encrypt 354 = .ok (.aload_n 0, 1) := by decide +kernel
theorem dME_encrypt_355 : decode c_ME_encrypt 355 = .ok (.getfield 32, 3) := by decide +kernel
theorem dME_encrypt_358 : decode c_ME_encrypt 358 = .ok (.aload_n 0, 1) := by decide +kernel
theorem dME_encrypt_359 : decode c_ME_encrypt 359 = .ok (.getfield 36, 3) := by decide +kernel
theorem dME_encrypt_362 : decode c_ME_encrypt 362 = .ok (.invokestatic 163, 3) := by decide +kernel
theorem dME_encrypt_365 : decode c_ME_encrypt 365 = .ok (.aload_n 0, 1) := by decide +kernel
theorem dME_encrypt_366 : decode c_ME_encrypt 366 = .ok (.getfield 32, 3) := by decide +kernel
theorem dME_encrypt_369 : decode c_ME_encrypt 369 = .ok (.getstatic 68, 3) := by decide +kernel
theorem dME_encrypt_372 : decode c_ME_encrypt 372 = .ok (.iload_n 1, 1) := by decide +kernel
theorem dME_encrypt_373 : decode c_ME_encrypt 373 = .ok (.iaload, 1) := by decide +kernel
theorem dME_encrypt_374 : decode c_ME_encrypt 374 = .ok (.invokestatic 167, 3) := by decide +kernel
theorem dME_encrypt_377 : decode c_ME_encrypt 377 = .ok (.aload_n 0, 1) := by decide +kernel
theorem dME_encrypt_378 : decode c_ME_encrypt 378 = .ok (.getfield 32, 3) := by decide +kernel
theorem dME_encrypt_381 : decode c_ME_encrypt 381 = .ok (.aload 5, 2) := by decide +kernel
theorem dME_encrypt_383 : decode c_ME_encrypt 383 = .ok (.bipush 32, 2) := by decide +kernel
theorem dME_encrypt_385 : decode c_ME_encrypt 385 = .ok (.getstatic 65, 3) := by decide +kernel
theorem dME_encrypt_388 : decode c_ME_encrypt 388 = .ok (.iload_n 1, 1) := by decide +kernel
theorem dME_encrypt_389 : decode c_ME_encrypt 389 = .ok (.iaload, 1) := by decide +kernel
theorem dME_encrypt_390 : decode c_ME_encrypt 390 = .ok (.imul, 1) := by decide +kernel
theorem dME_encrypt_391 : decode c_ME_encrypt 391 = .ok (.iload 6, 2) := by decide +kernel
theorem dME_encrypt_393 : decode c_ME_encrypt 393 = .ok (.imul, 1) := by decide +kernel
theorem dME_encrypt_394 : decode c_ME_encrypt 394 = .ok (.getstatic 68, 3) := by decide +kernel
theorem dME_encrypt_397 : decode c_ME_encrypt 397 = .ok (.iload_n 1, 1) := by decide +kernel
theorem dME_encrypt_398 : decode c_ME_encrypt 398 = .ok (.iaload, 1) := by decide +kernel
theorem dME_encrypt_399 : decode c_ME_encrypt 399 = .ok (.invokestatic 140, 3) := by decide +kernel
theorem dME_encrypt_402 : decode c_ME_encrypt 402 = .ok (.return_, 1) := by decide +kernel
def M_ME_openSize_0 (k : Nat) : Prop := (0 : Nat) = 1
noncomputable def F_ME_openSize_0 (s : Sto) : Int32 × Sto := (nI 800, s)
set_option maxHeartbeats 8000000 in
set_option maxRecDepth 100000 in
theorem N_ME_openSize_0 (l : Launch) (g : Gd) (sz : Nat) (T : TyN) (s : Sto) (pl : va_W) (hO : okn g T s pl) (hU : inj T)   : Met l y_ME_openSize w_ME_openSize ({ frames := 0, cells := 0, slots := 0, locals := 0 } : Room) (va_Pc [.int (nI 0)] (pr (en g) g.1 vcl sz ([] ++ pl))) (va_Qi (fun (r : Int32) (u : (Int32 × Sto) × va_W) => (u.1 = F_ME_openSize_0 s ∧ r = u.1.1 ∧ frm (M_ME_openSize_0) s u.1.2 ∧ (∃ x : Nat, u.1.1 = nI x ∧ x < 801) ∧ (u.1.1 = nI 800) ∧ True) ∧ okn g T u.1.2 u.2) (po g.1 vcl (va_A ([] ++ pl) sz) (fun (u : (Int32 × Sto) × va_W) => [] ++ u.2)) (va_A ([] ++ pl) sz)) 0 0 (va_A ([] ++ pl) sz) := by
  refine mc_entry (cc := c_ME_openSize) (maxL := 1) (ret := (some .int)) (by decide) rfl (Nat.le_of_ble_eq_true rfl) ?_
  intro p e s0 m args below meth c ls F hr hlk hnm hsz hP hD hE hA hl
  obtain ⟨hx, hb, hml, hown, hts⟩ := id F
  have hK := hE.1
  generalize va_A ([] ++ pl) sz = A at hD hE hA ⊢
  have hS : va_S A s0.heap s0.heap [] := va_S.rf
  have hl : lv_has ls 1 [(0, .int (nI 0))] := hl
  have hR : F_ME_openSize_0 s = F_ME_openSize_0 s := rfl
  have hF : frm (M_ME_openSize_0) s s := frm_rf
  refine lv_sipush (v := nI 384) hx hb dME_openSize_0 (by decide) ?_
  refine va_gets hx hb (hE.2.1 19 _ rfl).1 hS hown (hts _ (wg_t kw_1605)) (fun _ h9 => h9) dME_openSize_3 ?_
  refine lv_iload_n hx hb dME_openSize_6 rfl (lv_at hl 0 rfl) ?_
  refine va_ti (v := .int (nI 2)) hx hb (hE.2.1 19 _ rfl).2 hS (vp_in_nI (by decide) (by decide)) (by decide +kernel) dME_openSize_7 ?_
  refine mi_imul hx hb dME_openSize_8 ?_
  refine mi_as (show nI (384 * 2) = nI 768 from rfl) ?_
  refine lv_bipush (v := nI 32) hx hb dME_openSize_9 (by decide) ?_
  refine mi_iadd hx hb dME_openSize_11 ?_
  refine mi_as (show nI (768 + 32) = nI 800 from rfl) ?_
  exact mp_iret hx hb hr hlk hP hD hS ((nI 800, s), pl) ⟨⟨hR.symm, rfl, hF, ⟨800, rfl, by omega⟩, rfl, trivial⟩, hO⟩ [] rfl rfl rfl (by omega) (by omega) dME_openSize_12
def M_ME_openSize_1 (k : Nat) : Prop := (0 : Nat) = 1
noncomputable def F_ME_openSize_1 (s : Sto) : Int32 × Sto := (nI 1184, s)
set_option maxHeartbeats 8000000 in
set_option maxRecDepth 100000 in
theorem N_ME_openSize_1 (l : Launch) (g : Gd) (sz : Nat) (T : TyN) (s : Sto) (pl : va_W) (hO : okn g T s pl) (hU : inj T)   : Met l y_ME_openSize w_ME_openSize ({ frames := 0, cells := 0, slots := 0, locals := 0 } : Room) (va_Pc [.int (nI 1)] (pr (en g) g.1 vcl sz ([] ++ pl))) (va_Qi (fun (r : Int32) (u : (Int32 × Sto) × va_W) => (u.1 = F_ME_openSize_1 s ∧ r = u.1.1 ∧ frm (M_ME_openSize_1) s u.1.2 ∧ (∃ x : Nat, u.1.1 = nI x ∧ x < 1185) ∧ (u.1.1 = nI 1184) ∧ True) ∧ okn g T u.1.2 u.2) (po g.1 vcl (va_A ([] ++ pl) sz) (fun (u : (Int32 × Sto) × va_W) => [] ++ u.2)) (va_A ([] ++ pl) sz)) 0 0 (va_A ([] ++ pl) sz) := by
  refine mc_entry (cc := c_ME_openSize) (maxL := 1) (ret := (some .int)) (by decide) rfl (Nat.le_of_ble_eq_true rfl) ?_
  intro p e s0 m args below meth c ls F hr hlk hnm hsz hP hD hE hA hl
  obtain ⟨hx, hb, hml, hown, hts⟩ := id F
  have hK := hE.1
  generalize va_A ([] ++ pl) sz = A at hD hE hA ⊢
  have hS : va_S A s0.heap s0.heap [] := va_S.rf
  have hl : lv_has ls 1 [(0, .int (nI 1))] := hl
  have hR : F_ME_openSize_1 s = F_ME_openSize_1 s := rfl
  have hF : frm (M_ME_openSize_1) s s := frm_rf
  refine lv_sipush (v := nI 384) hx hb dME_openSize_0 (by decide) ?_
  refine va_gets hx hb (hE.2.1 19 _ rfl).1 hS hown (hts _ (wg_t kw_1605)) (fun _ h9 => h9) dME_openSize_3 ?_
  refine lv_iload_n hx hb dME_openSize_6 rfl (lv_at hl 0 rfl) ?_
  refine va_ti (v := .int (nI 3)) hx hb (hE.2.1 19 _ rfl).2 hS (vp_in_nI (by decide) (by decide)) (by decide +kernel) dME_openSize_7 ?_
  refine mi_imul hx hb dME_openSize_8 ?_
  refine mi_as (show nI (384 * 3) = nI 1152 from rfl) ?_
  refine lv_bipush (v := nI 32) hx hb dME_openSize_9 (by decide) ?_
  refine mi_iadd hx hb dME_openSize_11 ?_
  refine mi_as (show nI (1152 + 32) = nI 1184 from rfl) ?_
  exact mp_iret hx hb hr hlk hP hD hS ((nI 1184, s), pl) ⟨⟨hR.symm, rfl, hF, ⟨1184, rfl, by omega⟩, rfl, trivial⟩, hO⟩ [] rfl rfl rfl (by omega) (by omega) dME_openSize_12
def M_ME_openSize_2 (k : Nat) : Prop := (0 : Nat) = 1
noncomputable def F_ME_openSize_2 (s : Sto) : Int32 × Sto := (nI 1568, s)
set_option maxHeartbeats 8000000 in
set_option maxRecDepth 100000 in
theorem N_ME_openSize_2 (l : Launch) (g : Gd) (sz : Nat) (T : TyN) (s : Sto) (pl : va_W) (hO : okn g T s pl) (hU : inj T)   : Met l y_ME_openSize w_ME_openSize ({ frames := 0, cells := 0, slots := 0, locals := 0 } : Room) (va_Pc [.int (nI 2)] (pr (en g) g.1 vcl sz ([] ++ pl))) (va_Qi (fun (r : Int32) (u : (Int32 × Sto) × va_W) => (u.1 = F_ME_openSize_2 s ∧ r = u.1.1 ∧ frm (M_ME_openSize_2) s u.1.2 ∧ (∃ x : Nat, u.1.1 = nI x ∧ x < 1569) ∧ (u.1.1 = nI 1568) ∧ True) ∧ okn g T u.1.2 u.2) (po g.1 vcl (va_A ([] ++ pl) sz) (fun (u : (Int32 × Sto) × va_W) => [] ++ u.2)) (va_A ([] ++ pl) sz)) 0 0 (va_A ([] ++ pl) sz) := by
  refine mc_entry (cc := c_ME_openSize) (maxL := 1) (ret := (some .int)) (by decide) rfl (Nat.le_of_ble_eq_true rfl) ?_
  intro p e s0 m args below meth c ls F hr hlk hnm hsz hP hD hE hA hl
  obtain ⟨hx, hb, hml, hown, hts⟩ := id F
  have hK := hE.1
  generalize va_A ([] ++ pl) sz = A at hD hE hA ⊢
  have hS : va_S A s0.heap s0.heap [] := va_S.rf
  have hl : lv_has ls 1 [(0, .int (nI 2))] := hl
  have hR : F_ME_openSize_2 s = F_ME_openSize_2 s := rfl
  have hF : frm (M_ME_openSize_2) s s := frm_rf
  refine lv_sipush (v := nI 384) hx hb dME_openSize_0 (by decide) ?_
  refine va_gets hx hb (hE.2.1 19 _ rfl).1 hS hown (hts _ (wg_t kw_1605)) (fun _ h9 => h9) dME_openSize_3 ?_
  refine lv_iload_n hx hb dME_openSize_6 rfl (lv_at hl 0 rfl) ?_
  refine va_ti (v := .int (nI 4)) hx hb (hE.2.1 19 _ rfl).2 hS (vp_in_nI (by decide) (by decide)) (by decide +kernel) dME_openSize_7 ?_
  refine mi_imul hx hb dME_openSize_8 ?_
  refine mi_as (show nI (384 * 4) = nI 1536 from rfl) ?_
  refine lv_bipush (v := nI 32) hx hb dME_openSize_9 (by decide) ?_
  refine mi_iadd hx hb dME_openSize_11 ?_
  refine mi_as (show nI (1536 + 32) = nI 1568 from rfl) ?_
  exact mp_iret hx hb hr hlk hP hD hS ((nI 1568, s), pl) ⟨⟨hR.symm, rfl, hF, ⟨1568, rfl, by omega⟩, rfl, trivial⟩, hO⟩ [] rfl rfl rfl (by omega) (by omega) dME_openSize_12
def M_ME_sealedSize_0 (k : Nat) : Prop := (0 : Nat) = 1
noncomputable def F_ME_sealedSize_0 (s : Sto) : Int32 × Sto := (nI 768, s)
set_option maxHeartbeats 8000000 in
set_option maxRecDepth 100000 in
theorem N_ME_sealedSize_0 (l : Launch) (g : Gd) (sz : Nat) (T : TyN) (s : Sto) (pl : va_W) (hO : okn g T s pl) (hU : inj T)   : Met l y_ME_sealedSize w_ME_sealedSize ({ frames := 0, cells := 0, slots := 0, locals := 0 } : Room) (va_Pc [.int (nI 0)] (pr (en g) g.1 vcl sz ([] ++ pl))) (va_Qi (fun (r : Int32) (u : (Int32 × Sto) × va_W) => (u.1 = F_ME_sealedSize_0 s ∧ r = u.1.1 ∧ frm (M_ME_sealedSize_0) s u.1.2 ∧ (∃ x : Nat, u.1.1 = nI x ∧ x < 769) ∧ (u.1.1 = nI 768) ∧ True) ∧ okn g T u.1.2 u.2) (po g.1 vcl (va_A ([] ++ pl) sz) (fun (u : (Int32 × Sto) × va_W) => [] ++ u.2)) (va_A ([] ++ pl) sz)) 0 0 (va_A ([] ++ pl) sz) := by
  refine mc_entry (cc := c_ME_sealedSize) (maxL := 1) (ret := (some .int)) (by decide) rfl (Nat.le_of_ble_eq_true rfl) ?_
  intro p e s0 m args below meth c ls F hr hlk hnm hsz hP hD hE hA hl
  obtain ⟨hx, hb, hml, hown, hts⟩ := id F
  have hK := hE.1
  generalize va_A ([] ++ pl) sz = A at hD hE hA ⊢
  have hS : va_S A s0.heap s0.heap [] := va_S.rf
  have hl : lv_has ls 1 [(0, .int (nI 0))] := hl
  have hR : F_ME_sealedSize_0 s = F_ME_sealedSize_0 s := rfl
  have hF : frm (M_ME_sealedSize_0) s s := frm_rf
  refine lv_bipush (v := nI 32) hx hb dME_sealedSize_0 (by decide) ?_
  refine va_gets hx hb (hE.2.1 21 _ rfl).1 hS hown (hts _ (wg_t kw_1830)) (fun _ h9 => h9) dME_sealedSize_2 ?_
  refine lv_iload_n hx hb dME_sealedSize_5 rfl (lv_at hl 0 rfl) ?_
  refine va_ti (v := .int (nI 10)) hx hb (hE.2.1 21 _ rfl).2 hS (vp_in_nI (by decide) (by decide)) (by decide +kernel) dME_sealedSize_6 ?_
  refine va_gets hx hb (hE.2.1 19 _ rfl).1 hS hown (hts _ (wg_t kw_1605)) (fun _ h9 => h9) dME_sealedSize_7 ?_
  refine lv_iload_n hx hb dME_sealedSize_10 rfl (lv_at hl 0 rfl) ?_
  refine va_ti (v := .int (nI 2)) hx hb (hE.2.1 19 _ rfl).2 hS (vp_in_nI (by decide) (by decide)) (by decide +kernel) dME_sealedSize_11 ?_
  refine mi_imul hx hb dME_sealedSize_12 ?_
  refine mi_as (show nI (10 * 2) = nI 20 from rfl) ?_
  refine va_gets hx hb (hE.2.1 22 _ rfl).1 hS hown (hts _ (wg_t kw_1838)) (fun _ h9 => h9) dME_sealedSize_13 ?_
  refine lv_iload_n hx hb dME_sealedSize_16 rfl (lv_at hl 0 rfl) ?_
  refine va_ti (v := .int (nI 4)) hx hb (hE.2.1 22 _ rfl).2 hS (vp_in_nI (by decide) (by decide)) (by decide +kernel) dME_sealedSize_17 ?_
  refine mi_iadd hx hb dME_sealedSize_18 ?_
  refine mi_as (show nI (20 + 4) = nI 24 from rfl) ?_
  refine mi_imul hx hb dME_sealedSize_19 ?_
  refine mi_as (show nI (32 * 24) = nI 768 from rfl) ?_
  exact mp_iret hx hb hr hlk hP hD hS ((nI 768, s), pl) ⟨⟨hR.symm, rfl, hF, ⟨768, rfl, by omega⟩, rfl, trivial⟩, hO⟩ [] rfl rfl rfl (by omega) (by omega) dME_sealedSize_20
def M_ME_sealedSize_1 (k : Nat) : Prop := (0 : Nat) = 1
noncomputable def F_ME_sealedSize_1 (s : Sto) : Int32 × Sto := (nI 1088, s)
set_option maxHeartbeats 8000000 in
set_option maxRecDepth 100000 in
theorem N_ME_sealedSize_1 (l : Launch) (g : Gd) (sz : Nat) (T : TyN) (s : Sto) (pl : va_W) (hO : okn g T s pl) (hU : inj T)   : Met l y_ME_sealedSize w_ME_sealedSize ({ frames := 0, cells := 0, slots := 0, locals := 0 } : Room) (va_Pc [.int (nI 1)] (pr (en g) g.1 vcl sz ([] ++ pl))) (va_Qi (fun (r : Int32) (u : (Int32 × Sto) × va_W) => (u.1 = F_ME_sealedSize_1 s ∧ r = u.1.1 ∧ frm (M_ME_sealedSize_1) s u.1.2 ∧ (∃ x : Nat, u.1.1 = nI x ∧ x < 1089) ∧ (u.1.1 = nI 1088) ∧ True) ∧ okn g T u.1.2 u.2) (po g.1 vcl (va_A ([] ++ pl) sz) (fun (u : (Int32 × Sto) × va_W) => [] ++ u.2)) (va_A ([] ++ pl) sz)) 0 0 (va_A ([] ++ pl) sz) := by
  refine mc_entry (cc := c_ME_sealedSize) (maxL := 1) (ret := (some .int)) (by decide) rfl (Nat.le_of_ble_eq_true rfl) ?_
  intro p e s0 m args below meth c ls F hr hlk hnm hsz hP hD hE hA hl
  obtain ⟨hx, hb, hml, hown, hts⟩ := id F
  have hK := hE.1
  generalize va_A ([] ++ pl) sz = A at hD hE hA ⊢
  have hS : va_S A s0.heap s0.heap [] := va_S.rf
  have hl : lv_has ls 1 [(0, .int (nI 1))] := hl
  have hR : F_ME_sealedSize_1 s = F_ME_sealedSize_1 s := rfl
  have hF : frm (M_ME_sealedSize_1) s s := frm_rf
  refine lv_bipush (v := nI 32) hx hb dME_sealedSize_0 (by decide) ?_
  refine va_gets hx hb (hE.2.1 21 _ rfl).1 hS hown (hts _ (wg_t kw_1830)) (fun _ h9 => h9) dME_sealedSize_2 ?_
  refine lv_iload_n hx hb dME_sealedSize_5 rfl (lv_at hl 0 rfl) ?_
  refine va_ti (v := .int (nI 10)) hx hb (hE.2.1 21 _ rfl).2 hS (vp_in_nI (by decide) (by decide)) (by decide +kernel) dME_sealedSize_6 ?_
  refine va_gets hx hb (hE.2.1 19 _ rfl).1 hS hown (hts _ (wg_t kw_1605)) (fun _ h9 => h9) dME_sealedSize_7 ?_
  refine lv_iload_n hx hb dME_sealedSize_10 rfl (lv_at hl 0 rfl) ?_
  refine va_ti (v := .int (nI 3)) hx hb (hE.2.1 19 _ rfl).2 hS (vp_in_nI (by decide) (by decide)) (by decide +kernel) dME_sealedSize_11 ?_
  refine mi_imul hx hb dME_sealedSize_12 ?_
  refine mi_as (show nI (10 * 3) = nI 30 from rfl) ?_
  refine va_gets hx hb (hE.2.1 22 _ rfl).1 hS hown (hts _ (wg_t kw_1838)) (fun _ h9 => h9) dME_sealedSize_13 ?_
  refine lv_iload_n hx hb dME_sealedSize_16 rfl (lv_at hl 0 rfl) ?_
  refine va_ti (v := .int (nI 4)) hx hb (hE.2.1 22 _ rfl).2 hS (vp_in_nI (by decide) (by decide)) (by decide +kernel) dME_sealedSize_17 ?_
  refine mi_iadd hx hb dME_sealedSize_18 ?_
  refine mi_as (show nI (30 + 4) = nI 34 from rfl) ?_
  refine mi_imul hx hb dME_sealedSize_19 ?_
  refine mi_as (show nI (32 * 34) = nI 1088 from rfl) ?_
  exact mp_iret hx hb hr hlk hP hD hS ((nI 1088, s), pl) ⟨⟨hR.symm, rfl, hF, ⟨1088, rfl, by omega⟩, rfl, trivial⟩, hO⟩ [] rfl rfl rfl (by omega) (by omega) dME_sealedSize_20
def M_ME_sealedSize_2 (k : Nat) : Prop := (0 : Nat) = 1
noncomputable def F_ME_sealedSize_2 (s : Sto) : Int32 × Sto := (nI 1568, s)
set_option maxHeartbeats 8000000 in
set_option maxRecDepth 100000 in
theorem N_ME_sealedSize_2 (l : Launch) (g : Gd) (sz : Nat) (T : TyN) (s : Sto) (pl : va_W) (hO : okn g T s pl) (hU : inj T)   : Met l y_ME_sealedSize w_ME_sealedSize ({ frames := 0, cells := 0, slots := 0, locals := 0 } : Room) (va_Pc [.int (nI 2)] (pr (en g) g.1 vcl sz ([] ++ pl))) (va_Qi (fun (r : Int32) (u : (Int32 × Sto) × va_W) => (u.1 = F_ME_sealedSize_2 s ∧ r = u.1.1 ∧ frm (M_ME_sealedSize_2) s u.1.2 ∧ (∃ x : Nat, u.1.1 = nI x ∧ x < 1569) ∧ (u.1.1 = nI 1568) ∧ True) ∧ okn g T u.1.2 u.2) (po g.1 vcl (va_A ([] ++ pl) sz) (fun (u : (Int32 × Sto) × va_W) => [] ++ u.2)) (va_A ([] ++ pl) sz)) 0 0 (va_A ([] ++ pl) sz) := by
  refine mc_entry (cc := c_ME_sealedSize) (maxL := 1) (ret := (some .int)) (by decide) rfl (Nat.le_of_ble_eq_true rfl) ?_
  intro p e s0 m args below meth c ls F hr hlk hnm hsz hP hD hE hA hl
  obtain ⟨hx, hb, hml, hown, hts⟩ := id F
  have hK := hE.1
  generalize va_A ([] ++ pl) sz = A at hD hE hA ⊢
  have hS : va_S A s0.heap s0.heap [] := va_S.rf
  have hl : lv_has ls 1 [(0, .int (nI 2))] := hl
  have hR : F_ME_sealedSize_2 s = F_ME_sealedSize_2 s := rfl
  have hF : frm (M_ME_sealedSize_2) s s := frm_rf
  refine lv_bipush (v := nI 32) hx hb dME_sealedSize_0 (by decide) ?_
  refine va_gets hx hb (hE.2.1 21 _ rfl).1 hS hown (hts _ (wg_t kw_1830)) (fun _ h9 => h9) dME_sealedSize_2 ?_
  refine lv_iload_n hx hb dME_sealedSize_5 rfl (lv_at hl 0 rfl) ?_
  refine va_ti (v := .int (nI 11)) hx hb (hE.2.1 21 _ rfl).2 hS (vp_in_nI (by decide) (by decide)) (by decide +kernel) dME_sealedSize_6 ?_
  refine va_gets hx hb (hE.2.1 19 _ rfl).1 hS hown (hts _ (wg_t kw_1605)) (fun _ h9 => h9) dME_sealedSize_7 ?_
  refine lv_iload_n hx hb dME_sealedSize_10 rfl (lv_at hl 0 rfl) ?_
  refine va_ti (v := .int (nI 4)) hx hb (hE.2.1 19 _ rfl).2 hS (vp_in_nI (by decide) (by decide)) (by decide +kernel) dME_sealedSize_11 ?_
  refine mi_imul hx hb dME_sealedSize_12 ?_
  refine mi_as (show nI (11 * 4) = nI 44 from rfl) ?_
  refine va_gets hx hb (hE.2.1 22 _ rfl).1 hS hown (hts _ (wg_t kw_1838)) (fun _ h9 => h9) dME_sealedSize_13 ?_
  refine lv_iload_n hx hb dME_sealedSize_16 rfl (lv_at hl 0 rfl) ?_
  refine va_ti (v := .int (nI 5)) hx hb (hE.2.1 22 _ rfl).2 hS (vp_in_nI (by decide) (by decide)) (by decide +kernel) dME_sealedSize_17 ?_
  refine mi_iadd hx hb dME_sealedSize_18 ?_
  refine mi_as (show nI (44 + 5) = nI 49 from rfl) ?_
  refine mi_imul hx hb dME_sealedSize_19 ?_
  refine mi_as (show nI (32 * 49) = nI 1568 from rfl) ?_
  exact mp_iret hx hb hr hlk hP hD hS ((nI 1568, s), pl) ⟨⟨hR.symm, rfl, hF, ⟨1568, rfl, by omega⟩, rfl, trivial⟩, hO⟩ [] rfl rfl rfl (by omega) (by omega) dME_sealedSize_20
def M_ME_hiddenSize_0 (k : Nat) : Prop := (0 : Nat) = 1
noncomputable def F_ME_hiddenSize_0 (s : Sto) : Int32 × Sto := (nI 1632, s)
set_option maxHeartbeats 8000000 in
set_option maxRecDepth 100000 in
theorem N_ME_hiddenSize_0 (l : Launch) (g : Gd) (sz : Nat) (T : TyN) (s : Sto) (pl : va_W) (hO : okn g T s pl) (hU : inj T)   : Met l y_ME_hiddenSize w_ME_hiddenSize ({ frames := 0, cells := 0, slots := 0, locals := 0 } : Room) (va_Pc [.int (nI 0)] (pr (en g) g.1 vcl sz ([] ++ pl))) (va_Qi (fun (r : Int32) (u : (Int32 × Sto) × va_W) => (u.1 = F_ME_hiddenSize_0 s ∧ r = u.1.1 ∧ frm (M_ME_hiddenSize_0) s u.1.2 ∧ (∃ x : Nat, u.1.1 = nI x ∧ x < 1633) ∧ (u.1.1 = nI 1632) ∧ True) ∧ okn g T u.1.2 u.2) (po g.1 vcl (va_A ([] ++ pl) sz) (fun (u : (Int32 × Sto) × va_W) => [] ++ u.2)) (va_A ([] ++ pl) sz)) 0 0 (va_A ([] ++ pl) sz) := by
  refine mc_entry (cc := c_ME_hiddenSize) (maxL := 1) (ret := (some .int)) (by decide) rfl (Nat.le_of_ble_eq_true rfl) ?_
  intro p e s0 m args below meth c ls F hr hlk hnm hsz hP hD hE hA hl
  obtain ⟨hx, hb, hml, hown, hts⟩ := id F
  have hK := hE.1
  generalize va_A ([] ++ pl) sz = A at hD hE hA ⊢
  have hS : va_S A s0.heap s0.heap [] := va_S.rf
  have hl : lv_has ls 1 [(0, .int (nI 0))] := hl
  have hR : F_ME_hiddenSize_0 s = F_ME_hiddenSize_0 s := rfl
  have hF : frm (M_ME_hiddenSize_0) s s := frm_rf
  refine lv_sipush (v := nI 768) hx hb dME_hiddenSize_0 (by decide) ?_
  refine va_gets hx hb (hE.2.1 19 _ rfl).1 hS hown (hts _ (wg_t kw_1605)) (fun _ h9 => h9) dME_hiddenSize_3 ?_
  refine lv_iload_n hx hb dME_hiddenSize_6 rfl (lv_at hl 0 rfl) ?_
  refine va_ti (v := .int (nI 2)) hx hb (hE.2.1 19 _ rfl).2 hS (vp_in_nI (by decide) (by decide)) (by decide +kernel) dME_hiddenSize_7 ?_
  refine mi_imul hx hb dME_hiddenSize_8 ?_
  refine mi_as (show nI (768 * 2) = nI 1536 from rfl) ?_
  refine lv_bipush (v := nI 96) hx hb dME_hiddenSize_9 (by decide) ?_
  refine mi_iadd hx hb dME_hiddenSize_11 ?_
  refine mi_as (show nI (1536 + 96) = nI 1632 from rfl) ?_
  exact mp_iret hx hb hr hlk hP hD hS ((nI 1632, s), pl) ⟨⟨hR.symm, rfl, hF, ⟨1632, rfl, by omega⟩, rfl, trivial⟩, hO⟩ [] rfl rfl rfl (by omega) (by omega) dME_hiddenSize_12
def M_ME_hiddenSize_1 (k : Nat) : Prop := (0 : Nat) = 1
noncomputable def F_ME_hiddenSize_1 (s : Sto) : Int32 × Sto := (nI 2400, s)
set_option maxHeartbeats 8000000 in
set_option maxRecDepth 100000 in
theorem N_ME_hiddenSize_1 (l : Launch) (g : Gd) (sz : Nat) (T : TyN) (s : Sto) (pl : va_W) (hO : okn g T s pl) (hU : inj T)   : Met l y_ME_hiddenSize w_ME_hiddenSize ({ frames := 0, cells := 0, slots := 0, locals := 0 } : Room) (va_Pc [.int (nI 1)] (pr (en g) g.1 vcl sz ([] ++ pl))) (va_Qi (fun (r : Int32) (u : (Int32 × Sto) × va_W) => (u.1 = F_ME_hiddenSize_1 s ∧ r = u.1.1 ∧ frm (M_ME_hiddenSize_1) s u.1.2 ∧ (∃ x : Nat, u.1.1 = nI x ∧ x < 2401) ∧ (u.1.1 = nI 2400) ∧ True) ∧ okn g T u.1.2 u.2) (po g.1 vcl (va_A ([] ++ pl) sz) (fun (u : (Int32 × Sto) × va_W) => [] ++ u.2)) (va_A ([] ++ pl) sz)) 0 0 (va_A ([] ++ pl) sz) := by
  refine mc_entry (cc := c_ME_hiddenSize) (maxL := 1) (ret := (some .int)) (by decide) rfl (Nat.le_of_ble_eq_true rfl) ?_
  intro p e s0 m args below meth c ls F hr hlk hnm hsz hP hD hE hA hl
  obtain ⟨hx, hb, hml, hown, hts⟩ := id F
  have hK := hE.1
  generalize va_A ([] ++ pl) sz = A at hD hE hA ⊢
  have hS : va_S A s0.heap s0.heap [] := va_S.rf
  have hl : lv_has ls 1 [(0, .int (nI 1))] := hl
  have hR : F_ME_hiddenSize_1 s = F_ME_hiddenSize_1 s := rfl
  have hF : frm (M_ME_hiddenSize_1) s s := frm_rf
  refine lv_sipush (v := nI 768) hx hb dME_hiddenSize_0 (by decide) ?_
  refine va_gets hx hb (hE.2.1 19 _ rfl).1 hS hown (hts _ (wg_t kw_1605)) (fun _ h9 => h9) dME_hiddenSize_3 ?_
  refine lv_iload_n hx hb dME_hiddenSize_6 rfl (lv_at hl 0 rfl) ?_
  refine va_ti (v := .int (nI 3)) hx hb (hE.2.1 19 _ rfl).2 hS (vp_in_nI (by decide) (by decide)) (by decide +kernel) dME_hiddenSize_7 ?_
  refine mi_imul hx hb dME_hiddenSize_8 ?_
  refine mi_as (show nI (768 * 3) = nI 2304 from rfl) ?_
  refine lv_bipush (v := nI 96) hx hb dME_hiddenSize_9 (by decide) ?_
  refine mi_iadd hx hb dME_hiddenSize_11 ?_
  refine mi_as (show nI (2304 + 96) = nI 2400 from rfl) ?_
  exact mp_iret hx hb hr hlk hP hD hS ((nI 2400, s), pl) ⟨⟨hR.symm, rfl, hF, ⟨2400, rfl, by omega⟩, rfl, trivial⟩, hO⟩ [] rfl rfl rfl (by omega) (by omega) dME_hiddenSize_12
def M_ME_hiddenSize_2 (k : Nat) : Prop := (0 : Nat) = 1
noncomputable def F_ME_hiddenSize_2 (s : Sto) : Int32 × Sto := (nI 3168, s)
set_option maxHeartbeats 8000000 in
set_option maxRecDepth 100000 in
theorem N_ME_hiddenSize_2 (l : Launch) (g : Gd) (sz : Nat) (T : TyN) (s : Sto) (pl : va_W) (hO : okn g T s pl) (hU : inj T)   : Met l y_ME_hiddenSize w_ME_hiddenSize ({ frames := 0, cells := 0, slots := 0, locals := 0 } : Room) (va_Pc [.int (nI 2)] (pr (en g) g.1 vcl sz ([] ++ pl))) (va_Qi (fun (r : Int32) (u : (Int32 × Sto) × va_W) => (u.1 = F_ME_hiddenSize_2 s ∧ r = u.1.1 ∧ frm (M_ME_hiddenSize_2) s u.1.2 ∧ (∃ x : Nat, u.1.1 = nI x ∧ x < 3169) ∧ (u.1.1 = nI 3168) ∧ True) ∧ okn g T u.1.2 u.2) (po g.1 vcl (va_A ([] ++ pl) sz) (fun (u : (Int32 × Sto) × va_W) => [] ++ u.2)) (va_A ([] ++ pl) sz)) 0 0 (va_A ([] ++ pl) sz) := by
  refine mc_entry (cc := c_ME_hiddenSize) (maxL := 1) (ret := (some .int)) (by decide) rfl (Nat.le_of_ble_eq_true rfl) ?_
  intro p e s0 m args below meth c ls F hr hlk hnm hsz hP hD hE hA hl
  obtain ⟨hx, hb, hml, hown, hts⟩ := id F
  have hK := hE.1
  generalize va_A ([] ++ pl) sz = A at hD hE hA ⊢
  have hS : va_S A s0.heap s0.heap [] := va_S.rf
  have hl : lv_has ls 1 [(0, .int (nI 2))] := hl
  have hR : F_ME_hiddenSize_2 s = F_ME_hiddenSize_2 s := rfl
  have hF : frm (M_ME_hiddenSize_2) s s := frm_rf
  refine lv_sipush (v := nI 768) hx hb dME_hiddenSize_0 (by decide) ?_
  refine va_gets hx hb (hE.2.1 19 _ rfl).1 hS hown (hts _ (wg_t kw_1605)) (fun _ h9 => h9) dME_hiddenSize_3 ?_
  refine lv_iload_n hx hb dME_hiddenSize_6 rfl (lv_at hl 0 rfl) ?_
  refine va_ti (v := .int (nI 4)) hx hb (hE.2.1 19 _ rfl).2 hS (vp_in_nI (by decide) (by decide)) (by decide +kernel) dME_hiddenSize_7 ?_
  refine mi_imul hx hb dME_hiddenSize_8 ?_
  refine mi_as (show nI (768 * 4) = nI 3072 from rfl) ?_
  refine lv_bipush (v := nI 96) hx hb dME_hiddenSize_9 (by decide) ?_
  refine mi_iadd hx hb dME_hiddenSize_11 ?_
  refine mi_as (show nI (3072 + 96) = nI 3168 from rfl) ?_
  exact mp_iret hx hb hr hlk hP hD hS ((nI 3168, s), pl) ⟨⟨hR.symm, rfl, hF, ⟨3168, rfl, by omega⟩, rfl, trivial⟩, hO⟩ [] rfl rfl rfl (by omega) (by omega) dME_hiddenSize_12
def M_ME_keys_0 (pek : Nat) (pdk : Nat) (k : Nat) : Prop := (186 ≤ k ∧ k < 202) ∨ (203 ≤ k ∧ k < 207) ∨ (208 ≤ k ∧ k < 212) ∨ k = 172 ∨ k = 219 ∨ k = 220 ∨ k = 221 ∨ k = pdk ∨ k = pek ∨ (0 : Nat) = 1
noncomputable def F_ME_keys_0_L5 (pek : Nat) (pdk : Nat) (i22 : Nat) (kk : Nat → Sto → Sto) : Nat → Nat → Sto → Sto
  | 0, i26, s36 => bnd (F_ME_write_12 (208 + i22) pek 2592 (384 * i22) s36) fun s37 => bnd (F_ME_write_12 (203 + i22) pdk 4896 (384 * i22) s37) fun s38 => kk (i22 + 1) s38
  | n26 + 1, i26, s36 => bnd (F_ME_product (186 + ((4 * i22) + i26)) (203 + i26) (208 + i22) s36) fun s39 => F_ME_keys_0_L5 pek pdk i22 kk n26 (i26 + 1) s39
noncomputable def E_ME_keys_0_L5 (pek : Nat) (pdk : Nat) (i22 : Nat) (ke : Nat → Sto → Prop) : Nat → Nat → Sto → Prop
  | 0, i26, s36 => bnd (F_ME_write_12 (208 + i22) pek 2592 (384 * i22) s36) fun s37 => bnd (F_ME_write_12 (203 + i22) pdk 4896 (384 * i22) s37) fun s38 => ke (i22 + 1) s38
  | n26 + 1, i26, s36 => bnd (F_ME_product (186 + ((4 * i22) + i26)) (203 + i26) (208 + i22) s36) fun s39 => E_ME_keys_0_L5 pek pdk i22 ke n26 (i26 + 1) s39
noncomputable def F_ME_keys_0_L4 (psd : Nat) (pdk : Nat) : Nat → Nat → Sto → Sto
  | 0, i25, s32 => s32
  | n25 + 1, i25, s32 => bnd (sB s32 pdk (1600 + i25) (s32.1 psd (32 + i25))) fun s33 => F_ME_keys_0_L4 psd pdk n25 (i25 + 1) s33
noncomputable def E_ME_keys_0_L4 (psd : Nat) (pdk : Nat) : Nat → Nat → Sto → Prop
  | 0, i25, s32 => True
  | n25 + 1, i25, s32 => bnd (sB s32 pdk (1600 + i25) (s32.1 psd (32 + i25))) fun s33 => E_ME_keys_0_L4 psd pdk n25 (i25 + 1) s33
noncomputable def F_ME_keys_0_L3 (psd : Nat) (pek : Nat) (pdk : Nat) : Nat → Nat → Sto → Sto
  | 0, i24, s30 => bnd (F_ME_openSize_0  s30) fun q21 => bnd (q21.1.toNatClampNeg) fun z21 => bnd (F_ME_openSize_0  q21.2) fun q22 => bnd (q22.1.toNatClampNeg) fun z22 => bnd (F_ME_hash pek 2592 0 800 pdk 4896 1568 q22.2) fun s31 => F_ME_keys_0_L4 psd pdk 32 0 s31
  | n24 + 1, i24, s30 => bnd (F_ME_openSize_0  s30) fun q23 => bnd (q23.1.toNatClampNeg) fun z23 => bnd (sB q23.2 pdk (768 + i24) (q23.2.1 pek i24)) fun s34 => F_ME_keys_0_L3 psd pek pdk n24 (i24 + 1) s34
noncomputable def E_ME_keys_0_L3 (psd : Nat) (pek : Nat) (pdk : Nat) : Nat → Nat → Sto → Prop
  | 0, i24, s30 => bnd (F_ME_openSize_0  s30) fun q21 => bnd (q21.1.toNatClampNeg) fun z21 => bnd (F_ME_openSize_0  q21.2) fun q22 => bnd (q22.1.toNatClampNeg) fun z22 => bnd (F_ME_hash pek 2592 0 800 pdk 4896 1568 q22.2) fun s31 => E_ME_keys_0_L4 psd pdk 32 0 s31
  | n24 + 1, i24, s30 => bnd (F_ME_openSize_0  s30) fun q23 => bnd (q23.1.toNatClampNeg) fun z23 => bnd (sB q23.2 pdk (768 + i24) (q23.2.1 pek i24)) fun s34 => E_ME_keys_0_L3 psd pek pdk n24 (i24 + 1) s34
noncomputable def F_ME_keys_0_L2 (psd : Nat) (pek : Nat) (pdk : Nat) : Nat → Nat → Sto → Sto
  | 0, i23, s29 => F_ME_keys_0_L3 psd pek pdk 800 0 s29
  | n23 + 1, i23, s29 => bnd (sB s29 pek (768 + i23) (s29.1 220 i23)) fun s35 => F_ME_keys_0_L2 psd pek pdk n23 (i23 + 1) s35
noncomputable def E_ME_keys_0_L2 (psd : Nat) (pek : Nat) (pdk : Nat) : Nat → Nat → Sto → Prop
  | 0, i23, s29 => E_ME_keys_0_L3 psd pek pdk 800 0 s29
  | n23 + 1, i23, s29 => bnd (sB s29 pek (768 + i23) (s29.1 220 i23)) fun s35 => E_ME_keys_0_L2 psd pek pdk n23 (i23 + 1) s35
noncomputable def F_ME_keys_0_L1 (psd : Nat) (pek : Nat) (pdk : Nat) : Nat → Nat → Sto → Sto
  | 0, i22, s28 => F_ME_keys_0_L2 psd pek pdk 32 0 s28
  | n22 + 1, i22, s28 => F_ME_keys_0_L5 pek pdk i22 (F_ME_keys_0_L1 psd pek pdk n22) 2 0 s28
noncomputable def E_ME_keys_0_L1 (psd : Nat) (pek : Nat) (pdk : Nat) : Nat → Nat → Sto → Prop
  | 0, i22, s28 => E_ME_keys_0_L2 psd pek pdk 32 0 s28
  | n22 + 1, i22, s28 => E_ME_keys_0_L5 pek pdk i22 (E_ME_keys_0_L1 psd pek pdk n22) 2 0 s28
noncomputable def F_ME_keys_0_L0 (psd : Nat) (pek : Nat) (pdk : Nat) : Nat → Nat → Sto → Sto
  | 0, i21, s27 => F_ME_keys_0_L1 psd pek pdk 2 0 s27
  | n21 + 1, i21, s27 => bnd (F_ME_noise_3 (203 + i21) 220 64 32 (nI i21) s27) fun s40 => bnd (F_ME_noise_3 (208 + i21) 220 64 32 (nI (2 + i21)) s40) fun s41 => bnd (F_ME_forth (203 + i21) s41) fun s42 => bnd (F_ME_forth (208 + i21) s42) fun s43 => F_ME_keys_0_L0 psd pek pdk n21 (i21 + 1) s43
noncomputable def E_ME_keys_0_L0 (psd : Nat) (pek : Nat) (pdk : Nat) : Nat → Nat → Sto → Prop
  | 0, i21, s27 => E_ME_keys_0_L1 psd pek pdk 2 0 s27
  | n21 + 1, i21, s27 => bnd (F_ME_noise_3 (203 + i21) 220 64 32 (nI i21) s27) fun s40 => bnd (F_ME_noise_3 (208 + i21) 220 64 32 (nI (2 + i21)) s40) fun s41 => bnd (F_ME_forth (203 + i21) s41) fun s42 => bnd (F_ME_forth (208 + i21) s42) fun s43 => E_ME_keys_0_L0 psd pek pdk n21 (i21 + 1) s43
noncomputable def F_ME_keys_0 (psd : Nat) (n : Nat) (pek : Nat) (pdk : Nat) (s : Sto) : Sto := bnd (F_MS_begin 72 (nI 6) s) fun s21 => bnd (F_MS_puts psd n 0 32 s21) fun s22 => bnd (F_MS_put (nI 2) s22) fun s23 => bnd (F_MS_end  s23) fun s24 => bnd (F_MS_take 220 64 0 64 s24) fun s25 => bnd (F_ME_expand_2 220 64 0 s25) fun s26 => F_ME_keys_0_L0 psd pek pdk 2 0 s26
noncomputable def E_ME_keys_0 (psd : Nat) (n : Nat) (pek : Nat) (pdk : Nat) (s : Sto) : Prop := bnd (F_MS_begin 72 (nI 6) s) fun s21 => bnd (F_MS_puts psd n 0 32 s21) fun s22 => bnd (F_MS_put (nI 2) s22) fun s23 => bnd (F_MS_end  s23) fun s24 => bnd (F_MS_take 220 64 0 64 s24) fun s25 => (E_ME_expand_2 220 64 0 s25) ∧ (bnd (F_ME_expand_2 220 64 0 s25) fun s26 => E_ME_keys_0_L0 psd pek pdk 2 0 s26)
set_option maxHeartbeats 8000000 in
set_option maxRecDepth 100000 in
theorem N_ME_keys_0 (l : Launch) (g : Gd) (sz : Nat) (T : TyN) (s : Sto) (pl : va_W) (hO : okn g T s pl) (hU : inj T) (h0 sd ek dk : Nat) (psd : Nat) (n : Nat) (pek : Nat) (pdk : Nat) (k_h0 : T h0 = some 184) (k_sd : T sd = some psd) (n_sd : nsp psd = (1, n, [])) (k_ek : T ek = some pek) (n_ek : nsp pek = (1, 2592, [])) (k_dk : T dk = some pdk) (n_dk : nsp pdk = (1, 4896, [])) (h1 : 64 ≤ n) (h2 : n < 65536) (hE : E_ME_keys_0 psd n pek pdk s)  : Met l y_ME_keys w_ME_keys ({ frames := 5, cells := 0, slots := 0, locals := 118 } : Room) (va_Pc [.ref h0, .int (nI 0), .ref sd, .ref ek, .ref dk] (pr (en g) g.1 vcl sz ([] ++ pl))) (va_Qv (fun (u : (Sto) × va_W) => (u.1 = F_ME_keys_0 psd n pek pdk s ∧ frm (M_ME_keys_0 pek pdk) s u.1 ∧ True) ∧ okn g T u.1 u.2) (po g.1 vcl (va_A ([] ++ pl) sz) (fun (u : (Sto) × va_W) => [] ++ u.2)) (va_A ([] ++ pl) sz)) 0 0 (va_A ([] ++ pl) sz) := by
  refine mc_entry (cc := c_ME_keys) (maxL := 8) (ret := none) (by decide) rfl (Nat.le_of_ble_eq_true rfl) ?_
  intro p e s0 m args below meth c ls F hr hlk hnm hsz hP hD hEn hA hl
  obtain ⟨hx, hb, hml, hown, hts⟩ := id F
  have hK := hEn.1
  generalize va_A ([] ++ pl) sz = A at hD hEn hA ⊢
  have hS : va_S A s0.heap s0.heap [] := va_S.rf
  have hl : lv_has ls 8 [(0, .ref h0), (1, .int (nI 0)), (2, .ref sd), (3, .ref ek), (4, .ref dk)] := hl
  have hR : F_ME_keys_0 psd n pek pdk s = F_ME_keys_0 psd n pek pdk s := rfl
  have hF : frm (M_ME_keys_0 pek pdk) s s := frm_rf
  refine va_gets hx hb (hEn.2.1 19 _ rfl).1 hS hown (hts _ (wg_t kw_1605)) (fun _ h9 => h9) dME_keys_0 ?_
  refine lv_iload_n hx hb dME_keys_3 rfl (lv_at hl 1 rfl) ?_
  refine va_ti (v := .int (nI 2)) hx hb (hEn.2.1 19 _ rfl).2 hS (vp_in_nI (by decide) (by decide)) (by decide +kernel) dME_keys_4 ?_
  refine lv_istore (lv' := [(5, .int (nI 2)), (0, .ref h0), (1, .int (nI 0)), (2, .ref sd), (3, .ref ek), (4, .ref dk)]) hx hb dME_keys_5 hl (by decide) rfl (fun ls hl => ?_)
  refine lv_aload_n hx hb dME_keys_7 rfl (lv_at hl 1 rfl) ?_
  refine nw_get (C := "LatticeKeysModel$Secrets") (TT := T_ME) (N := 14) hx hb hts (wg_ft i_ME) hown hK hO k_h0 (kn := 184) (ci := 11) (fl := [(3, 172), (3, 178), (3, 185), (3, 202), (3, 207), (3, 212), (3, 217), (3, 218), (3, 219), (3, 220), (3, 221), (3, 222), (3, 223), (3, 224)]) rfl hP rfl 0 (by decide) (hts _ (wg_t kw_1379)) (fun _ h9 => h9) (cd := (3, 172)) rfl dME_keys_8 (fun v21 hv21 => ?_)
  obtain ⟨r21, rfl, kr21⟩ := (show ∃ r : Nat, v21 = .ref r ∧ T r = some 172 from hv21)
  refine lv_bipush (v := nI 72) hx hb dME_keys_11 (by decide) ?_
  refine lv_bipush (v := nI 6) hx hb dME_keys_13 (by decide) ?_
  refine mp_v (cx := []) (wr := []) hP hD hS hA [] [] rfl rfl rfl (by decide) (va_runV (As := [.int (nI 72), .int (nI 6)]) (rest := []) F (N_MS_begin l g _ T s pl hO hU r21 72 (nI 6) kr21 (by omega)) (cwV 2 hts (wg_app (wg_c kw_1607 (wg_c kw_1608 (wg_c kw_1609 (wg_c kw_10 wg_n)))) kw_1610) rfl rfl rfl (by decide +kernel) ⟨by decide, by decide⟩) (pn_W "LatticeKeysModel$Sponge" (en_ok g) (ci := 9) (kn := 172) (fl := [(3, 173), (3, 174), (3, 175), (3, 176), (3, 177), (0, 0), (0, 0), (0, 0)]) hK hO kr21 rfl hP hD hS hA hEn [] rfl rfl rfl) rfl rfl hl.1 rfl (lv_room (Nat.le_of_ble_eq_true rfl)) dME_keys_15 ⟨by omega, by omega⟩) (fun  u21 H locs hu21 hP hD hS => ?_)
  obtain ⟨s21, pl⟩ := u21
  obtain ⟨⟨eq21, hFc21, ⟨x21, hx_21, hb_21⟩, ⟨x22, hx_22, hb_22⟩, -⟩, hO⟩ := hu21
  have hO : okn g T s21 pl := hO
  have hP : va_P g.1 vcl ([] ++ pl) _ := hP
  have hD : va_D _ ([] ++ pl) := hD
  have hFc21 : frm (M_MS_begin) s s21 := hFc21
  have hb_21 : x21 = 0 := hb_21
  have hb_22 : x22 = 72 := hb_22
  replace hR := bnd_step hR eq21
  replace hE := bndP_step hE eq21
  have hF := frm_tr hF hFc21 (fun k hk => by unfold M_MS_begin at hk; unfold M_ME_keys_0; omega)
  refine W.widen (k := 0) (n := 0) (by omega) (by omega) ?_
  refine lv_aload_n hx hb dME_keys_18 rfl (lv_at hl 1 rfl) ?_
  refine nw_get (C := "LatticeKeysModel$Secrets") (TT := T_ME) (N := 14) hx hb hts (wg_ft i_ME) hown hK hO k_h0 (kn := 184) (ci := 11) (fl := [(3, 172), (3, 178), (3, 185), (3, 202), (3, 207), (3, 212), (3, 217), (3, 218), (3, 219), (3, 220), (3, 221), (3, 222), (3, 223), (3, 224)]) rfl hP rfl 0 (by decide) (hts _ (wg_t kw_1379)) (fun _ h9 => h9) (cd := (3, 172)) rfl dME_keys_19 (fun v22 hv22 => ?_)
  obtain ⟨r22, rfl, kr22⟩ := (show ∃ r : Nat, v22 = .ref r ∧ T r = some 172 from hv22)
  refine lv_aload_n hx hb dME_keys_22 rfl (lv_at hl 3 rfl) ?_
  refine lv_iconst (v := nI 0) hx hb dME_keys_23 (by decide) ?_
  refine lv_bipush (v := nI 32) hx hb dME_keys_24 (by decide) ?_
  refine mp_v (cx := []) (wr := []) hP hD hS hA [] [] rfl rfl rfl (by decide) (va_runV (As := [.ref sd, .int (nI 0), .int (nI 32)]) (rest := []) F (N_MS_puts l g _ T s21 pl hO hU r22 sd psd n 0 32 x21 x22 kr22 k_sd n_sd hx_21 hx_22 (by omega) (by omega) (by omega) (by omega)) (cwV 3 hts (wg_app (wg_c kw_1611 (wg_c kw_1612 (wg_c kw_1613 (wg_c kw_10 wg_n)))) kw_1614) rfl rfl rfl (by decide +kernel) ⟨by decide, by decide⟩) (pn_W "LatticeKeysModel$Sponge" (en_ok g) (ci := 9) (kn := 172) (fl := [(3, 173), (3, 174), (3, 175), (3, 176), (3, 177), (0, 0), (0, 0), (0, 0)]) hK hO kr22 rfl hP hD hS hA hEn [] rfl rfl rfl) rfl rfl hl.1 rfl (lv_room (Nat.le_of_ble_eq_true rfl)) dME_keys_26 ⟨by omega, by omega⟩) (fun  u22 H locs hu22 hP hD hS => ?_)
  obtain ⟨s22, pl⟩ := u22
  obtain ⟨⟨eq22, hFc22, ⟨x24, hx_24, hb_24⟩, ⟨x25, hx_25, hb_25⟩, -⟩, hO⟩ := hu22
  have hO : okn g T s22 pl := hO
  have hP : va_P g.1 vcl ([] ++ pl) _ := hP
  have hD : va_D _ ([] ++ pl) := hD
  have hFc22 : frm (M_MS_puts) s21 s22 := hFc22
  have hb_24 : x24 < x22 := hb_24
  have hb_25 : x25 = x22 := hb_25
  replace hR := bnd_step hR eq22
  replace hE := bndP_step hE eq22
  have hF := frm_tr hF hFc22 (fun k hk => by unfold M_MS_puts at hk; unfold M_ME_keys_0; omega)
  refine W.widen (k := 0) (n := 0) (by omega) (by omega) ?_
  refine lv_aload_n hx hb dME_keys_29 rfl (lv_at hl 1 rfl) ?_
  refine nw_get (C := "LatticeKeysModel$Secrets") (TT := T_ME) (N := 14) hx hb hts (wg_ft i_ME) hown hK hO k_h0 (kn := 184) (ci := 11) (fl := [(3, 172), (3, 178), (3, 185), (3, 202), (3, 207), (3, 212), (3, 217), (3, 218), (3, 219), (3, 220), (3, 221), (3, 222), (3, 223), (3, 224)]) rfl hP rfl 0 (by decide) (hts _ (wg_t kw_1379)) (fun _ h9 => h9) (cd := (3, 172)) rfl dME_keys_30 (fun v23 hv23 => ?_)
  obtain ⟨r23, rfl, kr23⟩ := (show ∃ r : Nat, v23 = .ref r ∧ T r = some 172 from hv23)
  refine lv_iload hx hb dME_keys_33 (lv_at hl 0 rfl) ?_
  refine mp_v (cx := []) (wr := []) hP hD hS hA [] [] rfl rfl rfl (by decide) (va_runV (As := [.int (nI 2)]) (rest := []) F (N_MS_put l g _ T s22 pl hO hU r23 (nI 2) x24 x25 kr23 hx_24 hx_25 (by omega) (by omega)) (cwV 1 hts (wg_app (wg_c kw_1632 (wg_c kw_1616 (wg_c kw_1617 (wg_c kw_10 wg_n)))) kw_1618) rfl rfl rfl (by decide +kernel) ⟨by decide, by decide⟩) (pn_W "LatticeKeysModel$Sponge" (en_ok g) (ci := 9) (kn := 172) (fl := [(3, 173), (3, 174), (3, 175), (3, 176), (3, 177), (0, 0), (0, 0), (0, 0)]) hK hO kr23 rfl hP hD hS hA hEn [] rfl rfl rfl) rfl rfl hl.1 rfl (lv_room (Nat.le_of_ble_eq_true rfl)) dME_keys_35 ⟨by omega, by omega⟩) (fun  u23 H locs hu23 hP hD hS => ?_)
  obtain ⟨s23, pl⟩ := u23
  obtain ⟨⟨eq23, hFc23, ⟨x27, hx_27, hb_27⟩, ⟨x28, hx_28, hb_28⟩, -⟩, hO⟩ := hu23
  have hO : okn g T s23 pl := hO
  have hP : va_P g.1 vcl ([] ++ pl) _ := hP
  have hD : va_D _ ([] ++ pl) := hD
  have hFc23 : frm (M_MS_put) s22 s23 := hFc23
  have hb_27 : x27 < x25 := hb_27
  have hb_28 : x28 = x25 := hb_28
  replace hR := bnd_step hR eq23
  replace hE := bndP_step hE eq23
  have hF := frm_tr hF hFc23 (fun k hk => by unfold M_MS_put at hk; unfold M_ME_keys_0; omega)
  refine W.widen (k := 0) (n := 0) (by omega) (by omega) ?_
  refine lv_aload_n hx hb dME_keys_38 rfl (lv_at hl 1 rfl) ?_
  refine nw_get (C := "LatticeKeysModel$Secrets") (TT := T_ME) (N := 14) hx hb hts (wg_ft i_ME) hown hK hO k_h0 (kn := 184) (ci := 11) (fl := [(3, 172), (3, 178), (3, 185), (3, 202), (3, 207), (3, 212), (3, 217), (3, 218), (3, 219), (3, 220), (3, 221), (3, 222), (3, 223), (3, 224)]) rfl hP rfl 0 (by decide) (hts _ (wg_t kw_1379)) (fun _ h9 => h9) (cd := (3, 172)) rfl dME_keys_39 (fun v24 hv24 => ?_)
  obtain ⟨r24, rfl, kr24⟩ := (show ∃ r : Nat, v24 = .ref r ∧ T r = some 172 from hv24)
  refine mp_v (cx := []) (wr := []) hP hD hS hA [] [] rfl rfl rfl (by decide) (va_runV (As := []) (rest := []) F (N_MS_end l g _ T s23 pl hO hU r24 x27 x28 kr24 hx_27 hx_28 (by omega) (by omega)) (cwV 0 hts (wg_app (wg_c kw_1633 (wg_c kw_1634 (wg_c kw_1635 (wg_c kw_10 wg_n)))) kw_1636) rfl rfl rfl (by decide +kernel) ⟨by decide, by decide⟩) (pn_W "LatticeKeysModel$Sponge" (en_ok g) (ci := 9) (kn := 172) (fl := [(3, 173), (3, 174), (3, 175), (3, 176), (3, 177), (0, 0), (0, 0), (0, 0)]) hK hO kr24 rfl hP hD hS hA hEn [] rfl rfl rfl) rfl rfl hl.1 rfl (lv_room (Nat.le_of_ble_eq_true rfl)) dME_keys_42 ⟨by omega, by omega⟩) (fun  u24 H locs hu24 hP hD hS => ?_)
  obtain ⟨s24, pl⟩ := u24
  obtain ⟨⟨eq24, hFc24, ⟨x30, hx_30, hb_30⟩, ⟨x31, hx_31, hb_31⟩, -⟩, hO⟩ := hu24
  have hO : okn g T s24 pl := hO
  have hP : va_P g.1 vcl ([] ++ pl) _ := hP
  have hD : va_D _ ([] ++ pl) := hD
  have hFc24 : frm (M_MS_end) s23 s24 := hFc24
  have hb_30 : x30 = 0 := hb_30
  have hb_31 : x31 = x28 := hb_31
  replace hR := bnd_step hR eq24
  replace hE := bndP_step hE eq24
  have hF := frm_tr hF hFc24 (fun k hk => by unfold M_MS_end at hk; unfold M_ME_keys_0; omega)
  refine W.widen (k := 0) (n := 0) (by omega) (by omega) ?_
  refine lv_aload_n hx hb dME_keys_45 rfl (lv_at hl 1 rfl) ?_
  refine nw_get (C := "LatticeKeysModel$Secrets") (TT := T_ME) (N := 14) hx hb hts (wg_ft i_ME) hown hK hO k_h0 (kn := 184) (ci := 11) (fl := [(3, 172), (3, 178), (3, 185), (3, 202), (3, 207), (3, 212), (3, 217), (3, 218), (3, 219), (3, 220), (3, 221), (3, 222), (3, 223), (3, 224)]) rfl hP rfl 0 (by decide) (hts _ (wg_t kw_1379)) (fun _ h9 => h9) (cd := (3, 172)) rfl dME_keys_46 (fun v25 hv25 => ?_)
  obtain ⟨r25, rfl, kr25⟩ := (show ∃ r : Nat, v25 = .ref r ∧ T r = some 172 from hv25)
  refine lv_aload_n hx hb dME_keys_49 rfl (lv_at hl 1 rfl) ?_
  refine nw_get (C := "LatticeKeysModel$Secrets") (TT := T_ME) (N := 14) hx hb hts (wg_ft i_ME) hown hK hO k_h0 (kn := 184) (ci := 11) (fl := [(3, 172), (3, 178), (3, 185), (3, 202), (3, 207), (3, 212), (3, 217), (3, 218), (3, 219), (3, 220), (3, 221), (3, 222), (3, 223), (3, 224)]) rfl hP rfl 9 (by decide) (hts _ (wg_t kw_1388)) (fun _ h9 => h9) (cd := (3, 220)) rfl dME_keys_50 (fun v26 hv26 => ?_)
  obtain ⟨r26, rfl, kr26⟩ := (show ∃ r : Nat, v26 = .ref r ∧ T r = some 220 from hv26)
  refine lv_iconst (v := nI 0) hx hb dME_keys_53 (by decide) ?_
  refine lv_bipush (v := nI 64) hx hb dME_keys_54 (by decide) ?_
  refine mp_v (cx := []) (wr := []) hP hD hS hA [] [] rfl rfl rfl (by decide) (va_runV (As := [.ref r26, .int (nI 0), .int (nI 64)]) (rest := []) F (N_MS_take l g _ T s24 pl hO hU r25 r26 220 64 0 64 x30 x31 kr25 kr26 rfl hx_30 hx_31 (by omega) (by omega) (by omega) (by omega)) (cwV 3 hts (wg_app (wg_c kw_1637 (wg_c kw_1638 (wg_c kw_1639 (wg_c kw_10 wg_n)))) kw_1640) rfl rfl rfl (by decide +kernel) ⟨by decide, by decide⟩) (pn_W "LatticeKeysModel$Sponge" (en_ok g) (ci := 9) (kn := 172) (fl := [(3, 173), (3, 174), (3, 175), (3, 176), (3, 177), (0, 0), (0, 0), (0, 0)]) hK hO kr25 rfl hP hD hS hA hEn [] rfl rfl rfl) rfl rfl hl.1 rfl (lv_room (Nat.le_of_ble_eq_true rfl)) dME_keys_56 ⟨by omega, by omega⟩) (fun  u25 H locs hu25 hP hD hS => ?_)
  obtain ⟨s25, pl⟩ := u25
  obtain ⟨⟨eq25, hFc25, ⟨x33, hx_33, hb_33⟩, ⟨x34, hx_34, hb_34⟩, -⟩, hO⟩ := hu25
  have hO : okn g T s25 pl := hO
  have hP : va_P g.1 vcl ([] ++ pl) _ := hP
  have hD : va_D _ ([] ++ pl) := hD
  have hFc25 : frm (M_MS_take 220) s24 s25 := hFc25
  have hb_33 : x33 ≤ x31 := hb_33
  have hb_34 : x34 = x31 := hb_34
  replace hR := bnd_step hR eq25
  replace hE := bndP_step hE eq25
  have hF := frm_tr hF hFc25 (fun k hk => by unfold M_MS_take at hk; unfold M_ME_keys_0; omega)
  refine W.widen (k := 0) (n := 0) (by omega) (by omega) ?_
  refine lv_aload_n hx hb dME_keys_59 rfl (lv_at hl 1 rfl) ?_
  refine lv_aload_n hx hb dME_keys_60 rfl (lv_at hl 1 rfl) ?_
  refine nw_get (C := "LatticeKeysModel$Secrets") (TT := T_ME) (N := 14) hx hb hts (wg_ft i_ME) hown hK hO k_h0 (kn := 184) (ci := 11) (fl := [(3, 172), (3, 178), (3, 185), (3, 202), (3, 207), (3, 212), (3, 217), (3, 218), (3, 219), (3, 220), (3, 221), (3, 222), (3, 223), (3, 224)]) rfl hP rfl 9 (by decide) (hts _ (wg_t kw_1388)) (fun _ h9 => h9) (cd := (3, 220)) rfl dME_keys_61 (fun v27 hv27 => ?_)
  obtain ⟨r27, rfl, kr27⟩ := (show ∃ r : Nat, v27 = .ref r ∧ T r = some 220 from hv27)
  refine lv_iconst (v := nI 0) hx hb dME_keys_64 (by decide) ?_
  refine lv_iload hx hb dME_keys_65 (lv_at hl 0 rfl) ?_
  refine mp_v (cx := []) (wr := []) hP hD hS hA [] [] rfl rfl rfl (by decide) (va_runV (As := [.ref r27, .int (nI 0), .int (nI 2)]) (rest := []) F (N_ME_expand_2 l g _ T s25 pl hO hU h0 r27 220 64 0 k_h0 kr27 rfl (by omega) (by omega) hE.1) (cwV 3 hts (wg_app (wg_c kw_1645 (wg_c kw_1647 (wg_c ks_54 (wg_c kw_11 wg_n)))) kw_1648) rfl rfl rfl (by decide +kernel) ⟨by decide, by decide⟩) (pn_W "LatticeKeysModel$Secrets" (en_ok g) (ci := 11) (kn := 184) (fl := [(3, 172), (3, 178), (3, 185), (3, 202), (3, 207), (3, 212), (3, 217), (3, 218), (3, 219), (3, 220), (3, 221), (3, 222), (3, 223), (3, 224)]) hK hO k_h0 rfl hP hD hS hA hEn [] rfl rfl rfl) rfl rfl hl.1 rfl (lv_room (Nat.le_of_ble_eq_true rfl)) dME_keys_67 ⟨by omega, by omega⟩) (fun  u26 H locs hu26 hP hD hS => ?_)
  obtain ⟨s26, pl⟩ := u26
  obtain ⟨⟨eq26, hFc26, -⟩, hO⟩ := hu26
  have hO : okn g T s26 pl := hO
  have hP : va_P g.1 vcl ([] ++ pl) _ := hP
  have hD : va_D _ ([] ++ pl) := hD
  have hFc26 : frm (M_ME_expand_2) s25 s26 := hFc26
  replace hE := hE.2
  replace hR := bnd_step hR eq26
  replace hE := bndP_step hE eq26
  have hF := frm_tr hF hFc26 (fun k hk => by unfold M_ME_expand_2 at hk; unfold M_ME_keys_0; omega)
  refine W.widen (k := 0) (n := 0) (by omega) (by omega) ?_
  refine lv_iconst (v := nI 0) hx hb dME_keys_70 (by decide) ?_
  refine lv_istore (lv' := [(6, .int (nI 0)), (5, .int (nI 2)), (0, .ref h0), (1, .int (nI 0)), (2, .ref sd), (3, .ref ek), (4, .ref dk)]) hx hb dME_keys_71 hl (by decide) rfl (fun ls hl => ?_)
  have lp21 : ∀ (n21 : Nat) (i21 : Nat) (s27 : Sto) (pl : va_W) (ls : Array Slot) (H : Heap) (locs : List Loc), n21 + i21 = 2 → frm (M_ME_keys_0 pek pdk) s s27 → E_ME_keys_0_L0 psd pek pdk n21 i21 s27 → F_ME_keys_0 psd n pek pdk s = F_ME_keys_0_L0 psd pek pdk n21 i21 s27 → lv_has ls 8 [(6, .int (nI i21)), (5, .int (nI 2)), (0, .ref h0), (1, .int (nI 0)), (2, .ref sd), (3, .ref ek), (4, .ref dk)] → okn g T s27 pl → va_P g.1 vcl ([] ++ pl) H → va_D A ([] ++ pl) → va_S A s0.heap H locs → W p l e ({ frames := 5, cells := 0, slots := 0, locals := 118 } : Room) s0 m args below meth c H locs 0 0 (MQ below (va_Qv (fun (u : (Sto) × va_W) => (u.1 = F_ME_keys_0 psd n pek pdk s ∧ frm (M_ME_keys_0 pek pdk) s u.1 ∧ True) ∧ okn g T u.1 u.2) (po g.1 vcl A (fun (u : (Sto) × va_W) => [] ++ u.2)) A) args s0 0 0 A) (F0 m 73 ls []) := by
    intro n21
    induction n21 with
    | zero =>
      intro i21 s27 pl ls H locs hm21 hF hE hR hl hO hP hD hS
      refine lv_iload hx hb dME_keys_73 (lv_at hl 0 rfl) ?_
      refine lv_iload hx hb dME_keys_75 (lv_at hl 1 rfl) ?_
      refine mi_ge (tgt := 159) hx hb dME_keys_77 (by decide) (by omega) (by omega) (fun h21 => ?_) (fun h21 => absurd h21 (by omega))
      refine lv_iconst (v := nI 0) hx hb dME_keys_159 (by decide) ?_
      refine lv_istore (lv' := [(6, .int (nI 0)), (5, .int (nI 2)), (0, .ref h0), (1, .int (nI 0)), (2, .ref sd), (3, .ref ek), (4, .ref dk)]) hx hb dME_keys_160 hl (by decide) rfl (fun ls hl => ?_)
      have lp22 : ∀ (n22 : Nat) (i22 : Nat) (s28 : Sto) (pl : va_W) (ls : Array Slot) (H : Heap) (locs : List Loc), n22 + i22 = 2 → frm (M_ME_keys_0 pek pdk) s s28 → E_ME_keys_0_L1 psd pek pdk n22 i22 s28 → F_ME_keys_0 psd n pek pdk s = F_ME_keys_0_L1 psd pek pdk n22 i22 s28 → lv_has ls 8 [(6, .int (nI i22)), (5, .int (nI 2)), (0, .ref h0), (1, .int (nI 0)), (2, .ref sd), (3, .ref ek), (4, .ref dk)] → okn g T s28 pl → va_P g.1 vcl ([] ++ pl) H → va_D A ([] ++ pl) → va_S A s0.heap H locs → W p l e ({ frames := 5, cells := 0, slots := 0, locals := 118 } : Room) s0 m args below meth c H locs 0 0 (MQ below (va_Qv (fun (u : (Sto) × va_W) => (u.1 = F_ME_keys_0 psd n pek pdk s ∧ frm (M_ME_keys_0 pek pdk) s u.1 ∧ True) ∧ okn g T u.1 u.2) (po g.1 vcl A (fun (u : (Sto) × va_W) => [] ++ u.2)) A) args s0 0 0 A) (F0 m 162 ls []) := by
        intro n22
        induction n22 with
        | zero =>
          intro i22 s28 pl ls H locs hm22 hF hE hR hl hO hP hD hS
          refine lv_iload hx hb dME_keys_162 (lv_at hl 0 rfl) ?_
          refine lv_iload hx hb dME_keys_164 (lv_at hl 1 rfl) ?_
          refine mi_ge (tgt := 260) hx hb dME_keys_166 (by decide) (by omega) (by omega) (fun h22 => ?_) (fun h22 => absurd h22 (by omega))
          refine lv_iconst (v := nI 0) hx hb dME_keys_260 (by decide) ?_
          refine lv_istore (lv' := [(6, .int (nI 0)), (5, .int (nI 2)), (0, .ref h0), (1, .int (nI 0)), (2, .ref sd), (3, .ref ek), (4, .ref dk)]) hx hb dME_keys_261 hl (by decide) rfl (fun ls hl => ?_)
          have lp23 : ∀ (n23 : Nat) (i23 : Nat) (s29 : Sto) (pl : va_W) (ls : Array Slot) (H : Heap) (locs : List Loc), n23 + i23 = 32 → frm (M_ME_keys_0 pek pdk) s s29 → E_ME_keys_0_L2 psd pek pdk n23 i23 s29 → F_ME_keys_0 psd n pek pdk s = F_ME_keys_0_L2 psd pek pdk n23 i23 s29 → lv_has ls 8 [(6, .int (nI i23)), (5, .int (nI 2)), (0, .ref h0), (1, .int (nI 0)), (2, .ref sd), (3, .ref ek), (4, .ref dk)] → okn g T s29 pl → va_P g.1 vcl ([] ++ pl) H → va_D A ([] ++ pl) → va_S A s0.heap H locs → W p l e ({ frames := 5, cells := 0, slots := 0, locals := 118 } : Room) s0 m args below meth c H locs 0 0 (MQ below (va_Qv (fun (u : (Sto) × va_W) => (u.1 = F_ME_keys_0 psd n pek pdk s ∧ frm (M_ME_keys_0 pek pdk) s u.1 ∧ True) ∧ okn g T u.1 u.2) (po g.1 vcl A (fun (u : (Sto) × va_W) => [] ++ u.2)) A) args s0 0 0 A) (F0 m 263 ls []) := by
            intro n23
            induction n23 with
            | zero =>
              intro i23 s29 pl ls H locs hm23 hF hE hR hl hO hP hD hS
              refine lv_iload hx hb dME_keys_263 (lv_at hl 0 rfl) ?_
              refine lv_bipush (v := nI 32) hx hb dME_keys_265 (by decide) ?_
              refine mi_ge (tgt := 294) hx hb dME_keys_267 (by decide) (by omega) (by omega) (fun h23 => ?_) (fun h23 => absurd h23 (by omega))
              refine lv_iconst (v := nI 0) hx hb dME_keys_294 (by decide) ?_
              refine lv_istore (lv' := [(6, .int (nI 0)), (5, .int (nI 2)), (0, .ref h0), (1, .int (nI 0)), (2, .ref sd), (3, .ref ek), (4, .ref dk)]) hx hb dME_keys_295 hl (by decide) rfl (fun ls hl => ?_)
              have lp24 : ∀ (n24 : Nat) (i24 : Nat) (s30 : Sto) (pl : va_W) (ls : Array Slot) (H : Heap) (locs : List Loc), n24 + i24 = 800 → frm (M_ME_keys_0 pek pdk) s s30 → E_ME_keys_0_L3 psd pek pdk n24 i24 s30 → F_ME_keys_0 psd n pek pdk s = F_ME_keys_0_L3 psd pek pdk n24 i24 s30 → lv_has ls 8 [(6, .int (nI i24)), (5, .int (nI 2)), (0, .ref h0), (1, .int (nI 0)), (2, .ref sd), (3, .ref ek), (4, .ref dk)] → okn g T s30 pl → va_P g.1 vcl ([] ++ pl) H → va_D A ([] ++ pl) → va_S A s0.heap H locs → W p l e ({ frames := 5, cells := 0, slots := 0, locals := 118 } : Room) s0 m args below meth c H locs 0 0 (MQ below (va_Qv (fun (u : (Sto) × va_W) => (u.1 = F_ME_keys_0 psd n pek pdk s ∧ frm (M_ME_keys_0 pek pdk) s u.1 ∧ True) ∧ okn g T u.1 u.2) (po g.1 vcl A (fun (u : (Sto) × va_W) => [] ++ u.2)) A) args s0 0 0 A) (F0 m 297 ls []) := by
                intro n24
                induction n24 with
                | zero =>
                  intro i24 s30 pl ls H locs hm24 hF hE hR hl hO hP hD hS
                  refine lv_iload hx hb dME_keys_297 (lv_at hl 0 rfl) ?_
                  refine lv_iload_n hx hb dME_keys_299 rfl (lv_at hl 3 rfl) ?_
                  refine mp_i (cx := []) (wr := []) hP hD hS hA [] [] rfl rfl rfl (by decide) (va_runS (As := [.int (nI 0)]) (rest := [.int (nI i24)]) F (N_ME_openSize_0 l g _ T s30 pl hO hU ) (va_cwS 1 hts (wg_app (wg_c kw_1691 (wg_c kw_1692 (wg_c kw_11 wg_n))) kw_1693) rfl rfl rfl (by decide +kernel) ⟨by decide, by decide⟩) (pp_S (en_ok g) hP hD hS hA hEn [] rfl rfl) rfl rfl hl.1 rfl (lv_room (Nat.le_of_ble_eq_true rfl)) dME_keys_300 ⟨by omega, by omega⟩) (fun r28 u27 H locs hu27 hP hD hS => ?_)
                  obtain ⟨q21, pl⟩ := u27
                  obtain ⟨⟨eq27, rfl, hFc27, ⟨x37, hx_37, hb_37⟩, hxp27, -⟩, hO⟩ := hu27
                  have hO : okn g T q21.2 pl := hO
                  have hP : va_P g.1 vcl ([] ++ pl) _ := hP
                  have hD : va_D _ ([] ++ pl) := hD
                  have hFc27 : frm (M_ME_openSize_0) s30 q21.2 := hFc27
                  have hb_37 : x37 < 801 := hb_37
                  replace hR := bnd_step hR eq27
                  replace hE := bndP_step hE eq27
                  have hF := frm_tr hF hFc27 (fun k hk => by unfold M_ME_openSize_0 at hk; unfold M_ME_keys_0; omega)
                  obtain ⟨z21, ez21, hz21, hz22⟩ := cl_of (b := 2147483648) hx_37 (by omega) (by decide)
                  replace hR := bnd_step hR ez21
                  replace hE := bndP_step hE ez21
                  refine mi_as hz21 ?_
                  have hsz21 : z21 = 800 := (nI_eq (by omega) (by omega)).mp (hz21.symm.trans hxp27)
                  subst hsz21
                  refine W.widen (k := 0) (n := 0) (by omega) (by omega) ?_
                  refine mi_ge (tgt := 328) hx hb dME_keys_303 (by decide) (by omega) (by omega) (fun h24 => ?_) (fun h24 => absurd h24 (by omega))
                  refine lv_aload_n hx hb dME_keys_328 rfl (lv_at hl 2 rfl) ?_
                  refine lv_aload_n hx hb dME_keys_329 rfl (lv_at hl 5 rfl) ?_
                  refine lv_iconst (v := nI 0) hx hb dME_keys_330 (by decide) ?_
                  refine lv_iload_n hx hb dME_keys_331 rfl (lv_at hl 3 rfl) ?_
                  refine mp_i (cx := []) (wr := []) hP hD hS hA [] [] rfl rfl rfl (by decide) (va_runS (As := [.int (nI 0)]) (rest := [.int (nI 0), .ref ek, .ref h0]) F (N_ME_openSize_0 l g _ T q21.2 pl hO hU ) (va_cwS 1 hts (wg_app (wg_c kw_1691 (wg_c kw_1692 (wg_c kw_11 wg_n))) kw_1693) rfl rfl rfl (by decide +kernel) ⟨by decide, by decide⟩) (pp_S (en_ok g) hP hD hS hA hEn [] rfl rfl) rfl rfl hl.1 rfl (lv_room (Nat.le_of_ble_eq_true rfl)) dME_keys_332 ⟨by omega, by omega⟩) (fun r29 u28 H locs hu28 hP hD hS => ?_)
                  obtain ⟨q22, pl⟩ := u28
                  obtain ⟨⟨eq28, rfl, hFc28, ⟨x38, hx_38, hb_38⟩, hxp28, -⟩, hO⟩ := hu28
                  have hO : okn g T q22.2 pl := hO
                  have hP : va_P g.1 vcl ([] ++ pl) _ := hP
                  have hD : va_D _ ([] ++ pl) := hD
                  have hFc28 : frm (M_ME_openSize_0) q21.2 q22.2 := hFc28
                  have hb_38 : x38 < 801 := hb_38
                  replace hR := bnd_step hR eq28
                  replace hE := bndP_step hE eq28
                  have hF := frm_tr hF hFc28 (fun k hk => by unfold M_ME_openSize_0 at hk; unfold M_ME_keys_0; omega)
                  obtain ⟨z22, ez22, hz23, hz24⟩ := cl_of (b := 2147483648) hx_38 (by omega) (by decide)
                  replace hR := bnd_step hR ez22
                  replace hE := bndP_step hE ez22
                  refine mi_as hz23 ?_
                  have hsz22 : z22 = 800 := (nI_eq (by omega) (by omega)).mp (hz23.symm.trans hxp28)
                  subst hsz22
                  refine W.widen (k := 0) (n := 0) (by omega) (by omega) ?_
                  refine lv_aload hx hb dME_keys_335 (lv_at hl 6 rfl) ?_
                  refine lv_sipush (v := nI 768) hx hb dME_keys_337 (by decide) ?_
                  refine lv_iload hx hb dME_keys_340 (lv_at hl 1 rfl) ?_
                  refine mi_imul hx hb dME_keys_342 ?_
                  refine mi_as (show nI (768 * 2) = nI 1536 from rfl) ?_
                  refine lv_bipush (v := nI 32) hx hb dME_keys_343 (by decide) ?_
                  refine mi_iadd hx hb dME_keys_345 ?_
                  refine mi_as (show nI (1536 + 32) = nI 1568 from rfl) ?_
                  refine mp_v (cx := []) (wr := []) hP hD hS hA [] [] rfl rfl rfl (by decide) (va_runV (As := [.ref ek, .int (nI 0), .int (nI 800), .ref dk, .int (nI 1568)]) (rest := []) F (N_ME_hash l g _ T q22.2 pl hO hU h0 ek dk pek 2592 0 800 pdk 4896 1568 k_h0 k_ek n_ek k_dk n_dk (by omega) (by omega) (by omega) (by omega)) (cwV 5 hts (wg_app (wg_c kw_1694 (wg_c kw_1696 (wg_c ks_59 (wg_c kw_11 wg_n)))) kw_1697) rfl rfl rfl (by decide +kernel) ⟨by decide, by decide⟩) (pn_W "LatticeKeysModel$Secrets" (en_ok g) (ci := 11) (kn := 184) (fl := [(3, 172), (3, 178), (3, 185), (3, 202), (3, 207), (3, 212), (3, 217), (3, 218), (3, 219), (3, 220), (3, 221), (3, 222), (3, 223), (3, 224)]) hK hO k_h0 rfl hP hD hS hA hEn [] rfl rfl rfl) rfl rfl hl.1 rfl (lv_room (Nat.le_of_ble_eq_true rfl)) dME_keys_346 ⟨by omega, by omega⟩) (fun  u29 H locs hu29 hP hD hS => ?_)
                  obtain ⟨s31, pl⟩ := u29
                  obtain ⟨⟨eq29, hFc29, -⟩, hO⟩ := hu29
                  have hO : okn g T s31 pl := hO
                  have hP : va_P g.1 vcl ([] ++ pl) _ := hP
                  have hD : va_D _ ([] ++ pl) := hD
                  have hFc29 : frm (M_ME_hash pdk) q22.2 s31 := hFc29
                  replace hR := bnd_step hR eq29
                  replace hE := bndP_step hE eq29
                  have hF := frm_tr hF hFc29 (fun k hk => by unfold M_ME_hash at hk; unfold M_ME_keys_0; omega)
                  refine W.widen (k := 0) (n := 0) (by omega) (by omega) ?_
                  refine lv_iconst (v := nI 0) hx hb dME_keys_349 (by decide) ?_
                  refine lv_istore (lv' := [(6, .int (nI 0)), (5, .int (nI 2)), (0, .ref h0), (1, .int (nI 0)), (2, .ref sd), (3, .ref ek), (4, .ref dk)]) hx hb dME_keys_350 hl (by decide) rfl (fun ls hl => ?_)
                  have lp25 : ∀ (n25 : Nat) (i25 : Nat) (s32 : Sto) (pl : va_W) (ls : Array Slot) (H : Heap) (locs : List Loc), n25 + i25 = 32 → frm (M_ME_keys_0 pek pdk) s s32 → E_ME_keys_0_L4 psd pdk n25 i25 s32 → F_ME_keys_0 psd n pek pdk s = F_ME_keys_0_L4 psd pdk n25 i25 s32 → lv_has ls 8 [(6, .int (nI i25)), (5, .int (nI 2)), (2, .ref sd), (4, .ref dk)] → okn g T s32 pl → va_P g.1 vcl ([] ++ pl) H → va_D A ([] ++ pl) → va_S A s0.heap H locs → W p l e ({ frames := 5, cells := 0, slots := 0, locals := 118 } : Room) s0 m args below meth c H locs 0 0 (MQ below (va_Qv (fun (u : (Sto) × va_W) => (u.1 = F_ME_keys_0 psd n pek pdk s ∧ frm (M_ME_keys_0 pek pdk) s u.1 ∧ True) ∧ okn g T u.1 u.2) (po g.1 vcl A (fun (u : (Sto) × va_W) => [] ++ u.2)) A) args s0 0 0 A) (F0 m 352 ls []) := by
                    intro n25
                    induction n25 with
                    | zero =>
                      intro i25 s32 pl ls H locs hm25 hF hE hR hl hO hP hD hS
                      refine lv_iload hx hb dME_keys_352 (lv_at hl 0 rfl) ?_
                      refine lv_bipush (v := nI 32) hx hb dME_keys_354 (by decide) ?_
                      refine mi_ge (tgt := 387) hx hb dME_keys_356 (by decide) (by omega) (by omega) (fun h25 => ?_) (fun h25 => absurd h25 (by omega))
                      exact mp_vret hx hb hr hlk hP hD hS (s32, pl) ⟨⟨hR.symm, hF, trivial⟩, hO⟩ [] rfl rfl rfl (by omega) (by omega) dME_keys_387
                    | succ n25 ih25 =>
                      intro i25 s32 pl ls H locs hm25 hF hE hR hl hO hP hD hS
                      refine lv_iload hx hb dME_keys_352 (lv_at hl 0 rfl) ?_
                      refine lv_bipush (v := nI 32) hx hb dME_keys_354 (by decide) ?_
                      refine mi_ge (tgt := 387) hx hb dME_keys_356 (by decide) (by omega) (by omega) (fun h26 => absurd h26 (by omega)) (fun h26 => ?_)
                      refine lv_aload hx hb dME_keys_359 (lv_at hl 3 rfl) ?_
                      refine lv_sipush (v := nI 768) hx hb dME_keys_361 (by decide) ?_
                      refine lv_iload hx hb dME_keys_364 (lv_at hl 1 rfl) ?_
                      refine mi_imul hx hb dME_keys_366 ?_
                      refine mi_as (show nI (768 * 2) = nI 1536 from rfl) ?_
                      refine lv_bipush (v := nI 64) hx hb dME_keys_367 (by decide) ?_
                      refine mi_iadd hx hb dME_keys_369 ?_
                      refine mi_as (show nI (1536 + 64) = nI 1600 from rfl) ?_
                      refine lv_iload hx hb dME_keys_370 (lv_at hl 0 rfl) ?_
                      refine mi_iadd hx hb dME_keys_372 ?_
                      refine lv_aload_n hx hb dME_keys_373 rfl (lv_at hl 2 rfl) ?_
                      refine lv_bipush (v := nI 32) hx hb dME_keys_374 (by decide) ?_
                      refine lv_iload hx hb dME_keys_376 (lv_at hl 0 rfl) ?_
                      refine mi_iadd hx hb dME_keys_378 ?_
                      refine nw_bald hx hb hK hO k_sd (k := psd) n_sd hP (by omega) (by omega) dME_keys_379 ?_
                      refine nw_bast hx hb hK hO hU k_dk (k := pdk) n_dk hP hD hS (by omega) (by omega) dME_keys_380 (fun s33 pl H locs es21 hO hP hD hS => ?_)
                      replace hR := bnd_step hR es21
                      replace hE := bndP_step hE es21
                      have hF := frm_sB hF es21 (by unfold M_ME_keys_0; omega)
                      refine mi_iinc (k := 0) (x := i25) (d := 1) (y := i25 + 1) (lv' := [(6, .int (nI (i25 + 1))), (5, .int (nI 2)), (2, .ref sd), (4, .ref dk)]) hx hb dME_keys_381 hl rfl (by decide) rfl (by decide) rfl (fun ls hl => ?_)
                      refine lv_goto (tgt := 352) hx hb dME_keys_384 (by decide) ?_
                      exact ih25 (i25 + 1) s33 pl ls H locs (by omega) hF hE hR (lv_sub hl [0, 1, 2, 3] rfl) hO hP hD hS
                  exact lp25 32 0 s31 pl ls _ _ (by omega) hF hE hR (lv_sub hl [0, 1, 4, 6] rfl) hO hP hD hS
                | succ n24 ih24 =>
                  intro i24 s30 pl ls H locs hm24 hF hE hR hl hO hP hD hS
                  refine lv_iload hx hb dME_keys_297 (lv_at hl 0 rfl) ?_
                  refine lv_iload_n hx hb dME_keys_299 rfl (lv_at hl 3 rfl) ?_
                  refine mp_i (cx := []) (wr := []) hP hD hS hA [] [] rfl rfl rfl (by decide) (va_runS (As := [.int (nI 0)]) (rest := [.int (nI i24)]) F (N_ME_openSize_0 l g _ T s30 pl hO hU ) (va_cwS 1 hts (wg_app (wg_c kw_1691 (wg_c kw_1692 (wg_c kw_11 wg_n))) kw_1693) rfl rfl rfl (by decide +kernel) ⟨by decide, by decide⟩) (pp_S (en_ok g) hP hD hS hA hEn [] rfl rfl) rfl rfl hl.1 rfl (lv_room (Nat.le_of_ble_eq_true rfl)) dME_keys_300 ⟨by omega, by omega⟩) (fun r30 u30 H locs hu30 hP hD hS => ?_)
                  obtain ⟨q23, pl⟩ := u30
                  obtain ⟨⟨eq30, rfl, hFc30, ⟨x40, hx_40, hb_40⟩, hxp30, -⟩, hO⟩ := hu30
                  have hO : okn g T q23.2 pl := hO
                  have hP : va_P g.1 vcl ([] ++ pl) _ := hP
                  have hD : va_D _ ([] ++ pl) := hD
                  have hFc30 : frm (M_ME_openSize_0) s30 q23.2 := hFc30
                  have hb_40 : x40 < 801 := hb_40
                  replace hR := bnd_step hR eq30
                  replace hE := bndP_step hE eq30
                  have hF := frm_tr hF hFc30 (fun k hk => by unfold M_ME_openSize_0 at hk; unfold M_ME_keys_0; omega)
                  obtain ⟨z23, ez23, hz25, hz26⟩ := cl_of (b := 2147483648) hx_40 (by omega) (by decide)
                  replace hR := bnd_step hR ez23
                  replace hE := bndP_step hE ez23
                  refine mi_as hz25 ?_
                  have hsz23 : z23 = 800 := (nI_eq (by omega) (by omega)).mp (hz25.symm.trans hxp30)
                  subst hsz23
                  refine W.widen (k := 0) (n := 0) (by omega) (by omega) ?_
                  refine mi_ge (tgt := 328) hx hb dME_keys_303 (by decide) (by omega) (by omega) (fun h27 => absurd h27 (by omega)) (fun h27 => ?_)
                  refine lv_aload hx hb dME_keys_306 (lv_at hl 6 rfl) ?_
                  refine lv_sipush (v := nI 384) hx hb dME_keys_308 (by decide) ?_
                  refine lv_iload hx hb dME_keys_311 (lv_at hl 1 rfl) ?_
                  refine mi_imul hx hb dME_keys_313 ?_
                  refine mi_as (show nI (384 * 2) = nI 768 from rfl) ?_
                  refine lv_iload hx hb dME_keys_314 (lv_at hl 0 rfl) ?_
                  refine mi_iadd hx hb dME_keys_316 ?_
                  refine lv_aload_n hx hb dME_keys_317 rfl (lv_at hl 5 rfl) ?_
                  refine lv_iload hx hb dME_keys_318 (lv_at hl 0 rfl) ?_
                  refine nw_bald hx hb hK hO k_ek (k := pek) n_ek hP (by omega) (by omega) dME_keys_320 ?_
                  refine nw_bast hx hb hK hO hU k_dk (k := pdk) n_dk hP hD hS (by omega) (by omega) dME_keys_321 (fun s34 pl H locs es22 hO hP hD hS => ?_)
                  replace hR := bnd_step hR es22
                  replace hE := bndP_step hE es22
                  have hF := frm_sB hF es22 (by unfold M_ME_keys_0; omega)
                  refine mi_iinc (k := 0) (x := i24) (d := 1) (y := i24 + 1) (lv' := [(6, .int (nI (i24 + 1))), (5, .int (nI 2)), (0, .ref h0), (1, .int (nI 0)), (2, .ref sd), (3, .ref ek), (4, .ref dk)]) hx hb dME_keys_322 hl rfl (by decide) rfl (by decide) rfl (fun ls hl => ?_)
                  refine lv_goto (tgt := 297) hx hb dME_keys_325 (by decide) ?_
                  exact ih24 (i24 + 1) s34 pl ls H locs (by omega) hF hE hR (lv_sub hl [0, 1, 2, 3, 4, 5, 6] rfl) hO hP hD hS
              exact lp24 800 0 s29 pl ls _ _ (by omega) hF hE hR (lv_sub hl [0, 1, 2, 3, 4, 5, 6] rfl) hO hP hD hS
            | succ n23 ih23 =>
              intro i23 s29 pl ls H locs hm23 hF hE hR hl hO hP hD hS
              refine lv_iload hx hb dME_keys_263 (lv_at hl 0 rfl) ?_
              refine lv_bipush (v := nI 32) hx hb dME_keys_265 (by decide) ?_
              refine mi_ge (tgt := 294) hx hb dME_keys_267 (by decide) (by omega) (by omega) (fun h28 => absurd h28 (by omega)) (fun h28 => ?_)
              refine lv_aload_n hx hb dME_keys_270 rfl (lv_at hl 5 rfl) ?_
              refine lv_sipush (v := nI 384) hx hb dME_keys_271 (by decide) ?_
              refine lv_iload hx hb dME_keys_274 (lv_at hl 1 rfl) ?_
              refine mi_imul hx hb dME_keys_276 ?_
              refine mi_as (show nI (384 * 2) = nI 768 from rfl) ?_
              refine lv_iload hx hb dME_keys_277 (lv_at hl 0 rfl) ?_
              refine mi_iadd hx hb dME_keys_279 ?_
              refine lv_aload_n hx hb dME_keys_280 rfl (lv_at hl 2 rfl) ?_
              refine nw_get (C := "LatticeKeysModel$Secrets") (TT := T_ME) (N := 14) hx hb hts (wg_ft i_ME) hown hK hO k_h0 (kn := 184) (ci := 11) (fl := [(3, 172), (3, 178), (3, 185), (3, 202), (3, 207), (3, 212), (3, 217), (3, 218), (3, 219), (3, 220), (3, 221), (3, 222), (3, 223), (3, 224)]) rfl hP rfl 9 (by decide) (hts _ (wg_t kw_1388)) (fun _ h9 => h9) (cd := (3, 220)) rfl dME_keys_281 (fun v28 hv28 => ?_)
              obtain ⟨r31, rfl, kr28⟩ := (show ∃ r : Nat, v28 = .ref r ∧ T r = some 220 from hv28)
              refine lv_iload hx hb dME_keys_284 (lv_at hl 0 rfl) ?_
              refine nw_bald hx hb hK hO kr28 (k := 220) rfl hP (by omega) (by omega) dME_keys_286 ?_
              refine nw_bast hx hb hK hO hU k_ek (k := pek) n_ek hP hD hS (by omega) (by omega) dME_keys_287 (fun s35 pl H locs es23 hO hP hD hS => ?_)
              replace hR := bnd_step hR es23
              replace hE := bndP_step hE es23
              have hF := frm_sB hF es23 (by unfold M_ME_keys_0; omega)
              refine mi_iinc (k := 0) (x := i23) (d := 1) (y := i23 + 1) (lv' := [(6, .int (nI (i23 + 1))), (5, .int (nI 2)), (0, .ref h0), (1, .int (nI 0)), (2, .ref sd), (3, .ref ek), (4, .ref dk)]) hx hb dME_keys_288 hl rfl (by decide) rfl (by decide) rfl (fun ls hl => ?_)
              refine lv_goto (tgt := 263) hx hb dME_keys_291 (by decide) ?_
              exact ih23 (i23 + 1) s35 pl ls H locs (by omega) hF hE hR (lv_sub hl [0, 1, 2, 3, 4, 5, 6] rfl) hO hP hD hS
          exact lp23 32 0 s28 pl ls _ _ (by omega) hF hE hR (lv_sub hl [0, 1, 2, 3, 4, 5, 6] rfl) hO hP hD hS
        | succ n22 ih22 =>
          intro i22 s28 pl ls H locs hm22 hF hE hR hl hO hP hD hS
          refine lv_iload hx hb dME_keys_162 (lv_at hl 0 rfl) ?_
          refine lv_iload hx hb dME_keys_164 (lv_at hl 1 rfl) ?_
          refine mi_ge (tgt := 260) hx hb dME_keys_166 (by decide) (by omega) (by omega) (fun h29 => absurd h29 (by omega)) (fun h29 => ?_)
          refine lv_iconst (v := nI 0) hx hb dME_keys_169 (by decide) ?_
          refine lv_istore (lv' := [(7, .int (nI 0)), (6, .int (nI i22)), (5, .int (nI 2)), (0, .ref h0), (1, .int (nI 0)), (2, .ref sd), (3, .ref ek), (4, .ref dk)]) hx hb dME_keys_170 hl (by decide) rfl (fun ls hl => ?_)
          have lp26 : ∀ (n26 : Nat) (i26 : Nat) (s36 : Sto) (pl : va_W) (ls : Array Slot) (H : Heap) (locs : List Loc), n26 + i26 = 2 → frm (M_ME_keys_0 pek pdk) s s36 → E_ME_keys_0_L5 pek pdk i22 (E_ME_keys_0_L1 psd pek pdk n22) n26 i26 s36 → F_ME_keys_0 psd n pek pdk s = F_ME_keys_0_L5 pek pdk i22 (F_ME_keys_0_L1 psd pek pdk n22) n26 i26 s36 → lv_has ls 8 [(7, .int (nI i26)), (6, .int (nI i22)), (5, .int (nI 2)), (0, .ref h0), (1, .int (nI 0)), (2, .ref sd), (3, .ref ek), (4, .ref dk)] → okn g T s36 pl → va_P g.1 vcl ([] ++ pl) H → va_D A ([] ++ pl) → va_S A s0.heap H locs → W p l e ({ frames := 5, cells := 0, slots := 0, locals := 118 } : Room) s0 m args below meth c H locs 0 0 (MQ below (va_Qv (fun (u : (Sto) × va_W) => (u.1 = F_ME_keys_0 psd n pek pdk s ∧ frm (M_ME_keys_0 pek pdk) s u.1 ∧ True) ∧ okn g T u.1 u.2) (po g.1 vcl A (fun (u : (Sto) × va_W) => [] ++ u.2)) A) args s0 0 0 A) (F0 m 172 ls []) := by
            intro n26
            induction n26 with
            | zero =>
              intro i26 s36 pl ls H locs hm26 hF hE hR hl hO hP hD hS
              refine lv_iload hx hb dME_keys_172 (lv_at hl 0 rfl) ?_
              refine lv_iload hx hb dME_keys_174 (lv_at hl 2 rfl) ?_
              refine mi_ge (tgt := 215) hx hb dME_keys_176 (by decide) (by omega) (by omega) (fun h30 => ?_) (fun h30 => absurd h30 (by omega))
              refine lv_aload_n hx hb dME_keys_215 rfl (lv_at hl 3 rfl) ?_
              refine nw_get (C := "LatticeKeysModel$Secrets") (TT := T_ME) (N := 14) hx hb hts (wg_ft i_ME) hown hK hO k_h0 (kn := 184) (ci := 11) (fl := [(3, 172), (3, 178), (3, 185), (3, 202), (3, 207), (3, 212), (3, 217), (3, 218), (3, 219), (3, 220), (3, 221), (3, 222), (3, 223), (3, 224)]) rfl hP rfl 4 (by decide) (hts _ (wg_t kw_1383)) (fun _ h9 => h9) (cd := (3, 207)) rfl dME_keys_216 (fun v29 hv29 => ?_)
              obtain ⟨r32, rfl, kr29⟩ := (show ∃ r : Nat, v29 = .ref r ∧ T r = some 207 from hv29)
              refine lv_iload hx hb dME_keys_219 (lv_at hl 1 rfl) ?_
              refine nw_aald3 hx hb hK hO kr29 (k := 207) (b := 208) rfl hP (by omega) (by omega) dME_keys_221 (fun r33 kr30 => ?_)
              have hn21 : nsp (208 + i22) = (0, 256, []) := rows_ok 208 4 (by decide) _ (by omega)
              refine lv_aload_n hx hb dME_keys_222 rfl (lv_at hl 6 rfl) ?_
              refine lv_sipush (v := nI 384) hx hb dME_keys_223 (by decide) ?_
              refine lv_iload hx hb dME_keys_226 (lv_at hl 1 rfl) ?_
              refine mi_imul hx hb dME_keys_228 ?_
              refine lv_bipush (v := nI 12) hx hb dME_keys_229 (by decide) ?_
              refine mp_v (cx := []) (wr := []) hP hD hS hA [] [] rfl rfl rfl (by decide) (va_runS (As := [.ref r33, .ref ek, .int (nI (384 * i22)), .int (nI 12)]) (rest := []) F (N_ME_write_12 l g _ T s36 pl hO hU r33 ek (208 + i22) pek 2592 (384 * i22) kr30 hn21 k_ek n_ek (by omega) (by omega)) (va_cwS 4 hts (wg_app (wg_c kw_1685 (wg_c kw_1686 (wg_c kw_11 wg_n))) kw_1687) rfl rfl rfl (by decide +kernel) ⟨by decide, by decide⟩) (pp_S (en_ok g) hP hD hS hA hEn [] rfl rfl) rfl rfl hl.1 rfl (lv_room (Nat.le_of_ble_eq_true rfl)) dME_keys_231 ⟨by omega, by omega⟩) (fun  u31 H locs hu31 hP hD hS => ?_)
              obtain ⟨s37, pl⟩ := u31
              obtain ⟨⟨eq31, hFc31, -⟩, hO⟩ := hu31
              have hO : okn g T s37 pl := hO
              have hP : va_P g.1 vcl ([] ++ pl) _ := hP
              have hD : va_D _ ([] ++ pl) := hD
              have hFc31 : frm (M_ME_write_12 pek) s36 s37 := hFc31
              replace hR := bnd_step hR eq31
              replace hE := bndP_step hE eq31
              have hF := frm_tr hF hFc31 (fun k hk => by unfold M_ME_write_12 at hk; unfold M_ME_keys_0; omega)
              refine W.widen (k := 0) (n := 0) (by omega) (by omega) ?_
              refine lv_aload_n hx hb dME_keys_234 rfl (lv_at hl 3 rfl) ?_
              refine nw_get (C := "LatticeKeysModel$Secrets") (TT := T_ME) (N := 14) hx hb hts (wg_ft i_ME) hown hK hO k_h0 (kn := 184) (ci := 11) (fl := [(3, 172), (3, 178), (3, 185), (3, 202), (3, 207), (3, 212), (3, 217), (3, 218), (3, 219), (3, 220), (3, 221), (3, 222), (3, 223), (3, 224)]) rfl hP rfl 3 (by decide) (hts _ (wg_t kw_1382)) (fun _ h9 => h9) (cd := (3, 202)) rfl dME_keys_235 (fun v30 hv30 => ?_)
              obtain ⟨r34, rfl, kr31⟩ := (show ∃ r : Nat, v30 = .ref r ∧ T r = some 202 from hv30)
              refine lv_iload hx hb dME_keys_238 (lv_at hl 1 rfl) ?_
              refine nw_aald3 hx hb hK hO kr31 (k := 202) (b := 203) rfl hP (by omega) (by omega) dME_keys_240 (fun r35 kr32 => ?_)
              have hn22 : nsp (203 + i22) = (0, 256, []) := rows_ok 203 4 (by decide) _ (by omega)
              refine lv_aload hx hb dME_keys_241 (lv_at hl 7 rfl) ?_
              refine lv_sipush (v := nI 384) hx hb dME_keys_243 (by decide) ?_
              refine lv_iload hx hb dME_keys_246 (lv_at hl 1 rfl) ?_
              refine mi_imul hx hb dME_keys_248 ?_
              refine lv_bipush (v := nI 12) hx hb dME_keys_249 (by decide) ?_
              refine mp_v (cx := []) (wr := []) hP hD hS hA [] [] rfl rfl rfl (by decide) (va_runS (As := [.ref r35, .ref dk, .int (nI (384 * i22)), .int (nI 12)]) (rest := []) F (N_ME_write_12 l g _ T s37 pl hO hU r35 dk (203 + i22) pdk 4896 (384 * i22) kr32 hn22 k_dk n_dk (by omega) (by omega)) (va_cwS 4 hts (wg_app (wg_c kw_1685 (wg_c kw_1686 (wg_c kw_11 wg_n))) kw_1687) rfl rfl rfl (by decide +kernel) ⟨by decide, by decide⟩) (pp_S (en_ok g) hP hD hS hA hEn [] rfl rfl) rfl rfl hl.1 rfl (lv_room (Nat.le_of_ble_eq_true rfl)) dME_keys_251 ⟨by omega, by omega⟩) (fun  u32 H locs hu32 hP hD hS => ?_)
              obtain ⟨s38, pl⟩ := u32
              obtain ⟨⟨eq32, hFc32, -⟩, hO⟩ := hu32
              have hO : okn g T s38 pl := hO
              have hP : va_P g.1 vcl ([] ++ pl) _ := hP
              have hD : va_D _ ([] ++ pl) := hD
              have hFc32 : frm (M_ME_write_12 pdk) s37 s38 := hFc32
              replace hR := bnd_step hR eq32
              replace hE := bndP_step hE eq32
              have hF := frm_tr hF hFc32 (fun k hk => by unfold M_ME_write_12 at hk; unfold M_ME_keys_0; omega)
              refine W.widen (k := 0) (n := 0) (by omega) (by omega) ?_
              refine mi_iinc (k := 1) (x := i22) (d := 1) (y := i22 + 1) (lv' := [(6, .int (nI (i22 + 1))), (7, .int (nI i26)), (5, .int (nI 2)), (0, .ref h0), (1, .int (nI 0)), (2, .ref sd), (3, .ref ek), (4, .ref dk)]) hx hb dME_keys_254 hl rfl (by decide) rfl (by decide) rfl (fun ls hl => ?_)
              refine lv_goto (tgt := 162) hx hb dME_keys_257 (by decide) ?_
              exact ih22 (i22 + 1) s38 pl ls H locs (by omega) hF hE hR (lv_sub hl [0, 2, 3, 4, 5, 6, 7] rfl) hO hP hD hS
            | succ n26 ih26 =>
              intro i26 s36 pl ls H locs hm26 hF hE hR hl hO hP hD hS
              refine lv_iload hx hb dME_keys_172 (lv_at hl 0 rfl) ?_
              refine lv_iload hx hb dME_keys_174 (lv_at hl 2 rfl) ?_
              refine mi_ge (tgt := 215) hx hb dME_keys_176 (by decide) (by omega) (by omega) (fun h31 => absurd h31 (by omega)) (fun h31 => ?_)
              refine lv_aload_n hx hb dME_keys_179 rfl (lv_at hl 3 rfl) ?_
              refine lv_aload_n hx hb dME_keys_180 rfl (lv_at hl 3 rfl) ?_
              refine nw_get (C := "LatticeKeysModel$Secrets") (TT := T_ME) (N := 14) hx hb hts (wg_ft i_ME) hown hK hO k_h0 (kn := 184) (ci := 11) (fl := [(3, 172), (3, 178), (3, 185), (3, 202), (3, 207), (3, 212), (3, 217), (3, 218), (3, 219), (3, 220), (3, 221), (3, 222), (3, 223), (3, 224)]) rfl hP rfl 2 (by decide) (hts _ (wg_t kw_1381)) (fun _ h9 => h9) (cd := (3, 185)) rfl dME_keys_181 (fun v31 hv31 => ?_)
              obtain ⟨r36, rfl, kr33⟩ := (show ∃ r : Nat, v31 = .ref r ∧ T r = some 185 from hv31)
              refine lv_iconst (v := nI 4) hx hb dME_keys_184 (by decide) ?_
              refine lv_iload hx hb dME_keys_185 (lv_at hl 1 rfl) ?_
              refine mi_imul hx hb dME_keys_187 ?_
              refine lv_iload hx hb dME_keys_188 (lv_at hl 0 rfl) ?_
              refine mi_iadd hx hb dME_keys_190 ?_
              refine nw_aald3 hx hb hK hO kr33 (k := 185) (b := 186) rfl hP (by omega) (by omega) dME_keys_191 (fun r37 kr34 => ?_)
              have hn23 : nsp (186 + ((4 * i22) + i26)) = (0, 256, []) := rows_ok 186 16 (by decide) _ (by omega)
              refine lv_aload_n hx hb dME_keys_192 rfl (lv_at hl 3 rfl) ?_
              refine nw_get (C := "LatticeKeysModel$Secrets") (TT := T_ME) (N := 14) hx hb hts (wg_ft i_ME) hown hK hO k_h0 (kn := 184) (ci := 11) (fl := [(3, 172), (3, 178), (3, 185), (3, 202), (3, 207), (3, 212), (3, 217), (3, 218), (3, 219), (3, 220), (3, 221), (3, 222), (3, 223), (3, 224)]) rfl hP rfl 3 (by decide) (hts _ (wg_t kw_1382)) (fun _ h9 => h9) (cd := (3, 202)) rfl dME_keys_193 (fun v32 hv32 => ?_)
              obtain ⟨r38, rfl, kr35⟩ := (show ∃ r : Nat, v32 = .ref r ∧ T r = some 202 from hv32)
              refine lv_iload hx hb dME_keys_196 (lv_at hl 0 rfl) ?_
              refine nw_aald3 hx hb hK hO kr35 (k := 202) (b := 203) rfl hP (by omega) (by omega) dME_keys_198 (fun r39 kr36 => ?_)
              have hn24 : nsp (203 + i26) = (0, 256, []) := rows_ok 203 4 (by decide) _ (by omega)
              refine lv_aload_n hx hb dME_keys_199 rfl (lv_at hl 3 rfl) ?_
              refine nw_get (C := "LatticeKeysModel$Secrets") (TT := T_ME) (N := 14) hx hb hts (wg_ft i_ME) hown hK hO k_h0 (kn := 184) (ci := 11) (fl := [(3, 172), (3, 178), (3, 185), (3, 202), (3, 207), (3, 212), (3, 217), (3, 218), (3, 219), (3, 220), (3, 221), (3, 222), (3, 223), (3, 224)]) rfl hP rfl 4 (by decide) (hts _ (wg_t kw_1383)) (fun _ h9 => h9) (cd := (3, 207)) rfl dME_keys_200 (fun v33 hv33 => ?_)
              obtain ⟨r40, rfl, kr37⟩ := (show ∃ r : Nat, v33 = .ref r ∧ T r = some 207 from hv33)
              refine lv_iload hx hb dME_keys_203 (lv_at hl 1 rfl) ?_
              refine nw_aald3 hx hb hK hO kr37 (k := 207) (b := 208) rfl hP (by omega) (by omega) dME_keys_205 (fun r41 kr38 => ?_)
              have hn25 : nsp (208 + i22) = (0, 256, []) := rows_ok 208 4 (by decide) _ (by omega)
              refine mp_v (cx := []) (wr := []) hP hD hS hA [] [] rfl rfl rfl (by decide) (va_runV (As := [.ref r37, .ref r39, .ref r41]) (rest := []) F (N_ME_product l g _ T s36 pl hO hU h0 r37 r39 r41 (186 + ((4 * i22) + i26)) (203 + i26) (208 + i22) k_h0 kr34 hn23 kr36 hn24 kr38 hn25) (cwV 3 hts (wg_app (wg_c kw_1676 (wg_c kw_1678 (wg_c ks_58 (wg_c kw_11 wg_n)))) kw_1679) rfl rfl rfl (by decide +kernel) ⟨by decide, by decide⟩) (pn_W "LatticeKeysModel$Secrets" (en_ok g) (ci := 11) (kn := 184) (fl := [(3, 172), (3, 178), (3, 185), (3, 202), (3, 207), (3, 212), (3, 217), (3, 218), (3, 219), (3, 220), (3, 221), (3, 222), (3, 223), (3, 224)]) hK hO k_h0 rfl hP hD hS hA hEn [] rfl rfl rfl) rfl rfl hl.1 rfl (lv_room (Nat.le_of_ble_eq_true rfl)) dME_keys_206 ⟨by omega, by omega⟩) (fun  u33 H locs hu33 hP hD hS => ?_)
              obtain ⟨s39, pl⟩ := u33
              obtain ⟨⟨eq33, hFc33, -⟩, hO⟩ := hu33
              have hO : okn g T s39 pl := hO
              have hP : va_P g.1 vcl ([] ++ pl) _ := hP
              have hD : va_D _ ([] ++ pl) := hD
              have hFc33 : frm (M_ME_product (208 + i22)) s36 s39 := hFc33
              replace hR := bnd_step hR eq33
              replace hE := bndP_step hE eq33
              have hF := frm_tr hF hFc33 (fun k hk => by unfold M_ME_product at hk; unfold M_ME_keys_0; omega)
              refine W.widen (k := 0) (n := 0) (by omega) (by omega) ?_
              refine mi_iinc (k := 0) (x := i26) (d := 1) (y := i26 + 1) (lv' := [(7, .int (nI (i26 + 1))), (6, .int (nI i22)), (5, .int (nI 2)), (0, .ref h0), (1, .int (nI 0)), (2, .ref sd), (3, .ref ek), (4, .ref dk)]) hx hb dME_keys_209 hl rfl (by decide) rfl (by decide) rfl (fun ls hl => ?_)
              refine lv_goto (tgt := 172) hx hb dME_keys_212 (by decide) ?_
              exact ih26 (i26 + 1) s39 pl ls H locs (by omega) hF hE hR (lv_sub hl [0, 1, 2, 3, 4, 5, 6, 7] rfl) hO hP hD hS
          exact lp26 2 0 s28 pl ls _ _ (by omega) hF hE hR (lv_sub hl [0, 1, 2, 3, 4, 5, 6, 7] rfl) hO hP hD hS
      exact lp22 2 0 s27 pl ls _ _ (by omega) hF hE hR (lv_sub hl [0, 1, 2, 3, 4, 5, 6] rfl) hO hP hD hS
    | succ n21 ih21 =>
      intro i21 s27 pl ls H locs hm21 hF hE hR hl hO hP hD hS
      refine lv_iload hx hb dME_keys_73 (lv_at hl 0 rfl) ?_
      refine lv_iload hx hb dME_keys_75 (lv_at hl 1 rfl) ?_
      refine mi_ge (tgt := 159) hx hb dME_keys_77 (by decide) (by omega) (by omega) (fun h32 => absurd h32 (by omega)) (fun h32 => ?_)
      refine lv_aload_n hx hb dME_keys_80 rfl (lv_at hl 2 rfl) ?_
      refine lv_aload_n hx hb dME_keys_81 rfl (lv_at hl 2 rfl) ?_
      refine nw_get (C := "LatticeKeysModel$Secrets") (TT := T_ME) (N := 14) hx hb hts (wg_ft i_ME) hown hK hO k_h0 (kn := 184) (ci := 11) (fl := [(3, 172), (3, 178), (3, 185), (3, 202), (3, 207), (3, 212), (3, 217), (3, 218), (3, 219), (3, 220), (3, 221), (3, 222), (3, 223), (3, 224)]) rfl hP rfl 3 (by decide) (hts _ (wg_t kw_1382)) (fun _ h9 => h9) (cd := (3, 202)) rfl dME_keys_82 (fun v34 hv34 => ?_)
      obtain ⟨r42, rfl, kr39⟩ := (show ∃ r : Nat, v34 = .ref r ∧ T r = some 202 from hv34)
      refine lv_iload hx hb dME_keys_85 (lv_at hl 0 rfl) ?_
      refine nw_aald3 hx hb hK hO kr39 (k := 202) (b := 203) rfl hP (by omega) (by omega) dME_keys_87 (fun r43 kr40 => ?_)
      have hn26 : nsp (203 + i21) = (0, 256, []) := rows_ok 203 4 (by decide) _ (by omega)
      refine lv_aload_n hx hb dME_keys_88 rfl (lv_at hl 2 rfl) ?_
      refine nw_get (C := "LatticeKeysModel$Secrets") (TT := T_ME) (N := 14) hx hb hts (wg_ft i_ME) hown hK hO k_h0 (kn := 184) (ci := 11) (fl := [(3, 172), (3, 178), (3, 185), (3, 202), (3, 207), (3, 212), (3, 217), (3, 218), (3, 219), (3, 220), (3, 221), (3, 222), (3, 223), (3, 224)]) rfl hP rfl 9 (by decide) (hts _ (wg_t kw_1388)) (fun _ h9 => h9) (cd := (3, 220)) rfl dME_keys_89 (fun v35 hv35 => ?_)
      obtain ⟨r44, rfl, kr41⟩ := (show ∃ r : Nat, v35 = .ref r ∧ T r = some 220 from hv35)
      refine lv_bipush (v := nI 32) hx hb dME_keys_92 (by decide) ?_
      refine lv_iload hx hb dME_keys_94 (lv_at hl 0 rfl) ?_
      refine va_gets hx hb (hEn.2.1 20 _ rfl).1 hS hown (hts _ (wg_t kw_1654)) (fun _ h9 => h9) dME_keys_96 ?_
      refine lv_iload_n hx hb dME_keys_99 rfl (lv_at hl 3 rfl) ?_
      refine va_ti (v := .int (nI 3)) hx hb (hEn.2.1 20 _ rfl).2 hS (vp_in_nI (by decide) (by decide)) (by decide +kernel) dME_keys_100 ?_
      refine mp_v (cx := []) (wr := []) hP hD hS hA [] [] rfl rfl rfl (by decide) (va_runV (As := [.ref r43, .ref r44, .int (nI 32), .int (nI i21), .int (nI 3)]) (rest := []) F (N_ME_noise_3 l g _ T s27 pl hO hU h0 r43 r44 (203 + i21) 220 64 32 (nI i21) k_h0 kr40 hn26 kr41 rfl (by omega) (by omega)) (cwV 5 hts (wg_app (wg_c kw_1656 (wg_c kw_1658 (wg_c ks_56 (wg_c kw_11 wg_n)))) kw_1659) rfl rfl rfl (by decide +kernel) ⟨by decide, by decide⟩) (pn_W "LatticeKeysModel$Secrets" (en_ok g) (ci := 11) (kn := 184) (fl := [(3, 172), (3, 178), (3, 185), (3, 202), (3, 207), (3, 212), (3, 217), (3, 218), (3, 219), (3, 220), (3, 221), (3, 222), (3, 223), (3, 224)]) hK hO k_h0 rfl hP hD hS hA hEn [] rfl rfl rfl) rfl rfl hl.1 rfl (lv_room (Nat.le_of_ble_eq_true rfl)) dME_keys_101 ⟨by omega, by omega⟩) (fun  u34 H locs hu34 hP hD hS => ?_)
      obtain ⟨s40, pl⟩ := u34
      obtain ⟨⟨eq34, hFc34, -⟩, hO⟩ := hu34
      have hO : okn g T s40 pl := hO
      have hP : va_P g.1 vcl ([] ++ pl) _ := hP
      have hD : va_D _ ([] ++ pl) := hD
      have hFc34 : frm (M_ME_noise_3 (203 + i21)) s27 s40 := hFc34
      replace hR := bnd_step hR eq34
      replace hE := bndP_step hE eq34
      have hF := frm_tr hF hFc34 (fun k hk => by unfold M_ME_noise_3 at hk; unfold M_ME_keys_0; omega)
      refine W.widen (k := 0) (n := 0) (by omega) (by omega) ?_
      refine lv_aload_n hx hb dME_keys_104 rfl (lv_at hl 2 rfl) ?_
      refine lv_aload_n hx hb dME_keys_105 rfl (lv_at hl 2 rfl) ?_
      refine nw_get (C := "LatticeKeysModel$Secrets") (TT := T_ME) (N := 14) hx hb hts (wg_ft i_ME) hown hK hO k_h0 (kn := 184) (ci := 11) (fl := [(3, 172), (3, 178), (3, 185), (3, 202), (3, 207), (3, 212), (3, 217), (3, 218), (3, 219), (3, 220), (3, 221), (3, 222), (3, 223), (3, 224)]) rfl hP rfl 4 (by decide) (hts _ (wg_t kw_1383)) (fun _ h9 => h9) (cd := (3, 207)) rfl dME_keys_106 (fun v36 hv36 => ?_)
      obtain ⟨r45, rfl, kr42⟩ := (show ∃ r : Nat, v36 = .ref r ∧ T r = some 207 from hv36)
      refine lv_iload hx hb dME_keys_109 (lv_at hl 0 rfl) ?_
      refine nw_aald3 hx hb hK hO kr42 (k := 207) (b := 208) rfl hP (by omega) (by omega) dME_keys_111 (fun r46 kr43 => ?_)
      have hn27 : nsp (208 + i21) = (0, 256, []) := rows_ok 208 4 (by decide) _ (by omega)
      refine lv_aload_n hx hb dME_keys_112 rfl (lv_at hl 2 rfl) ?_
      refine nw_get (C := "LatticeKeysModel$Secrets") (TT := T_ME) (N := 14) hx hb hts (wg_ft i_ME) hown hK hO k_h0 (kn := 184) (ci := 11) (fl := [(3, 172), (3, 178), (3, 185), (3, 202), (3, 207), (3, 212), (3, 217), (3, 218), (3, 219), (3, 220), (3, 221), (3, 222), (3, 223), (3, 224)]) rfl hP rfl 9 (by decide) (hts _ (wg_t kw_1388)) (fun _ h9 => h9) (cd := (3, 220)) rfl dME_keys_113 (fun v37 hv37 => ?_)
      obtain ⟨r47, rfl, kr44⟩ := (show ∃ r : Nat, v37 = .ref r ∧ T r = some 220 from hv37)
      refine lv_bipush (v := nI 32) hx hb dME_keys_116 (by decide) ?_
      refine lv_iload hx hb dME_keys_118 (lv_at hl 1 rfl) ?_
      refine lv_iload hx hb dME_keys_120 (lv_at hl 0 rfl) ?_
      refine mi_iadd hx hb dME_keys_122 ?_
      refine va_gets hx hb (hEn.2.1 20 _ rfl).1 hS hown (hts _ (wg_t kw_1654)) (fun _ h9 => h9) dME_keys_123 ?_
      refine lv_iload_n hx hb dME_keys_126 rfl (lv_at hl 3 rfl) ?_
      refine va_ti (v := .int (nI 3)) hx hb (hEn.2.1 20 _ rfl).2 hS (vp_in_nI (by decide) (by decide)) (by decide +kernel) dME_keys_127 ?_
      refine mp_v (cx := []) (wr := []) hP hD hS hA [] [] rfl rfl rfl (by decide) (va_runV (As := [.ref r46, .ref r47, .int (nI 32), .int (nI (2 + i21)), .int (nI 3)]) (rest := []) F (N_ME_noise_3 l g _ T s40 pl hO hU h0 r46 r47 (208 + i21) 220 64 32 (nI (2 + i21)) k_h0 kr43 hn27 kr44 rfl (by omega) (by omega)) (cwV 5 hts (wg_app (wg_c kw_1656 (wg_c kw_1658 (wg_c ks_56 (wg_c kw_11 wg_n)))) kw_1659) rfl rfl rfl (by decide +kernel) ⟨by decide, by decide⟩) (pn_W "LatticeKeysModel$Secrets" (en_ok g) (ci := 11) (kn := 184) (fl := [(3, 172), (3, 178), (3, 185), (3, 202), (3, 207), (3, 212), (3, 217), (3, 218), (3, 219), (3, 220), (3, 221), (3, 222), (3, 223), (3, 224)]) hK hO k_h0 rfl hP hD hS hA hEn [] rfl rfl rfl) rfl rfl hl.1 rfl (lv_room (Nat.le_of_ble_eq_true rfl)) dME_keys_128 ⟨by omega, by omega⟩) (fun  u35 H locs hu35 hP hD hS => ?_)
      obtain ⟨s41, pl⟩ := u35
      obtain ⟨⟨eq35, hFc35, -⟩, hO⟩ := hu35
      have hO : okn g T s41 pl := hO
      have hP : va_P g.1 vcl ([] ++ pl) _ := hP
      have hD : va_D _ ([] ++ pl) := hD
      have hFc35 : frm (M_ME_noise_3 (208 + i21)) s40 s41 := hFc35
      replace hR := bnd_step hR eq35
      replace hE := bndP_step hE eq35
      have hF := frm_tr hF hFc35 (fun k hk => by unfold M_ME_noise_3 at hk; unfold M_ME_keys_0; omega)
      refine W.widen (k := 0) (n := 0) (by omega) (by omega) ?_
      refine lv_aload_n hx hb dME_keys_131 rfl (lv_at hl 2 rfl) ?_
      refine lv_aload_n hx hb dME_keys_132 rfl (lv_at hl 2 rfl) ?_
      refine nw_get (C := "LatticeKeysModel$Secrets") (TT := T_ME) (N := 14) hx hb hts (wg_ft i_ME) hown hK hO k_h0 (kn := 184) (ci := 11) (fl := [(3, 172), (3, 178), (3, 185), (3, 202), (3, 207), (3, 212), (3, 217), (3, 218), (3, 219), (3, 220), (3, 221), (3, 222), (3, 223), (3, 224)]) rfl hP rfl 3 (by decide) (hts _ (wg_t kw_1382)) (fun _ h9 => h9) (cd := (3, 202)) rfl dME_keys_133 (fun v38 hv38 => ?_)
      obtain ⟨r48, rfl, kr45⟩ := (show ∃ r : Nat, v38 = .ref r ∧ T r = some 202 from hv38)
      refine lv_iload hx hb dME_keys_136 (lv_at hl 0 rfl) ?_
      refine nw_aald3 hx hb hK hO kr45 (k := 202) (b := 203) rfl hP (by omega) (by omega) dME_keys_138 (fun r49 kr46 => ?_)
      have hn28 : nsp (203 + i21) = (0, 256, []) := rows_ok 203 4 (by decide) _ (by omega)
      refine mp_v (cx := []) (wr := []) hP hD hS hA [] [] rfl rfl rfl (by decide) (va_runV (As := [.ref r49]) (rest := []) F (N_ME_forth l g _ T s41 pl hO hU h0 r49 (203 + i21) k_h0 kr46 hn28) (cwV 1 hts (wg_app (wg_c kw_1668 (wg_c kw_1670 (wg_c ks_57 (wg_c kw_11 wg_n)))) kw_1671) rfl rfl rfl (by decide +kernel) ⟨by decide, by decide⟩) (pn_W "LatticeKeysModel$Secrets" (en_ok g) (ci := 11) (kn := 184) (fl := [(3, 172), (3, 178), (3, 185), (3, 202), (3, 207), (3, 212), (3, 217), (3, 218), (3, 219), (3, 220), (3, 221), (3, 222), (3, 223), (3, 224)]) hK hO k_h0 rfl hP hD hS hA hEn [] rfl rfl rfl) rfl rfl hl.1 rfl (lv_room (Nat.le_of_ble_eq_true rfl)) dME_keys_139 ⟨by omega, by omega⟩) (fun  u36 H locs hu36 hP hD hS => ?_)
      obtain ⟨s42, pl⟩ := u36
      obtain ⟨⟨eq36, hFc36, -⟩, hO⟩ := hu36
      have hO : okn g T s42 pl := hO
      have hP : va_P g.1 vcl ([] ++ pl) _ := hP
      have hD : va_D _ ([] ++ pl) := hD
      have hFc36 : frm (M_ME_forth (203 + i21)) s41 s42 := hFc36
      replace hR := bnd_step hR eq36
      replace hE := bndP_step hE eq36
      have hF := frm_tr hF hFc36 (fun k hk => by unfold M_ME_forth at hk; unfold M_ME_keys_0; omega)
      refine W.widen (k := 0) (n := 0) (by omega) (by omega) ?_
      refine lv_aload_n hx hb dME_keys_142 rfl (lv_at hl 2 rfl) ?_
      refine lv_aload_n hx hb dME_keys_143 rfl (lv_at hl 2 rfl) ?_
      refine nw_get (C := "LatticeKeysModel$Secrets") (TT := T_ME) (N := 14) hx hb hts (wg_ft i_ME) hown hK hO k_h0 (kn := 184) (ci := 11) (fl := [(3, 172), (3, 178), (3, 185), (3, 202), (3, 207), (3, 212), (3, 217), (3, 218), (3, 219), (3, 220), (3, 221), (3, 222), (3, 223), (3, 224)]) rfl hP rfl 4 (by decide) (hts _ (wg_t kw_1383)) (fun _ h9 => h9) (cd := (3, 207)) rfl dME_keys_144 (fun v39 hv39 => ?_)
      obtain ⟨r50, rfl, kr47⟩ := (show ∃ r : Nat, v39 = .ref r ∧ T r = some 207 from hv39)
      refine lv_iload hx hb dME_keys_147 (lv_at hl 0 rfl) ?_
      refine nw_aald3 hx hb hK hO kr47 (k := 207) (b := 208) rfl hP (by omega) (by omega) dME_keys_149 (fun r51 kr48 => ?_)
      have hn29 : nsp (208 + i21) = (0, 256, []) := rows_ok 208 4 (by decide) _ (by omega)
      refine mp_v (cx := []) (wr := []) hP hD hS hA [] [] rfl rfl rfl (by decide) (va_runV (As := [.ref r51]) (rest := []) F (N_ME_forth l g _ T s42 pl hO hU h0 r51 (208 + i21) k_h0 kr48 hn29) (cwV 1 hts (wg_app (wg_c kw_1668 (wg_c kw_1670 (wg_c ks_57 (wg_c kw_11 wg_n)))) kw_1671) rfl rfl rfl (by decide +kernel) ⟨by decide, by decide⟩) (pn_W "LatticeKeysModel$Secrets" (en_ok g) (ci := 11) (kn := 184) (fl := [(3, 172), (3, 178), (3, 185), (3, 202), (3, 207), (3, 212), (3, 217), (3, 218), (3, 219), (3, 220), (3, 221), (3, 222), (3, 223), (3, 224)]) hK hO k_h0 rfl hP hD hS hA hEn [] rfl rfl rfl) rfl rfl hl.1 rfl (lv_room (Nat.le_of_ble_eq_true rfl)) dME_keys_150 ⟨by omega, by omega⟩) (fun  u37 H locs hu37 hP hD hS => ?_)
      obtain ⟨s43, pl⟩ := u37
      obtain ⟨⟨eq37, hFc37, -⟩, hO⟩ := hu37
      have hO : okn g T s43 pl := hO
      have hP : va_P g.1 vcl ([] ++ pl) _ := hP
      have hD : va_D _ ([] ++ pl) := hD
      have hFc37 : frm (M_ME_forth (208 + i21)) s42 s43 := hFc37
      replace hR := bnd_step hR eq37
      replace hE := bndP_step hE eq37
      have hF := frm_tr hF hFc37 (fun k hk => by unfold M_ME_forth at hk; unfold M_ME_keys_0; omega)
      refine W.widen (k := 0) (n := 0) (by omega) (by omega) ?_
      refine mi_iinc (k := 0) (x := i21) (d := 1) (y := i21 + 1) (lv' := [(6, .int (nI (i21 + 1))), (5, .int (nI 2)), (0, .ref h0), (1, .int (nI 0)), (2, .ref sd), (3, .ref ek), (4, .ref dk)]) hx hb dME_keys_153 hl rfl (by decide) rfl (by decide) rfl (fun ls hl => ?_)
      refine lv_goto (tgt := 73) hx hb dME_keys_156 (by decide) ?_
      exact ih21 (i21 + 1) s43 pl ls H locs (by omega) hF hE hR (lv_sub hl [0, 1, 2, 3, 4, 5, 6] rfl) hO hP hD hS
  exact lp21 2 0 s26 pl ls _ _ (by omega) hF hE hR (lv_sub hl [0, 1, 2, 3, 4, 5, 6] rfl) hO hP hD hS
def M_ME_keys_1 (pek : Nat) (pdk : Nat) (k : Nat) : Prop := (186 ≤ k ∧ k < 202) ∨ (203 ≤ k ∧ k < 207) ∨ (208 ≤ k ∧ k < 212) ∨ k = 172 ∨ k = 219 ∨ k = 220 ∨ k = 221 ∨ k = pdk ∨ k = pek ∨ (0 : Nat) = 1
noncomputable def F_ME_keys_1_L5 (pek : Nat) (pdk : Nat) (i22 : Nat) (kk : Nat → Sto → Sto) : Nat → Nat → Sto → Sto
  | 0, i26, s36 => bnd (F_ME_write_12 (208 + i22) pek 2592 (384 * i22) s36) fun s37 => bnd (F_ME_write_12 (203 + i22) pdk 4896 (384 * i22) s37) fun s38 => kk (i22 + 1) s38
  | n26 + 1, i26, s36 => bnd (F_ME_product (186 + ((4 * i22) + i26)) (203 + i26) (208 + i22) s36) fun s39 => F_ME_keys_1_L5 pek pdk i22 kk n26 (i26 + 1) s39
noncomputable def E_ME_keys_1_L5 (pek : Nat) (pdk : Nat) (i22 : Nat) (ke : Nat → Sto → Prop) : Nat → Nat → Sto → Prop
  | 0, i26, s36 => bnd (F_ME_write_12 (208 + i22) pek 2592 (384 * i22) s36) fun s37 => bnd (F_ME_write_12 (203 + i22) pdk 4896 (384 * i22) s37) fun s38 => ke (i22 + 1) s38
  | n26 + 1, i26, s36 => bnd (F_ME_product (186 + ((4 * i22) + i26)) (203 + i26) (208 + i22) s36) fun s39 => E_ME_keys_1_L5 pek pdk i22 ke n26 (i26 + 1) s39
noncomputable def F_ME_keys_1_L4 (psd : Nat) (pdk : Nat) : Nat → Nat → Sto → Sto
  | 0, i25, s32 => s32
  | n25 + 1, i25, s32 => bnd (sB s32 pdk (2368 + i25) (s32.1 psd (32 + i25))) fun s33 => F_ME_keys_1_L4 psd pdk n25 (i25 + 1) s33
noncomputable def E_ME_keys_1_L4 (psd : Nat) (pdk : Nat) : Nat → Nat → Sto → Prop
  | 0, i25, s32 => True
  | n25 + 1, i25, s32 => bnd (sB s32 pdk (2368 + i25) (s32.1 psd (32 + i25))) fun s33 => E_ME_keys_1_L4 psd pdk n25 (i25 + 1) s33
noncomputable def F_ME_keys_1_L3 (psd : Nat) (pek : Nat) (pdk : Nat) : Nat → Nat → Sto → Sto
  | 0, i24, s30 => bnd (F_ME_openSize_1  s30) fun q21 => bnd (q21.1.toNatClampNeg) fun z21 => bnd (F_ME_openSize_1  q21.2) fun q22 => bnd (q22.1.toNatClampNeg) fun z22 => bnd (F_ME_hash pek 2592 0 1184 pdk 4896 2336 q22.2) fun s31 => F_ME_keys_1_L4 psd pdk 32 0 s31
  | n24 + 1, i24, s30 => bnd (F_ME_openSize_1  s30) fun q23 => bnd (q23.1.toNatClampNeg) fun z23 => bnd (sB q23.2 pdk (1152 + i24) (q23.2.1 pek i24)) fun s34 => F_ME_keys_1_L3 psd pek pdk n24 (i24 + 1) s34
noncomputable def E_ME_keys_1_L3 (psd : Nat) (pek : Nat) (pdk : Nat) : Nat → Nat → Sto → Prop
  | 0, i24, s30 => bnd (F_ME_openSize_1  s30) fun q21 => bnd (q21.1.toNatClampNeg) fun z21 => bnd (F_ME_openSize_1  q21.2) fun q22 => bnd (q22.1.toNatClampNeg) fun z22 => bnd (F_ME_hash pek 2592 0 1184 pdk 4896 2336 q22.2) fun s31 => E_ME_keys_1_L4 psd pdk 32 0 s31
  | n24 + 1, i24, s30 => bnd (F_ME_openSize_1  s30) fun q23 => bnd (q23.1.toNatClampNeg) fun z23 => bnd (sB q23.2 pdk (1152 + i24) (q23.2.1 pek i24)) fun s34 => E_ME_keys_1_L3 psd pek pdk n24 (i24 + 1) s34
noncomputable def F_ME_keys_1_L2 (psd : Nat) (pek : Nat) (pdk : Nat) : Nat → Nat → Sto → Sto
  | 0, i23, s29 => F_ME_keys_1_L3 psd pek pdk 1184 0 s29
  | n23 + 1, i23, s29 => bnd (sB s29 pek (1152 + i23) (s29.1 220 i23)) fun s35 => F_ME_keys_1_L2 psd pek pdk n23 (i23 + 1) s35
noncomputable def E_ME_keys_1_L2 (psd : Nat) (pek : Nat) (pdk : Nat) : Nat → Nat → Sto → Prop
  | 0, i23, s29 => E_ME_keys_1_L3 psd pek pdk 1184 0 s29
  | n23 + 1, i23, s29 => bnd (sB s29 pek (1152 + i23) (s29.1 220 i23)) fun s35 => E_ME_keys_1_L2 psd pek pdk n23 (i23 + 1) s35
noncomputable def F_ME_keys_1_L1 (psd : Nat) (pek : Nat) (pdk : Nat) : Nat → Nat → Sto → Sto
  | 0, i22, s28 => F_ME_keys_1_L2 psd pek pdk 32 0 s28
  | n22 + 1, i22, s28 => F_ME_keys_1_L5 pek pdk i22 (F_ME_keys_1_L1 psd pek pdk n22) 3 0 s28
noncomputable def E_ME_keys_1_L1 (psd : Nat) (pek : Nat) (pdk : Nat) : Nat → Nat → Sto → Prop
  | 0, i22, s28 => E_ME_keys_1_L2 psd pek pdk 32 0 s28
  | n22 + 1, i22, s28 => E_ME_keys_1_L5 pek pdk i22 (E_ME_keys_1_L1 psd pek pdk n22) 3 0 s28
noncomputable def F_ME_keys_1_L0 (psd : Nat) (pek : Nat) (pdk : Nat) : Nat → Nat → Sto → Sto
  | 0, i21, s27 => F_ME_keys_1_L1 psd pek pdk 3 0 s27
  | n21 + 1, i21, s27 => bnd (F_ME_noise_2 (203 + i21) 220 64 32 (nI i21) s27) fun s40 => bnd (F_ME_noise_2 (208 + i21) 220 64 32 (nI (3 + i21)) s40) fun s41 => bnd (F_ME_forth (203 + i21) s41) fun s42 => bnd (F_ME_forth (208 + i21) s42) fun s43 => F_ME_keys_1_L0 psd pek pdk n21 (i21 + 1) s43
noncomputable def E_ME_keys_1_L0 (psd : Nat) (pek : Nat) (pdk : Nat) : Nat → Nat → Sto → Prop
  | 0, i21, s27 => E_ME_keys_1_L1 psd pek pdk 3 0 s27
  | n21 + 1, i21, s27 => bnd (F_ME_noise_2 (203 + i21) 220 64 32 (nI i21) s27) fun s40 => bnd (F_ME_noise_2 (208 + i21) 220 64 32 (nI (3 + i21)) s40) fun s41 => bnd (F_ME_forth (203 + i21) s41) fun s42 => bnd (F_ME_forth (208 + i21) s42) fun s43 => E_ME_keys_1_L0 psd pek pdk n21 (i21 + 1) s43
noncomputable def F_ME_keys_1 (psd : Nat) (n : Nat) (pek : Nat) (pdk : Nat) (s : Sto) : Sto := bnd (F_MS_begin 72 (nI 6) s) fun s21 => bnd (F_MS_puts psd n 0 32 s21) fun s22 => bnd (F_MS_put (nI 3) s22) fun s23 => bnd (F_MS_end  s23) fun s24 => bnd (F_MS_take 220 64 0 64 s24) fun s25 => bnd (F_ME_expand_3 220 64 0 s25) fun s26 => F_ME_keys_1_L0 psd pek pdk 3 0 s26
noncomputable def E_ME_keys_1 (psd : Nat) (n : Nat) (pek : Nat) (pdk : Nat) (s : Sto) : Prop := bnd (F_MS_begin 72 (nI 6) s) fun s21 => bnd (F_MS_puts psd n 0 32 s21) fun s22 => bnd (F_MS_put (nI 3) s22) fun s23 => bnd (F_MS_end  s23) fun s24 => bnd (F_MS_take 220 64 0 64 s24) fun s25 => (E_ME_expand_3 220 64 0 s25) ∧ (bnd (F_ME_expand_3 220 64 0 s25) fun s26 => E_ME_keys_1_L0 psd pek pdk 3 0 s26)
set_option maxHeartbeats 8000000 in
set_option maxRecDepth 100000 in
theorem N_ME_keys_1 (l : Launch) (g : Gd) (sz : Nat) (T : TyN) (s : Sto) (pl : va_W) (hO : okn g T s pl) (hU : inj T) (h0 sd ek dk : Nat) (psd : Nat) (n : Nat) (pek : Nat) (pdk : Nat) (k_h0 : T h0 = some 184) (k_sd : T sd = some psd) (n_sd : nsp psd = (1, n, [])) (k_ek : T ek = some pek) (n_ek : nsp pek = (1, 2592, [])) (k_dk : T dk = some pdk) (n_dk : nsp pdk = (1, 4896, [])) (h1 : 64 ≤ n) (h2 : n < 65536) (hE : E_ME_keys_1 psd n pek pdk s)  : Met l y_ME_keys w_ME_keys ({ frames := 5, cells := 0, slots := 0, locals := 118 } : Room) (va_Pc [.ref h0, .int (nI 1), .ref sd, .ref ek, .ref dk] (pr (en g) g.1 vcl sz ([] ++ pl))) (va_Qv (fun (u : (Sto) × va_W) => (u.1 = F_ME_keys_1 psd n pek pdk s ∧ frm (M_ME_keys_1 pek pdk) s u.1 ∧ True) ∧ okn g T u.1 u.2) (po g.1 vcl (va_A ([] ++ pl) sz) (fun (u : (Sto) × va_W) => [] ++ u.2)) (va_A ([] ++ pl) sz)) 0 0 (va_A ([] ++ pl) sz) := by
  refine mc_entry (cc := c_ME_keys) (maxL := 8) (ret := none) (by decide) rfl (Nat.le_of_ble_eq_true rfl) ?_
  intro p e s0 m args below meth c ls F hr hlk hnm hsz hP hD hEn hA hl
  obtain ⟨hx, hb, hml, hown, hts⟩ := id F
  have hK := hEn.1
  generalize va_A ([] ++ pl) sz = A at hD hEn hA ⊢
  have hS : va_S A s0.heap s0.heap [] := va_S.rf
  have hl : lv_has ls 8 [(0, .ref h0), (1, .int (nI 1)), (2, .ref sd), (3, .ref ek), (4, .ref dk)] := hl
  have hR : F_ME_keys_1 psd n pek pdk s = F_ME_keys_1 psd n pek pdk s := rfl
  have hF : frm (M_ME_keys_1 pek pdk) s s := frm_rf
  refine va_gets hx hb (hEn.2.1 19 _ rfl).1 hS hown (hts _ (wg_t kw_1605)) (fun _ h9 => h9) dME_keys_0 ?_
  refine lv_iload_n hx hb dME_keys_3 rfl (lv_at hl 1 rfl) ?_
  refine va_ti (v := .int (nI 3)) hx hb (hEn.2.1 19 _ rfl).2 hS (vp_in_nI (by decide) (by decide)) (by decide +kernel) dME_keys_4 ?_
  refine lv_istore (lv' := [(5, .int (nI 3)), (0, .ref h0), (1, .int (nI 1)), (2, .ref sd), (3, .ref ek), (4, .ref dk)]) hx hb dME_keys_5 hl (by decide) rfl (fun ls hl => ?_)
  refine lv_aload_n hx hb dME_keys_7 rfl (lv_at hl 1 rfl) ?_
  refine nw_get (C := "LatticeKeysModel$Secrets") (TT := T_ME) (N := 14) hx hb hts (wg_ft i_ME) hown hK hO k_h0 (kn := 184) (ci := 11) (fl := [(3, 172), (3, 178), (3, 185), (3, 202), (3, 207), (3, 212), (3, 217), (3, 218), (3, 219), (3, 220), (3, 221), (3, 222), (3, 223), (3, 224)]) rfl hP rfl 0 (by decide) (hts _ (wg_t kw_1379)) (fun _ h9 => h9) (cd := (3, 172)) rfl dME_keys_8 (fun v21 hv21 => ?_)
  obtain ⟨r21, rfl, kr21⟩ := (show ∃ r : Nat, v21 = .ref r ∧ T r = some 172 from hv21)
  refine lv_bipush (v := nI 72) hx hb dME_keys_11 (by decide) ?_
  refine lv_bipush (v := nI 6) hx hb dME_keys_13 (by decide) ?_
  refine mp_v (cx := []) (wr := []) hP hD hS hA [] [] rfl rfl rfl (by decide) (va_runV (As := [.int (nI 72), .int (nI 6)]) (rest := []) F (N_MS_begin l g _ T s pl hO hU r21 72 (nI 6) kr21 (by omega)) (cwV 2 hts (wg_app (wg_c kw_1607 (wg_c kw_1608 (wg_c kw_1609 (wg_c kw_10 wg_n)))) kw_1610) rfl rfl rfl (by decide +kernel) ⟨by decide, by decide⟩) (pn_W "LatticeKeysModel$Sponge" (en_ok g) (ci := 9) (kn := 172) (fl := [(3, 173), (3, 174), (3, 175), (3, 176), (3, 177), (0, 0), (0, 0), (0, 0)]) hK hO kr21 rfl hP hD hS hA hEn [] rfl rfl rfl) rfl rfl hl.1 rfl (lv_room (Nat.le_of_ble_eq_true rfl)) dME_keys_15 ⟨by omega, by omega⟩) (fun  u21 H locs hu21 hP hD hS => ?_)
  obtain ⟨s21, pl⟩ := u21
  obtain ⟨⟨eq21, hFc21, ⟨x21, hx_21, hb_21⟩, ⟨x22, hx_22, hb_22⟩, -⟩, hO⟩ := hu21
  have hO : okn g T s21 pl := hO
  have hP : va_P g.1 vcl ([] ++ pl) _ := hP
  have hD : va_D _ ([] ++ pl) := hD
  have hFc21 : frm (M_MS_begin) s s21 := hFc21
  have hb_21 : x21 = 0 := hb_21
  have hb_22 : x22 = 72 := hb_22
  replace hR := bnd_step hR eq21
  replace hE := bndP_step hE eq21
  have hF := frm_tr hF hFc21 (fun k hk => by unfold M_MS_begin at hk; unfold M_ME_keys_1; omega)
  refine W.widen (k := 0) (n := 0) (by omega) (by omega) ?_
  refine lv_aload_n hx hb dME_keys_18 rfl (lv_at hl 1 rfl) ?_
  refine nw_get (C := "LatticeKeysModel$Secrets") (TT := T_ME) (N := 14) hx hb hts (wg_ft i_ME) hown hK hO k_h0 (kn := 184) (ci := 11) (fl := [(3, 172), (3, 178), (3, 185), (3, 202), (3, 207), (3, 212), (3, 217), (3, 218), (3, 219), (3, 220), (3, 221), (3, 222), (3, 223), (3, 224)]) rfl hP rfl 0 (by decide) (hts _ (wg_t kw_1379)) (fun _ h9 => h9) (cd := (3, 172)) rfl dME_keys_19 (fun v22 hv22 => ?_)
  obtain ⟨r22, rfl, kr22⟩ := (show ∃ r : Nat, v22 = .ref r ∧ T r = some 172 from hv22)
  refine lv_aload_n hx hb dME_keys_22 rfl (lv_at hl 3 rfl) ?_
  refine lv_iconst (v := nI 0) hx hb dME_keys_23 (by decide) ?_
  refine lv_bipush (v := nI 32) hx hb dME_keys_24 (by decide) ?_
  refine mp_v (cx := []) (wr := []) hP hD hS hA [] [] rfl rfl rfl (by decide) (va_runV (As := [.ref sd, .int (nI 0), .int (nI 32)]) (rest := []) F (N_MS_puts l g _ T s21 pl hO hU r22 sd psd n 0 32 x21 x22 kr22 k_sd n_sd hx_21 hx_22 (by omega) (by omega) (by omega) (by omega)) (cwV 3 hts (wg_app (wg_c kw_1611 (wg_c kw_1612 (wg_c kw_1613 (wg_c kw_10 wg_n)))) kw_1614) rfl rfl rfl (by decide +kernel) ⟨by decide, by decide⟩) (pn_W "LatticeKeysModel$Sponge" (en_ok g) (ci := 9) (kn := 172) (fl := [(3, 173), (3, 174), (3, 175), (3, 176), (3, 177), (0, 0), (0, 0), (0, 0)]) hK hO kr22 rfl hP hD hS hA hEn [] rfl rfl rfl) rfl rfl hl.1 rfl (lv_room (Nat.le_of_ble_eq_true rfl)) dME_keys_26 ⟨by omega, by omega⟩) (fun  u22 H locs hu22 hP hD hS => ?_)
  obtain ⟨s22, pl⟩ := u22
  obtain ⟨⟨eq22, hFc22, ⟨x24, hx_24, hb_24⟩, ⟨x25, hx_25, hb_25⟩, -⟩, hO⟩ := hu22
  have hO : okn g T s22 pl := hO
  have hP : va_P g.1 vcl ([] ++ pl) _ := hP
  have hD : va_D _ ([] ++ pl) := hD
  have hFc22 : frm (M_MS_puts) s21 s22 := hFc22
  have hb_24 : x24 < x22 := hb_24
  have hb_25 : x25 = x22 := hb_25
  replace hR := bnd_step hR eq22
  replace hE := bndP_step hE eq22
  have hF := frm_tr hF hFc22 (fun k hk => by unfold M_MS_puts at hk; unfold M_ME_keys_1; omega)
  refine W.widen (k := 0) (n := 0) (by omega) (by omega) ?_
  refine lv_aload_n hx hb dME_keys_29 rfl (lv_at hl 1 rfl) ?_
  refine nw_get (C := "LatticeKeysModel$Secrets") (TT := T_ME) (N := 14) hx hb hts (wg_ft i_ME) hown hK hO k_h0 (kn := 184) (ci := 11) (fl := [(3, 172), (3, 178), (3, 185), (3, 202), (3, 207), (3, 212), (3, 217), (3, 218), (3, 219), (3, 220), (3, 221), (3, 222), (3, 223), (3, 224)]) rfl hP rfl 0 (by decide) (hts _ (wg_t kw_1379)) (fun _ h9 => h9) (cd := (3, 172)) rfl dME_keys_30 (fun v23 hv23 => ?_)
  obtain ⟨r23, rfl, kr23⟩ := (show ∃ r : Nat, v23 = .ref r ∧ T r = some 172 from hv23)
  refine lv_iload hx hb dME_keys_33 (lv_at hl 0 rfl) ?_
  refine mp_v (cx := []) (wr := []) hP hD hS hA [] [] rfl rfl rfl (by decide) (va_runV (As := [.int (nI 3)]) (rest := []) F (N_MS_put l g _ T s22 pl hO hU r23 (nI 3) x24 x25 kr23 hx_24 hx_25 (by omega) (by omega)) (cwV 1 hts (wg_app (wg_c kw_1632 (wg_c kw_1616 (wg_c kw_1617 (wg_c kw_10 wg_n)))) kw_1618) rfl rfl rfl (by decide +kernel) ⟨by decide, by decide⟩) (pn_W "LatticeKeysModel$Sponge" (en_ok g) (ci := 9) (kn := 172) (fl := [(3, 173), (3, 174), (3, 175), (3, 176), (3, 177), (0, 0), (0, 0), (0, 0)]) hK hO kr23 rfl hP hD hS hA hEn [] rfl rfl rfl) rfl rfl hl.1 rfl (lv_room (Nat.le_of_ble_eq_true rfl)) dME_keys_35 ⟨by omega, by omega⟩) (fun  u23 H locs hu23 hP hD hS => ?_)
  obtain ⟨s23, pl⟩ := u23
  obtain ⟨⟨eq23, hFc23, ⟨x27, hx_27, hb_27⟩, ⟨x28, hx_28, hb_28⟩, -⟩, hO⟩ := hu23
  have hO : okn g T s23 pl := hO
  have hP : va_P g.1 vcl ([] ++ pl) _ := hP
  have hD : va_D _ ([] ++ pl) := hD
  have hFc23 : frm (M_MS_put) s22 s23 := hFc23
  have hb_27 : x27 < x25 := hb_27
  have hb_28 : x28 = x25 := hb_28
  replace hR := bnd_step hR eq23
  replace hE := bndP_step hE eq23
  have hF := frm_tr hF hFc23 (fun k hk => by unfold M_MS_put at hk; unfold M_ME_keys_1; omega)
  refine W.widen (k := 0) (n := 0) (by omega) (by omega) ?_
  refine lv_aload_n hx hb dME_keys_38 rfl (lv_at hl 1 rfl) ?_
  refine nw_get (C := "LatticeKeysModel$Secrets") (TT := T_ME) (N := 14) hx hb hts (wg_ft i_ME) hown hK hO k_h0 (kn := 184) (ci := 11) (fl := [(3, 172), (3, 178), (3, 185), (3, 202), (3, 207), (3, 212), (3, 217), (3, 218), (3, 219), (3, 220), (3, 221), (3, 222), (3, 223), (3, 224)]) rfl hP rfl 0 (by decide) (hts _ (wg_t kw_1379)) (fun _ h9 => h9) (cd := (3, 172)) rfl dME_keys_39 (fun v24 hv24 => ?_)
  obtain ⟨r24, rfl, kr24⟩ := (show ∃ r : Nat, v24 = .ref r ∧ T r = some 172 from hv24)
  refine mp_v (cx := []) (wr := []) hP hD hS hA [] [] rfl rfl rfl (by decide) (va_runV (As := []) (rest := []) F (N_MS_end l g _ T s23 pl hO hU r24 x27 x28 kr24 hx_27 hx_28 (by omega) (by omega)) (cwV 0 hts (wg_app (wg_c kw_1633 (wg_c kw_1634 (wg_c kw_1635 (wg_c kw_10 wg_n)))) kw_1636) rfl rfl rfl (by decide +kernel) ⟨by decide, by decide⟩) (pn_W "LatticeKeysModel$Sponge" (en_ok g) (ci := 9) (kn := 172) (fl := [(3, 173), (3, 174), (3, 175), (3, 176), (3, 177), (0, 0), (0, 0), (0, 0)]) hK hO kr24 rfl hP hD hS hA hEn [] rfl rfl rfl) rfl rfl hl.1 rfl (lv_room (Nat.le_of_ble_eq_true rfl)) dME_keys_42 ⟨by omega, by omega⟩) (fun  u24 H locs hu24 hP hD hS => ?_)
  obtain ⟨s24, pl⟩ := u24
  obtain ⟨⟨eq24, hFc24, ⟨x30, hx_30, hb_30⟩, ⟨x31, hx_31, hb_31⟩, -⟩, hO⟩ := hu24
  have hO : okn g T s24 pl := hO
  have hP : va_P g.1 vcl ([] ++ pl) _ := hP
  have hD : va_D _ ([] ++ pl) := hD
  have hFc24 : frm (M_MS_end) s23 s24 := hFc24
  have hb_30 : x30 = 0 := hb_30
  have hb_31 : x31 = x28 := hb_31
  replace hR := bnd_step hR eq24
  replace hE := bndP_step hE eq24
  have hF := frm_tr hF hFc24 (fun k hk => by unfold M_MS_end at hk; unfold M_ME_keys_1; omega)
  refine W.widen (k := 0) (n := 0) (by omega) (by omega) ?_
  refine lv_aload_n hx hb dME_keys_45 rfl (lv_at hl 1 rfl) ?_
  refine nw_get (C := "LatticeKeysModel$Secrets") (TT := T_ME) (N := 14) hx hb hts (wg_ft i_ME) hown hK hO k_h0 (kn := 184) (ci := 11) (fl := [(3, 172), (3, 178), (3, 185), (3, 202), (3, 207), (3, 212), (3, 217), (3, 218), (3, 219), (3, 220), (3, 221), (3, 222), (3, 223), (3, 224)]) rfl hP rfl 0 (by decide) (hts _ (wg_t kw_1379)) (fun _ h9 => h9) (cd := (3, 172)) rfl dME_keys_46 (fun v25 hv25 => ?_)
  obtain ⟨r25, rfl, kr25⟩ := (show ∃ r : Nat, v25 = .ref r ∧ T r = some 172 from hv25)
  refine lv_aload_n hx hb dME_keys_49 rfl (lv_at hl 1 rfl) ?_
  refine nw_get (C := "LatticeKeysModel$Secrets") (TT := T_ME) (N := 14) hx hb hts (wg_ft i_ME) hown hK hO k_h0 (kn := 184) (ci := 11) (fl := [(3, 172), (3, 178), (3, 185), (3, 202), (3, 207), (3, 212), (3, 217), (3, 218), (3, 219), (3, 220), (3, 221), (3, 222), (3, 223), (3, 224)]) rfl hP rfl 9 (by decide) (hts _ (wg_t kw_1388)) (fun _ h9 => h9) (cd := (3, 220)) rfl dME_keys_50 (fun v26 hv26 => ?_)
  obtain ⟨r26, rfl, kr26⟩ := (show ∃ r : Nat, v26 = .ref r ∧ T r = some 220 from hv26)
  refine lv_iconst (v := nI 0) hx hb dME_keys_53 (by decide) ?_
  refine lv_bipush (v := nI 64) hx hb dME_keys_54 (by decide) ?_
  refine mp_v (cx := []) (wr := []) hP hD hS hA [] [] rfl rfl rfl (by decide) (va_runV (As := [.ref r26, .int (nI 0), .int (nI 64)]) (rest := []) F (N_MS_take l g _ T s24 pl hO hU r25 r26 220 64 0 64 x30 x31 kr25 kr26 rfl hx_30 hx_31 (by omega) (by omega) (by omega) (by omega)) (cwV 3 hts (wg_app (wg_c kw_1637 (wg_c kw_1638 (wg_c kw_1639 (wg_c kw_10 wg_n)))) kw_1640) rfl rfl rfl (by decide +kernel) ⟨by decide, by decide⟩) (pn_W "LatticeKeysModel$Sponge" (en_ok g) (ci := 9) (kn := 172) (fl := [(3, 173), (3, 174), (3, 175), (3, 176), (3, 177), (0, 0), (0, 0), (0, 0)]) hK hO kr25 rfl hP hD hS hA hEn [] rfl rfl rfl) rfl rfl hl.1 rfl (lv_room (Nat.le_of_ble_eq_true rfl)) dME_keys_56 ⟨by omega, by omega⟩) (fun  u25 H locs hu25 hP hD hS => ?_)
  obtain ⟨s25, pl⟩ := u25
  obtain ⟨⟨eq25, hFc25, ⟨x33, hx_33, hb_33⟩, ⟨x34, hx_34, hb_34⟩, -⟩, hO⟩ := hu25
  have hO : okn g T s25 pl := hO
  have hP : va_P g.1 vcl ([] ++ pl) _ := hP
  have hD : va_D _ ([] ++ pl) := hD
  have hFc25 : frm (M_MS_take 220) s24 s25 := hFc25
  have hb_33 : x33 ≤ x31 := hb_33
  have hb_34 : x34 = x31 := hb_34
  replace hR := bnd_step hR eq25
  replace hE := bndP_step hE eq25
  have hF := frm_tr hF hFc25 (fun k hk => by unfold M_MS_take at hk; unfold M_ME_keys_1; omega)
  refine W.widen (k := 0) (n := 0) (by omega) (by omega) ?_
  refine lv_aload_n hx hb dME_keys_59 rfl (lv_at hl 1 rfl) ?_
  refine lv_aload_n hx hb dME_keys_60 rfl (lv_at hl 1 rfl) ?_
  refine nw_get (C := "LatticeKeysModel$Secrets") (TT := T_ME) (N := 14) hx hb hts (wg_ft i_ME) hown hK hO k_h0 (kn := 184) (ci := 11) (fl := [(3, 172), (3, 178), (3, 185), (3, 202), (3, 207), (3, 212), (3, 217), (3, 218), (3, 219), (3, 220), (3, 221), (3, 222), (3, 223), (3, 224)]) rfl hP rfl 9 (by decide) (hts _ (wg_t kw_1388)) (fun _ h9 => h9) (cd := (3, 220)) rfl dME_keys_61 (fun v27 hv27 => ?_)
  obtain ⟨r27, rfl, kr27⟩ := (show ∃ r : Nat, v27 = .ref r ∧ T r = some 220 from hv27)
  refine lv_iconst (v := nI 0) hx hb dME_keys_64 (by decide) ?_
  refine lv_iload hx hb dME_keys_65 (lv_at hl 0 rfl) ?_
  refine mp_v (cx := []) (wr := []) hP hD hS hA [] [] rfl rfl rfl (by decide) (va_runV (As := [.ref r27, .int (nI 0), .int (nI 3)]) (rest := []) F (N_ME_expand_3 l g _ T s25 pl hO hU h0 r27 220 64 0 k_h0 kr27 rfl (by omega) (by omega) hE.1) (cwV 3 hts (wg_app (wg_c kw_1645 (wg_c kw_1647 (wg_c ks_54 (wg_c kw_11 wg_n)))) kw_1648) rfl rfl rfl (by decide +kernel) ⟨by decide, by decide⟩) (pn_W "LatticeKeysModel$Secrets" (en_ok g) (ci := 11) (kn := 184) (fl := [(3, 172), (3, 178), (3, 185), (3, 202), (3, 207), (3, 212), (3, 217), (3, 218), (3, 219), (3, 220), (3, 221), (3, 222), (3, 223), (3, 224)]) hK hO k_h0 rfl hP hD hS hA hEn [] rfl rfl rfl) rfl rfl hl.1 rfl (lv_room (Nat.le_of_ble_eq_true rfl)) dME_keys_67 ⟨by omega, by omega⟩) (fun  u26 H locs hu26 hP hD hS => ?_)
  obtain ⟨s26, pl⟩ := u26
  obtain ⟨⟨eq26, hFc26, -⟩, hO⟩ := hu26
  have hO : okn g T s26 pl := hO
  have hP : va_P g.1 vcl ([] ++ pl) _ := hP
  have hD : va_D _ ([] ++ pl) := hD
  have hFc26 : frm (M_ME_expand_3) s25 s26 := hFc26
  replace hE := hE.2
  replace hR := bnd_step hR eq26
  replace hE := bndP_step hE eq26
  have hF := frm_tr hF hFc26 (fun k hk => by unfold M_ME_expand_3 at hk; unfold M_ME_keys_1; omega)
  refine W.widen (k := 0) (n := 0) (by omega) (by omega) ?_
  refine lv_iconst (v := nI 0) hx hb dME_keys_70 (by decide) ?_
  refine lv_istore (lv' := [(6, .int (nI 0)), (5, .int (nI 3)), (0, .ref h0), (1, .int (nI 1)), (2, .ref sd), (3, .ref ek), (4, .ref dk)]) hx hb dME_keys_71 hl (by decide) rfl (fun ls hl => ?_)
  have lp21 : ∀ (n21 : Nat) (i21 : Nat) (s27 : Sto) (pl : va_W) (ls : Array Slot) (H : Heap) (locs : List Loc), n21 + i21 = 3 → frm (M_ME_keys_1 pek pdk) s s27 → E_ME_keys_1_L0 psd pek pdk n21 i21 s27 → F_ME_keys_1 psd n pek pdk s = F_ME_keys_1_L0 psd pek pdk n21 i21 s27 → lv_has ls 8 [(6, .int (nI i21)), (5, .int (nI 3)), (0, .ref h0), (1, .int (nI 1)), (2, .ref sd), (3, .ref ek), (4, .ref dk)] → okn g T s27 pl → va_P g.1 vcl ([] ++ pl) H → va_D A ([] ++ pl) → va_S A s0.heap H locs → W p l e ({ frames := 5, cells := 0, slots := 0, locals := 118 } : Room) s0 m args below meth c H locs 0 0 (MQ below (va_Qv (fun (u : (Sto) × va_W) => (u.1 = F_ME_keys_1 psd n pek pdk s ∧ frm (M_ME_keys_1 pek pdk) s u.1 ∧ True) ∧ okn g T u.1 u.2) (po g.1 vcl A (fun (u : (Sto) × va_W) => [] ++ u.2)) A) args s0 0 0 A) (F0 m 73 ls []) := by
    intro n21
    induction n21 with
    | zero =>
      intro i21 s27 pl ls H locs hm21 hF hE hR hl hO hP hD hS
      refine lv_iload hx hb dME_keys_73 (lv_at hl 0 rfl) ?_
      refine lv_iload hx hb dME_keys_75 (lv_at hl 1 rfl) ?_
      refine mi_ge (tgt := 159) hx hb dME_keys_77 (by decide) (by omega) (by omega) (fun h21 => ?_) (fun h21 => absurd h21 (by omega))
      refine lv_iconst (v := nI 0) hx hb dME_keys_159 (by decide) ?_
      refine lv_istore (lv' := [(6, .int (nI 0)), (5, .int (nI 3)), (0, .ref h0), (1, .int (nI 1)), (2, .ref sd), (3, .ref ek), (4, .ref dk)]) hx hb dME_keys_160 hl (by decide) rfl (fun ls hl => ?_)
      have lp22 : ∀ (n22 : Nat) (i22 : Nat) (s28 : Sto) (pl : va_W) (ls : Array Slot) (H : Heap) (locs : List Loc), n22 + i22 = 3 → frm (M_ME_keys_1 pek pdk) s s28 → E_ME_keys_1_L1 psd pek pdk n22 i22 s28 → F_ME_keys_1 psd n pek pdk s = F_ME_keys_1_L1 psd pek pdk n22 i22 s28 → lv_has ls 8 [(6, .int (nI i22)), (5, .int (nI 3)), (0, .ref h0), (1, .int (nI 1)), (2, .ref sd), (3, .ref ek), (4, .ref dk)] → okn g T s28 pl → va_P g.1 vcl ([] ++ pl) H → va_D A ([] ++ pl) → va_S A s0.heap H locs → W p l e ({ frames := 5, cells := 0, slots := 0, locals := 118 } : Room) s0 m args below meth c H locs 0 0 (MQ below (va_Qv (fun (u : (Sto) × va_W) => (u.1 = F_ME_keys_1 psd n pek pdk s ∧ frm (M_ME_keys_1 pek pdk) s u.1 ∧ True) ∧ okn g T u.1 u.2) (po g.1 vcl A (fun (u : (Sto) × va_W) => [] ++ u.2)) A) args s0 0 0 A) (F0 m 162 ls []) := by
        intro n22
        induction n22 with
        | zero =>
          intro i22 s28 pl ls H locs hm22 hF hE hR hl hO hP hD hS
          refine lv_iload hx hb dME_keys_162 (lv_at hl 0 rfl) ?_
          refine lv_iload hx hb dME_keys_164 (lv_at hl 1 rfl) ?_
          refine mi_ge (tgt := 260) hx hb dME_keys_166 (by decide) (by omega) (by omega) (fun h22 => ?_) (fun h22 => absurd h22 (by omega))
          refine lv_iconst (v := nI 0) hx hb dME_keys_260 (by decide) ?_
          refine lv_istore (lv' := [(6, .int (nI 0)), (5, .int (nI 3)), (0, .ref h0), (1, .int (nI 1)), (2, .ref sd), (3, .ref ek), (4, .ref dk)]) hx hb dME_keys_261 hl (by decide) rfl (fun ls hl => ?_)
          have lp23 : ∀ (n23 : Nat) (i23 : Nat) (s29 : Sto) (pl : va_W) (ls : Array Slot) (H : Heap) (locs : List Loc), n23 + i23 = 32 → frm (M_ME_keys_1 pek pdk) s s29 → E_ME_keys_1_L2 psd pek pdk n23 i23 s29 → F_ME_keys_1 psd n pek pdk s = F_ME_keys_1_L2 psd pek pdk n23 i23 s29 → lv_has ls 8 [(6, .int (nI i23)), (5, .int (nI 3)), (0, .ref h0), (1, .int (nI 1)), (2, .ref sd), (3, .ref ek), (4, .ref dk)] → okn g T s29 pl → va_P g.1 vcl ([] ++ pl) H → va_D A ([] ++ pl) → va_S A s0.heap H locs → W p l e ({ frames := 5, cells := 0, slots := 0, locals := 118 } : Room) s0 m args below meth c H locs 0 0 (MQ below (va_Qv (fun (u : (Sto) × va_W) => (u.1 = F_ME_keys_1 psd n pek pdk s ∧ frm (M_ME_keys_1 pek pdk) s u.1 ∧ True) ∧ okn g T u.1 u.2) (po g.1 vcl A (fun (u : (Sto) × va_W) => [] ++ u.2)) A) args s0 0 0 A) (F0 m 263 ls []) := by
            intro n23
            induction n23 with
            | zero =>
              intro i23 s29 pl ls H locs hm23 hF hE hR hl hO hP hD hS
              refine lv_iload hx hb dME_keys_263 (lv_at hl 0 rfl) ?_
              refine lv_bipush (v := nI 32) hx hb dME_keys_265 (by decide) ?_
              refine mi_ge (tgt := 294) hx hb dME_keys_267 (by decide) (by omega) (by omega) (fun h23 => ?_) (fun h23 => absurd h23 (by omega))
              refine lv_iconst (v := nI 0) hx hb dME_keys_294 (by decide) ?_
              refine lv_istore (lv' := [(6, .int (nI 0)), (5, .int (nI 3)), (0, .ref h0), (1, .int (nI 1)), (2, .ref sd), (3, .ref ek), (4, .ref dk)]) hx hb dME_keys_295 hl (by decide) rfl (fun ls hl => ?_)
              have lp24 : ∀ (n24 : Nat) (i24 : Nat) (s30 : Sto) (pl : va_W) (ls : Array Slot) (H : Heap) (locs : List Loc), n24 + i24 = 1184 → frm (M_ME_keys_1 pek pdk) s s30 → E_ME_keys_1_L3 psd pek pdk n24 i24 s30 → F_ME_keys_1 psd n pek pdk s = F_ME_keys_1_L3 psd pek pdk n24 i24 s30 → lv_has ls 8 [(6, .int (nI i24)), (5, .int (nI 3)), (0, .ref h0), (1, .int (nI 1)), (2, .ref sd), (3, .ref ek), (4, .ref dk)] → okn g T s30 pl → va_P g.1 vcl ([] ++ pl) H → va_D A ([] ++ pl) → va_S A s0.heap H locs → W p l e ({ frames := 5, cells := 0, slots := 0, locals := 118 } : Room) s0 m args below meth c H locs 0 0 (MQ below (va_Qv (fun (u : (Sto) × va_W) => (u.1 = F_ME_keys_1 psd n pek pdk s ∧ frm (M_ME_keys_1 pek pdk) s u.1 ∧ True) ∧ okn g T u.1 u.2) (po g.1 vcl A (fun (u : (Sto) × va_W) => [] ++ u.2)) A) args s0 0 0 A) (F0 m 297 ls []) := by
                intro n24
                induction n24 with
                | zero =>
                  intro i24 s30 pl ls H locs hm24 hF hE hR hl hO hP hD hS
                  refine lv_iload hx hb dME_keys_297 (lv_at hl 0 rfl) ?_
                  refine lv_iload_n hx hb dME_keys_299 rfl (lv_at hl 3 rfl) ?_
                  refine mp_i (cx := []) (wr := []) hP hD hS hA [] [] rfl rfl rfl (by decide) (va_runS (As := [.int (nI 1)]) (rest := [.int (nI i24)]) F (N_ME_openSize_1 l g _ T s30 pl hO hU ) (va_cwS 1 hts (wg_app (wg_c kw_1691 (wg_c kw_1692 (wg_c kw_11 wg_n))) kw_1693) rfl rfl rfl (by decide +kernel) ⟨by decide, by decide⟩) (pp_S (en_ok g) hP hD hS hA hEn [] rfl rfl) rfl rfl hl.1 rfl (lv_room (Nat.le_of_ble_eq_true rfl)) dME_keys_300 ⟨by omega, by omega⟩) (fun r28 u27 H locs hu27 hP hD hS => ?_)
                  obtain ⟨q21, pl⟩ := u27
                  obtain ⟨⟨eq27, rfl, hFc27, ⟨x37, hx_37, hb_37⟩, hxp27, -⟩, hO⟩ := hu27
                  have hO : okn g T q21.2 pl := hO
                  have hP : va_P g.1 vcl ([] ++ pl) _ := hP
                  have hD : va_D _ ([] ++ pl) := hD
                  have hFc27 : frm (M_ME_openSize_1) s30 q21.2 := hFc27
                  have hb_37 : x37 < 1185 := hb_37
                  replace hR := bnd_step hR eq27
                  replace hE := bndP_step hE eq27
                  have hF := frm_tr hF hFc27 (fun k hk => by unfold M_ME_openSize_1 at hk; unfold M_ME_keys_1; omega)
                  obtain ⟨z21, ez21, hz21, hz22⟩ := cl_of (b := 2147483648) hx_37 (by omega) (by decide)
                  replace hR := bnd_step hR ez21
                  replace hE := bndP_step hE ez21
                  refine mi_as hz21 ?_
                  have hsz21 : z21 = 1184 := (nI_eq (by omega) (by omega)).mp (hz21.symm.trans hxp27)
                  subst hsz21
                  refine W.widen (k := 0) (n := 0) (by omega) (by omega) ?_
                  refine mi_ge (tgt := 328) hx hb dME_keys_303 (by decide) (by omega) (by omega) (fun h24 => ?_) (fun h24 => absurd h24 (by omega))
                  refine lv_aload_n hx hb dME_keys_328 rfl (lv_at hl 2 rfl) ?_
                  refine lv_aload_n hx hb dME_keys_329 rfl (lv_at hl 5 rfl) ?_
                  refine lv_iconst (v := nI 0) hx hb dME_keys_330 (by decide) ?_
                  refine lv_iload_n hx hb dME_keys_331 rfl (lv_at hl 3 rfl) ?_
                  refine mp_i (cx := []) (wr := []) hP hD hS hA [] [] rfl rfl rfl (by decide) (va_runS (As := [.int (nI 1)]) (rest := [.int (nI 0), .ref ek, .ref h0]) F (N_ME_openSize_1 l g _ T q21.2 pl hO hU ) (va_cwS 1 hts (wg_app (wg_c kw_1691 (wg_c kw_1692 (wg_c kw_11 wg_n))) kw_1693) rfl rfl rfl (by decide +kernel) ⟨by decide, by decide⟩) (pp_S (en_ok g) hP hD hS hA hEn [] rfl rfl) rfl rfl hl.1 rfl (lv_room (Nat.le_of_ble_eq_true rfl)) dME_keys_332 ⟨by omega, by omega⟩) (fun r29 u28 H locs hu28 hP hD hS => ?_)
                  obtain ⟨q22, pl⟩ := u28
                  obtain ⟨⟨eq28, rfl, hFc28, ⟨x38, hx_38, hb_38⟩, hxp28, -⟩, hO⟩ := hu28
                  have hO : okn g T q22.2 pl := hO
                  have hP : va_P g.1 vcl ([] ++ pl) _ := hP
                  have hD : va_D _ ([] ++ pl) := hD
                  have hFc28 : frm (M_ME_openSize_1) q21.2 q22.2 := hFc28
                  have hb_38 : x38 < 1185 := hb_38
                  replace hR := bnd_step hR eq28
                  replace hE := bndP_step hE eq28
                  have hF := frm_tr hF hFc28 (fun k hk => by unfold M_ME_openSize_1 at hk; unfold M_ME_keys_1; omega)
                  obtain ⟨z22, ez22, hz23, hz24⟩ := cl_of (b := 2147483648) hx_38 (by omega) (by decide)
                  replace hR := bnd_step hR ez22
                  replace hE := bndP_step hE ez22
                  refine mi_as hz23 ?_
                  have hsz22 : z22 = 1184 := (nI_eq (by omega) (by omega)).mp (hz23.symm.trans hxp28)
                  subst hsz22
                  refine W.widen (k := 0) (n := 0) (by omega) (by omega) ?_
                  refine lv_aload hx hb dME_keys_335 (lv_at hl 6 rfl) ?_
                  refine lv_sipush (v := nI 768) hx hb dME_keys_337 (by decide) ?_
                  refine lv_iload hx hb dME_keys_340 (lv_at hl 1 rfl) ?_
                  refine mi_imul hx hb dME_keys_342 ?_
                  refine mi_as (show nI (768 * 3) = nI 2304 from rfl) ?_
                  refine lv_bipush (v := nI 32) hx hb dME_keys_343 (by decide) ?_
                  refine mi_iadd hx hb dME_keys_345 ?_
                  refine mi_as (show nI (2304 + 32) = nI 2336 from rfl) ?_
                  refine mp_v (cx := []) (wr := []) hP hD hS hA [] [] rfl rfl rfl (by decide) (va_runV (As := [.ref ek, .int (nI 0), .int (nI 1184), .ref dk, .int (nI 2336)]) (rest := []) F (N_ME_hash l g _ T q22.2 pl hO hU h0 ek dk pek 2592 0 1184 pdk 4896 2336 k_h0 k_ek n_ek k_dk n_dk (by omega) (by omega) (by omega) (by omega)) (cwV 5 hts (wg_app (wg_c kw_1694 (wg_c kw_1696 (wg_c ks_59 (wg_c kw_11 wg_n)))) kw_1697) rfl rfl rfl (by decide +kernel) ⟨by decide, by decide⟩) (pn_W "LatticeKeysModel$Secrets" (en_ok g) (ci := 11) (kn := 184) (fl := [(3, 172), (3, 178), (3, 185), (3, 202), (3, 207), (3, 212), (3, 217), (3, 218), (3, 219), (3, 220), (3, 221), (3, 222), (3, 223), (3, 224)]) hK hO k_h0 rfl hP hD hS hA hEn [] rfl rfl rfl) rfl rfl hl.1 rfl (lv_room (Nat.le_of_ble_eq_true rfl)) dME_keys_346 ⟨by omega, by omega⟩) (fun  u29 H locs hu29 hP hD hS => ?_)
                  obtain ⟨s31, pl⟩ := u29
                  obtain ⟨⟨eq29, hFc29, -⟩, hO⟩ := hu29
                  have hO : okn g T s31 pl := hO
                  have hP : va_P g.1 vcl ([] ++ pl) _ := hP
                  have hD : va_D _ ([] ++ pl) := hD
                  have hFc29 : frm (M_ME_hash pdk) q22.2 s31 := hFc29
                  replace hR := bnd_step hR eq29
                  replace hE := bndP_step hE eq29
                  have hF := frm_tr hF hFc29 (fun k hk => by unfold M_ME_hash at hk; unfold M_ME_keys_1; omega)
                  refine W.widen (k := 0) (n := 0) (by omega) (by omega) ?_
                  refine lv_iconst (v := nI 0) hx hb dME_keys_349 (by decide) ?_
                  refine lv_istore (lv' := [(6, .int (nI 0)), (5, .int (nI 3)), (0, .ref h0), (1, .int (nI 1)), (2, .ref sd), (3, .ref ek), (4, .ref dk)]) hx hb dME_keys_350 hl (by decide) rfl (fun ls hl => ?_)
                  have lp25 : ∀ (n25 : Nat) (i25 : Nat) (s32 : Sto) (pl : va_W) (ls : Array Slot) (H : Heap) (locs : List Loc), n25 + i25 = 32 → frm (M_ME_keys_1 pek pdk) s s32 → E_ME_keys_1_L4 psd pdk n25 i25 s32 → F_ME_keys_1 psd n pek pdk s = F_ME_keys_1_L4 psd pdk n25 i25 s32 → lv_has ls 8 [(6, .int (nI i25)), (5, .int (nI 3)), (2, .ref sd), (4, .ref dk)] → okn g T s32 pl → va_P g.1 vcl ([] ++ pl) H → va_D A ([] ++ pl) → va_S A s0.heap H locs → W p l e ({ frames := 5, cells := 0, slots := 0, locals := 118 } : Room) s0 m args below meth c H locs 0 0 (MQ below (va_Qv (fun (u : (Sto) × va_W) => (u.1 = F_ME_keys_1 psd n pek pdk s ∧ frm (M_ME_keys_1 pek pdk) s u.1 ∧ True) ∧ okn g T u.1 u.2) (po g.1 vcl A (fun (u : (Sto) × va_W) => [] ++ u.2)) A) args s0 0 0 A) (F0 m 352 ls []) := by
                    intro n25
                    induction n25 with
                    | zero =>
                      intro i25 s32 pl ls H locs hm25 hF hE hR hl hO hP hD hS
                      refine lv_iload hx hb dME_keys_352 (lv_at hl 0 rfl) ?_
                      refine lv_bipush (v := nI 32) hx hb dME_keys_354 (by decide) ?_
                      refine mi_ge (tgt := 387) hx hb dME_keys_356 (by decide) (by omega) (by omega) (fun h25 => ?_) (fun h25 => absurd h25 (by omega))
                      exact mp_vret hx hb hr hlk hP hD hS (s32, pl) ⟨⟨hR.symm, hF, trivial⟩, hO⟩ [] rfl rfl rfl (by omega) (by omega) dME_keys_387
                    | succ n25 ih25 =>
                      intro i25 s32 pl ls H locs hm25 hF hE hR hl hO hP hD hS
                      refine lv_iload hx hb dME_keys_352 (lv_at hl 0 rfl) ?_
                      refine lv_bipush (v := nI 32) hx hb dME_keys_354 (by decide) ?_
                      refine mi_ge (tgt := 387) hx hb dME_keys_356 (by decide) (by omega) (by omega) (fun h26 => absurd h26 (by omega)) (fun h26 => ?_)
                      refine lv_aload hx hb dME_keys_359 (lv_at hl 3 rfl) ?_
                      refine lv_sipush (v := nI 768) hx hb dME_keys_361 (by decide) ?_
                      refine lv_iload hx hb dME_keys_364 (lv_at hl 1 rfl) ?_
                      refine mi_imul hx hb dME_keys_366 ?_
                      refine mi_as (show nI (768 * 3) = nI 2304 from rfl) ?_
                      refine lv_bipush (v := nI 64) hx hb dME_keys_367 (by decide) ?_
                      refine mi_iadd hx hb dME_keys_369 ?_
                      refine mi_as (show nI (2304 + 64) = nI 2368 from rfl) ?_
                      refine lv_iload hx hb dME_keys_370 (lv_at hl 0 rfl) ?_
                      refine mi_iadd hx hb dME_keys_372 ?_
                      refine lv_aload_n hx hb dME_keys_373 rfl (lv_at hl 2 rfl) ?_
                      refine lv_bipush (v := nI 32) hx hb dME_keys_374 (by decide) ?_
                      refine lv_iload hx hb dME_keys_376 (lv_at hl 0 rfl) ?_
                      refine mi_iadd hx hb dME_keys_378 ?_
                      refine nw_bald hx hb hK hO k_sd (k := psd) n_sd hP (by omega) (by omega) dME_keys_379 ?_
                      refine nw_bast hx hb hK hO hU k_dk (k := pdk) n_dk hP hD hS (by omega) (by omega) dME_keys_380 (fun s33 pl H locs es21 hO hP hD hS => ?_)
                      replace hR := bnd_step hR es21
                      replace hE := bndP_step hE es21
                      have hF := frm_sB hF es21 (by unfold M_ME_keys_1; omega)
                      refine mi_iinc (k := 0) (x := i25) (d := 1) (y := i25 + 1) (lv' := [(6, .int (nI (i25 + 1))), (5, .int (nI 3)), (2, .ref sd), (4, .ref dk)]) hx hb dME_keys_381 hl rfl (by decide) rfl (by decide) rfl (fun ls hl => ?_)
                      refine lv_goto (tgt := 352) hx hb dME_keys_384 (by decide) ?_
                      exact ih25 (i25 + 1) s33 pl ls H locs (by omega) hF hE hR (lv_sub hl [0, 1, 2, 3] rfl) hO hP hD hS
                  exact lp25 32 0 s31 pl ls _ _ (by omega) hF hE hR (lv_sub hl [0, 1, 4, 6] rfl) hO hP hD hS
                | succ n24 ih24 =>
                  intro i24 s30 pl ls H locs hm24 hF hE hR hl hO hP hD hS
                  refine lv_iload hx hb dME_keys_297 (lv_at hl 0 rfl) ?_
                  refine lv_iload_n hx hb dME_keys_299 rfl (lv_at hl 3 rfl) ?_
                  refine mp_i (cx := []) (wr := []) hP hD hS hA [] [] rfl rfl rfl (by decide) (va_runS (As := [.int (nI 1)]) (rest := [.int (nI i24)]) F (N_ME_openSize_1 l g _ T s30 pl hO hU ) (va_cwS 1 hts (wg_app (wg_c kw_1691 (wg_c kw_1692 (wg_c kw_11 wg_n))) kw_1693) rfl rfl rfl (by decide +kernel) ⟨by decide, by decide⟩) (pp_S (en_ok g) hP hD hS hA hEn [] rfl rfl) rfl rfl hl.1 rfl (lv_room (Nat.le_of_ble_eq_true rfl)) dME_keys_300 ⟨by omega, by omega⟩) (fun r30 u30 H locs hu30 hP hD hS => ?_)
                  obtain ⟨q23, pl⟩ := u30
                  obtain ⟨⟨eq30, rfl, hFc30, ⟨x40, hx_40, hb_40⟩, hxp30, -⟩, hO⟩ := hu30
                  have hO : okn g T q23.2 pl := hO
                  have hP : va_P g.1 vcl ([] ++ pl) _ := hP
                  have hD : va_D _ ([] ++ pl) := hD
                  have hFc30 : frm (M_ME_openSize_1) s30 q23.2 := hFc30
                  have hb_40 : x40 < 1185 := hb_40
                  replace hR := bnd_step hR eq30
                  replace hE := bndP_step hE eq30
                  have hF := frm_tr hF hFc30 (fun k hk => by unfold M_ME_openSize_1 at hk; unfold M_ME_keys_1; omega)
                  obtain ⟨z23, ez23, hz25, hz26⟩ := cl_of (b := 2147483648) hx_40 (by omega) (by decide)
                  replace hR := bnd_step hR ez23
                  replace hE := bndP_step hE ez23
                  refine mi_as hz25 ?_
                  have hsz23 : z23 = 1184 := (nI_eq (by omega) (by omega)).mp (hz25.symm.trans hxp30)
                  subst hsz23
                  refine W.widen (k := 0) (n := 0) (by omega) (by omega) ?_
                  refine mi_ge (tgt := 328) hx hb dME_keys_303 (by decide) (by omega) (by omega) (fun h27 => absurd h27 (by omega)) (fun h27 => ?_)
                  refine lv_aload hx hb dME_keys_306 (lv_at hl 6 rfl) ?_
                  refine lv_sipush (v := nI 384) hx hb dME_keys_308 (by decide) ?_
                  refine lv_iload hx hb dME_keys_311 (lv_at hl 1 rfl) ?_
                  refine mi_imul hx hb dME_keys_313 ?_
                  refine mi_as (show nI (384 * 3) = nI 1152 from rfl) ?_
                  refine lv_iload hx hb dME_keys_314 (lv_at hl 0 rfl) ?_
                  refine mi_iadd hx hb dME_keys_316 ?_
                  refine lv_aload_n hx hb dME_keys_317 rfl (lv_at hl 5 rfl) ?_
                  refine lv_iload hx hb dME_keys_318 (lv_at hl 0 rfl) ?_
                  refine nw_bald hx hb hK hO k_ek (k := pek) n_ek hP (by omega) (by omega) dME_keys_320 ?_
                  refine nw_bast hx hb hK hO hU k_dk (k := pdk) n_dk hP hD hS (by omega) (by omega) dME_keys_321 (fun s34 pl H locs es22 hO hP hD hS => ?_)
                  replace hR := bnd_step hR es22
                  replace hE := bndP_step hE es22
                  have hF := frm_sB hF es22 (by unfold M_ME_keys_1; omega)
                  refine mi_iinc (k := 0) (x := i24) (d := 1) (y := i24 + 1) (lv' := [(6, .int (nI (i24 + 1))), (5, .int (nI 3)), (0, .ref h0), (1, .int (nI 1)), (2, .ref sd), (3, .ref ek), (4, .ref dk)]) hx hb dME_keys_322 hl rfl (by decide) rfl (by decide) rfl (fun ls hl => ?_)
                  refine lv_goto (tgt := 297) hx hb dME_keys_325 (by decide) ?_
                  exact ih24 (i24 + 1) s34 pl ls H locs (by omega) hF hE hR (lv_sub hl [0, 1, 2, 3, 4, 5, 6] rfl) hO hP hD hS
              exact lp24 1184 0 s29 pl ls _ _ (by omega) hF hE hR (lv_sub hl [0, 1, 2, 3, 4, 5, 6] rfl) hO hP hD hS
            | succ n23 ih23 =>
              intro i23 s29 pl ls H locs hm23 hF hE hR hl hO hP hD hS
              refine lv_iload hx hb dME_keys_263 (lv_at hl 0 rfl) ?_
              refine lv_bipush (v := nI 32) hx hb dME_keys_265 (by decide) ?_
              refine mi_ge (tgt := 294) hx hb dME_keys_267 (by decide) (by omega) (by omega) (fun h28 => absurd h28 (by omega)) (fun h28 => ?_)
              refine lv_aload_n hx hb dME_keys_270 rfl (lv_at hl 5 rfl) ?_
              refine lv_sipush (v := nI 384) hx hb dME_keys_271 (by decide) ?_
              refine lv_iload hx hb dME_keys_274 (lv_at hl 1 rfl) ?_
              refine mi_imul hx hb dME_keys_276 ?_
              refine mi_as (show nI (384 * 3) = nI 1152 from rfl) ?_
              refine lv_iload hx hb dME_keys_277 (lv_at hl 0 rfl) ?_
              refine mi_iadd hx hb dME_keys_279 ?_
              refine lv_aload_n hx hb dME_keys_280 rfl (lv_at hl 2 rfl) ?_
              refine nw_get (C := "LatticeKeysModel$Secrets") (TT := T_ME) (N := 14) hx hb hts (wg_ft i_ME) hown hK hO k_h0 (kn := 184) (ci := 11) (fl := [(3, 172), (3, 178), (3, 185), (3, 202), (3, 207), (3, 212), (3, 217), (3, 218), (3, 219), (3, 220), (3, 221), (3, 222), (3, 223), (3, 224)]) rfl hP rfl 9 (by decide) (hts _ (wg_t kw_1388)) (fun _ h9 => h9) (cd := (3, 220)) rfl dME_keys_281 (fun v28 hv28 => ?_)
              obtain ⟨r31, rfl, kr28⟩ := (show ∃ r : Nat, v28 = .ref r ∧ T r = some 220 from hv28)
              refine lv_iload hx hb dME_keys_284 (lv_at hl 0 rfl) ?_
              refine nw_bald hx hb hK hO kr28 (k := 220) rfl hP (by omega) (by omega) dME_keys_286 ?_
              refine nw_bast hx hb hK hO hU k_ek (k := pek) n_ek hP hD hS (by omega) (by omega) dME_keys_287 (fun s35 pl H locs es23 hO hP hD hS => ?_)
              replace hR := bnd_step hR es23
              replace hE := bndP_step hE es23
              have hF := frm_sB hF es23 (by unfold M_ME_keys_1; omega)
              refine mi_iinc (k := 0) (x := i23) (d := 1) (y := i23 + 1) (lv' := [(6, .int (nI (i23 + 1))), (5, .int (nI 3)), (0, .ref h0), (1, .int (nI 1)), (2, .ref sd), (3, .ref ek), (4, .ref dk)]) hx hb dME_keys_288 hl rfl (by decide) rfl (by decide) rfl (fun ls hl => ?_)
              refine lv_goto (tgt := 263) hx hb dME_keys_291 (by decide) ?_
              exact ih23 (i23 + 1) s35 pl ls H locs (by omega) hF hE hR (lv_sub hl [0, 1, 2, 3, 4, 5, 6] rfl) hO hP hD hS
          exact lp23 32 0 s28 pl ls _ _ (by omega) hF hE hR (lv_sub hl [0, 1, 2, 3, 4, 5, 6] rfl) hO hP hD hS
        | succ n22 ih22 =>
          intro i22 s28 pl ls H locs hm22 hF hE hR hl hO hP hD hS
          refine lv_iload hx hb dME_keys_162 (lv_at hl 0 rfl) ?_
          refine lv_iload hx hb dME_keys_164 (lv_at hl 1 rfl) ?_
          refine mi_ge (tgt := 260) hx hb dME_keys_166 (by decide) (by omega) (by omega) (fun h29 => absurd h29 (by omega)) (fun h29 => ?_)
          refine lv_iconst (v := nI 0) hx hb dME_keys_169 (by decide) ?_
          refine lv_istore (lv' := [(7, .int (nI 0)), (6, .int (nI i22)), (5, .int (nI 3)), (0, .ref h0), (1, .int (nI 1)), (2, .ref sd), (3, .ref ek), (4, .ref dk)]) hx hb dME_keys_170 hl (by decide) rfl (fun ls hl => ?_)
          have lp26 : ∀ (n26 : Nat) (i26 : Nat) (s36 : Sto) (pl : va_W) (ls : Array Slot) (H : Heap) (locs : List Loc), n26 + i26 = 3 → frm (M_ME_keys_1 pek pdk) s s36 → E_ME_keys_1_L5 pek pdk i22 (E_ME_keys_1_L1 psd pek pdk n22) n26 i26 s36 → F_ME_keys_1 psd n pek pdk s = F_ME_keys_1_L5 pek pdk i22 (F_ME_keys_1_L1 psd pek pdk n22) n26 i26 s36 → lv_has ls 8 [(7, .int (nI i26)), (6, .int (nI i22)), (5, .int (nI 3)), (0, .ref h0), (1, .int (nI 1)), (2, .ref sd), (3, .ref ek), (4, .ref dk)] → okn g T s36 pl → va_P g.1 vcl ([] ++ pl) H → va_D A ([] ++ pl) → va_S A s0.heap H locs → W p l e ({ frames := 5, cells := 0, slots := 0, locals := 118 } : Room) s0 m args below meth c H locs 0 0 (MQ below (va_Qv (fun (u : (Sto) × va_W) => (u.1 = F_ME_keys_1 psd n pek pdk s ∧ frm (M_ME_keys_1 pek pdk) s u.1 ∧ True) ∧ okn g T u.1 u.2) (po g.1 vcl A (fun (u : (Sto) × va_W) => [] ++ u.2)) A) args s0 0 0 A) (F0 m 172 ls []) := by
            intro n26
            induction n26 with
            | zero =>
              intro i26 s36 pl ls H locs hm26 hF hE hR hl hO hP hD hS
              refine lv_iload hx hb dME_keys_172 (lv_at hl 0 rfl) ?_
              refine lv_iload hx hb dME_keys_174 (lv_at hl 2 rfl) ?_
              refine mi_ge (tgt := 215) hx hb dME_keys_176 (by decide) (by omega) (by omega) (fun h30 => ?_) (fun h30 => absurd h30 (by omega))
              refine lv_aload_n hx hb dME_keys_215 rfl (lv_at hl 3 rfl) ?_
              refine nw_get (C := "LatticeKeysModel$Secrets") (TT := T_ME) (N := 14) hx hb hts (wg_ft i_ME) hown hK hO k_h0 (kn := 184) (ci := 11) (fl := [(3, 172), (3, 178), (3, 185), (3, 202), (3, 207), (3, 212), (3, 217), (3, 218), (3, 219), (3, 220), (3, 221), (3, 222), (3, 223), (3, 224)]) rfl hP rfl 4 (by decide) (hts _ (wg_t kw_1383)) (fun _ h9 => h9) (cd := (3, 207)) rfl dME_keys_216 (fun v29 hv29 => ?_)
              obtain ⟨r32, rfl, kr29⟩ := (show ∃ r : Nat, v29 = .ref r ∧ T r = some 207 from hv29)
              refine lv_iload hx hb dME_keys_219 (lv_at hl 1 rfl) ?_
              refine nw_aald3 hx hb hK hO kr29 (k := 207) (b := 208) rfl hP (by omega) (by omega) dME_keys_221 (fun r33 kr30 => ?_)
              have hn21 : nsp (208 + i22) = (0, 256, []) := rows_ok 208 4 (by decide) _ (by omega)
              refine lv_aload_n hx hb dME_keys_222 rfl (lv_at hl 6 rfl) ?_
              refine lv_sipush (v := nI 384) hx hb dME_keys_223 (by decide) ?_
              refine lv_iload hx hb dME_keys_226 (lv_at hl 1 rfl) ?_
              refine mi_imul hx hb dME_keys_228 ?_
              refine lv_bipush (v := nI 12) hx hb dME_keys_229 (by decide) ?_
              refine mp_v (cx := []) (wr := []) hP hD hS hA [] [] rfl rfl rfl (by decide) (va_runS (As := [.ref r33, .ref ek, .int (nI (384 * i22)), .int (nI 12)]) (rest := []) F (N_ME_write_12 l g _ T s36 pl hO hU r33 ek (208 + i22) pek 2592 (384 * i22) kr30 hn21 k_ek n_ek (by omega) (by omega)) (va_cwS 4 hts (wg_app (wg_c kw_1685 (wg_c kw_1686 (wg_c kw_11 wg_n))) kw_1687) rfl rfl rfl (by decide +kernel) ⟨by decide, by decide⟩) (pp_S (en_ok g) hP hD hS hA hEn [] rfl rfl) rfl rfl hl.1 rfl (lv_room (Nat.le_of_ble_eq_true rfl)) dME_keys_231 ⟨by omega, by omega⟩) (fun  u31 H locs hu31 hP hD hS => ?_)
              obtain ⟨s37, pl⟩ := u31
              obtain ⟨⟨eq31, hFc31, -⟩, hO⟩ := hu31
              have hO : okn g T s37 pl := hO
              have hP : va_P g.1 vcl ([] ++ pl) _ := hP
              have hD : va_D _ ([] ++ pl) := hD
              have hFc31 : frm (M_ME_write_12 pek) s36 s37 := hFc31
              replace hR := bnd_step hR eq31
              replace hE := bndP_step hE eq31
              have hF := frm_tr hF hFc31 (fun k hk => by unfold M_ME_write_12 at hk; unfold M_ME_keys_1; omega)
              refine W.widen (k := 0) (n := 0) (by omega) (by omega) ?_
              refine lv_aload_n hx hb dME_keys_234 rfl (lv_at hl 3 rfl) ?_
              refine nw_get (C := "LatticeKeysModel$Secrets") (TT := T_ME) (N := 14) hx hb hts (wg_ft i_ME) hown hK hO k_h0 (kn := 184) (ci := 11) (fl := [(3, 172), (3, 178), (3, 185), (3, 202), (3, 207), (3, 212), (3, 217), (3, 218), (3, 219), (3, 220), (3, 221), (3, 222), (3, 223), (3, 224)]) rfl hP rfl 3 (by decide) (hts _ (wg_t kw_1382)) (fun _ h9 => h9) (cd := (3, 202)) rfl dME_keys_235 (fun v30 hv30 => ?_)
              obtain ⟨r34, rfl, kr31⟩ := (show ∃ r : Nat, v30 = .ref r ∧ T r = some 202 from hv30)
              refine lv_iload hx hb dME_keys_238 (lv_at hl 1 rfl) ?_
              refine nw_aald3 hx hb hK hO kr31 (k := 202) (b := 203) rfl hP (by omega) (by omega) dME_keys_240 (fun r35 kr32 => ?_)
              have hn22 : nsp (203 + i22) = (0, 256, []) := rows_ok 203 4 (by decide) _ (by omega)
              refine lv_aload hx hb dME_keys_241 (lv_at hl 7 rfl) ?_
              refine lv_sipush (v := nI 384) hx hb dME_keys_243 (by decide) ?_
              refine lv_iload hx hb dME_keys_246 (lv_at hl 1 rfl) ?_
              refine mi_imul hx hb dME_keys_248 ?_
              refine lv_bipush (v := nI 12) hx hb dME_keys_249 (by decide) ?_
              refine mp_v (cx := []) (wr := []) hP hD hS hA [] [] rfl rfl rfl (by decide) (va_runS (As := [.ref r35, .ref dk, .int (nI (384 * i22)), .int (nI 12)]) (rest := []) F (N_ME_write_12 l g _ T s37 pl hO hU r35 dk (203 + i22) pdk 4896 (384 * i22) kr32 hn22 k_dk n_dk (by omega) (by omega)) (va_cwS 4 hts (wg_app (wg_c kw_1685 (wg_c kw_1686 (wg_c kw_11 wg_n))) kw_1687) rfl rfl rfl (by decide +kernel) ⟨by decide, by decide⟩) (pp_S (en_ok g) hP hD hS hA hEn [] rfl rfl) rfl rfl hl.1 rfl (lv_room (Nat.le_of_ble_eq_true rfl)) dME_keys_251 ⟨by omega, by omega⟩) (fun  u32 H locs hu32 hP hD hS => ?_)
              obtain ⟨s38, pl⟩ := u32
              obtain ⟨⟨eq32, hFc32, -⟩, hO⟩ := hu32
              have hO : okn g T s38 pl := hO
              have hP : va_P g.1 vcl ([] ++ pl) _ := hP
              have hD : va_D _ ([] ++ pl) := hD
              have hFc32 : frm (M_ME_write_12 pdk) s37 s38 := hFc32
              replace hR := bnd_step hR eq32
              replace hE := bndP_step hE eq32
              have hF := frm_tr hF hFc32 (fun k hk => by unfold M_ME_write_12 at hk; unfold M_ME_keys_1; omega)
              refine W.widen (k := 0) (n := 0) (by omega) (by omega) ?_
              refine mi_iinc (k := 1) (x := i22) (d := 1) (y := i22 + 1) (lv' := [(6, .int (nI (i22 + 1))), (7, .int (nI i26)), (5, .int (nI 3)), (0, .ref h0), (1, .int (nI 1)), (2, .ref sd), (3, .ref ek), (4, .ref dk)]) hx hb dME_keys_254 hl rfl (by decide) rfl (by decide) rfl (fun ls hl => ?_)
              refine lv_goto (tgt := 162) hx hb dME_keys_257 (by decide) ?_
              exact ih22 (i22 + 1) s38 pl ls H locs (by omega) hF hE hR (lv_sub hl [0, 2, 3, 4, 5, 6, 7] rfl) hO hP hD hS
            | succ n26 ih26 =>
              intro i26 s36 pl ls H locs hm26 hF hE hR hl hO hP hD hS
              refine lv_iload hx hb dME_keys_172 (lv_at hl 0 rfl) ?_
              refine lv_iload hx hb dME_keys_174 (lv_at hl 2 rfl) ?_
              refine mi_ge (tgt := 215) hx hb dME_keys_176 (by decide) (by omega) (by omega) (fun h31 => absurd h31 (by omega)) (fun h31 => ?_)
              refine lv_aload_n hx hb dME_keys_179 rfl (lv_at hl 3 rfl) ?_
              refine lv_aload_n hx hb dME_keys_180 rfl (lv_at hl 3 rfl) ?_
              refine nw_get (C := "LatticeKeysModel$Secrets") (TT := T_ME) (N := 14) hx hb hts (wg_ft i_ME) hown hK hO k_h0 (kn := 184) (ci := 11) (fl := [(3, 172), (3, 178), (3, 185), (3, 202), (3, 207), (3, 212), (3, 217), (3, 218), (3, 219), (3, 220), (3, 221), (3, 222), (3, 223), (3, 224)]) rfl hP rfl 2 (by decide) (hts _ (wg_t kw_1381)) (fun _ h9 => h9) (cd := (3, 185)) rfl dME_keys_181 (fun v31 hv31 => ?_)
              obtain ⟨r36, rfl, kr33⟩ := (show ∃ r : Nat, v31 = .ref r ∧ T r = some 185 from hv31)
              refine lv_iconst (v := nI 4) hx hb dME_keys_184 (by decide) ?_
              refine lv_iload hx hb dME_keys_185 (lv_at hl 1 rfl) ?_
              refine mi_imul hx hb dME_keys_187 ?_
              refine lv_iload hx hb dME_keys_188 (lv_at hl 0 rfl) ?_
              refine mi_iadd hx hb dME_keys_190 ?_
              refine nw_aald3 hx hb hK hO kr33 (k := 185) (b := 186) rfl hP (by omega) (by omega) dME_keys_191 (fun r37 kr34 => ?_)
              have hn23 : nsp (186 + ((4 * i22) + i26)) = (0, 256, []) := rows_ok 186 16 (by decide) _ (by omega)
              refine lv_aload_n hx hb dME_keys_192 rfl (lv_at hl 3 rfl) ?_
              refine nw_get (C := "LatticeKeysModel$Secrets") (TT := T_ME) (N := 14) hx hb hts (wg_ft i_ME) hown hK hO k_h0 (kn := 184) (ci := 11) (fl := [(3, 172), (3, 178), (3, 185), (3, 202), (3, 207), (3, 212), (3, 217), (3, 218), (3, 219), (3, 220), (3, 221), (3, 222), (3, 223), (3, 224)]) rfl hP rfl 3 (by decide) (hts _ (wg_t kw_1382)) (fun _ h9 => h9) (cd := (3, 202)) rfl dME_keys_193 (fun v32 hv32 => ?_)
              obtain ⟨r38, rfl, kr35⟩ := (show ∃ r : Nat, v32 = .ref r ∧ T r = some 202 from hv32)
              refine lv_iload hx hb dME_keys_196 (lv_at hl 0 rfl) ?_
              refine nw_aald3 hx hb hK hO kr35 (k := 202) (b := 203) rfl hP (by omega) (by omega) dME_keys_198 (fun r39 kr36 => ?_)
              have hn24 : nsp (203 + i26) = (0, 256, []) := rows_ok 203 4 (by decide) _ (by omega)
              refine lv_aload_n hx hb dME_keys_199 rfl (lv_at hl 3 rfl) ?_
              refine nw_get (C := "LatticeKeysModel$Secrets") (TT := T_ME) (N := 14) hx hb hts (wg_ft i_ME) hown hK hO k_h0 (kn := 184) (ci := 11) (fl := [(3, 172), (3, 178), (3, 185), (3, 202), (3, 207), (3, 212), (3, 217), (3, 218), (3, 219), (3, 220), (3, 221), (3, 222), (3, 223), (3, 224)]) rfl hP rfl 4 (by decide) (hts _ (wg_t kw_1383)) (fun _ h9 => h9) (cd := (3, 207)) rfl dME_keys_200 (fun v33 hv33 => ?_)
              obtain ⟨r40, rfl, kr37⟩ := (show ∃ r : Nat, v33 = .ref r ∧ T r = some 207 from hv33)
              refine lv_iload hx hb dME_keys_203 (lv_at hl 1 rfl) ?_
              refine nw_aald3 hx hb hK hO kr37 (k := 207) (b := 208) rfl hP (by omega) (by omega) dME_keys_205 (fun r41 kr38 => ?_)
              have hn25 : nsp (208 + i22) = (0, 256, []) := rows_ok 208 4 (by decide) _ (by omega)
              refine mp_v (cx := []) (wr := []) hP hD hS hA [] [] rfl rfl rfl (by decide) (va_runV (As := [.ref r37, .ref r39, .ref r41]) (rest := []) F (N_ME_product l g _ T s36 pl hO hU h0 r37 r39 r41 (186 + ((4 * i22) + i26)) (203 + i26) (208 + i22) k_h0 kr34 hn23 kr36 hn24 kr38 hn25) (cwV 3 hts (wg_app (wg_c kw_1676 (wg_c kw_1678 (wg_c ks_58 (wg_c kw_11 wg_n)))) kw_1679) rfl rfl rfl (by decide +kernel) ⟨by decide, by decide⟩) (pn_W "LatticeKeysModel$Secrets" (en_ok g) (ci := 11) (kn := 184) (fl := [(3, 172), (3, 178), (3, 185), (3, 202), (3, 207), (3, 212), (3, 217), (3, 218), (3, 219), (3, 220), (3, 221), (3, 222), (3, 223), (3, 224)]) hK hO k_h0 rfl hP hD hS hA hEn [] rfl rfl rfl) rfl rfl hl.1 rfl (lv_room (Nat.le_of_ble_eq_true rfl)) dME_keys_206 ⟨by omega, by omega⟩) (fun  u33 H locs hu33 hP hD hS => ?_)
              obtain ⟨s39, pl⟩ := u33
              obtain ⟨⟨eq33, hFc33, -⟩, hO⟩ := hu33
              have hO : okn g T s39 pl := hO
              have hP : va_P g.1 vcl ([] ++ pl) _ := hP
              have hD : va_D _ ([] ++ pl) := hD
              have hFc33 : frm (M_ME_product (208 + i22)) s36 s39 := hFc33
              replace hR := bnd_step hR eq33
              replace hE := bndP_step hE eq33
              have hF := frm_tr hF hFc33 (fun k hk => by unfold M_ME_product at hk; unfold M_ME_keys_1; omega)
              refine W.widen (k := 0) (n := 0) (by omega) (by omega) ?_
              refine mi_iinc (k := 0) (x := i26) (d := 1) (y := i26 + 1) (lv' := [(7, .int (nI (i26 + 1))), (6, .int (nI i22)), (5, .int (nI 3)), (0, .ref h0), (1, .int (nI 1)), (2, .ref sd), (3, .ref ek), (4, .ref dk)]) hx hb dME_keys_209 hl rfl (by decide) rfl (by decide) rfl (fun ls hl => ?_)
              refine lv_goto (tgt := 172) hx hb dME_keys_212 (by decide) ?_
              exact ih26 (i26 + 1) s39 pl ls H locs (by omega) hF hE hR (lv_sub hl [0, 1, 2, 3, 4, 5, 6, 7] rfl) hO hP hD hS
          exact lp26 3 0 s28 pl ls _ _ (by omega) hF hE hR (lv_sub hl [0, 1, 2, 3, 4, 5, 6, 7] rfl) hO hP hD hS
      exact lp22 3 0 s27 pl ls _ _ (by omega) hF hE hR (lv_sub hl [0, 1, 2, 3, 4, 5, 6] rfl) hO hP hD hS
    | succ n21 ih21 =>
      intro i21 s27 pl ls H locs hm21 hF hE hR hl hO hP hD hS
      refine lv_iload hx hb dME_keys_73 (lv_at hl 0 rfl) ?_
      refine lv_iload hx hb dME_keys_75 (lv_at hl 1 rfl) ?_
      refine mi_ge (tgt := 159) hx hb dME_keys_77 (by decide) (by omega) (by omega) (fun h32 => absurd h32 (by omega)) (fun h32 => ?_)
      refine lv_aload_n hx hb dME_keys_80 rfl (lv_at hl 2 rfl) ?_
      refine lv_aload_n hx hb dME_keys_81 rfl (lv_at hl 2 rfl) ?_
      refine nw_get (C := "LatticeKeysModel$Secrets") (TT := T_ME) (N := 14) hx hb hts (wg_ft i_ME) hown hK hO k_h0 (kn := 184) (ci := 11) (fl := [(3, 172), (3, 178), (3, 185), (3, 202), (3, 207), (3, 212), (3, 217), (3, 218), (3, 219), (3, 220), (3, 221), (3, 222), (3, 223), (3, 224)]) rfl hP rfl 3 (by decide) (hts _ (wg_t kw_1382)) (fun _ h9 => h9) (cd := (3, 202)) rfl dME_keys_82 (fun v34 hv34 => ?_)
      obtain ⟨r42, rfl, kr39⟩ := (show ∃ r : Nat, v34 = .ref r ∧ T r = some 202 from hv34)
      refine lv_iload hx hb dME_keys_85 (lv_at hl 0 rfl) ?_
      refine nw_aald3 hx hb hK hO kr39 (k := 202) (b := 203) rfl hP (by omega) (by omega) dME_keys_87 (fun r43 kr40 => ?_)
      have hn26 : nsp (203 + i21) = (0, 256, []) := rows_ok 203 4 (by decide) _ (by omega)
      refine lv_aload_n hx hb dME_keys_88 rfl (lv_at hl 2 rfl) ?_
      refine nw_get (C := "LatticeKeysModel$Secrets") (TT := T_ME) (N := 14) hx hb hts (wg_ft i_ME) hown hK hO k_h0 (kn := 184) (ci := 11) (fl := [(3, 172), (3, 178), (3, 185), (3, 202), (3, 207), (3, 212), (3, 217), (3, 218), (3, 219), (3, 220), (3, 221), (3, 222), (3, 223), (3, 224)]) rfl hP rfl 9 (by decide) (hts _ (wg_t kw_1388)) (fun _ h9 => h9) (cd := (3, 220)) rfl dME_keys_89 (fun v35 hv35 => ?_)
      obtain ⟨r44, rfl, kr41⟩ := (show ∃ r : Nat, v35 = .ref r ∧ T r = some 220 from hv35)
      refine lv_bipush (v := nI 32) hx hb dME_keys_92 (by decide) ?_
      refine lv_iload hx hb dME_keys_94 (lv_at hl 0 rfl) ?_
      refine va_gets hx hb (hEn.2.1 20 _ rfl).1 hS hown (hts _ (wg_t kw_1654)) (fun _ h9 => h9) dME_keys_96 ?_
      refine lv_iload_n hx hb dME_keys_99 rfl (lv_at hl 3 rfl) ?_
      refine va_ti (v := .int (nI 2)) hx hb (hEn.2.1 20 _ rfl).2 hS (vp_in_nI (by decide) (by decide)) (by decide +kernel) dME_keys_100 ?_
      refine mp_v (cx := []) (wr := []) hP hD hS hA [] [] rfl rfl rfl (by decide) (va_runV (As := [.ref r43, .ref r44, .int (nI 32), .int (nI i21), .int (nI 2)]) (rest := []) F (N_ME_noise_2 l g _ T s27 pl hO hU h0 r43 r44 (203 + i21) 220 64 32 (nI i21) k_h0 kr40 hn26 kr41 rfl (by omega) (by omega)) (cwV 5 hts (wg_app (wg_c kw_1656 (wg_c kw_1658 (wg_c ks_56 (wg_c kw_11 wg_n)))) kw_1659) rfl rfl rfl (by decide +kernel) ⟨by decide, by decide⟩) (pn_W "LatticeKeysModel$Secrets" (en_ok g) (ci := 11) (kn := 184) (fl := [(3, 172), (3, 178), (3, 185), (3, 202), (3, 207), (3, 212), (3, 217), (3, 218), (3, 219), (3, 220), (3, 221), (3, 222), (3, 223), (3, 224)]) hK hO k_h0 rfl hP hD hS hA hEn [] rfl rfl rfl) rfl rfl hl.1 rfl (lv_room (Nat.le_of_ble_eq_true rfl)) dME_keys_101 ⟨by omega, by omega⟩) (fun  u34 H locs hu34 hP hD hS => ?_)
      obtain ⟨s40, pl⟩ := u34
      obtain ⟨⟨eq34, hFc34, -⟩, hO⟩ := hu34
      have hO : okn g T s40 pl := hO
      have hP : va_P g.1 vcl ([] ++ pl) _ := hP
      have hD : va_D _ ([] ++ pl) := hD
      have hFc34 : frm (M_ME_noise_2 (203 + i21)) s27 s40 := hFc34
      replace hR := bnd_step hR eq34
      replace hE := bndP_step hE eq34
      have hF := frm_tr hF hFc34 (fun k hk => by unfold M_ME_noise_2 at hk; unfold M_ME_keys_1; omega)
      refine W.widen (k := 0) (n := 0) (by omega) (by omega) ?_
      refine lv_aload_n hx hb dME_keys_104 rfl (lv_at hl 2 rfl) ?_
      refine lv_aload_n hx hb dME_keys_105 rfl (lv_at hl 2 rfl) ?_
      refine nw_get (C := "LatticeKeysModel$Secrets") (TT := T_ME) (N := 14) hx hb hts (wg_ft i_ME) hown hK hO k_h0 (kn := 184) (ci := 11) (fl := [(3, 172), (3, 178), (3, 185), (3, 202), (3, 207), (3, 212), (3, 217), (3, 218), (3, 219), (3, 220), (3, 221), (3, 222), (3, 223), (3, 224)]) rfl hP rfl 4 (by decide) (hts _ (wg_t kw_1383)) (fun _ h9 => h9) (cd := (3, 207)) rfl dME_keys_106 (fun v36 hv36 => ?_)
      obtain ⟨r45, rfl, kr42⟩ := (show ∃ r : Nat, v36 = .ref r ∧ T r = some 207 from hv36)
      refine lv_iload hx hb dME_keys_109 (lv_at hl 0 rfl) ?_
      refine nw_aald3 hx hb hK hO kr42 (k := 207) (b := 208) rfl hP (by omega) (by omega) dME_keys_111 (fun r46 kr43 => ?_)
      have hn27 : nsp (208 + i21) = (0, 256, []) := rows_ok 208 4 (by decide) _ (by omega)
      refine lv_aload_n hx hb dME_keys_112 rfl (lv_at hl 2 rfl) ?_
      refine nw_get (C := "LatticeKeysModel$Secrets") (TT := T_ME) (N := 14) hx hb hts (wg_ft i_ME) hown hK hO k_h0 (kn := 184) (ci := 11) (fl := [(3, 172), (3, 178), (3, 185), (3, 202), (3, 207), (3, 212), (3, 217), (3, 218), (3, 219), (3, 220), (3, 221), (3, 222), (3, 223), (3, 224)]) rfl hP rfl 9 (by decide) (hts _ (wg_t kw_1388)) (fun _ h9 => h9) (cd := (3, 220)) rfl dME_keys_113 (fun v37 hv37 => ?_)
      obtain ⟨r47, rfl, kr44⟩ := (show ∃ r : Nat, v37 = .ref r ∧ T r = some 220 from hv37)
      refine lv_bipush (v := nI 32) hx hb dME_keys_116 (by decide) ?_
      refine lv_iload hx hb dME_keys_118 (lv_at hl 1 rfl) ?_
      refine lv_iload hx hb dME_keys_120 (lv_at hl 0 rfl) ?_
      refine mi_iadd hx hb dME_keys_122 ?_
      refine va_gets hx hb (hEn.2.1 20 _ rfl).1 hS hown (hts _ (wg_t kw_1654)) (fun _ h9 => h9) dME_keys_123 ?_
      refine lv_iload_n hx hb dME_keys_126 rfl (lv_at hl 3 rfl) ?_
      refine va_ti (v := .int (nI 2)) hx hb (hEn.2.1 20 _ rfl).2 hS (vp_in_nI (by decide) (by decide)) (by decide +kernel) dME_keys_127 ?_
      refine mp_v (cx := []) (wr := []) hP hD hS hA [] [] rfl rfl rfl (by decide) (va_runV (As := [.ref r46, .ref r47, .int (nI 32), .int (nI (3 + i21)), .int (nI 2)]) (rest := []) F (N_ME_noise_2 l g _ T s40 pl hO hU h0 r46 r47 (208 + i21) 220 64 32 (nI (3 + i21)) k_h0 kr43 hn27 kr44 rfl (by omega) (by omega)) (cwV 5 hts (wg_app (wg_c kw_1656 (wg_c kw_1658 (wg_c ks_56 (wg_c kw_11 wg_n)))) kw_1659) rfl rfl rfl (by decide +kernel) ⟨by decide, by decide⟩) (pn_W "LatticeKeysModel$Secrets" (en_ok g) (ci := 11) (kn := 184) (fl := [(3, 172), (3, 178), (3, 185), (3, 202), (3, 207), (3, 212), (3, 217), (3, 218), (3, 219), (3, 220), (3, 221), (3, 222), (3, 223), (3, 224)]) hK hO k_h0 rfl hP hD hS hA hEn [] rfl rfl rfl) rfl rfl hl.1 rfl (lv_room (Nat.le_of_ble_eq_true rfl)) dME_keys_128 ⟨by omega, by omega⟩) (fun  u35 H locs hu35 hP hD hS => ?_)
      obtain ⟨s41, pl⟩ := u35
      obtain ⟨⟨eq35, hFc35, -⟩, hO⟩ := hu35
      have hO : okn g T s41 pl := hO
      have hP : va_P g.1 vcl ([] ++ pl) _ := hP
      have hD : va_D _ ([] ++ pl) := hD
      have hFc35 : frm (M_ME_noise_2 (208 + i21)) s40 s41 := hFc35
      replace hR := bnd_step hR eq35
      replace hE := bndP_step hE eq35
      have hF := frm_tr hF hFc35 (fun k hk => by unfold M_ME_noise_2 at hk; unfold M_ME_keys_1; omega)
      refine W.widen (k := 0) (n := 0) (by omega) (by omega) ?_
      refine lv_aload_n hx hb dME_keys_131 rfl (lv_at hl 2 rfl) ?_
      refine lv_aload_n hx hb dME_keys_132 rfl (lv_at hl 2 rfl) ?_
      refine nw_get (C := "LatticeKeysModel$Secrets") (TT := T_ME) (N := 14) hx hb hts (wg_ft i_ME) hown hK hO k_h0 (kn := 184) (ci := 11) (fl := [(3, 172), (3, 178), (3, 185), (3, 202), (3, 207), (3, 212), (3, 217), (3, 218), (3, 219), (3, 220), (3, 221), (3, 222), (3, 223), (3, 224)]) rfl hP rfl 3 (by decide) (hts _ (wg_t kw_1382)) (fun _ h9 => h9) (cd := (3, 202)) rfl dME_keys_133 (fun v38 hv38 => ?_)
      obtain ⟨r48, rfl, kr45⟩ := (show ∃ r : Nat, v38 = .ref r ∧ T r = some 202 from hv38)
      refine lv_iload hx hb dME_keys_136 (lv_at hl 0 rfl) ?_
      refine nw_aald3 hx hb hK hO kr45 (k := 202) (b := 203) rfl hP (by omega) (by omega) dME_keys_138 (fun r49 kr46 => ?_)
      have hn28 : nsp (203 + i21) = (0, 256, []) := rows_ok 203 4 (by decide) _ (by omega)
      refine mp_v (cx := []) (wr := []) hP hD hS hA [] [] rfl rfl rfl (by decide) (va_runV (As := [.ref r49]) (rest := []) F (N_ME_forth l g _ T s41 pl hO hU h0 r49 (203 + i21) k_h0 kr46 hn28) (cwV 1 hts (wg_app (wg_c kw_1668 (wg_c kw_1670 (wg_c ks_57 (wg_c kw_11 wg_n)))) kw_1671) rfl rfl rfl (by decide +kernel) ⟨by decide, by decide⟩) (pn_W "LatticeKeysModel$Secrets" (en_ok g) (ci := 11) (kn := 184) (fl := [(3, 172), (3, 178), (3, 185), (3, 202), (3, 207), (3, 212), (3, 217), (3, 218), (3, 219), (3, 220), (3, 221), (3, 222), (3, 223), (3, 224)]) hK hO k_h0 rfl hP hD hS hA hEn [] rfl rfl rfl) rfl rfl hl.1 rfl (lv_room (Nat.le_of_ble_eq_true rfl)) dME_keys_139 ⟨by omega, by omega⟩) (fun  u36 H locs hu36 hP hD hS => ?_)
      obtain ⟨s42, pl⟩ := u36
      obtain ⟨⟨eq36, hFc36, -⟩, hO⟩ := hu36
      have hO : okn g T s42 pl := hO
      have hP : va_P g.1 vcl ([] ++ pl) _ := hP
      have hD : va_D _ ([] ++ pl) := hD
      have hFc36 : frm (M_ME_forth (203 + i21)) s41 s42 := hFc36
      replace hR := bnd_step hR eq36
      replace hE := bndP_step hE eq36
      have hF := frm_tr hF hFc36 (fun k hk => by unfold M_ME_forth at hk; unfold M_ME_keys_1; omega)
      refine W.widen (k := 0) (n := 0) (by omega) (by omega) ?_
      refine lv_aload_n hx hb dME_keys_142 rfl (lv_at hl 2 rfl) ?_
      refine lv_aload_n hx hb dME_keys_143 rfl (lv_at hl 2 rfl) ?_
      refine nw_get (C := "LatticeKeysModel$Secrets") (TT := T_ME) (N := 14) hx hb hts (wg_ft i_ME) hown hK hO k_h0 (kn := 184) (ci := 11) (fl := [(3, 172), (3, 178), (3, 185), (3, 202), (3, 207), (3, 212), (3, 217), (3, 218), (3, 219), (3, 220), (3, 221), (3, 222), (3, 223), (3, 224)]) rfl hP rfl 4 (by decide) (hts _ (wg_t kw_1383)) (fun _ h9 => h9) (cd := (3, 207)) rfl dME_keys_144 (fun v39 hv39 => ?_)
      obtain ⟨r50, rfl, kr47⟩ := (show ∃ r : Nat, v39 = .ref r ∧ T r = some 207 from hv39)
      refine lv_iload hx hb dME_keys_147 (lv_at hl 0 rfl) ?_
      refine nw_aald3 hx hb hK hO kr47 (k := 207) (b := 208) rfl hP (by omega) (by omega) dME_keys_149 (fun r51 kr48 => ?_)
      have hn29 : nsp (208 + i21) = (0, 256, []) := rows_ok 208 4 (by decide) _ (by omega)
      refine mp_v (cx := []) (wr := []) hP hD hS hA [] [] rfl rfl rfl (by decide) (va_runV (As := [.ref r51]) (rest := []) F (N_ME_forth l g _ T s42 pl hO hU h0 r51 (208 + i21) k_h0 kr48 hn29) (cwV 1 hts (wg_app (wg_c kw_1668 (wg_c kw_1670 (wg_c ks_57 (wg_c kw_11 wg_n)))) kw_1671) rfl rfl rfl (by decide +kernel) ⟨by decide, by decide⟩) (pn_W "LatticeKeysModel$Secrets" (en_ok g) (ci := 11) (kn := 184) (fl := [(3, 172), (3, 178), (3, 185), (3, 202), (3, 207), (3, 212), (3, 217), (3, 218), (3, 219), (3, 220), (3, 221), (3, 222), (3, 223), (3, 224)]) hK hO k_h0 rfl hP hD hS hA hEn [] rfl rfl rfl) rfl rfl hl.1 rfl (lv_room (Nat.le_of_ble_eq_true rfl)) dME_keys_150 ⟨by omega, by omega⟩) (fun  u37 H locs hu37 hP hD hS => ?_)
      obtain ⟨s43, pl⟩ := u37
      obtain ⟨⟨eq37, hFc37, -⟩, hO⟩ := hu37
      have hO : okn g T s43 pl := hO
      have hP : va_P g.1 vcl ([] ++ pl) _ := hP
      have hD : va_D _ ([] ++ pl) := hD
      have hFc37 : frm (M_ME_forth (208 + i21)) s42 s43 := hFc37
      replace hR := bnd_step hR eq37
      replace hE := bndP_step hE eq37
      have hF := frm_tr hF hFc37 (fun k hk => by unfold M_ME_forth at hk; unfold M_ME_keys_1; omega)
      refine W.widen (k := 0) (n := 0) (by omega) (by omega) ?_
      refine mi_iinc (k := 0) (x := i21) (d := 1) (y := i21 + 1) (lv' := [(6, .int (nI (i21 + 1))), (5, .int (nI 3)), (0, .ref h0), (1, .int (nI 1)), (2, .ref sd), (3, .ref ek), (4, .ref dk)]) hx hb dME_keys_153 hl rfl (by decide) rfl (by decide) rfl (fun ls hl => ?_)
      refine lv_goto (tgt := 73) hx hb dME_keys_156 (by decide) ?_
      exact ih21 (i21 + 1) s43 pl ls H locs (by omega) hF hE hR (lv_sub hl [0, 1, 2, 3, 4, 5, 6] rfl) hO hP hD hS
  exact lp21 3 0 s26 pl ls _ _ (by omega) hF hE hR (lv_sub hl [0, 1, 2, 3, 4, 5, 6] rfl) hO hP hD hS
def M_ME_keys_2 (pek : Nat) (pdk : Nat) (k : Nat) : Prop := (186 ≤ k ∧ k < 202) ∨ (203 ≤ k ∧ k < 207) ∨ (208 ≤ k ∧ k < 212) ∨ k = 172 ∨ k = 219 ∨ k = 220 ∨ k = 221 ∨ k = pdk ∨ k = pek ∨ (0 : Nat) = 1
noncomputable def F_ME_keys_2_L5 (pek : Nat) (pdk : Nat) (i22 : Nat) (kk : Nat → Sto → Sto) : Nat → Nat → Sto → Sto
  | 0, i26, s36 => bnd (F_ME_write_12 (208 + i22) pek 2592 (384 * i22) s36) fun s37 => bnd (F_ME_write_12 (203 + i22) pdk 4896 (384 * i22) s37) fun s38 => kk (i22 + 1) s38
  | n26 + 1, i26, s36 => bnd (F_ME_product (186 + ((4 * i22) + i26)) (203 + i26) (208 + i22) s36) fun s39 => F_ME_keys_2_L5 pek pdk i22 kk n26 (i26 + 1) s39
noncomputable def E_ME_keys_2_L5 (pek : Nat) (pdk : Nat) (i22 : Nat) (ke : Nat → Sto → Prop) : Nat → Nat → Sto → Prop
  | 0, i26, s36 => bnd (F_ME_write_12 (208 + i22) pek 2592 (384 * i22) s36) fun s37 => bnd (F_ME_write_12 (203 + i22) pdk 4896 (384 * i22) s37) fun s38 => ke (i22 + 1) s38
  | n26 + 1, i26, s36 => bnd (F_ME_product (186 + ((4 * i22) + i26)) (203 + i26) (208 + i22) s36) fun s39 => E_ME_keys_2_L5 pek pdk i22 ke n26 (i26 + 1) s39
noncomputable def F_ME_keys_2_L4 (psd : Nat) (pdk : Nat) : Nat → Nat → Sto → Sto
  | 0, i25, s32 => s32
  | n25 + 1, i25, s32 => bnd (sB s32 pdk (3136 + i25) (s32.1 psd (32 + i25))) fun s33 => F_ME_keys_2_L4 psd pdk n25 (i25 + 1) s33
noncomputable def E_ME_keys_2_L4 (psd : Nat) (pdk : Nat) : Nat → Nat → Sto → Prop
  | 0, i25, s32 => True
  | n25 + 1, i25, s32 => bnd (sB s32 pdk (3136 + i25) (s32.1 psd (32 + i25))) fun s33 => E_ME_keys_2_L4 psd pdk n25 (i25 + 1) s33
noncomputable def F_ME_keys_2_L3 (psd : Nat) (pek : Nat) (pdk : Nat) : Nat → Nat → Sto → Sto
  | 0, i24, s30 => bnd (F_ME_openSize_2  s30) fun q21 => bnd (q21.1.toNatClampNeg) fun z21 => bnd (F_ME_openSize_2  q21.2) fun q22 => bnd (q22.1.toNatClampNeg) fun z22 => bnd (F_ME_hash pek 2592 0 1568 pdk 4896 3104 q22.2) fun s31 => F_ME_keys_2_L4 psd pdk 32 0 s31
  | n24 + 1, i24, s30 => bnd (F_ME_openSize_2  s30) fun q23 => bnd (q23.1.toNatClampNeg) fun z23 => bnd (sB q23.2 pdk (1536 + i24) (q23.2.1 pek i24)) fun s34 => F_ME_keys_2_L3 psd pek pdk n24 (i24 + 1) s34
noncomputable def E_ME_keys_2_L3 (psd : Nat) (pek : Nat) (pdk : Nat) : Nat → Nat → Sto → Prop
  | 0, i24, s30 => bnd (F_ME_openSize_2  s30) fun q21 => bnd (q21.1.toNatClampNeg) fun z21 => bnd (F_ME_openSize_2  q21.2) fun q22 => bnd (q22.1.toNatClampNeg) fun z22 => bnd (F_ME_hash pek 2592 0 1568 pdk 4896 3104 q22.2) fun s31 => E_ME_keys_2_L4 psd pdk 32 0 s31
  | n24 + 1, i24, s30 => bnd (F_ME_openSize_2  s30) fun q23 => bnd (q23.1.toNatClampNeg) fun z23 => bnd (sB q23.2 pdk (1536 + i24) (q23.2.1 pek i24)) fun s34 => E_ME_keys_2_L3 psd pek pdk n24 (i24 + 1) s34
noncomputable def F_ME_keys_2_L2 (psd : Nat) (pek : Nat) (pdk : Nat) : Nat → Nat → Sto → Sto
  | 0, i23, s29 => F_ME_keys_2_L3 psd pek pdk 1568 0 s29
  | n23 + 1, i23, s29 => bnd (sB s29 pek (1536 + i23) (s29.1 220 i23)) fun s35 => F_ME_keys_2_L2 psd pek pdk n23 (i23 + 1) s35
noncomputable def E_ME_keys_2_L2 (psd : Nat) (pek : Nat) (pdk : Nat) : Nat → Nat → Sto → Prop
  | 0, i23, s29 => E_ME_keys_2_L3 psd pek pdk 1568 0 s29
  | n23 + 1, i23, s29 => bnd (sB s29 pek (1536 + i23) (s29.1 220 i23)) fun s35 => E_ME_keys_2_L2 psd pek pdk n23 (i23 + 1) s35
noncomputable def F_ME_keys_2_L1 (psd : Nat) (pek : Nat) (pdk : Nat) : Nat → Nat → Sto → Sto
  | 0, i22, s28 => F_ME_keys_2_L2 psd pek pdk 32 0 s28
  | n22 + 1, i22, s28 => F_ME_keys_2_L5 pek pdk i22 (F_ME_keys_2_L1 psd pek pdk n22) 4 0 s28
noncomputable def E_ME_keys_2_L1 (psd : Nat) (pek : Nat) (pdk : Nat) : Nat → Nat → Sto → Prop
  | 0, i22, s28 => E_ME_keys_2_L2 psd pek pdk 32 0 s28
  | n22 + 1, i22, s28 => E_ME_keys_2_L5 pek pdk i22 (E_ME_keys_2_L1 psd pek pdk n22) 4 0 s28
noncomputable def F_ME_keys_2_L0 (psd : Nat) (pek : Nat) (pdk : Nat) : Nat → Nat → Sto → Sto
  | 0, i21, s27 => F_ME_keys_2_L1 psd pek pdk 4 0 s27
  | n21 + 1, i21, s27 => bnd (F_ME_noise_2 (203 + i21) 220 64 32 (nI i21) s27) fun s40 => bnd (F_ME_noise_2 (208 + i21) 220 64 32 (nI (4 + i21)) s40) fun s41 => bnd (F_ME_forth (203 + i21) s41) fun s42 => bnd (F_ME_forth (208 + i21) s42) fun s43 => F_ME_keys_2_L0 psd pek pdk n21 (i21 + 1) s43
noncomputable def E_ME_keys_2_L0 (psd : Nat) (pek : Nat) (pdk : Nat) : Nat → Nat → Sto → Prop
  | 0, i21, s27 => E_ME_keys_2_L1 psd pek pdk 4 0 s27
  | n21 + 1, i21, s27 => bnd (F_ME_noise_2 (203 + i21) 220 64 32 (nI i21) s27) fun s40 => bnd (F_ME_noise_2 (208 + i21) 220 64 32 (nI (4 + i21)) s40) fun s41 => bnd (F_ME_forth (203 + i21) s41) fun s42 => bnd (F_ME_forth (208 + i21) s42) fun s43 => E_ME_keys_2_L0 psd pek pdk n21 (i21 + 1) s43
noncomputable def F_ME_keys_2 (psd : Nat) (n : Nat) (pek : Nat) (pdk : Nat) (s : Sto) : Sto := bnd (F_MS_begin 72 (nI 6) s) fun s21 => bnd (F_MS_puts psd n 0 32 s21) fun s22 => bnd (F_MS_put (nI 4) s22) fun s23 => bnd (F_MS_end  s23) fun s24 => bnd (F_MS_take 220 64 0 64 s24) fun s25 => bnd (F_ME_expand_4 220 64 0 s25) fun s26 => F_ME_keys_2_L0 psd pek pdk 4 0 s26
noncomputable def E_ME_keys_2 (psd : Nat) (n : Nat) (pek : Nat) (pdk : Nat) (s : Sto) : Prop := bnd (F_MS_begin 72 (nI 6) s) fun s21 => bnd (F_MS_puts psd n 0 32 s21) fun s22 => bnd (F_MS_put (nI 4) s22) fun s23 => bnd (F_MS_end  s23) fun s24 => bnd (F_MS_take 220 64 0 64 s24) fun s25 => (E_ME_expand_4 220 64 0 s25) ∧ (bnd (F_ME_expand_4 220 64 0 s25) fun s26 => E_ME_keys_2_L0 psd pek pdk 4 0 s26)
set_option maxHeartbeats 8000000 in
set_option maxRecDepth 100000 in
theorem N_ME_keys_2 (l : Launch) (g : Gd) (sz : Nat) (T : TyN) (s : Sto) (pl : va_W) (hO : okn g T s pl) (hU : inj T) (h0 sd ek dk : Nat) (psd : Nat) (n : Nat) (pek : Nat) (pdk : Nat) (k_h0 : T h0 = some 184) (k_sd : T sd = some psd) (n_sd : nsp psd = (1, n, [])) (k_ek : T ek = some pek) (n_ek : nsp pek = (1, 2592, [])) (k_dk : T dk = some pdk) (n_dk : nsp pdk = (1, 4896, [])) (h1 : 64 ≤ n) (h2 : n < 65536) (hE : E_ME_keys_2 psd n pek pdk s)  : Met l y_ME_keys w_ME_keys ({ frames := 5, cells := 0, slots := 0, locals := 118 } : Room) (va_Pc [.ref h0, .int (nI 2), .ref sd, .ref ek, .ref dk] (pr (en g) g.1 vcl sz ([] ++ pl))) (va_Qv (fun (u : (Sto) × va_W) => (u.1 = F_ME_keys_2 psd n pek pdk s ∧ frm (M_ME_keys_2 pek pdk) s u.1 ∧ True) ∧ okn g T u.1 u.2) (po g.1 vcl (va_A ([] ++ pl) sz) (fun (u : (Sto) × va_W) => [] ++ u.2)) (va_A ([] ++ pl) sz)) 0 0 (va_A ([] ++ pl) sz) := by
  refine mc_entry (cc := c_ME_keys) (maxL := 8) (ret := none) (by decide) rfl (Nat.le_of_ble_eq_true rfl) ?_
  intro p e s0 m args below meth c ls F hr hlk hnm hsz hP hD hEn hA hl
  obtain ⟨hx, hb, hml, hown, hts⟩ := id F
  have hK := hEn.1
  generalize va_A ([] ++ pl) sz = A at hD hEn hA ⊢
  have hS : va_S A s0.heap s0.heap [] := va_S.rf
  have hl : lv_has ls 8 [(0, .ref h0), (1, .int (nI 2)), (2, .ref sd), (3, .ref ek), (4, .ref dk)] := hl
  have hR : F_ME_keys_2 psd n pek pdk s = F_ME_keys_2 psd n pek pdk s := rfl
  have hF : frm (M_ME_keys_2 pek pdk) s s := frm_rf
  refine va_gets hx hb (hEn.2.1 19 _ rfl).1 hS hown (hts _ (wg_t kw_1605)) (fun _ h9 => h9) dME_keys_0 ?_
  refine lv_iload_n hx hb dME_keys_3 rfl (lv_at hl 1 rfl) ?_
  refine va_ti (v := .int (nI 4)) hx hb (hEn.2.1 19 _ rfl).2 hS (vp_in_nI (by decide) (by decide)) (by decide +kernel) dME_keys_4 ?_
  refine lv_istore (lv' := [(5, .int (nI 4)), (0, .ref h0), (1, .int (nI 2)), (2, .ref sd), (3, .ref ek), (4, .ref dk)]) hx hb dME_keys_5 hl (by decide) rfl (fun ls hl => ?_)
  refine lv_aload_n hx hb dME_keys_7 rfl (lv_at hl 1 rfl) ?_
  refine nw_get (C := "LatticeKeysModel$Secrets") (TT := T_ME) (N := 14) hx hb hts (wg_ft i_ME) hown hK hO k_h0 (kn := 184) (ci := 11) (fl := [(3, 172), (3, 178), (3, 185), (3, 202), (3, 207), (3, 212), (3, 217), (3, 218), (3, 219), (3, 220), (3, 221), (3, 222), (3, 223), (3, 224)]) rfl hP rfl 0 (by decide) (hts _ (wg_t kw_1379)) (fun _ h9 => h9) (cd := (3, 172)) rfl dME_keys_8 (fun v21 hv21 => ?_)
  obtain ⟨r21, rfl, kr21⟩ := (show ∃ r : Nat, v21 = .ref r ∧ T r = some 172 from hv21)
  refine lv_bipush (v := nI 72) hx hb dME_keys_11 (by decide) ?_
  refine lv_bipush (v := nI 6) hx hb dME_keys_13 (by decide) ?_
  refine mp_v (cx := []) (wr := []) hP hD hS hA [] [] rfl rfl rfl (by decide) (va_runV (As := [.int (nI 72), .int (nI 6)]) (rest := []) F (N_MS_begin l g _ T s pl hO hU r21 72 (nI 6) kr21 (by omega)) (cwV 2 hts (wg_app (wg_c kw_1607 (wg_c kw_1608 (wg_c kw_1609 (wg_c kw_10 wg_n)))) kw_1610) rfl rfl rfl (by decide +kernel) ⟨by decide, by decide⟩) (pn_W "LatticeKeysModel$Sponge" (en_ok g) (ci := 9) (kn := 172) (fl := [(3, 173), (3, 174), (3, 175), (3, 176), (3, 177), (0, 0), (0, 0), (0, 0)]) hK hO kr21 rfl hP hD hS hA hEn [] rfl rfl rfl) rfl rfl hl.1 rfl (lv_room (Nat.le_of_ble_eq_true rfl)) dME_keys_15 ⟨by omega, by omega⟩) (fun  u21 H locs hu21 hP hD hS => ?_)
  obtain ⟨s21, pl⟩ := u21
  obtain ⟨⟨eq21, hFc21, ⟨x21, hx_21, hb_21⟩, ⟨x22, hx_22, hb_22⟩, -⟩, hO⟩ := hu21
  have hO : okn g T s21 pl := hO
  have hP : va_P g.1 vcl ([] ++ pl) _ := hP
  have hD : va_D _ ([] ++ pl) := hD
  have hFc21 : frm (M_MS_begin) s s21 := hFc21
  have hb_21 : x21 = 0 := hb_21
  have hb_22 : x22 = 72 := hb_22
  replace hR := bnd_step hR eq21
  replace hE := bndP_step hE eq21
  have hF := frm_tr hF hFc21 (fun k hk => by unfold M_MS_begin at hk; unfold M_ME_keys_2; omega)
  refine W.widen (k := 0) (n := 0) (by omega) (by omega) ?_
  refine lv_aload_n hx hb dME_keys_18 rfl (lv_at hl 1 rfl) ?_
  refine nw_get (C := "LatticeKeysModel$Secrets") (TT := T_ME) (N := 14) hx hb hts (wg_ft i_ME) hown hK hO k_h0 (kn := 184) (ci := 11) (fl := [(3, 172), (3, 178), (3, 185), (3, 202), (3, 207), (3, 212), (3, 217), (3, 218), (3, 219), (3, 220), (3, 221), (3, 222), (3, 223), (3, 224)]) rfl hP rfl 0 (by decide) (hts _ (wg_t kw_1379)) (fun _ h9 => h9) (cd := (3, 172)) rfl dME_keys_19 (fun v22 hv22 => ?_)
  obtain ⟨r22, rfl, kr22⟩ := (show ∃ r : Nat, v22 = .ref r ∧ T r = some 172 from hv22)
  refine lv_aload_n hx hb dME_keys_22 rfl (lv_at hl 3 rfl) ?_
  refine lv_iconst (v := nI 0) hx hb dME_keys_23 (by decide) ?_
  refine lv_bipush (v := nI 32) hx hb dME_keys_24 (by decide) ?_
  refine mp_v (cx := []) (wr := []) hP hD hS hA [] [] rfl rfl rfl (by decide) (va_runV (As := [.ref sd, .int (nI 0), .int (nI 32)]) (rest := []) F (N_MS_puts l g _ T s21 pl hO hU r22 sd psd n 0 32 x21 x22 kr22 k_sd n_sd hx_21 hx_22 (by omega) (by omega) (by omega) (by omega)) (cwV 3 hts (wg_app (wg_c kw_1611 (wg_c kw_1612 (wg_c kw_1613 (wg_c kw_10 wg_n)))) kw_1614) rfl rfl rfl (by decide +kernel) ⟨by decide, by decide⟩) (pn_W "LatticeKeysModel$Sponge" (en_ok g) (ci := 9) (kn := 172) (fl := [(3, 173), (3, 174), (3, 175), (3, 176), (3, 177), (0, 0), (0, 0), (0, 0)]) hK hO kr22 rfl hP hD hS hA hEn [] rfl rfl rfl) rfl rfl hl.1 rfl (lv_room (Nat.le_of_ble_eq_true rfl)) dME_keys_26 ⟨by omega, by omega⟩) (fun  u22 H locs hu22 hP hD hS => ?_)
  obtain ⟨s22, pl⟩ := u22
  obtain ⟨⟨eq22, hFc22, ⟨x24, hx_24, hb_24⟩, ⟨x25, hx_25, hb_25⟩, -⟩, hO⟩ := hu22
  have hO : okn g T s22 pl := hO
  have hP : va_P g.1 vcl ([] ++ pl) _ := hP
  have hD : va_D _ ([] ++ pl) := hD
  have hFc22 : frm (M_MS_puts) s21 s22 := hFc22
  have hb_24 : x24 < x22 := hb_24
  have hb_25 : x25 = x22 := hb_25
  replace hR := bnd_step hR eq22
  replace hE := bndP_step hE eq22
  have hF := frm_tr hF hFc22 (fun k hk => by unfold M_MS_puts at hk; unfold M_ME_keys_2; omega)
  refine W.widen (k := 0) (n := 0) (by omega) (by omega) ?_
  refine lv_aload_n hx hb dME_keys_29 rfl (lv_at hl 1 rfl) ?_
  refine nw_get (C := "LatticeKeysModel$Secrets") (TT := T_ME) (N := 14) hx hb hts (wg_ft i_ME) hown hK hO k_h0 (kn := 184) (ci := 11) (fl := [(3, 172), (3, 178), (3, 185), (3, 202), (3, 207), (3, 212), (3, 217), (3, 218), (3, 219), (3, 220), (3, 221), (3, 222), (3, 223), (3, 224)]) rfl hP rfl 0 (by decide) (hts _ (wg_t kw_1379)) (fun _ h9 => h9) (cd := (3, 172)) rfl dME_keys_30 (fun v23 hv23 => ?_)
  obtain ⟨r23, rfl, kr23⟩ := (show ∃ r : Nat, v23 = .ref r ∧ T r = some 172 from hv23)
  refine lv_iload hx hb dME_keys_33 (lv_at hl 0 rfl) ?_
  refine mp_v (cx := []) (wr := []) hP hD hS hA [] [] rfl rfl rfl (by decide) (va_runV (As := [.int (nI 4)]) (rest := []) F (N_MS_put l g _ T s22 pl hO hU r23 (nI 4) x24 x25 kr23 hx_24 hx_25 (by omega) (by omega)) (cwV 1 hts (wg_app (wg_c kw_1632 (wg_c kw_1616 (wg_c kw_1617 (wg_c kw_10 wg_n)))) kw_1618) rfl rfl rfl (by decide +kernel) ⟨by decide, by decide⟩) (pn_W "LatticeKeysModel$Sponge" (en_ok g) (ci := 9) (kn := 172) (fl := [(3, 173), (3, 174), (3, 175), (3, 176), (3, 177), (0, 0), (0, 0), (0, 0)]) hK hO kr23 rfl hP hD hS hA hEn [] rfl rfl rfl) rfl rfl hl.1 rfl (lv_room (Nat.le_of_ble_eq_true rfl)) dME_keys_35 ⟨by omega, by omega⟩) (fun  u23 H locs hu23 hP hD hS => ?_)
  obtain ⟨s23, pl⟩ := u23
  obtain ⟨⟨eq23, hFc23, ⟨x27, hx_27, hb_27⟩, ⟨x28, hx_28, hb_28⟩, -⟩, hO⟩ := hu23
  have hO : okn g T s23 pl := hO
  have hP : va_P g.1 vcl ([] ++ pl) _ := hP
  have hD : va_D _ ([] ++ pl) := hD
  have hFc23 : frm (M_MS_put) s22 s23 := hFc23
  have hb_27 : x27 < x25 := hb_27
  have hb_28 : x28 = x25 := hb_28
  replace hR := bnd_step hR eq23
  replace hE := bndP_step hE eq23
  have hF := frm_tr hF hFc23 (fun k hk => by unfold M_MS_put at hk; unfold M_ME_keys_2; omega)
  refine W.widen (k := 0) (n := 0) (by omega) (by omega) ?_
  refine lv_aload_n hx hb dME_keys_38 rfl (lv_at hl 1 rfl) ?_
  refine nw_get (C := "LatticeKeysModel$Secrets") (TT := T_ME) (N := 14) hx hb hts (wg_ft i_ME) hown hK hO k_h0 (kn := 184) (ci := 11) (fl := [(3, 172), (3, 178), (3, 185), (3, 202), (3, 207), (3, 212), (3, 217), (3, 218), (3, 219), (3, 220), (3, 221), (3, 222), (3, 223), (3, 224)]) rfl hP rfl 0 (by decide) (hts _ (wg_t kw_1379)) (fun _ h9 => h9) (cd := (3, 172)) rfl dME_keys_39 (fun v24 hv24 => ?_)
  obtain ⟨r24, rfl, kr24⟩ := (show ∃ r : Nat, v24 = .ref r ∧ T r = some 172 from hv24)
  refine mp_v (cx := []) (wr := []) hP hD hS hA [] [] rfl rfl rfl (by decide) (va_runV (As := []) (rest := []) F (N_MS_end l g _ T s23 pl hO hU r24 x27 x28 kr24 hx_27 hx_28 (by omega) (by omega)) (cwV 0 hts (wg_app (wg_c kw_1633 (wg_c kw_1634 (wg_c kw_1635 (wg_c kw_10 wg_n)))) kw_1636) rfl rfl rfl (by decide +kernel) ⟨by decide, by decide⟩) (pn_W "LatticeKeysModel$Sponge" (en_ok g) (ci := 9) (kn := 172) (fl := [(3, 173), (3, 174), (3, 175), (3, 176), (3, 177), (0, 0), (0, 0), (0, 0)]) hK hO kr24 rfl hP hD hS hA hEn [] rfl rfl rfl) rfl rfl hl.1 rfl (lv_room (Nat.le_of_ble_eq_true rfl)) dME_keys_42 ⟨by omega, by omega⟩) (fun  u24 H locs hu24 hP hD hS => ?_)
  obtain ⟨s24, pl⟩ := u24
  obtain ⟨⟨eq24, hFc24, ⟨x30, hx_30, hb_30⟩, ⟨x31, hx_31, hb_31⟩, -⟩, hO⟩ := hu24
  have hO : okn g T s24 pl := hO
  have hP : va_P g.1 vcl ([] ++ pl) _ := hP
  have hD : va_D _ ([] ++ pl) := hD
  have hFc24 : frm (M_MS_end) s23 s24 := hFc24
  have hb_30 : x30 = 0 := hb_30
  have hb_31 : x31 = x28 := hb_31
  replace hR := bnd_step hR eq24
  replace hE := bndP_step hE eq24
  have hF := frm_tr hF hFc24 (fun k hk => by unfold M_MS_end at hk; unfold M_ME_keys_2; omega)
  refine W.widen (k := 0) (n := 0) (by omega) (by omega) ?_
  refine lv_aload_n hx hb dME_keys_45 rfl (lv_at hl 1 rfl) ?_
  refine nw_get (C := "LatticeKeysModel$Secrets") (TT := T_ME) (N := 14) hx hb hts (wg_ft i_ME) hown hK hO k_h0 (kn := 184) (ci := 11) (fl := [(3, 172), (3, 178), (3, 185), (3, 202), (3, 207), (3, 212), (3, 217), (3, 218), (3, 219), (3, 220), (3, 221), (3, 222), (3, 223), (3, 224)]) rfl hP rfl 0 (by decide) (hts _ (wg_t kw_1379)) (fun _ h9 => h9) (cd := (3, 172)) rfl dME_keys_46 (fun v25 hv25 => ?_)
  obtain ⟨r25, rfl, kr25⟩ := (show ∃ r : Nat, v25 = .ref r ∧ T r = some 172 from hv25)
  refine lv_aload_n hx hb dME_keys_49 rfl (lv_at hl 1 rfl) ?_
  refine nw_get (C := "LatticeKeysModel$Secrets") (TT := T_ME) (N := 14) hx hb hts (wg_ft i_ME) hown hK hO k_h0 (kn := 184) (ci := 11) (fl := [(3, 172), (3, 178), (3, 185), (3, 202), (3, 207), (3, 212), (3, 217), (3, 218), (3, 219), (3, 220), (3, 221), (3, 222), (3, 223), (3, 224)]) rfl hP rfl 9 (by decide) (hts _ (wg_t kw_1388)) (fun _ h9 => h9) (cd := (3, 220)) rfl dME_keys_50 (fun v26 hv26 => ?_)
  obtain ⟨r26, rfl, kr26⟩ := (show ∃ r : Nat, v26 = .ref r ∧ T r = some 220 from hv26)
  refine lv_iconst (v := nI 0) hx hb dME_keys_53 (by decide) ?_
  refine lv_bipush (v := nI 64) hx hb dME_keys_54 (by decide) ?_
  refine mp_v (cx := []) (wr := []) hP hD hS hA [] [] rfl rfl rfl (by decide) (va_runV (As := [.ref r26, .int (nI 0), .int (nI 64)]) (rest := []) F (N_MS_take l g _ T s24 pl hO hU r25 r26 220 64 0 64 x30 x31 kr25 kr26 rfl hx_30 hx_31 (by omega) (by omega) (by omega) (by omega)) (cwV 3 hts (wg_app (wg_c kw_1637 (wg_c kw_1638 (wg_c kw_1639 (wg_c kw_10 wg_n)))) kw_1640) rfl rfl rfl (by decide +kernel) ⟨by decide, by decide⟩) (pn_W "LatticeKeysModel$Sponge" (en_ok g) (ci := 9) (kn := 172) (fl := [(3, 173), (3, 174), (3, 175), (3, 176), (3, 177), (0, 0), (0, 0), (0, 0)]) hK hO kr25 rfl hP hD hS hA hEn [] rfl rfl rfl) rfl rfl hl.1 rfl (lv_room (Nat.le_of_ble_eq_true rfl)) dME_keys_56 ⟨by omega, by omega⟩) (fun  u25 H locs hu25 hP hD hS => ?_)
  obtain ⟨s25, pl⟩ := u25
  obtain ⟨⟨eq25, hFc25, ⟨x33, hx_33, hb_33⟩, ⟨x34, hx_34, hb_34⟩, -⟩, hO⟩ := hu25
  have hO : okn g T s25 pl := hO
  have hP : va_P g.1 vcl ([] ++ pl) _ := hP
  have hD : va_D _ ([] ++ pl) := hD
  have hFc25 : frm (M_MS_take 220) s24 s25 := hFc25
  have hb_33 : x33 ≤ x31 := hb_33
  have hb_34 : x34 = x31 := hb_34
  replace hR := bnd_step hR eq25
  replace hE := bndP_step hE eq25
  have hF := frm_tr hF hFc25 (fun k hk => by unfold M_MS_take at hk; unfold M_ME_keys_2; omega)
  refine W.widen (k := 0) (n := 0) (by omega) (by omega) ?_
  refine lv_aload_n hx hb dME_keys_59 rfl (lv_at hl 1 rfl) ?_
  refine lv_aload_n hx hb dME_keys_60 rfl (lv_at hl 1 rfl) ?_
  refine nw_get (C := "LatticeKeysModel$Secrets") (TT := T_ME) (N := 14) hx hb hts (wg_ft i_ME) hown hK hO k_h0 (kn := 184) (ci := 11) (fl := [(3, 172), (3, 178), (3, 185), (3, 202), (3, 207), (3, 212), (3, 217), (3, 218), (3, 219), (3, 220), (3, 221), (3, 222), (3, 223), (3, 224)]) rfl hP rfl 9 (by decide) (hts _ (wg_t kw_1388)) (fun _ h9 => h9) (cd := (3, 220)) rfl dME_keys_61 (fun v27 hv27 => ?_)
  obtain ⟨r27, rfl, kr27⟩ := (show ∃ r : Nat, v27 = .ref r ∧ T r = some 220 from hv27)
  refine lv_iconst (v := nI 0) hx hb dME_keys_64 (by decide) ?_
  refine lv_iload hx hb dME_keys_65 (lv_at hl 0 rfl) ?_
  refine mp_v (cx := []) (wr := []) hP hD hS hA [] [] rfl rfl rfl (by decide) (va_runV (As := [.ref r27, .int (nI 0), .int (nI 4)]) (rest := []) F (N_ME_expand_4 l g _ T s25 pl hO hU h0 r27 220 64 0 k_h0 kr27 rfl (by omega) (by omega) hE.1) (cwV 3 hts (wg_app (wg_c kw_1645 (wg_c kw_1647 (wg_c ks_54 (wg_c kw_11 wg_n)))) kw_1648) rfl rfl rfl (by decide +kernel) ⟨by decide, by decide⟩) (pn_W "LatticeKeysModel$Secrets" (en_ok g) (ci := 11) (kn := 184) (fl := [(3, 172), (3, 178), (3, 185), (3, 202), (3, 207), (3, 212), (3, 217), (3, 218), (3, 219), (3, 220), (3, 221), (3, 222), (3, 223), (3, 224)]) hK hO k_h0 rfl hP hD hS hA hEn [] rfl rfl rfl) rfl rfl hl.1 rfl (lv_room (Nat.le_of_ble_eq_true rfl)) dME_keys_67 ⟨by omega, by omega⟩) (fun  u26 H locs hu26 hP hD hS => ?_)
  obtain ⟨s26, pl⟩ := u26
  obtain ⟨⟨eq26, hFc26, -⟩, hO⟩ := hu26
  have hO : okn g T s26 pl := hO
  have hP : va_P g.1 vcl ([] ++ pl) _ := hP
  have hD : va_D _ ([] ++ pl) := hD
  have hFc26 : frm (M_ME_expand_4) s25 s26 := hFc26
  replace hE := hE.2
  replace hR := bnd_step hR eq26
  replace hE := bndP_step hE eq26
  have hF := frm_tr hF hFc26 (fun k hk => by unfold M_ME_expand_4 at hk; unfold M_ME_keys_2; omega)
  refine W.widen (k := 0) (n := 0) (by omega) (by omega) ?_
  refine lv_iconst (v := nI 0) hx hb dME_keys_70 (by decide) ?_
  refine lv_istore (lv' := [(6, .int (nI 0)), (5, .int (nI 4)), (0, .ref h0), (1, .int (nI 2)), (2, .ref sd), (3, .ref ek), (4, .ref dk)]) hx hb dME_keys_71 hl (by decide) rfl (fun ls hl => ?_)
  have lp21 : ∀ (n21 : Nat) (i21 : Nat) (s27 : Sto) (pl : va_W) (ls : Array Slot) (H : Heap) (locs : List Loc), n21 + i21 = 4 → frm (M_ME_keys_2 pek pdk) s s27 → E_ME_keys_2_L0 psd pek pdk n21 i21 s27 → F_ME_keys_2 psd n pek pdk s = F_ME_keys_2_L0 psd pek pdk n21 i21 s27 → lv_has ls 8 [(6, .int (nI i21)), (5, .int (nI 4)), (0, .ref h0), (1, .int (nI 2)), (2, .ref sd), (3, .ref ek), (4, .ref dk)] → okn g T s27 pl → va_P g.1 vcl ([] ++ pl) H → va_D A ([] ++ pl) → va_S A s0.heap H locs → W p l e ({ frames := 5, cells := 0, slots := 0, locals := 118 } : Room) s0 m args below meth c H locs 0 0 (MQ below (va_Qv (fun (u : (Sto) × va_W) => (u.1 = F_ME_keys_2 psd n pek pdk s ∧ frm (M_ME_keys_2 pek pdk) s u.1 ∧ True) ∧ okn g T u.1 u.2) (po g.1 vcl A (fun (u : (Sto) × va_W) => [] ++ u.2)) A) args s0 0 0 A) (F0 m 73 ls []) := by
    intro n21
    induction n21 with
    | zero =>
      intro i21 s27 pl ls H locs hm21 hF hE hR hl hO hP hD hS
      refine lv_iload hx hb dME_keys_73 (lv_at hl 0 rfl) ?_
      refine lv_iload hx hb dME_keys_75 (lv_at hl 1 rfl) ?_
      refine mi_ge (tgt := 159) hx hb dME_keys_77 (by decide) (by omega) (by omega) (fun h21 => ?_) (fun h21 => absurd h21 (by omega))
      refine lv_iconst (v := nI 0) hx hb dME_keys_159 (by decide) ?_
      refine lv_istore (lv' := [(6, .int (nI 0)), (5, .int (nI 4)), (0, .ref h0), (1, .int (nI 2)), (2, .ref sd), (3, .ref ek), (4, .ref dk)]) hx hb dME_keys_160 hl (by decide) rfl (fun ls hl => ?_)
      have lp22 : ∀ (n22 : Nat) (i22 : Nat) (s28 : Sto) (pl : va_W) (ls : Array Slot) (H : Heap) (locs : List Loc), n22 + i22 = 4 → frm (M_ME_keys_2 pek pdk) s s28 → E_ME_keys_2_L1 psd pek pdk n22 i22 s28 → F_ME_keys_2 psd n pek pdk s = F_ME_keys_2_L1 psd pek pdk n22 i22 s28 → lv_has ls 8 [(6, .int (nI i22)), (5, .int (nI 4)), (0, .ref h0), (1, .int (nI 2)), (2, .ref sd), (3, .ref ek), (4, .ref dk)] → okn g T s28 pl → va_P g.1 vcl ([] ++ pl) H → va_D A ([] ++ pl) → va_S A s0.heap H locs → W p l e ({ frames := 5, cells := 0, slots := 0, locals := 118 } : Room) s0 m args below meth c H locs 0 0 (MQ below (va_Qv (fun (u : (Sto) × va_W) => (u.1 = F_ME_keys_2 psd n pek pdk s ∧ frm (M_ME_keys_2 pek pdk) s u.1 ∧ True) ∧ okn g T u.1 u.2) (po g.1 vcl A (fun (u : (Sto) × va_W) => [] ++ u.2)) A) args s0 0 0 A) (F0 m 162 ls []) := by
        intro n22
        induction n22 with
        | zero =>
          intro i22 s28 pl ls H locs hm22 hF hE hR hl hO hP hD hS
          refine lv_iload hx hb dME_keys_162 (lv_at hl 0 rfl) ?_
          refine lv_iload hx hb dME_keys_164 (lv_at hl 1 rfl) ?_
          refine mi_ge (tgt := 260) hx hb dME_keys_166 (by decide) (by omega) (by omega) (fun h22 => ?_) (fun h22 => absurd h22 (by omega))
          refine lv_iconst (v := nI 0) hx hb dME_keys_260 (by decide) ?_
          refine lv_istore (lv' := [(6, .int (nI 0)), (5, .int (nI 4)), (0, .ref h0), (1, .int (nI 2)), (2, .ref sd), (3, .ref ek), (4, .ref dk)]) hx hb dME_keys_261 hl (by decide) rfl (fun ls hl => ?_)
          have lp23 : ∀ (n23 : Nat) (i23 : Nat) (s29 : Sto) (pl : va_W) (ls : Array Slot) (H : Heap) (locs : List Loc), n23 + i23 = 32 → frm (M_ME_keys_2 pek pdk) s s29 → E_ME_keys_2_L2 psd pek pdk n23 i23 s29 → F_ME_keys_2 psd n pek pdk s = F_ME_keys_2_L2 psd pek pdk n23 i23 s29 → lv_has ls 8 [(6, .int (nI i23)), (5, .int (nI 4)), (0, .ref h0), (1, .int (nI 2)), (2, .ref sd), (3, .ref ek), (4, .ref dk)] → okn g T s29 pl → va_P g.1 vcl ([] ++ pl) H → va_D A ([] ++ pl) → va_S A s0.heap H locs → W p l e ({ frames := 5, cells := 0, slots := 0, locals := 118 } : Room) s0 m args below meth c H locs 0 0 (MQ below (va_Qv (fun (u : (Sto) × va_W) => (u.1 = F_ME_keys_2 psd n pek pdk s ∧ frm (M_ME_keys_2 pek pdk) s u.1 ∧ True) ∧ okn g T u.1 u.2) (po g.1 vcl A (fun (u : (Sto) × va_W) => [] ++ u.2)) A) args s0 0 0 A) (F0 m 263 ls []) := by
            intro n23
            induction n23 with
            | zero =>
              intro i23 s29 pl ls H locs hm23 hF hE hR hl hO hP hD hS
              refine lv_iload hx hb dME_keys_263 (lv_at hl 0 rfl) ?_
              refine lv_bipush (v := nI 32) hx hb dME_keys_265 (by decide) ?_
              refine mi_ge (tgt := 294) hx hb dME_keys_267 (by decide) (by omega) (by omega) (fun h23 => ?_) (fun h23 => absurd h23 (by omega))
              refine lv_iconst (v := nI 0) hx hb dME_keys_294 (by decide) ?_
              refine lv_istore (lv' := [(6, .int (nI 0)), (5, .int (nI 4)), (0, .ref h0), (1, .int (nI 2)), (2, .ref sd), (3, .ref ek), (4, .ref dk)]) hx hb dME_keys_295 hl (by decide) rfl (fun ls hl => ?_)
              have lp24 : ∀ (n24 : Nat) (i24 : Nat) (s30 : Sto) (pl : va_W) (ls : Array Slot) (H : Heap) (locs : List Loc), n24 + i24 = 1568 → frm (M_ME_keys_2 pek pdk) s s30 → E_ME_keys_2_L3 psd pek pdk n24 i24 s30 → F_ME_keys_2 psd n pek pdk s = F_ME_keys_2_L3 psd pek pdk n24 i24 s30 → lv_has ls 8 [(6, .int (nI i24)), (5, .int (nI 4)), (0, .ref h0), (1, .int (nI 2)), (2, .ref sd), (3, .ref ek), (4, .ref dk)] → okn g T s30 pl → va_P g.1 vcl ([] ++ pl) H → va_D A ([] ++ pl) → va_S A s0.heap H locs → W p l e ({ frames := 5, cells := 0, slots := 0, locals := 118 } : Room) s0 m args below meth c H locs 0 0 (MQ below (va_Qv (fun (u : (Sto) × va_W) => (u.1 = F_ME_keys_2 psd n pek pdk s ∧ frm (M_ME_keys_2 pek pdk) s u.1 ∧ True) ∧ okn g T u.1 u.2) (po g.1 vcl A (fun (u : (Sto) × va_W) => [] ++ u.2)) A) args s0 0 0 A) (F0 m 297 ls []) := by
                intro n24
                induction n24 with
                | zero =>
                  intro i24 s30 pl ls H locs hm24 hF hE hR hl hO hP hD hS
                  refine lv_iload hx hb dME_keys_297 (lv_at hl 0 rfl) ?_
                  refine lv_iload_n hx hb dME_keys_299 rfl (lv_at hl 3 rfl) ?_
                  refine mp_i (cx := []) (wr := []) hP hD hS hA [] [] rfl rfl rfl (by decide) (va_runS (As := [.int (nI 2)]) (rest := [.int (nI i24)]) F (N_ME_openSize_2 l g _ T s30 pl hO hU ) (va_cwS 1 hts (wg_app (wg_c kw_1691 (wg_c kw_1692 (wg_c kw_11 wg_n))) kw_1693) rfl rfl rfl (by decide +kernel) ⟨by decide, by decide⟩) (pp_S (en_ok g) hP hD hS hA hEn [] rfl rfl) rfl rfl hl.1 rfl (lv_room (Nat.le_of_ble_eq_true rfl)) dME_keys_300 ⟨by omega, by omega⟩) (fun r28 u27 H locs hu27 hP hD hS => ?_)
                  obtain ⟨q21, pl⟩ := u27
                  obtain ⟨⟨eq27, rfl, hFc27, ⟨x37, hx_37, hb_37⟩, hxp27, -⟩, hO⟩ := hu27
                  have hO : okn g T q21.2 pl := hO
                  have hP : va_P g.1 vcl ([] ++ pl) _ := hP
                  have hD : va_D _ ([] ++ pl) := hD
                  have hFc27 : frm (M_ME_openSize_2) s30 q21.2 := hFc27
                  have hb_37 : x37 < 1569 := hb_37
                  replace hR := bnd_step hR eq27
                  replace hE := bndP_step hE eq27
                  have hF := frm_tr hF hFc27 (fun k hk => by unfold M_ME_openSize_2 at hk; unfold M_ME_keys_2; omega)
                  obtain ⟨z21, ez21, hz21, hz22⟩ := cl_of (b := 2147483648) hx_37 (by omega) (by decide)
                  replace hR := bnd_step hR ez21
                  replace hE := bndP_step hE ez21
                  refine mi_as hz21 ?_
                  have hsz21 : z21 = 1568 := (nI_eq (by omega) (by omega)).mp (hz21.symm.trans hxp27)
                  subst hsz21
                  refine W.widen (k := 0) (n := 0) (by omega) (by omega) ?_
                  refine mi_ge (tgt := 328) hx hb dME_keys_303 (by decide) (by omega) (by omega) (fun h24 => ?_) (fun h24 => absurd h24 (by omega))
                  refine lv_aload_n hx hb dME_keys_328 rfl (lv_at hl 2 rfl) ?_
                  refine lv_aload_n hx hb dME_keys_329 rfl (lv_at hl 5 rfl) ?_
                  refine lv_iconst (v := nI 0) hx hb dME_keys_330 (by decide) ?_
                  refine lv_iload_n hx hb dME_keys_331 rfl (lv_at hl 3 rfl) ?_
                  refine mp_i (cx := []) (wr := []) hP hD hS hA [] [] rfl rfl rfl (by decide) (va_runS (As := [.int (nI 2)]) (rest := [.int (nI 0), .ref ek, .ref h0]) F (N_ME_openSize_2 l g _ T q21.2 pl hO hU ) (va_cwS 1 hts (wg_app (wg_c kw_1691 (wg_c kw_1692 (wg_c kw_11 wg_n))) kw_1693) rfl rfl rfl (by decide +kernel) ⟨by decide, by decide⟩) (pp_S (en_ok g) hP hD hS hA hEn [] rfl rfl) rfl rfl hl.1 rfl (lv_room (Nat.le_of_ble_eq_true rfl)) dME_keys_332 ⟨by omega, by omega⟩) (fun r29 u28 H locs hu28 hP hD hS => ?_)
                  obtain ⟨q22, pl⟩ := u28
                  obtain ⟨⟨eq28, rfl, hFc28, ⟨x38, hx_38, hb_38⟩, hxp28, -⟩, hO⟩ := hu28
                  have hO : okn g T q22.2 pl := hO
                  have hP : va_P g.1 vcl ([] ++ pl) _ := hP
                  have hD : va_D _ ([] ++ pl) := hD
                  have hFc28 : frm (M_ME_openSize_2) q21.2 q22.2 := hFc28
                  have hb_38 : x38 < 1569 := hb_38
                  replace hR := bnd_step hR eq28
                  replace hE := bndP_step hE eq28
                  have hF := frm_tr hF hFc28 (fun k hk => by unfold M_ME_openSize_2 at hk; unfold M_ME_keys_2; omega)
                  obtain ⟨z22, ez22, hz23, hz24⟩ := cl_of (b := 2147483648) hx_38 (by omega) (by decide)
                  replace hR := bnd_step hR ez22
                  replace hE := bndP_step hE ez22
                  refine mi_as hz23 ?_
                  have hsz22 : z22 = 1568 := (nI_eq (by omega) (by omega)).mp (hz23.symm.trans hxp28)
                  subst hsz22
                  refine W.widen (k := 0) (n := 0) (by omega) (by omega) ?_
                  refine lv_aload hx hb dME_keys_335 (lv_at hl 6 rfl) ?_
                  refine lv_sipush (v := nI 768) hx hb dME_keys_337 (by decide) ?_
                  refine lv_iload hx hb dME_keys_340 (lv_at hl 1 rfl) ?_
                  refine mi_imul hx hb dME_keys_342 ?_
                  refine mi_as (show nI (768 * 4) = nI 3072 from rfl) ?_
                  refine lv_bipush (v := nI 32) hx hb dME_keys_343 (by decide) ?_
                  refine mi_iadd hx hb dME_keys_345 ?_
                  refine mi_as (show nI (3072 + 32) = nI 3104 from rfl) ?_
                  refine mp_v (cx := []) (wr := []) hP hD hS hA [] [] rfl rfl rfl (by decide) (va_runV (As := [.ref ek, .int (nI 0), .int (nI 1568), .ref dk, .int (nI 3104)]) (rest := []) F (N_ME_hash l g _ T q22.2 pl hO hU h0 ek dk pek 2592 0 1568 pdk 4896 3104 k_h0 k_ek n_ek k_dk n_dk (by omega) (by omega) (by omega) (by omega)) (cwV 5 hts (wg_app (wg_c kw_1694 (wg_c kw_1696 (wg_c ks_59 (wg_c kw_11 wg_n)))) kw_1697) rfl rfl rfl (by decide +kernel) ⟨by decide, by decide⟩) (pn_W "LatticeKeysModel$Secrets" (en_ok g) (ci := 11) (kn := 184) (fl := [(3, 172), (3, 178), (3, 185), (3, 202), (3, 207), (3, 212), (3, 217), (3, 218), (3, 219), (3, 220), (3, 221), (3, 222), (3, 223), (3, 224)]) hK hO k_h0 rfl hP hD hS hA hEn [] rfl rfl rfl) rfl rfl hl.1 rfl (lv_room (Nat.le_of_ble_eq_true rfl)) dME_keys_346 ⟨by omega, by omega⟩) (fun  u29 H locs hu29 hP hD hS => ?_)
                  obtain ⟨s31, pl⟩ := u29
                  obtain ⟨⟨eq29, hFc29, -⟩, hO⟩ := hu29
                  have hO : okn g T s31 pl := hO
                  have hP : va_P g.1 vcl ([] ++ pl) _ := hP
                  have hD : va_D _ ([] ++ pl) := hD
                  have hFc29 : frm (M_ME_hash pdk) q22.2 s31 := hFc29
                  replace hR := bnd_step hR eq29
                  replace hE := bndP_step hE eq29
                  have hF := frm_tr hF hFc29 (fun k hk => by unfold M_ME_hash at hk; unfold M_ME_keys_2; omega)
                  refine W.widen (k := 0) (n := 0) (by omega) (by omega) ?_
                  refine lv_iconst (v := nI 0) hx hb dME_keys_349 (by decide) ?_
                  refine lv_istore (lv' := [(6, .int (nI 0)), (5, .int (nI 4)), (0, .ref h0), (1, .int (nI 2)), (2, .ref sd), (3, .ref ek), (4, .ref dk)]) hx hb dME_keys_350 hl (by decide) rfl (fun ls hl => ?_)
                  have lp25 : ∀ (n25 : Nat) (i25 : Nat) (s32 : Sto) (pl : va_W) (ls : Array Slot) (H : Heap) (locs : List Loc), n25 + i25 = 32 → frm (M_ME_keys_2 pek pdk) s s32 → E_ME_keys_2_L4 psd pdk n25 i25 s32 → F_ME_keys_2 psd n pek pdk s = F_ME_keys_2_L4 psd pdk n25 i25 s32 → lv_has ls 8 [(6, .int (nI i25)), (5, .int (nI 4)), (2, .ref sd), (4, .ref dk)] → okn g T s32 pl → va_P g.1 vcl ([] ++ pl) H → va_D A ([] ++ pl) → va_S A s0.heap H locs → W p l e ({ frames := 5, cells := 0, slots := 0, locals := 118 } : Room) s0 m args below meth c H locs 0 0 (MQ below (va_Qv (fun (u : (Sto) × va_W) => (u.1 = F_ME_keys_2 psd n pek pdk s ∧ frm (M_ME_keys_2 pek pdk) s u.1 ∧ True) ∧ okn g T u.1 u.2) (po g.1 vcl A (fun (u : (Sto) × va_W) => [] ++ u.2)) A) args s0 0 0 A) (F0 m 352 ls []) := by
                    intro n25
                    induction n25 with
                    | zero =>
                      intro i25 s32 pl ls H locs hm25 hF hE hR hl hO hP hD hS
                      refine lv_iload hx hb dME_keys_352 (lv_at hl 0 rfl) ?_
                      refine lv_bipush (v := nI 32) hx hb dME_keys_354 (by decide) ?_
                      refine mi_ge (tgt := 387) hx hb dME_keys_356 (by decide) (by omega) (by omega) (fun h25 => ?_) (fun h25 => absurd h25 (by omega))
                      exact mp_vret hx hb hr hlk hP hD hS (s32, pl) ⟨⟨hR.symm, hF, trivial⟩, hO⟩ [] rfl rfl rfl (by omega) (by omega) dME_keys_387
                    | succ n25 ih25 =>
                      intro i25 s32 pl ls H locs hm25 hF hE hR hl hO hP hD hS
                      refine lv_iload hx hb dME_keys_352 (lv_at hl 0 rfl) ?_
                      refine lv_bipush (v := nI 32) hx hb dME_keys_354 (by decide) ?_
                      refine mi_ge (tgt := 387) hx hb dME_keys_356 (by decide) (by omega) (by omega) (fun h26 => absurd h26 (by omega)) (fun h26 => ?_)
                      refine lv_aload hx hb dME_keys_359 (lv_at hl 3 rfl) ?_
                      refine lv_sipush (v := nI 768) hx hb dME_keys_361 (by decide) ?_
                      refine lv_iload hx hb dME_keys_364 (lv_at hl 1 rfl) ?_
                      refine mi_imul hx hb dME_keys_366 ?_
                      refine mi_as (show nI (768 * 4) = nI 3072 from rfl) ?_
                      refine lv_bipush (v := nI 64) hx hb dME_keys_367 (by decide) ?_
                      refine mi_iadd hx hb dME_keys_369 ?_
                      refine mi_as (show nI (3072 + 64) = nI 3136 from rfl) ?_
                      refine lv_iload hx hb dME_keys_370 (lv_at hl 0 rfl) ?_
                      refine mi_iadd hx hb dME_keys_372 ?_
                      refine lv_aload_n hx hb dME_keys_373 rfl (lv_at hl 2 rfl) ?_
                      refine lv_bipush (v := nI 32) hx hb dME_keys_374 (by decide) ?_
                      refine lv_iload hx hb dME_keys_376 (lv_at hl 0 rfl) ?_
                      refine mi_iadd hx hb dME_keys_378 ?_
                      refine nw_bald hx hb hK hO k_sd (k := psd) n_sd hP (by omega) (by omega) dME_keys_379 ?_
                      refine nw_bast hx hb hK hO hU k_dk (k := pdk) n_dk hP hD hS (by omega) (by omega) dME_keys_380 (fun s33 pl H locs es21 hO hP hD hS => ?_)
                      replace hR := bnd_step hR es21
                      replace hE := bndP_step hE es21
                      have hF := frm_sB hF es21 (by unfold M_ME_keys_2; omega)
                      refine mi_iinc (k := 0) (x := i25) (d := 1) (y := i25 + 1) (lv' := [(6, .int (nI (i25 + 1))), (5, .int (nI 4)), (2, .ref sd), (4, .ref dk)]) hx hb dME_keys_381 hl rfl (by decide) rfl (by decide) rfl (fun ls hl => ?_)
                      refine lv_goto (tgt := 352) hx hb dME_keys_384 (by decide) ?_
                      exact ih25 (i25 + 1) s33 pl ls H locs (by omega) hF hE hR (lv_sub hl [0, 1, 2, 3] rfl) hO hP hD hS
                  exact lp25 32 0 s31 pl ls _ _ (by omega) hF hE hR (lv_sub hl [0, 1, 4, 6] rfl) hO hP hD hS
                | succ n24 ih24 =>
                  intro i24 s30 pl ls H locs hm24 hF hE hR hl hO hP hD hS
                  refine lv_iload hx hb dME_keys_297 (lv_at hl 0 rfl) ?_
                  refine lv_iload_n hx hb dME_keys_299 rfl (lv_at hl 3 rfl) ?_
                  refine mp_i (cx := []) (wr := []) hP hD hS hA [] [] rfl rfl rfl (by decide) (va_runS (As := [.int (nI 2)]) (rest := [.int (nI i24)]) F (N_ME_openSize_2 l g _ T s30 pl hO hU ) (va_cwS 1 hts (wg_app (wg_c kw_1691 (wg_c kw_1692 (wg_c kw_11 wg_n))) kw_1693) rfl rfl rfl (by decide +kernel) ⟨by decide, by decide⟩) (pp_S (en_ok g) hP hD hS hA hEn [] rfl rfl) rfl rfl hl.1 rfl (lv_room (Nat.le_of_ble_eq_true rfl)) dME_keys_300 ⟨by omega, by omega⟩) (fun r30 u30 H locs hu30 hP hD hS => ?_)
                  obtain ⟨q23, pl⟩ := u30
                  obtain ⟨⟨eq30, rfl, hFc30, ⟨x40, hx_40, hb_40⟩, hxp30, -⟩, hO⟩ := hu30
                  have hO : okn g T q23.2 pl := hO
                  have hP : va_P g.1 vcl ([] ++ pl) _ := hP
                  have hD : va_D _ ([] ++ pl) := hD
                  have hFc30 : frm (M_ME_openSize_2) s30 q23.2 := hFc30
                  have hb_40 : x40 < 1569 := hb_40
                  replace hR := bnd_step hR eq30
                  replace hE := bndP_step hE eq30
                  have hF := frm_tr hF hFc30 (fun k hk => by unfold M_ME_openSize_2 at hk; unfold M_ME_keys_2; omega)
                  obtain ⟨z23, ez23, hz25, hz26⟩ := cl_of (b := 2147483648) hx_40 (by omega) (by decide)
                  replace hR := bnd_step hR ez23
                  replace hE := bndP_step hE ez23
                  refine mi_as hz25 ?_
                  have hsz23 : z23 = 1568 := (nI_eq (by omega) (by omega)).mp (hz25.symm.trans hxp30)
                  subst hsz23
                  refine W.widen (k := 0) (n := 0) (by omega) (by omega) ?_
                  refine mi_ge (tgt := 328) hx hb dME_keys_303 (by decide) (by omega) (by omega) (fun h27 => absurd h27 (by omega)) (fun h27 => ?_)
                  refine lv_aload hx hb dME_keys_306 (lv_at hl 6 rfl) ?_
                  refine lv_sipush (v := nI 384) hx hb dME_keys_308 (by decide) ?_
                  refine lv_iload hx hb dME_keys_311 (lv_at hl 1 rfl) ?_
                  refine mi_imul hx hb dME_keys_313 ?_
                  refine mi_as (show nI (384 * 4) = nI 1536 from rfl) ?_
                  refine lv_iload hx hb dME_keys_314 (lv_at hl 0 rfl) ?_
                  refine mi_iadd hx hb dME_keys_316 ?_
                  refine lv_aload_n hx hb dME_keys_317 rfl (lv_at hl 5 rfl) ?_
                  refine lv_iload hx hb dME_keys_318 (lv_at hl 0 rfl) ?_
                  refine nw_bald hx hb hK hO k_ek (k := pek) n_ek hP (by omega) (by omega) dME_keys_320 ?_
                  refine nw_bast hx hb hK hO hU k_dk (k := pdk) n_dk hP hD hS (by omega) (by omega) dME_keys_321 (fun s34 pl H locs es22 hO hP hD hS => ?_)
                  replace hR := bnd_step hR es22
                  replace hE := bndP_step hE es22
                  have hF := frm_sB hF es22 (by unfold M_ME_keys_2; omega)
                  refine mi_iinc (k := 0) (x := i24) (d := 1) (y := i24 + 1) (lv' := [(6, .int (nI (i24 + 1))), (5, .int (nI 4)), (0, .ref h0), (1, .int (nI 2)), (2, .ref sd), (3, .ref ek), (4, .ref dk)]) hx hb dME_keys_322 hl rfl (by decide) rfl (by decide) rfl (fun ls hl => ?_)
                  refine lv_goto (tgt := 297) hx hb dME_keys_325 (by decide) ?_
                  exact ih24 (i24 + 1) s34 pl ls H locs (by omega) hF hE hR (lv_sub hl [0, 1, 2, 3, 4, 5, 6] rfl) hO hP hD hS
              exact lp24 1568 0 s29 pl ls _ _ (by omega) hF hE hR (lv_sub hl [0, 1, 2, 3, 4, 5, 6] rfl) hO hP hD hS
            | succ n23 ih23 =>
              intro i23 s29 pl ls H locs hm23 hF hE hR hl hO hP hD hS
              refine lv_iload hx hb dME_keys_263 (lv_at hl 0 rfl) ?_
              refine lv_bipush (v := nI 32) hx hb dME_keys_265 (by decide) ?_
              refine mi_ge (tgt := 294) hx hb dME_keys_267 (by decide) (by omega) (by omega) (fun h28 => absurd h28 (by omega)) (fun h28 => ?_)
              refine lv_aload_n hx hb dME_keys_270 rfl (lv_at hl 5 rfl) ?_
              refine lv_sipush (v := nI 384) hx hb dME_keys_271 (by decide) ?_
              refine lv_iload hx hb dME_keys_274 (lv_at hl 1 rfl) ?_
              refine mi_imul hx hb dME_keys_276 ?_
              refine mi_as (show nI (384 * 4) = nI 1536 from rfl) ?_
              refine lv_iload hx hb dME_keys_277 (lv_at hl 0 rfl) ?_
              refine mi_iadd hx hb dME_keys_279 ?_
              refine lv_aload_n hx hb dME_keys_280 rfl (lv_at hl 2 rfl) ?_
              refine nw_get (C := "LatticeKeysModel$Secrets") (TT := T_ME) (N := 14) hx hb hts (wg_ft i_ME) hown hK hO k_h0 (kn := 184) (ci := 11) (fl := [(3, 172), (3, 178), (3, 185), (3, 202), (3, 207), (3, 212), (3, 217), (3, 218), (3, 219), (3, 220), (3, 221), (3, 222), (3, 223), (3, 224)]) rfl hP rfl 9 (by decide) (hts _ (wg_t kw_1388)) (fun _ h9 => h9) (cd := (3, 220)) rfl dME_keys_281 (fun v28 hv28 => ?_)
              obtain ⟨r31, rfl, kr28⟩ := (show ∃ r : Nat, v28 = .ref r ∧ T r = some 220 from hv28)
              refine lv_iload hx hb dME_keys_284 (lv_at hl 0 rfl) ?_
              refine nw_bald hx hb hK hO kr28 (k := 220) rfl hP (by omega) (by omega) dME_keys_286 ?_
              refine nw_bast hx hb hK hO hU k_ek (k := pek) n_ek hP hD hS (by omega) (by omega) dME_keys_287 (fun s35 pl H locs es23 hO hP hD hS => ?_)
              replace hR := bnd_step hR es23
              replace hE := bndP_step hE es23
              have hF := frm_sB hF es23 (by unfold M_ME_keys_2; omega)
              refine mi_iinc (k := 0) (x := i23) (d := 1) (y := i23 + 1) (lv' := [(6, .int (nI (i23 + 1))), (5, .int (nI 4)), (0, .ref h0), (1, .int (nI 2)), (2, .ref sd), (3, .ref ek), (4, .ref dk)]) hx hb dME_keys_288 hl rfl (by decide) rfl (by decide) rfl (fun ls hl => ?_)
              refine lv_goto (tgt := 263) hx hb dME_keys_291 (by decide) ?_
              exact ih23 (i23 + 1) s35 pl ls H locs (by omega) hF hE hR (lv_sub hl [0, 1, 2, 3, 4, 5, 6] rfl) hO hP hD hS
          exact lp23 32 0 s28 pl ls _ _ (by omega) hF hE hR (lv_sub hl [0, 1, 2, 3, 4, 5, 6] rfl) hO hP hD hS
        | succ n22 ih22 =>
          intro i22 s28 pl ls H locs hm22 hF hE hR hl hO hP hD hS
          refine lv_iload hx hb dME_keys_162 (lv_at hl 0 rfl) ?_
          refine lv_iload hx hb dME_keys_164 (lv_at hl 1 rfl) ?_
          refine mi_ge (tgt := 260) hx hb dME_keys_166 (by decide) (by omega) (by omega) (fun h29 => absurd h29 (by omega)) (fun h29 => ?_)
          refine lv_iconst (v := nI 0) hx hb dME_keys_169 (by decide) ?_
          refine lv_istore (lv' := [(7, .int (nI 0)), (6, .int (nI i22)), (5, .int (nI 4)), (0, .ref h0), (1, .int (nI 2)), (2, .ref sd), (3, .ref ek), (4, .ref dk)]) hx hb dME_keys_170 hl (by decide) rfl (fun ls hl => ?_)
          have lp26 : ∀ (n26 : Nat) (i26 : Nat) (s36 : Sto) (pl : va_W) (ls : Array Slot) (H : Heap) (locs : List Loc), n26 + i26 = 4 → frm (M_ME_keys_2 pek pdk) s s36 → E_ME_keys_2_L5 pek pdk i22 (E_ME_keys_2_L1 psd pek pdk n22) n26 i26 s36 → F_ME_keys_2 psd n pek pdk s = F_ME_keys_2_L5 pek pdk i22 (F_ME_keys_2_L1 psd pek pdk n22) n26 i26 s36 → lv_has ls 8 [(7, .int (nI i26)), (6, .int (nI i22)), (5, .int (nI 4)), (0, .ref h0), (1, .int (nI 2)), (2, .ref sd), (3, .ref ek), (4, .ref dk)] → okn g T s36 pl → va_P g.1 vcl ([] ++ pl) H → va_D A ([] ++ pl) → va_S A s0.heap H locs → W p l e ({ frames := 5, cells := 0, slots := 0, locals := 118 } : Room) s0 m args below meth c H locs 0 0 (MQ below (va_Qv (fun (u : (Sto) × va_W) => (u.1 = F_ME_keys_2 psd n pek pdk s ∧ frm (M_ME_keys_2 pek pdk) s u.1 ∧ True) ∧ okn g T u.1 u.2) (po g.1 vcl A (fun (u : (Sto) × va_W) => [] ++ u.2)) A) args s0 0 0 A) (F0 m 172 ls []) := by
            intro n26
            induction n26 with
            | zero =>
              intro i26 s36 pl ls H locs hm26 hF hE hR hl hO hP hD hS
              refine lv_iload hx hb dME_keys_172 (lv_at hl 0 rfl) ?_
              refine lv_iload hx hb dME_keys_174 (lv_at hl 2 rfl) ?_
              refine mi_ge (tgt := 215) hx hb dME_keys_176 (by decide) (by omega) (by omega) (fun h30 => ?_) (fun h30 => absurd h30 (by omega))
              refine lv_aload_n hx hb dME_keys_215 rfl (lv_at hl 3 rfl) ?_
              refine nw_get (C := "LatticeKeysModel$Secrets") (TT := T_ME) (N := 14) hx hb hts (wg_ft i_ME) hown hK hO k_h0 (kn := 184) (ci := 11) (fl := [(3, 172), (3, 178), (3, 185), (3, 202), (3, 207), (3, 212), (3, 217), (3, 218), (3, 219), (3, 220), (3, 221), (3, 222), (3, 223), (3, 224)]) rfl hP rfl 4 (by decide) (hts _ (wg_t kw_1383)) (fun _ h9 => h9) (cd := (3, 207)) rfl dME_keys_216 (fun v29 hv29 => ?_)
              obtain ⟨r32, rfl, kr29⟩ := (show ∃ r : Nat, v29 = .ref r ∧ T r = some 207 from hv29)
              refine lv_iload hx hb dME_keys_219 (lv_at hl 1 rfl) ?_
              refine nw_aald3 hx hb hK hO kr29 (k := 207) (b := 208) rfl hP (by omega) (by omega) dME_keys_221 (fun r33 kr30 => ?_)
              have hn21 : nsp (208 + i22) = (0, 256, []) := rows_ok 208 4 (by decide) _ (by omega)
              refine lv_aload_n hx hb dME_keys_222 rfl (lv_at hl 6 rfl) ?_
              refine lv_sipush (v := nI 384) hx hb dME_keys_223 (by decide) ?_
              refine lv_iload hx hb dME_keys_226 (lv_at hl 1 rfl) ?_
              refine mi_imul hx hb dME_keys_228 ?_
              refine lv_bipush (v := nI 12) hx hb dME_keys_229 (by decide) ?_
              refine mp_v (cx := []) (wr := []) hP hD hS hA [] [] rfl rfl rfl (by decide) (va_runS (As := [.ref r33, .ref ek, .int (nI (384 * i22)), .int (nI 12)]) (rest := []) F (N_ME_write_12 l g _ T s36 pl hO hU r33 ek (208 + i22) pek 2592 (384 * i22) kr30 hn21 k_ek n_ek (by omega) (by omega)) (va_cwS 4 hts (wg_app (wg_c kw_1685 (wg_c kw_1686 (wg_c kw_11 wg_n))) kw_1687) rfl rfl rfl (by decide +kernel) ⟨by decide, by decide⟩) (pp_S (en_ok g) hP hD hS hA hEn [] rfl rfl) rfl rfl hl.1 rfl (lv_room (Nat.le_of_ble_eq_true rfl)) dME_keys_231 ⟨by omega, by omega⟩) (fun  u31 H locs hu31 hP hD hS => ?_)
              obtain ⟨s37, pl⟩ := u31
              obtain ⟨⟨eq31, hFc31, -⟩, hO⟩ := hu31
              have hO : okn g T s37 pl := hO
              have hP : va_P g.1 vcl ([] ++ pl) _ := hP
              have hD : va_D _ ([] ++ pl) := hD
              have hFc31 : frm (M_ME_write_12 pek) s36 s37 := hFc31
              replace hR := bnd_step hR eq31
              replace hE := bndP_step hE eq31
              have hF := frm_tr hF hFc31 (fun k hk => by unfold M_ME_write_12 at hk; unfold M_ME_keys_2; omega)
              refine W.widen (k := 0) (n := 0) (by omega) (by omega) ?_
              refine lv_aload_n hx hb dME_keys_234 rfl (lv_at hl 3 rfl) ?_
              refine nw_get (C := "LatticeKeysModel$Secrets") (TT := T_ME) (N := 14) hx hb hts (wg_ft i_ME) hown hK hO k_h0 (kn := 184) (ci := 11) (fl := [(3, 172), (3, 178), (3, 185), (3, 202), (3, 207), (3, 212), (3, 217), (3, 218), (3, 219), (3, 220), (3, 221), (3, 222), (3, 223), (3, 224)]) rfl hP rfl 3 (by decide) (hts _ (wg_t kw_1382)) (fun _ h9 => h9) (cd := (3, 202)) rfl dME_keys_235 (fun v30 hv30 => ?_)
              obtain ⟨r34, rfl, kr31⟩ := (show ∃ r : Nat, v30 = .ref r ∧ T r = some 202 from hv30)
              refine lv_iload hx hb dME_keys_238 (lv_at hl 1 rfl) ?_
              refine nw_aald3 hx hb hK hO kr31 (k := 202) (b := 203) rfl hP (by omega) (by omega) dME_keys_240 (fun r35 kr32 => ?_)
              have hn22 : nsp (203 + i22) = (0, 256, []) := rows_ok 203 4 (by decide) _ (by omega)
              refine lv_aload hx hb dME_keys_241 (lv_at hl 7 rfl) ?_
              refine lv_sipush (v := nI 384) hx hb dME_keys_243 (by decide) ?_
              refine lv_iload hx hb dME_keys_246 (lv_at hl 1 rfl) ?_
              refine mi_imul hx hb dME_keys_248 ?_
              refine lv_bipush (v := nI 12) hx hb dME_keys_249 (by decide) ?_
              refine mp_v (cx := []) (wr := []) hP hD hS hA [] [] rfl rfl rfl (by decide) (va_runS (As := [.ref r35, .ref dk, .int (nI (384 * i22)), .int (nI 12)]) (rest := []) F (N_ME_write_12 l g _ T s37 pl hO hU r35 dk (203 + i22) pdk 4896 (384 * i22) kr32 hn22 k_dk n_dk (by omega) (by omega)) (va_cwS 4 hts (wg_app (wg_c kw_1685 (wg_c kw_1686 (wg_c kw_11 wg_n))) kw_1687) rfl rfl rfl (by decide +kernel) ⟨by decide, by decide⟩) (pp_S (en_ok g) hP hD hS hA hEn [] rfl rfl) rfl rfl hl.1 rfl (lv_room (Nat.le_of_ble_eq_true rfl)) dME_keys_251 ⟨by omega, by omega⟩) (fun  u32 H locs hu32 hP hD hS => ?_)
              obtain ⟨s38, pl⟩ := u32
              obtain ⟨⟨eq32, hFc32, -⟩, hO⟩ := hu32
              have hO : okn g T s38 pl := hO
              have hP : va_P g.1 vcl ([] ++ pl) _ := hP
              have hD : va_D _ ([] ++ pl) := hD
              have hFc32 : frm (M_ME_write_12 pdk) s37 s38 := hFc32
              replace hR := bnd_step hR eq32
              replace hE := bndP_step hE eq32
              have hF := frm_tr hF hFc32 (fun k hk => by unfold M_ME_write_12 at hk; unfold M_ME_keys_2; omega)
              refine W.widen (k := 0) (n := 0) (by omega) (by omega) ?_
              refine mi_iinc (k := 1) (x := i22) (d := 1) (y := i22 + 1) (lv' := [(6, .int (nI (i22 + 1))), (7, .int (nI i26)), (5, .int (nI 4)), (0, .ref h0), (1, .int (nI 2)), (2, .ref sd), (3, .ref ek), (4, .ref dk)]) hx hb dME_keys_254 hl rfl (by decide) rfl (by decide) rfl (fun ls hl => ?_)
              refine lv_goto (tgt := 162) hx hb dME_keys_257 (by decide) ?_
              exact ih22 (i22 + 1) s38 pl ls H locs (by omega) hF hE hR (lv_sub hl [0, 2, 3, 4, 5, 6, 7] rfl) hO hP hD hS
            | succ n26 ih26 =>
              intro i26 s36 pl ls H locs hm26 hF hE hR hl hO hP hD hS
              refine lv_iload hx hb dME_keys_172 (lv_at hl 0 rfl) ?_
              refine lv_iload hx hb dME_keys_174 (lv_at hl 2 rfl) ?_
              refine mi_ge (tgt := 215) hx hb dME_keys_176 (by decide) (by omega) (by omega) (fun h31 => absurd h31 (by omega)) (fun h31 => ?_)
              refine lv_aload_n hx hb dME_keys_179 rfl (lv_at hl 3 rfl) ?_
              refine lv_aload_n hx hb dME_keys_180 rfl (lv_at hl 3 rfl) ?_
              refine nw_get (C := "LatticeKeysModel$Secrets") (TT := T_ME) (N := 14) hx hb hts (wg_ft i_ME) hown hK hO k_h0 (kn := 184) (ci := 11) (fl := [(3, 172), (3, 178), (3, 185), (3, 202), (3, 207), (3, 212), (3, 217), (3, 218), (3, 219), (3, 220), (3, 221), (3, 222), (3, 223), (3, 224)]) rfl hP rfl 2 (by decide) (hts _ (wg_t kw_1381)) (fun _ h9 => h9) (cd := (3, 185)) rfl dME_keys_181 (fun v31 hv31 => ?_)
              obtain ⟨r36, rfl, kr33⟩ := (show ∃ r : Nat, v31 = .ref r ∧ T r = some 185 from hv31)
              refine lv_iconst (v := nI 4) hx hb dME_keys_184 (by decide) ?_
              refine lv_iload hx hb dME_keys_185 (lv_at hl 1 rfl) ?_
              refine mi_imul hx hb dME_keys_187 ?_
              refine lv_iload hx hb dME_keys_188 (lv_at hl 0 rfl) ?_
              refine mi_iadd hx hb dME_keys_190 ?_
              refine nw_aald3 hx hb hK hO kr33 (k := 185) (b := 186) rfl hP (by omega) (by omega) dME_keys_191 (fun r37 kr34 => ?_)
              have hn23 : nsp (186 + ((4 * i22) + i26)) = (0, 256, []) := rows_ok 186 16 (by decide) _ (by omega)
              refine lv_aload_n hx hb dME_keys_192 rfl (lv_at hl 3 rfl) ?_
              refine nw_get (C := "LatticeKeysModel$Secrets") (TT := T_ME) (N := 14) hx hb hts (wg_ft i_ME) hown hK hO k_h0 (kn := 184) (ci := 11) (fl := [(3, 172), (3, 178), (3, 185), (3, 202), (3, 207), (3, 212), (3, 217), (3, 218), (3, 219), (3, 220), (3, 221), (3, 222), (3, 223), (3, 224)]) rfl hP rfl 3 (by decide) (hts _ (wg_t kw_1382)) (fun _ h9 => h9) (cd := (3, 202)) rfl dME_keys_193 (fun v32 hv32 => ?_)
              obtain ⟨r38, rfl, kr35⟩ := (show ∃ r : Nat, v32 = .ref r ∧ T r = some 202 from hv32)
              refine lv_iload hx hb dME_keys_196 (lv_at hl 0 rfl) ?_
              refine nw_aald3 hx hb hK hO kr35 (k := 202) (b := 203) rfl hP (by omega) (by omega) dME_keys_198 (fun r39 kr36 => ?_)
              have hn24 : nsp (203 + i26) = (0, 256, []) := rows_ok 203 4 (by decide) _ (by omega)
              refine lv_aload_n hx hb dME_keys_199 rfl (lv_at hl 3 rfl) ?_
              refine nw_get (C := "LatticeKeysModel$Secrets") (TT := T_ME) (N := 14) hx hb hts (wg_ft i_ME) hown hK hO k_h0 (kn := 184) (ci := 11) (fl := [(3, 172), (3, 178), (3, 185), (3, 202), (3, 207), (3, 212), (3, 217), (3, 218), (3, 219), (3, 220), (3, 221), (3, 222), (3, 223), (3, 224)]) rfl hP rfl 4 (by decide) (hts _ (wg_t kw_1383)) (fun _ h9 => h9) (cd := (3, 207)) rfl dME_keys_200 (fun v33 hv33 => ?_)
              obtain ⟨r40, rfl, kr37⟩ := (show ∃ r : Nat, v33 = .ref r ∧ T r = some 207 from hv33)
              refine lv_iload hx hb dME_keys_203 (lv_at hl 1 rfl) ?_
              refine nw_aald3 hx hb hK hO kr37 (k := 207) (b := 208) rfl hP (by omega) (by omega) dME_keys_205 (fun r41 kr38 => ?_)
              have hn25 : nsp (208 + i22) = (0, 256, []) := rows_ok 208 4 (by decide) _ (by omega)
              refine mp_v (cx := []) (wr := []) hP hD hS hA [] [] rfl rfl rfl (by decide) (va_runV (As := [.ref r37, .ref r39, .ref r41]) (rest := []) F (N_ME_product l g _ T s36 pl hO hU h0 r37 r39 r41 (186 + ((4 * i22) + i26)) (203 + i26) (208 + i22) k_h0 kr34 hn23 kr36 hn24 kr38 hn25) (cwV 3 hts (wg_app (wg_c kw_1676 (wg_c kw_1678 (wg_c ks_58 (wg_c kw_11 wg_n)))) kw_1679) rfl rfl rfl (by decide +kernel) ⟨by decide, by decide⟩) (pn_W "LatticeKeysModel$Secrets" (en_ok g) (ci := 11) (kn := 184) (fl := [(3, 172), (3, 178), (3, 185), (3, 202), (3, 207), (3, 212), (3, 217), (3, 218), (3, 219), (3, 220), (3, 221), (3, 222), (3, 223), (3, 224)]) hK hO k_h0 rfl hP hD hS hA hEn [] rfl rfl rfl) rfl rfl hl.1 rfl (lv_room (Nat.le_of_ble_eq_true rfl)) dME_keys_206 ⟨by omega, by omega⟩) (fun  u33 H locs hu33 hP hD hS => ?_)
              obtain ⟨s39, pl⟩ := u33
              obtain ⟨⟨eq33, hFc33, -⟩, hO⟩ := hu33
              have hO : okn g T s39 pl := hO
              have hP : va_P g.1 vcl ([] ++ pl) _ := hP
              have hD : va_D _ ([] ++ pl) := hD
              have hFc33 : frm (M_ME_product (208 + i22)) s36 s39 := hFc33
              replace hR := bnd_step hR eq33
              replace hE := bndP_step hE eq33
              have hF := frm_tr hF hFc33 (fun k hk => by unfold M_ME_product at hk; unfold M_ME_keys_2; omega)
              refine W.widen (k := 0) (n := 0) (by omega) (by omega) ?_
              refine mi_iinc (k := 0) (x := i26) (d := 1) (y := i26 + 1) (lv' := [(7, .int (nI (i26 + 1))), (6, .int (nI i22)), (5, .int (nI 4)), (0, .ref h0), (1, .int (nI 2)), (2, .ref sd), (3, .ref ek), (4, .ref dk)]) hx hb dME_keys_209 hl rfl (by decide) rfl (by decide) rfl (fun ls hl => ?_)
              refine lv_goto (tgt := 172) hx hb dME_keys_212 (by decide) ?_
              exact ih26 (i26 + 1) s39 pl ls H locs (by omega) hF hE hR (lv_sub hl [0, 1, 2, 3, 4, 5, 6, 7] rfl) hO hP hD hS
          exact lp26 4 0 s28 pl ls _ _ (by omega) hF hE hR (lv_sub hl [0, 1, 2, 3, 4, 5, 6, 7] rfl) hO hP hD hS
      exact lp22 4 0 s27 pl ls _ _ (by omega) hF hE hR (lv_sub hl [0, 1, 2, 3, 4, 5, 6] rfl) hO hP hD hS
    | succ n21 ih21 =>
      intro i21 s27 pl ls H locs hm21 hF hE hR hl hO hP hD hS
      refine lv_iload hx hb dME_keys_73 (lv_at hl 0 rfl) ?_
      refine lv_iload hx hb dME_keys_75 (lv_at hl 1 rfl) ?_
      refine mi_ge (tgt := 159) hx hb dME_keys_77 (by decide) (by omega) (by omega) (fun h32 => absurd h32 (by omega)) (fun h32 => ?_)
      refine lv_aload_n hx hb dME_keys_80 rfl (lv_at hl 2 rfl) ?_
      refine lv_aload_n hx hb dME_keys_81 rfl (lv_at hl 2 rfl) ?_
      refine nw_get (C := "LatticeKeysModel$Secrets") (TT := T_ME) (N := 14) hx hb hts (wg_ft i_ME) hown hK hO k_h0 (kn := 184) (ci := 11) (fl := [(3, 172), (3, 178), (3, 185), (3, 202), (3, 207), (3, 212), (3, 217), (3, 218), (3, 219), (3, 220), (3, 221), (3, 222), (3, 223), (3, 224)]) rfl hP rfl 3 (by decide) (hts _ (wg_t kw_1382)) (fun _ h9 => h9) (cd := (3, 202)) rfl dME_keys_82 (fun v34 hv34 => ?_)
      obtain ⟨r42, rfl, kr39⟩ := (show ∃ r : Nat, v34 = .ref r ∧ T r = some 202 from hv34)
      refine lv_iload hx hb dME_keys_85 (lv_at hl 0 rfl) ?_
      refine nw_aald3 hx hb hK hO kr39 (k := 202) (b := 203) rfl hP (by omega) (by omega) dME_keys_87 (fun r43 kr40 => ?_)
      have hn26 : nsp (203 + i21) = (0, 256, []) := rows_ok 203 4 (by decide) _ (by omega)
      refine lv_aload_n hx hb dME_keys_88 rfl (lv_at hl 2 rfl) ?_
      refine nw_get (C := "LatticeKeysModel$Secrets") (TT := T_ME) (N := 14) hx hb hts (wg_ft i_ME) hown hK hO k_h0 (kn := 184) (ci := 11) (fl := [(3, 172), (3, 178), (3, 185), (3, 202), (3, 207), (3, 212), (3, 217), (3, 218), (3, 219), (3, 220), (3, 221), (3, 222), (3, 223), (3, 224)]) rfl hP rfl 9 (by decide) (hts _ (wg_t kw_1388)) (fun _ h9 => h9) (cd := (3, 220)) rfl dME_keys_89 (fun v35 hv35 => ?_)
      obtain ⟨r44, rfl, kr41⟩ := (show ∃ r : Nat, v35 = .ref r ∧ T r = some 220 from hv35)
      refine lv_bipush (v := nI 32) hx hb dME_keys_92 (by decide) ?_
      refine lv_iload hx hb dME_keys_94 (lv_at hl 0 rfl) ?_
      refine va_gets hx hb (hEn.2.1 20 _ rfl).1 hS hown (hts _ (wg_t kw_1654)) (fun _ h9 => h9) dME_keys_96 ?_
      refine lv_iload_n hx hb dME_keys_99 rfl (lv_at hl 3 rfl) ?_
      refine va_ti (v := .int (nI 2)) hx hb (hEn.2.1 20 _ rfl).2 hS (vp_in_nI (by decide) (by decide)) (by decide +kernel) dME_keys_100 ?_
      refine mp_v (cx := []) (wr := []) hP hD hS hA [] [] rfl rfl rfl (by decide) (va_runV (As := [.ref r43, .ref r44, .int (nI 32), .int (nI i21), .int (nI 2)]) (rest := []) F (N_ME_noise_2 l g _ T s27 pl hO hU h0 r43 r44 (203 + i21) 220 64 32 (nI i21) k_h0 kr40 hn26 kr41 rfl (by omega) (by omega)) (cwV 5 hts (wg_app (wg_c kw_1656 (wg_c kw_1658 (wg_c ks_56 (wg_c kw_11 wg_n)))) kw_1659) rfl rfl rfl (by decide +kernel) ⟨by decide, by decide⟩) (pn_W "LatticeKeysModel$Secrets" (en_ok g) (ci := 11) (kn := 184) (fl := [(3, 172), (3, 178), (3, 185), (3, 202), (3, 207), (3, 212), (3, 217), (3, 218), (3, 219), (3, 220), (3, 221), (3, 222), (3, 223), (3, 224)]) hK hO k_h0 rfl hP hD hS hA hEn [] rfl rfl rfl) rfl rfl hl.1 rfl (lv_room (Nat.le_of_ble_eq_true rfl)) dME_keys_101 ⟨by omega, by omega⟩) (fun  u34 H locs hu34 hP hD hS => ?_)
      obtain ⟨s40, pl⟩ := u34
      obtain ⟨⟨eq34, hFc34, -⟩, hO⟩ := hu34
      have hO : okn g T s40 pl := hO
      have hP : va_P g.1 vcl ([] ++ pl) _ := hP
      have hD : va_D _ ([] ++ pl) := hD
      have hFc34 : frm (M_ME_noise_2 (203 + i21)) s27 s40 := hFc34
      replace hR := bnd_step hR eq34
      replace hE := bndP_step hE eq34
      have hF := frm_tr hF hFc34 (fun k hk => by unfold M_ME_noise_2 at hk; unfold M_ME_keys_2; omega)
      refine W.widen (k := 0) (n := 0) (by omega) (by omega) ?_
      refine lv_aload_n hx hb dME_keys_104 rfl (lv_at hl 2 rfl) ?_
      refine lv_aload_n hx hb dME_keys_105 rfl (lv_at hl 2 rfl) ?_
      refine nw_get (C := "LatticeKeysModel$Secrets") (TT := T_ME) (N := 14) hx hb hts (wg_ft i_ME) hown hK hO k_h0 (kn := 184) (ci := 11) (fl := [(3, 172), (3, 178), (3, 185), (3, 202), (3, 207), (3, 212), (3, 217), (3, 218), (3, 219), (3, 220), (3, 221), (3, 222), (3, 223), (3, 224)]) rfl hP rfl 4 (by decide) (hts _ (wg_t kw_1383)) (fun _ h9 => h9) (cd := (3, 207)) rfl dME_keys_106 (fun v36 hv36 => ?_)
      obtain ⟨r45, rfl, kr42⟩ := (show ∃ r : Nat, v36 = .ref r ∧ T r = some 207 from hv36)
      refine lv_iload hx hb dME_keys_109 (lv_at hl 0 rfl) ?_
      refine nw_aald3 hx hb hK hO kr42 (k := 207) (b := 208) rfl hP (by omega) (by omega) dME_keys_111 (fun r46 kr43 => ?_)
      have hn27 : nsp (208 + i21) = (0, 256, []) := rows_ok 208 4 (by decide) _ (by omega)
      refine lv_aload_n hx hb dME_keys_112 rfl (lv_at hl 2 rfl) ?_
      refine nw_get (C := "LatticeKeysModel$Secrets") (TT := T_ME) (N := 14) hx hb hts (wg_ft i_ME) hown hK hO k_h0 (kn := 184) (ci := 11) (fl := [(3, 172), (3, 178), (3, 185), (3, 202), (3, 207), (3, 212), (3, 217), (3, 218), (3, 219), (3, 220), (3, 221), (3, 222), (3, 223), (3, 224)]) rfl hP rfl 9 (by decide) (hts _ (wg_t kw_1388)) (fun _ h9 => h9) (cd := (3, 220)) rfl dME_keys_113 (fun v37 hv37 => ?_)
      obtain ⟨r47, rfl, kr44⟩ := (show ∃ r : Nat, v37 = .ref r ∧ T r = some 220 from hv37)
      refine lv_bipush (v := nI 32) hx hb dME_keys_116 (by decide) ?_
      refine lv_iload hx hb dME_keys_118 (lv_at hl 1 rfl) ?_
      refine lv_iload hx hb dME_keys_120 (lv_at hl 0 rfl) ?_
      refine mi_iadd hx hb dME_keys_122 ?_
      refine va_gets hx hb (hEn.2.1 20 _ rfl).1 hS hown (hts _ (wg_t kw_1654)) (fun _ h9 => h9) dME_keys_123 ?_
      refine lv_iload_n hx hb dME_keys_126 rfl (lv_at hl 3 rfl) ?_
      refine va_ti (v := .int (nI 2)) hx hb (hEn.2.1 20 _ rfl).2 hS (vp_in_nI (by decide) (by decide)) (by decide +kernel) dME_keys_127 ?_
      refine mp_v (cx := []) (wr := []) hP hD hS hA [] [] rfl rfl rfl (by decide) (va_runV (As := [.ref r46, .ref r47, .int (nI 32), .int (nI (4 + i21)), .int (nI 2)]) (rest := []) F (N_ME_noise_2 l g _ T s40 pl hO hU h0 r46 r47 (208 + i21) 220 64 32 (nI (4 + i21)) k_h0 kr43 hn27 kr44 rfl (by omega) (by omega)) (cwV 5 hts (wg_app (wg_c kw_1656 (wg_c kw_1658 (wg_c ks_56 (wg_c kw_11 wg_n)))) kw_1659) rfl rfl rfl (by decide +kernel) ⟨by decide, by decide⟩) (pn_W "LatticeKeysModel$Secrets" (en_ok g) (ci := 11) (kn := 184) (fl := [(3, 172), (3, 178), (3, 185), (3, 202), (3, 207), (3, 212), (3, 217), (3, 218), (3, 219), (3, 220), (3, 221), (3, 222), (3, 223), (3, 224)]) hK hO k_h0 rfl hP hD hS hA hEn [] rfl rfl rfl) rfl rfl hl.1 rfl (lv_room (Nat.le_of_ble_eq_true rfl)) dME_keys_128 ⟨by omega, by omega⟩) (fun  u35 H locs hu35 hP hD hS => ?_)
      obtain ⟨s41, pl⟩ := u35
      obtain ⟨⟨eq35, hFc35, -⟩, hO⟩ := hu35
      have hO : okn g T s41 pl := hO
      have hP : va_P g.1 vcl ([] ++ pl) _ := hP
      have hD : va_D _ ([] ++ pl) := hD
      have hFc35 : frm (M_ME_noise_2 (208 + i21)) s40 s41 := hFc35
      replace hR := bnd_step hR eq35
      replace hE := bndP_step hE eq35
      have hF := frm_tr hF hFc35 (fun k hk => by unfold M_ME_noise_2 at hk; unfold M_ME_keys_2; omega)
      refine W.widen (k := 0) (n := 0) (by omega) (by omega) ?_
      refine lv_aload_n hx hb dME_keys_131 rfl (lv_at hl 2 rfl) ?_
      refine lv_aload_n hx hb dME_keys_132 rfl (lv_at hl 2 rfl) ?_
      refine nw_get (C := "LatticeKeysModel$Secrets") (TT := T_ME) (N := 14) hx hb hts (wg_ft i_ME) hown hK hO k_h0 (kn := 184) (ci := 11) (fl := [(3, 172), (3, 178), (3, 185), (3, 202), (3, 207), (3, 212), (3, 217), (3, 218), (3, 219), (3, 220), (3, 221), (3, 222), (3, 223), (3, 224)]) rfl hP rfl 3 (by decide) (hts _ (wg_t kw_1382)) (fun _ h9 => h9) (cd := (3, 202)) rfl dME_keys_133 (fun v38 hv38 => ?_)
      obtain ⟨r48, rfl, kr45⟩ := (show ∃ r : Nat, v38 = .ref r ∧ T r = some 202 from hv38)
      refine lv_iload hx hb dME_keys_136 (lv_at hl 0 rfl) ?_
      refine nw_aald3 hx hb hK hO kr45 (k := 202) (b := 203) rfl hP (by omega) (by omega) dME_keys_138 (fun r49 kr46 => ?_)
      have hn28 : nsp (203 + i21) = (0, 256, []) := rows_ok 203 4 (by decide) _ (by omega)
      refine mp_v (cx := []) (wr := []) hP hD hS hA [] [] rfl rfl rfl (by decide) (va_runV (As := [.ref r49]) (rest := []) F (N_ME_forth l g _ T s41 pl hO hU h0 r49 (203 + i21) k_h0 kr46 hn28) (cwV 1 hts (wg_app (wg_c kw_1668 (wg_c kw_1670 (wg_c ks_57 (wg_c kw_11 wg_n)))) kw_1671) rfl rfl rfl (by decide +kernel) ⟨by decide, by decide⟩) (pn_W "LatticeKeysModel$Secrets" (en_ok g) (ci := 11) (kn := 184) (fl := [(3, 172), (3, 178), (3, 185), (3, 202), (3, 207), (3, 212), (3, 217), (3, 218), (3, 219), (3, 220), (3, 221), (3, 222), (3, 223), (3, 224)]) hK hO k_h0 rfl hP hD hS hA hEn [] rfl rfl rfl) rfl rfl hl.1 rfl (lv_room (Nat.le_of_ble_eq_true rfl)) dME_keys_139 ⟨by omega, by omega⟩) (fun  u36 H locs hu36 hP hD hS => ?_)
      obtain ⟨s42, pl⟩ := u36
      obtain ⟨⟨eq36, hFc36, -⟩, hO⟩ := hu36
      have hO : okn g T s42 pl := hO
      have hP : va_P g.1 vcl ([] ++ pl) _ := hP
      have hD : va_D _ ([] ++ pl) := hD
      have hFc36 : frm (M_ME_forth (203 + i21)) s41 s42 := hFc36
      replace hR := bnd_step hR eq36
      replace hE := bndP_step hE eq36
      have hF := frm_tr hF hFc36 (fun k hk => by unfold M_ME_forth at hk; unfold M_ME_keys_2; omega)
      refine W.widen (k := 0) (n := 0) (by omega) (by omega) ?_
      refine lv_aload_n hx hb dME_keys_142 rfl (lv_at hl 2 rfl) ?_
      refine lv_aload_n hx hb dME_keys_143 rfl (lv_at hl 2 rfl) ?_
      refine nw_get (C := "LatticeKeysModel$Secrets") (TT := T_ME) (N := 14) hx hb hts (wg_ft i_ME) hown hK hO k_h0 (kn := 184) (ci := 11) (fl := [(3, 172), (3, 178), (3, 185), (3, 202), (3, 207), (3, 212), (3, 217), (3, 218), (3, 219), (3, 220), (3, 221), (3, 222), (3, 223), (3, 224)]) rfl hP rfl 4 (by decide) (hts _ (wg_t kw_1383)) (fun _ h9 => h9) (cd := (3, 207)) rfl dME_keys_144 (fun v39 hv39 => ?_)
      obtain ⟨r50, rfl, kr47⟩ := (show ∃ r : Nat, v39 = .ref r ∧ T r = some 207 from hv39)
      refine lv_iload hx hb dME_keys_147 (lv_at hl 0 rfl) ?_
      refine nw_aald3 hx hb hK hO kr47 (k := 207) (b := 208) rfl hP (by omega) (by omega) dME_keys_149 (fun r51 kr48 => ?_)
      have hn29 : nsp (208 + i21) = (0, 256, []) := rows_ok 208 4 (by decide) _ (by omega)
      refine mp_v (cx := []) (wr := []) hP hD hS hA [] [] rfl rfl rfl (by decide) (va_runV (As := [.ref r51]) (rest := []) F (N_ME_forth l g _ T s42 pl hO hU h0 r51 (208 + i21) k_h0 kr48 hn29) (cwV 1 hts (wg_app (wg_c kw_1668 (wg_c kw_1670 (wg_c ks_57 (wg_c kw_11 wg_n)))) kw_1671) rfl rfl rfl (by decide +kernel) ⟨by decide, by decide⟩) (pn_W "LatticeKeysModel$Secrets" (en_ok g) (ci := 11) (kn := 184) (fl := [(3, 172), (3, 178), (3, 185), (3, 202), (3, 207), (3, 212), (3, 217), (3, 218), (3, 219), (3, 220), (3, 221), (3, 222), (3, 223), (3, 224)]) hK hO k_h0 rfl hP hD hS hA hEn [] rfl rfl rfl) rfl rfl hl.1 rfl (lv_room (Nat.le_of_ble_eq_true rfl)) dME_keys_150 ⟨by omega, by omega⟩) (fun  u37 H locs hu37 hP hD hS => ?_)
      obtain ⟨s43, pl⟩ := u37
      obtain ⟨⟨eq37, hFc37, -⟩, hO⟩ := hu37
      have hO : okn g T s43 pl := hO
      have hP : va_P g.1 vcl ([] ++ pl) _ := hP
      have hD : va_D _ ([] ++ pl) := hD
      have hFc37 : frm (M_ME_forth (208 + i21)) s42 s43 := hFc37
      replace hR := bnd_step hR eq37
      replace hE := bndP_step hE eq37
      have hF := frm_tr hF hFc37 (fun k hk => by unfold M_ME_forth at hk; unfold M_ME_keys_2; omega)
      refine W.widen (k := 0) (n := 0) (by omega) (by omega) ?_
      refine mi_iinc (k := 0) (x := i21) (d := 1) (y := i21 + 1) (lv' := [(6, .int (nI (i21 + 1))), (5, .int (nI 4)), (0, .ref h0), (1, .int (nI 2)), (2, .ref sd), (3, .ref ek), (4, .ref dk)]) hx hb dME_keys_153 hl rfl (by decide) rfl (by decide) rfl (fun ls hl => ?_)
      refine lv_goto (tgt := 73) hx hb dME_keys_156 (by decide) ?_
      exact ih21 (i21 + 1) s43 pl ls H locs (by omega) hF hE hR (lv_sub hl [0, 1, 2, 3, 4, 5, 6] rfl) hO hP hD hS
  exact lp21 4 0 s26 pl ls _ _ (by omega) hF hE hR (lv_sub hl [0, 1, 2, 3, 4, 5, 6] rfl) hO hP hD hS
def M_ME_encrypt_0 (pct : Nat) (k : Nat) : Prop := (186 ≤ k ∧ k < 202) ∨ (203 ≤ k ∧ k < 207) ∨ (208 ≤ k ∧ k < 212) ∨ (213 ≤ k ∧ k < 217) ∨ k = 172 ∨ k = 217 ∨ k = 218 ∨ k = 219 ∨ k = 221 ∨ k = pct ∨ (0 : Nat) = 1
noncomputable def F_ME_encrypt_0_L3 (pct : Nat) (nc : Nat) (i22 : Nat) (kk : Nat → Sto → Sto) : Nat → Nat → Sto → Sto
  | 0, i24, s36 => bnd (F_ME_back 217 s36) fun s37 => bnd (F_ME_plus 217 (208 + i22) s37) fun s38 => bnd (F_ME_less_10 217 s38) fun s39 => bnd (F_ME_write_10 217 pct nc (320 * i22) s39) fun s40 => kk (i22 + 1) s40
  | n24 + 1, i24, s36 => bnd (F_ME_product (186 + ((4 * i24) + i22)) (203 + i24) 217 s36) fun s41 => F_ME_encrypt_0_L3 pct nc i22 kk n24 (i24 + 1) s41
noncomputable def E_ME_encrypt_0_L3 (pct : Nat) (nc : Nat) (i22 : Nat) (ke : Nat → Sto → Prop) : Nat → Nat → Sto → Prop
  | 0, i24, s36 => bnd (F_ME_back 217 s36) fun s37 => bnd (F_ME_plus 217 (208 + i22) s37) fun s38 => bnd (F_ME_less_10 217 s38) fun s39 => bnd (F_ME_write_10 217 pct nc (320 * i22) s39) fun s40 => ke (i22 + 1) s40
  | n24 + 1, i24, s36 => bnd (F_ME_product (186 + ((4 * i24) + i22)) (203 + i24) 217 s36) fun s41 => E_ME_encrypt_0_L3 pct nc i22 ke n24 (i24 + 1) s41
noncomputable def F_ME_encrypt_0_L2 (pms : Nat) (nm : Nat) (pct : Nat) (nc : Nat) : Nat → Nat → Sto → Sto
  | 0, i23, s25 => bnd (F_ME_back 217 s25) fun s26 => bnd (F_ME_noise_2 218 220 64 32 (nI 4) s26) fun s27 => bnd (F_ME_plus 217 218 s27) fun s28 => bnd (F_ME_read_1 pms nm 0 218 s28) fun s29 => bnd (F_ME_more_1 218 s29) fun s30 => bnd (F_ME_plus 217 218 s30) fun s31 => bnd (F_ME_less_4 217 s31) fun s32 => bnd (F_ME_write_4 217 pct nc 640 s32) fun s33 => s33
  | n23 + 1, i23, s25 => bnd (F_ME_product (213 + i23) (203 + i23) 217 s25) fun s34 => F_ME_encrypt_0_L2 pms nm pct nc n23 (i23 + 1) s34
noncomputable def E_ME_encrypt_0_L2 (pms : Nat) (nm : Nat) (pct : Nat) (nc : Nat) : Nat → Nat → Sto → Prop
  | 0, i23, s25 => bnd (F_ME_back 217 s25) fun s26 => bnd (F_ME_noise_2 218 220 64 32 (nI 4) s26) fun s27 => bnd (F_ME_plus 217 218 s27) fun s28 => bnd (F_ME_read_1 pms nm 0 218 s28) fun s29 => bnd (F_ME_more_1 218 s29) fun s30 => bnd (F_ME_plus 217 218 s30) fun s31 => bnd (F_ME_less_4 217 s31) fun s32 => bnd (F_ME_write_4 217 pct nc 640 s32) fun s33 => True
  | n23 + 1, i23, s25 => bnd (F_ME_product (213 + i23) (203 + i23) 217 s25) fun s34 => E_ME_encrypt_0_L2 pms nm pct nc n23 (i23 + 1) s34
noncomputable def F_ME_encrypt_0_L1 (pms : Nat) (nm : Nat) (pct : Nat) (nc : Nat) : Nat → Nat → Sto → Sto
  | 0, i22, s23 => bnd (F_ME_clear 217 s23) fun s24 => F_ME_encrypt_0_L2 pms nm pct nc 2 0 s24
  | n22 + 1, i22, s23 => bnd (F_ME_clear 217 s23) fun s35 => F_ME_encrypt_0_L3 pct nc i22 (F_ME_encrypt_0_L1 pms nm pct nc n22) 2 0 s35
noncomputable def E_ME_encrypt_0_L1 (pms : Nat) (nm : Nat) (pct : Nat) (nc : Nat) : Nat → Nat → Sto → Prop
  | 0, i22, s23 => bnd (F_ME_clear 217 s23) fun s24 => E_ME_encrypt_0_L2 pms nm pct nc 2 0 s24
  | n22 + 1, i22, s23 => bnd (F_ME_clear 217 s23) fun s35 => E_ME_encrypt_0_L3 pct nc i22 (E_ME_encrypt_0_L1 pms nm pct nc n22) 2 0 s35
noncomputable def F_ME_encrypt_0_L0 (pek : Nat) (n : Nat) (at_ : Nat) (pms : Nat) (nm : Nat) (pct : Nat) (nc : Nat) : Nat → Nat → Sto → Sto
  | 0, i21, s22 => F_ME_encrypt_0_L1 pms nm pct nc 2 0 s22
  | n21 + 1, i21, s22 => bnd (F_ME_read_12 pek n (at_ + (384 * i21)) (213 + i21) s22) fun s42 => bnd (F_ME_proper (213 + i21) s42) fun s43 => bnd (F_ME_noise_3 (203 + i21) 220 64 32 (nI i21) s43) fun s44 => bnd (F_ME_noise_2 (208 + i21) 220 64 32 (nI (2 + i21)) s44) fun s45 => bnd (F_ME_forth (203 + i21) s45) fun s46 => F_ME_encrypt_0_L0 pek n at_ pms nm pct nc n21 (i21 + 1) s46
noncomputable def E_ME_encrypt_0_L0 (pek : Nat) (n : Nat) (at_ : Nat) (pms : Nat) (nm : Nat) (pct : Nat) (nc : Nat) : Nat → Nat → Sto → Prop
  | 0, i21, s22 => E_ME_encrypt_0_L1 pms nm pct nc 2 0 s22
  | n21 + 1, i21, s22 => bnd (F_ME_read_12 pek n (at_ + (384 * i21)) (213 + i21) s22) fun s42 => bnd (F_ME_proper (213 + i21) s42) fun s43 => bnd (F_ME_noise_3 (203 + i21) 220 64 32 (nI i21) s43) fun s44 => bnd (F_ME_noise_2 (208 + i21) 220 64 32 (nI (2 + i21)) s44) fun s45 => bnd (F_ME_forth (203 + i21) s45) fun s46 => E_ME_encrypt_0_L0 pek n at_ pms nm pct nc n21 (i21 + 1) s46
noncomputable def F_ME_encrypt_0 (pek : Nat) (n : Nat) (at_ : Nat) (pms : Nat) (nm : Nat) (pct : Nat) (nc : Nat) (s : Sto) : Sto := bnd (F_ME_expand_2 pek n (at_ + 768) s) fun s21 => F_ME_encrypt_0_L0 pek n at_ pms nm pct nc 2 0 s21
noncomputable def E_ME_encrypt_0 (pek : Nat) (n : Nat) (at_ : Nat) (pms : Nat) (nm : Nat) (pct : Nat) (nc : Nat) (s : Sto) : Prop := (E_ME_expand_2 pek n (at_ + 768) s) ∧ (bnd (F_ME_expand_2 pek n (at_ + 768) s) fun s21 => E_ME_encrypt_0_L0 pek n at_ pms nm pct nc 2 0 s21)
set_option maxHeartbeats 8000000 in
set_option maxRecDepth 100000 in
theorem N_ME_encrypt_0 (l : Launch) (g : Gd) (sz : Nat) (T : TyN) (s : Sto) (pl : va_W) (hO : okn g T s pl) (hU : inj T) (h0 ek ms ct : Nat) (pek : Nat) (n : Nat) (at_ : Nat) (pms : Nat) (nm : Nat) (pct : Nat) (nc : Nat) (k_h0 : T h0 = some 184) (k_ek : T ek = some pek) (n_ek : nsp pek = (1, n, [])) (k_ms : T ms = some pms) (n_ms : nsp pms = (1, nm, [])) (k_ct : T ct = some pct) (n_ct : nsp pct = (1, nc, [])) (h1 : at_ + 800 ≤ n) (h2 : n < 65536) (h3 : 32 ≤ nm) (h4 : nm < 65536) (h5 : 768 ≤ nc) (h6 : nc < 65536) (hE : E_ME_encrypt_0 pek n at_ pms nm pct nc s)  : Met l y_ME_encrypt w_ME_encrypt ({ frames := 5, cells := 0, slots := 0, locals := 118 } : Room) (va_Pc [.ref h0, .int (nI 0), .ref ek, .int (nI at_), .ref ms, .ref ct] (pr (en g) g.1 vcl sz ([] ++ pl))) (va_Qv (fun (u : (Sto) × va_W) => (u.1 = F_ME_encrypt_0 pek n at_ pms nm pct nc s ∧ frm (M_ME_encrypt_0 pct) s u.1 ∧ True) ∧ okn g T u.1 u.2) (po g.1 vcl (va_A ([] ++ pl) sz) (fun (u : (Sto) × va_W) => [] ++ u.2)) (va_A ([] ++ pl) sz)) 0 0 (va_A ([] ++ pl) sz) := by
  refine mc_entry (cc := c_ME_encrypt) (maxL := 9) (ret := none) (by decide) rfl (Nat.le_of_ble_eq_true rfl) ?_
  intro p e s0 m args below meth c ls F hr hlk hnm hsz hP hD hEn hA hl
  obtain ⟨hx, hb, hml, hown, hts⟩ := id F
  have hK := hEn.1
  generalize va_A ([] ++ pl) sz = A at hD hEn hA ⊢
  have hS : va_S A s0.heap s0.heap [] := va_S.rf
  have hl : lv_has ls 9 [(0, .ref h0), (1, .int (nI 0)), (2, .ref ek), (3, .int (nI at_)), (4, .ref ms), (5, .ref ct)] := hl
  have hR : F_ME_encrypt_0 pek n at_ pms nm pct nc s = F_ME_encrypt_0 pek n at_ pms nm pct nc s := rfl
  have hF : frm (M_ME_encrypt_0 pct) s s := frm_rf
  refine va_gets hx hb (hEn.2.1 19 _ rfl).1 hS hown (hts _ (wg_t kw_1605)) (fun _ h9 => h9) dME_encrypt_0 ?_
  refine lv_iload_n hx hb dME_encrypt_3 rfl (lv_at hl 1 rfl) ?_
  refine va_ti (v := .int (nI 2)) hx hb (hEn.2.1 19 _ rfl).2 hS (vp_in_nI (by decide) (by decide)) (by decide +kernel) dME_encrypt_4 ?_
  refine lv_istore (lv' := [(6, .int (nI 2)), (0, .ref h0), (1, .int (nI 0)), (2, .ref ek), (3, .int (nI at_)), (4, .ref ms), (5, .ref ct)]) hx hb dME_encrypt_5 hl (by decide) rfl (fun ls hl => ?_)
  refine lv_aload_n hx hb dME_encrypt_7 rfl (lv_at hl 1 rfl) ?_
  refine lv_aload_n hx hb dME_encrypt_8 rfl (lv_at hl 3 rfl) ?_
  refine lv_iload_n hx hb dME_encrypt_9 rfl (lv_at hl 4 rfl) ?_
  refine lv_sipush (v := nI 384) hx hb dME_encrypt_10 (by decide) ?_
  refine lv_iload hx hb dME_encrypt_13 (lv_at hl 0 rfl) ?_
  refine mi_imul hx hb dME_encrypt_15 ?_
  refine mi_as (show nI (384 * 2) = nI 768 from rfl) ?_
  refine mi_iadd hx hb dME_encrypt_16 ?_
  refine lv_iload hx hb dME_encrypt_17 (lv_at hl 0 rfl) ?_
  refine mp_v (cx := []) (wr := []) hP hD hS hA [] [] rfl rfl rfl (by decide) (va_runV (As := [.ref ek, .int (nI (at_ + 768)), .int (nI 2)]) (rest := []) F (N_ME_expand_2 l g _ T s pl hO hU h0 ek pek n (at_ + 768) k_h0 k_ek n_ek (by omega) (by omega) hE.1) (cwV 3 hts (wg_app (wg_c kw_1645 (wg_c kw_1647 (wg_c ks_54 (wg_c kw_11 wg_n)))) kw_1648) rfl rfl rfl (by decide +kernel) ⟨by decide, by decide⟩) (pn_W "LatticeKeysModel$Secrets" (en_ok g) (ci := 11) (kn := 184) (fl := [(3, 172), (3, 178), (3, 185), (3, 202), (3, 207), (3, 212), (3, 217), (3, 218), (3, 219), (3, 220), (3, 221), (3, 222), (3, 223), (3, 224)]) hK hO k_h0 rfl hP hD hS hA hEn [] rfl rfl rfl) rfl rfl hl.1 rfl (lv_room (Nat.le_of_ble_eq_true rfl)) dME_encrypt_19 ⟨by omega, by omega⟩) (fun  u21 H locs hu21 hP hD hS => ?_)
  obtain ⟨s21, pl⟩ := u21
  obtain ⟨⟨eq21, hFc21, -⟩, hO⟩ := hu21
  have hO : okn g T s21 pl := hO
  have hP : va_P g.1 vcl ([] ++ pl) _ := hP
  have hD : va_D _ ([] ++ pl) := hD
  have hFc21 : frm (M_ME_expand_2) s s21 := hFc21
  replace hE := hE.2
  replace hR := bnd_step hR eq21
  replace hE := bndP_step hE eq21
  have hF := frm_tr hF hFc21 (fun k hk => by unfold M_ME_expand_2 at hk; unfold M_ME_encrypt_0; omega)
  refine W.widen (k := 0) (n := 0) (by omega) (by omega) ?_
  refine lv_iconst (v := nI 0) hx hb dME_encrypt_22 (by decide) ?_
  refine lv_istore (lv' := [(7, .int (nI 0)), (6, .int (nI 2)), (0, .ref h0), (1, .int (nI 0)), (2, .ref ek), (3, .int (nI at_)), (4, .ref ms), (5, .ref ct)]) hx hb dME_encrypt_23 hl (by decide) rfl (fun ls hl => ?_)
  have lp21 : ∀ (n21 : Nat) (i21 : Nat) (s22 : Sto) (pl : va_W) (ls : Array Slot) (H : Heap) (locs : List Loc), n21 + i21 = 2 → frm (M_ME_encrypt_0 pct) s s22 → E_ME_encrypt_0_L0 pek n at_ pms nm pct nc n21 i21 s22 → F_ME_encrypt_0 pek n at_ pms nm pct nc s = F_ME_encrypt_0_L0 pek n at_ pms nm pct nc n21 i21 s22 → lv_has ls 9 [(7, .int (nI i21)), (6, .int (nI 2)), (0, .ref h0), (1, .int (nI 0)), (2, .ref ek), (3, .int (nI at_)), (4, .ref ms), (5, .ref ct)] → okn g T s22 pl → va_P g.1 vcl ([] ++ pl) H → va_D A ([] ++ pl) → va_S A s0.heap H locs → W p l e ({ frames := 5, cells := 0, slots := 0, locals := 118 } : Room) s0 m args below meth c H locs 0 0 (MQ below (va_Qv (fun (u : (Sto) × va_W) => (u.1 = F_ME_encrypt_0 pek n at_ pms nm pct nc s ∧ frm (M_ME_encrypt_0 pct) s u.1 ∧ True) ∧ okn g T u.1 u.2) (po g.1 vcl A (fun (u : (Sto) × va_W) => [] ++ u.2)) A) args s0 0 0 A) (F0 m 25 ls []) := by
    intro n21
    induction n21 with
    | zero =>
      intro i21 s22 pl ls H locs hm21 hF hE hR hl hO hP hD hS
      refine lv_iload hx hb dME_encrypt_25 (lv_at hl 0 rfl) ?_
      refine lv_iload hx hb dME_encrypt_27 (lv_at hl 1 rfl) ?_
      refine mi_ge (tgt := 127) hx hb dME_encrypt_29 (by decide) (by omega) (by omega) (fun h21 => ?_) (fun h21 => absurd h21 (by omega))
      refine lv_iconst (v := nI 0) hx hb dME_encrypt_127 (by decide) ?_
      refine lv_istore (lv' := [(7, .int (nI 0)), (6, .int (nI 2)), (0, .ref h0), (1, .int (nI 0)), (2, .ref ek), (3, .int (nI at_)), (4, .ref ms), (5, .ref ct)]) hx hb dME_encrypt_128 hl (by decide) rfl (fun ls hl => ?_)
      have lp22 : ∀ (n22 : Nat) (i22 : Nat) (s23 : Sto) (pl : va_W) (ls : Array Slot) (H : Heap) (locs : List Loc), n22 + i22 = 2 → frm (M_ME_encrypt_0 pct) s s23 → E_ME_encrypt_0_L1 pms nm pct nc n22 i22 s23 → F_ME_encrypt_0 pek n at_ pms nm pct nc s = F_ME_encrypt_0_L1 pms nm pct nc n22 i22 s23 → lv_has ls 9 [(7, .int (nI i22)), (6, .int (nI 2)), (0, .ref h0), (1, .int (nI 0)), (4, .ref ms), (5, .ref ct)] → okn g T s23 pl → va_P g.1 vcl ([] ++ pl) H → va_D A ([] ++ pl) → va_S A s0.heap H locs → W p l e ({ frames := 5, cells := 0, slots := 0, locals := 118 } : Room) s0 m args below meth c H locs 0 0 (MQ below (va_Qv (fun (u : (Sto) × va_W) => (u.1 = F_ME_encrypt_0 pek n at_ pms nm pct nc s ∧ frm (M_ME_encrypt_0 pct) s u.1 ∧ True) ∧ okn g T u.1 u.2) (po g.1 vcl A (fun (u : (Sto) × va_W) => [] ++ u.2)) A) args s0 0 0 A) (F0 m 130 ls []) := by
        intro n22
        induction n22 with
        | zero =>
          intro i22 s23 pl ls H locs hm22 hF hE hR hl hO hP hD hS
          refine lv_iload hx hb dME_encrypt_130 (lv_at hl 0 rfl) ?_
          refine lv_iload hx hb dME_encrypt_132 (lv_at hl 1 rfl) ?_
          refine mi_ge (tgt := 252) hx hb dME_encrypt_134 (by decide) (by omega) (by omega) (fun h22 => ?_) (fun h22 => absurd h22 (by omega))
          refine lv_aload_n hx hb dME_encrypt_252 rfl (lv_at hl 2 rfl) ?_
          refine nw_get (C := "LatticeKeysModel$Secrets") (TT := T_ME) (N := 14) hx hb hts (wg_ft i_ME) hown hK hO k_h0 (kn := 184) (ci := 11) (fl := [(3, 172), (3, 178), (3, 185), (3, 202), (3, 207), (3, 212), (3, 217), (3, 218), (3, 219), (3, 220), (3, 221), (3, 222), (3, 223), (3, 224)]) rfl hP rfl 6 (by decide) (hts _ (wg_t kw_1385)) (fun _ h9 => h9) (cd := (3, 217)) rfl dME_encrypt_253 (fun v21 hv21 => ?_)
          obtain ⟨r21, rfl, kr21⟩ := (show ∃ r : Nat, v21 = .ref r ∧ T r = some 217 from hv21)
          refine mp_v (cx := []) (wr := []) hP hD hS hA [] [] rfl rfl rfl (by decide) (va_runS (As := [.ref r21]) (rest := []) F (N_ME_clear l g _ T s23 pl hO hU r21 217 kr21 rfl) (va_cwS 1 hts (wg_app (wg_c kw_1819 (wg_c kw_1820 (wg_c kw_11 wg_n))) kw_1821) rfl rfl rfl (by decide +kernel) ⟨by decide, by decide⟩) (pp_S (en_ok g) hP hD hS hA hEn [] rfl rfl) rfl rfl hl.1 rfl (lv_room (Nat.le_of_ble_eq_true rfl)) dME_encrypt_256 ⟨by omega, by omega⟩) (fun  u22 H locs hu22 hP hD hS => ?_)
          obtain ⟨s24, pl⟩ := u22
          obtain ⟨⟨eq22, hFc22, -⟩, hO⟩ := hu22
          have hO : okn g T s24 pl := hO
          have hP : va_P g.1 vcl ([] ++ pl) _ := hP
          have hD : va_D _ ([] ++ pl) := hD
          have hFc22 : frm (M_ME_clear 217) s23 s24 := hFc22
          replace hR := bnd_step hR eq22
          replace hE := bndP_step hE eq22
          have hF := frm_tr hF hFc22 (fun k hk => by unfold M_ME_clear at hk; unfold M_ME_encrypt_0; omega)
          refine W.widen (k := 0) (n := 0) (by omega) (by omega) ?_
          refine lv_iconst (v := nI 0) hx hb dME_encrypt_259 (by decide) ?_
          refine lv_istore (lv' := [(7, .int (nI 0)), (6, .int (nI 2)), (0, .ref h0), (1, .int (nI 0)), (4, .ref ms), (5, .ref ct)]) hx hb dME_encrypt_260 hl (by decide) rfl (fun ls hl => ?_)
          have lp23 : ∀ (n23 : Nat) (i23 : Nat) (s25 : Sto) (pl : va_W) (ls : Array Slot) (H : Heap) (locs : List Loc), n23 + i23 = 2 → frm (M_ME_encrypt_0 pct) s s25 → E_ME_encrypt_0_L2 pms nm pct nc n23 i23 s25 → F_ME_encrypt_0 pek n at_ pms nm pct nc s = F_ME_encrypt_0_L2 pms nm pct nc n23 i23 s25 → lv_has ls 9 [(7, .int (nI i23)), (6, .int (nI 2)), (0, .ref h0), (1, .int (nI 0)), (4, .ref ms), (5, .ref ct)] → okn g T s25 pl → va_P g.1 vcl ([] ++ pl) H → va_D A ([] ++ pl) → va_S A s0.heap H locs → W p l e ({ frames := 5, cells := 0, slots := 0, locals := 118 } : Room) s0 m args below meth c H locs 0 0 (MQ below (va_Qv (fun (u : (Sto) × va_W) => (u.1 = F_ME_encrypt_0 pek n at_ pms nm pct nc s ∧ frm (M_ME_encrypt_0 pct) s u.1 ∧ True) ∧ okn g T u.1 u.2) (po g.1 vcl A (fun (u : (Sto) × va_W) => [] ++ u.2)) A) args s0 0 0 A) (F0 m 262 ls []) := by
            intro n23
            induction n23 with
            | zero =>
              intro i23 s25 pl ls H locs hm23 hF hE hR hl hO hP hD hS
              refine lv_iload hx hb dME_encrypt_262 (lv_at hl 0 rfl) ?_
              refine lv_iload hx hb dME_encrypt_264 (lv_at hl 1 rfl) ?_
              refine mi_ge (tgt := 297) hx hb dME_encrypt_266 (by decide) (by omega) (by omega) (fun h23 => ?_) (fun h23 => absurd h23 (by omega))
              refine lv_aload_n hx hb dME_encrypt_297 rfl (lv_at hl 2 rfl) ?_
              refine lv_aload_n hx hb dME_encrypt_298 rfl (lv_at hl 2 rfl) ?_
              refine nw_get (C := "LatticeKeysModel$Secrets") (TT := T_ME) (N := 14) hx hb hts (wg_ft i_ME) hown hK hO k_h0 (kn := 184) (ci := 11) (fl := [(3, 172), (3, 178), (3, 185), (3, 202), (3, 207), (3, 212), (3, 217), (3, 218), (3, 219), (3, 220), (3, 221), (3, 222), (3, 223), (3, 224)]) rfl hP rfl 6 (by decide) (hts _ (wg_t kw_1385)) (fun _ h9 => h9) (cd := (3, 217)) rfl dME_encrypt_299 (fun v22 hv22 => ?_)
              obtain ⟨r22, rfl, kr22⟩ := (show ∃ r : Nat, v22 = .ref r ∧ T r = some 217 from hv22)
              refine mp_v (cx := []) (wr := []) hP hD hS hA [] [] rfl rfl rfl (by decide) (va_runV (As := [.ref r22]) (rest := []) F (N_ME_back l g _ T s25 pl hO hU h0 r22 217 k_h0 kr22 rfl) (cwV 1 hts (wg_app (wg_c kw_1822 (wg_c kw_1824 (wg_c ks_69 (wg_c kw_11 wg_n)))) kw_1825) rfl rfl rfl (by decide +kernel) ⟨by decide, by decide⟩) (pn_W "LatticeKeysModel$Secrets" (en_ok g) (ci := 11) (kn := 184) (fl := [(3, 172), (3, 178), (3, 185), (3, 202), (3, 207), (3, 212), (3, 217), (3, 218), (3, 219), (3, 220), (3, 221), (3, 222), (3, 223), (3, 224)]) hK hO k_h0 rfl hP hD hS hA hEn [] rfl rfl rfl) rfl rfl hl.1 rfl (lv_room (Nat.le_of_ble_eq_true rfl)) dME_encrypt_302 ⟨by omega, by omega⟩) (fun  u23 H locs hu23 hP hD hS => ?_)
              obtain ⟨s26, pl⟩ := u23
              obtain ⟨⟨eq23, hFc23, -⟩, hO⟩ := hu23
              have hO : okn g T s26 pl := hO
              have hP : va_P g.1 vcl ([] ++ pl) _ := hP
              have hD : va_D _ ([] ++ pl) := hD
              have hFc23 : frm (M_ME_back 217) s25 s26 := hFc23
              replace hR := bnd_step hR eq23
              replace hE := bndP_step hE eq23
              have hF := frm_tr hF hFc23 (fun k hk => by unfold M_ME_back at hk; unfold M_ME_encrypt_0; omega)
              refine W.widen (k := 0) (n := 0) (by omega) (by omega) ?_
              refine lv_aload_n hx hb dME_encrypt_305 rfl (lv_at hl 2 rfl) ?_
              refine lv_aload_n hx hb dME_encrypt_306 rfl (lv_at hl 2 rfl) ?_
              refine nw_get (C := "LatticeKeysModel$Secrets") (TT := T_ME) (N := 14) hx hb hts (wg_ft i_ME) hown hK hO k_h0 (kn := 184) (ci := 11) (fl := [(3, 172), (3, 178), (3, 185), (3, 202), (3, 207), (3, 212), (3, 217), (3, 218), (3, 219), (3, 220), (3, 221), (3, 222), (3, 223), (3, 224)]) rfl hP rfl 7 (by decide) (hts _ (wg_t kw_1386)) (fun _ h9 => h9) (cd := (3, 218)) rfl dME_encrypt_307 (fun v23 hv23 => ?_)
              obtain ⟨r23, rfl, kr23⟩ := (show ∃ r : Nat, v23 = .ref r ∧ T r = some 218 from hv23)
              refine lv_aload_n hx hb dME_encrypt_310 rfl (lv_at hl 2 rfl) ?_
              refine nw_get (C := "LatticeKeysModel$Secrets") (TT := T_ME) (N := 14) hx hb hts (wg_ft i_ME) hown hK hO k_h0 (kn := 184) (ci := 11) (fl := [(3, 172), (3, 178), (3, 185), (3, 202), (3, 207), (3, 212), (3, 217), (3, 218), (3, 219), (3, 220), (3, 221), (3, 222), (3, 223), (3, 224)]) rfl hP rfl 9 (by decide) (hts _ (wg_t kw_1388)) (fun _ h9 => h9) (cd := (3, 220)) rfl dME_encrypt_311 (fun v24 hv24 => ?_)
              obtain ⟨r24, rfl, kr24⟩ := (show ∃ r : Nat, v24 = .ref r ∧ T r = some 220 from hv24)
              refine lv_bipush (v := nI 32) hx hb dME_encrypt_314 (by decide) ?_
              refine lv_iconst (v := nI 2) hx hb dME_encrypt_316 (by decide) ?_
              refine lv_iload hx hb dME_encrypt_317 (lv_at hl 1 rfl) ?_
              refine mi_imul hx hb dME_encrypt_319 ?_
              refine mi_as (show nI (2 * 2) = nI 4 from rfl) ?_
              refine lv_iconst (v := nI 2) hx hb dME_encrypt_320 (by decide) ?_
              refine mp_v (cx := []) (wr := []) hP hD hS hA [] [] rfl rfl rfl (by decide) (va_runV (As := [.ref r23, .ref r24, .int (nI 32), .int (nI 4), .int (nI 2)]) (rest := []) F (N_ME_noise_2 l g _ T s26 pl hO hU h0 r23 r24 218 220 64 32 (nI 4) k_h0 kr23 rfl kr24 rfl (by omega) (by omega)) (cwV 5 hts (wg_app (wg_c kw_1656 (wg_c kw_1658 (wg_c ks_56 (wg_c kw_11 wg_n)))) kw_1659) rfl rfl rfl (by decide +kernel) ⟨by decide, by decide⟩) (pn_W "LatticeKeysModel$Secrets" (en_ok g) (ci := 11) (kn := 184) (fl := [(3, 172), (3, 178), (3, 185), (3, 202), (3, 207), (3, 212), (3, 217), (3, 218), (3, 219), (3, 220), (3, 221), (3, 222), (3, 223), (3, 224)]) hK hO k_h0 rfl hP hD hS hA hEn [] rfl rfl rfl) rfl rfl hl.1 rfl (lv_room (Nat.le_of_ble_eq_true rfl)) dME_encrypt_321 ⟨by omega, by omega⟩) (fun  u24 H locs hu24 hP hD hS => ?_)
              obtain ⟨s27, pl⟩ := u24
              obtain ⟨⟨eq24, hFc24, -⟩, hO⟩ := hu24
              have hO : okn g T s27 pl := hO
              have hP : va_P g.1 vcl ([] ++ pl) _ := hP
              have hD : va_D _ ([] ++ pl) := hD
              have hFc24 : frm (M_ME_noise_2 218) s26 s27 := hFc24
              replace hR := bnd_step hR eq24
              replace hE := bndP_step hE eq24
              have hF := frm_tr hF hFc24 (fun k hk => by unfold M_ME_noise_2 at hk; unfold M_ME_encrypt_0; omega)
              refine W.widen (k := 0) (n := 0) (by omega) (by omega) ?_
              refine lv_aload_n hx hb dME_encrypt_324 rfl (lv_at hl 2 rfl) ?_
              refine nw_get (C := "LatticeKeysModel$Secrets") (TT := T_ME) (N := 14) hx hb hts (wg_ft i_ME) hown hK hO k_h0 (kn := 184) (ci := 11) (fl := [(3, 172), (3, 178), (3, 185), (3, 202), (3, 207), (3, 212), (3, 217), (3, 218), (3, 219), (3, 220), (3, 221), (3, 222), (3, 223), (3, 224)]) rfl hP rfl 6 (by decide) (hts _ (wg_t kw_1385)) (fun _ h9 => h9) (cd := (3, 217)) rfl dME_encrypt_325 (fun v25 hv25 => ?_)
              obtain ⟨r25, rfl, kr25⟩ := (show ∃ r : Nat, v25 = .ref r ∧ T r = some 217 from hv25)
              refine lv_aload_n hx hb dME_encrypt_328 rfl (lv_at hl 2 rfl) ?_
              refine nw_get (C := "LatticeKeysModel$Secrets") (TT := T_ME) (N := 14) hx hb hts (wg_ft i_ME) hown hK hO k_h0 (kn := 184) (ci := 11) (fl := [(3, 172), (3, 178), (3, 185), (3, 202), (3, 207), (3, 212), (3, 217), (3, 218), (3, 219), (3, 220), (3, 221), (3, 222), (3, 223), (3, 224)]) rfl hP rfl 7 (by decide) (hts _ (wg_t kw_1386)) (fun _ h9 => h9) (cd := (3, 218)) rfl dME_encrypt_329 (fun v26 hv26 => ?_)
              obtain ⟨r26, rfl, kr26⟩ := (show ∃ r : Nat, v26 = .ref r ∧ T r = some 218 from hv26)
              refine mp_v (cx := []) (wr := []) hP hD hS hA [] [] rfl rfl rfl (by decide) (va_runS (As := [.ref r25, .ref r26]) (rest := []) F (N_ME_plus l g _ T s27 pl hO hU r25 r26 217 218 kr25 rfl kr26 rfl) (va_cwS 2 hts (wg_app (wg_c kw_1827 (wg_c kw_1828 (wg_c kw_11 wg_n))) kw_1829) rfl rfl rfl (by decide +kernel) ⟨by decide, by decide⟩) (pp_S (en_ok g) hP hD hS hA hEn [] rfl rfl) rfl rfl hl.1 rfl (lv_room (Nat.le_of_ble_eq_true rfl)) dME_encrypt_332 ⟨by omega, by omega⟩) (fun  u25 H locs hu25 hP hD hS => ?_)
              obtain ⟨s28, pl⟩ := u25
              obtain ⟨⟨eq25, hFc25, -⟩, hO⟩ := hu25
              have hO : okn g T s28 pl := hO
              have hP : va_P g.1 vcl ([] ++ pl) _ := hP
              have hD : va_D _ ([] ++ pl) := hD
              have hFc25 : frm (M_ME_plus 217) s27 s28 := hFc25
              replace hR := bnd_step hR eq25
              replace hE := bndP_step hE eq25
              have hF := frm_tr hF hFc25 (fun k hk => by unfold M_ME_plus at hk; unfold M_ME_encrypt_0; omega)
              refine W.widen (k := 0) (n := 0) (by omega) (by omega) ?_
              refine lv_aload hx hb dME_encrypt_335 (lv_at hl 4 rfl) ?_
              refine lv_iconst (v := nI 0) hx hb dME_encrypt_337 (by decide) ?_
              refine lv_iconst (v := nI 1) hx hb dME_encrypt_338 (by decide) ?_
              refine lv_aload_n hx hb dME_encrypt_339 rfl (lv_at hl 2 rfl) ?_
              refine nw_get (C := "LatticeKeysModel$Secrets") (TT := T_ME) (N := 14) hx hb hts (wg_ft i_ME) hown hK hO k_h0 (kn := 184) (ci := 11) (fl := [(3, 172), (3, 178), (3, 185), (3, 202), (3, 207), (3, 212), (3, 217), (3, 218), (3, 219), (3, 220), (3, 221), (3, 222), (3, 223), (3, 224)]) rfl hP rfl 7 (by decide) (hts _ (wg_t kw_1386)) (fun _ h9 => h9) (cd := (3, 218)) rfl dME_encrypt_340 (fun v27 hv27 => ?_)
              obtain ⟨r27, rfl, kr27⟩ := (show ∃ r : Nat, v27 = .ref r ∧ T r = some 218 from hv27)
              refine mp_v (cx := []) (wr := []) hP hD hS hA [] [] rfl rfl rfl (by decide) (va_runS (As := [.ref ms, .int (nI 0), .int (nI 1), .ref r27]) (rest := []) F (N_ME_read_1 l g _ T s28 pl hO hU ms r27 pms nm 0 218 k_ms n_ms kr27 rfl (by omega) (by omega)) (va_cwS 4 hts (wg_app (wg_c kw_1813 (wg_c kw_1814 (wg_c kw_11 wg_n))) kw_1815) rfl rfl rfl (by decide +kernel) ⟨by decide, by decide⟩) (pp_S (en_ok g) hP hD hS hA hEn [] rfl rfl) rfl rfl hl.1 rfl (lv_room (Nat.le_of_ble_eq_true rfl)) dME_encrypt_343 ⟨by omega, by omega⟩) (fun  u26 H locs hu26 hP hD hS => ?_)
              obtain ⟨s29, pl⟩ := u26
              obtain ⟨⟨eq26, hFc26, -⟩, hO⟩ := hu26
              have hO : okn g T s29 pl := hO
              have hP : va_P g.1 vcl ([] ++ pl) _ := hP
              have hD : va_D _ ([] ++ pl) := hD
              have hFc26 : frm (M_ME_read_1 218) s28 s29 := hFc26
              replace hR := bnd_step hR eq26
              replace hE := bndP_step hE eq26
              have hF := frm_tr hF hFc26 (fun k hk => by unfold M_ME_read_1 at hk; unfold M_ME_encrypt_0; omega)
              refine W.widen (k := 0) (n := 0) (by omega) (by omega) ?_
              refine lv_aload_n hx hb dME_encrypt_346 rfl (lv_at hl 2 rfl) ?_
              refine nw_get (C := "LatticeKeysModel$Secrets") (TT := T_ME) (N := 14) hx hb hts (wg_ft i_ME) hown hK hO k_h0 (kn := 184) (ci := 11) (fl := [(3, 172), (3, 178), (3, 185), (3, 202), (3, 207), (3, 212), (3, 217), (3, 218), (3, 219), (3, 220), (3, 221), (3, 222), (3, 223), (3, 224)]) rfl hP rfl 7 (by decide) (hts _ (wg_t kw_1386)) (fun _ h9 => h9) (cd := (3, 218)) rfl dME_encrypt_347 (fun v28 hv28 => ?_)
              obtain ⟨r28, rfl, kr28⟩ := (show ∃ r : Nat, v28 = .ref r ∧ T r = some 218 from hv28)
              refine lv_iconst (v := nI 1) hx hb dME_encrypt_350 (by decide) ?_
              refine mp_v (cx := []) (wr := []) hP hD hS hA [] [] rfl rfl rfl (by decide) (va_runS (As := [.ref r28, .int (nI 1)]) (rest := []) F (N_ME_more_1 l g _ T s29 pl hO hU r28 218 kr28 rfl) (va_cwS 2 hts (wg_app (wg_c kw_1835 (wg_c kw_1836 (wg_c kw_11 wg_n))) kw_1837) rfl rfl rfl (by decide +kernel) ⟨by decide, by decide⟩) (pp_S (en_ok g) hP hD hS hA hEn [] rfl rfl) rfl rfl hl.1 rfl (lv_room (Nat.le_of_ble_eq_true rfl)) dME_encrypt_351 ⟨by omega, by omega⟩) (fun  u27 H locs hu27 hP hD hS => ?_)
              obtain ⟨s30, pl⟩ := u27
              obtain ⟨⟨eq27, hFc27, -⟩, hO⟩ := hu27
              have hO : okn g T s30 pl := hO
              have hP : va_P g.1 vcl ([] ++ pl) _ := hP
              have hD : va_D _ ([] ++ pl) := hD
              have hFc27 : frm (M_ME_more_1 218) s29 s30 := hFc27
              replace hR := bnd_step hR eq27
              replace hE := bndP_step hE eq27
              have hF := frm_tr hF hFc27 (fun k hk => by unfold M_ME_more_1 at hk; unfold M_ME_encrypt_0; omega)
              refine W.widen (k := 0) (n := 0) (by omega) (by omega) ?_
              refine lv_aload_n hx hb dME_encrypt_354 rfl (lv_at hl 2 rfl) ?_
              refine nw_get (C := "LatticeKeysModel$Secrets") (TT := T_ME) (N := 14) hx hb hts (wg_ft i_ME) hown hK hO k_h0 (kn := 184) (ci := 11) (fl := [(3, 172), (3, 178), (3, 185), (3, 202), (3, 207), (3, 212), (3, 217), (3, 218), (3, 219), (3, 220), (3, 221), (3, 222), (3, 223), (3, 224)]) rfl hP rfl 6 (by decide) (hts _ (wg_t kw_1385)) (fun _ h9 => h9) (cd := (3, 217)) rfl dME_encrypt_355 (fun v29 hv29 => ?_)
              obtain ⟨r29, rfl, kr29⟩ := (show ∃ r : Nat, v29 = .ref r ∧ T r = some 217 from hv29)
              refine lv_aload_n hx hb dME_encrypt_358 rfl (lv_at hl 2 rfl) ?_
              refine nw_get (C := "LatticeKeysModel$Secrets") (TT := T_ME) (N := 14) hx hb hts (wg_ft i_ME) hown hK hO k_h0 (kn := 184) (ci := 11) (fl := [(3, 172), (3, 178), (3, 185), (3, 202), (3, 207), (3, 212), (3, 217), (3, 218), (3, 219), (3, 220), (3, 221), (3, 222), (3, 223), (3, 224)]) rfl hP rfl 7 (by decide) (hts _ (wg_t kw_1386)) (fun _ h9 => h9) (cd := (3, 218)) rfl dME_encrypt_359 (fun v30 hv30 => ?_)
              obtain ⟨r30, rfl, kr30⟩ := (show ∃ r : Nat, v30 = .ref r ∧ T r = some 218 from hv30)
              refine mp_v (cx := []) (wr := []) hP hD hS hA [] [] rfl rfl rfl (by decide) (va_runS (As := [.ref r29, .ref r30]) (rest := []) F (N_ME_plus l g _ T s30 pl hO hU r29 r30 217 218 kr29 rfl kr30 rfl) (va_cwS 2 hts (wg_app (wg_c kw_1827 (wg_c kw_1828 (wg_c kw_11 wg_n))) kw_1829) rfl rfl rfl (by decide +kernel) ⟨by decide, by decide⟩) (pp_S (en_ok g) hP hD hS hA hEn [] rfl rfl) rfl rfl hl.1 rfl (lv_room (Nat.le_of_ble_eq_true rfl)) dME_encrypt_362 ⟨by omega, by omega⟩) (fun  u28 H locs hu28 hP hD hS => ?_)
              obtain ⟨s31, pl⟩ := u28
              obtain ⟨⟨eq28, hFc28, -⟩, hO⟩ := hu28
              have hO : okn g T s31 pl := hO
              have hP : va_P g.1 vcl ([] ++ pl) _ := hP
              have hD : va_D _ ([] ++ pl) := hD
              have hFc28 : frm (M_ME_plus 217) s30 s31 := hFc28
              replace hR := bnd_step hR eq28
              replace hE := bndP_step hE eq28
              have hF := frm_tr hF hFc28 (fun k hk => by unfold M_ME_plus at hk; unfold M_ME_encrypt_0; omega)
              refine W.widen (k := 0) (n := 0) (by omega) (by omega) ?_
              refine lv_aload_n hx hb dME_encrypt_365 rfl (lv_at hl 2 rfl) ?_
              refine nw_get (C := "LatticeKeysModel$Secrets") (TT := T_ME) (N := 14) hx hb hts (wg_ft i_ME) hown hK hO k_h0 (kn := 184) (ci := 11) (fl := [(3, 172), (3, 178), (3, 185), (3, 202), (3, 207), (3, 212), (3, 217), (3, 218), (3, 219), (3, 220), (3, 221), (3, 222), (3, 223), (3, 224)]) rfl hP rfl 6 (by decide) (hts _ (wg_t kw_1385)) (fun _ h9 => h9) (cd := (3, 217)) rfl dME_encrypt_366 (fun v31 hv31 => ?_)
              obtain ⟨r31, rfl, kr31⟩ := (show ∃ r : Nat, v31 = .ref r ∧ T r = some 217 from hv31)
              refine va_gets hx hb (hEn.2.1 22 _ rfl).1 hS hown (hts _ (wg_t kw_1838)) (fun _ h9 => h9) dME_encrypt_369 ?_
              refine lv_iload_n hx hb dME_encrypt_372 rfl (lv_at hl 3 rfl) ?_
              refine va_ti (v := .int (nI 4)) hx hb (hEn.2.1 22 _ rfl).2 hS (vp_in_nI (by decide) (by decide)) (by decide +kernel) dME_encrypt_373 ?_
              refine mp_v (cx := []) (wr := []) hP hD hS hA [] [] rfl rfl rfl (by decide) (va_runS (As := [.ref r31, .int (nI 4)]) (rest := []) F (N_ME_less_4 l g _ T s31 pl hO hU r31 217 kr31 rfl) (va_cwS 2 hts (wg_app (wg_c kw_1832 (wg_c kw_1833 (wg_c kw_11 wg_n))) kw_1834) rfl rfl rfl (by decide +kernel) ⟨by decide, by decide⟩) (pp_S (en_ok g) hP hD hS hA hEn [] rfl rfl) rfl rfl hl.1 rfl (lv_room (Nat.le_of_ble_eq_true rfl)) dME_encrypt_374 ⟨by omega, by omega⟩) (fun  u29 H locs hu29 hP hD hS => ?_)
              obtain ⟨s32, pl⟩ := u29
              obtain ⟨⟨eq29, hFc29, -⟩, hO⟩ := hu29
              have hO : okn g T s32 pl := hO
              have hP : va_P g.1 vcl ([] ++ pl) _ := hP
              have hD : va_D _ ([] ++ pl) := hD
              have hFc29 : frm (M_ME_less_4 217) s31 s32 := hFc29
              replace hR := bnd_step hR eq29
              replace hE := bndP_step hE eq29
              have hF := frm_tr hF hFc29 (fun k hk => by unfold M_ME_less_4 at hk; unfold M_ME_encrypt_0; omega)
              refine W.widen (k := 0) (n := 0) (by omega) (by omega) ?_
              refine lv_aload_n hx hb dME_encrypt_377 rfl (lv_at hl 2 rfl) ?_
              refine nw_get (C := "LatticeKeysModel$Secrets") (TT := T_ME) (N := 14) hx hb hts (wg_ft i_ME) hown hK hO k_h0 (kn := 184) (ci := 11) (fl := [(3, 172), (3, 178), (3, 185), (3, 202), (3, 207), (3, 212), (3, 217), (3, 218), (3, 219), (3, 220), (3, 221), (3, 222), (3, 223), (3, 224)]) rfl hP rfl 6 (by decide) (hts _ (wg_t kw_1385)) (fun _ h9 => h9) (cd := (3, 217)) rfl dME_encrypt_378 (fun v32 hv32 => ?_)
              obtain ⟨r32, rfl, kr32⟩ := (show ∃ r : Nat, v32 = .ref r ∧ T r = some 217 from hv32)
              refine lv_aload hx hb dME_encrypt_381 (lv_at hl 5 rfl) ?_
              refine lv_bipush (v := nI 32) hx hb dME_encrypt_383 (by decide) ?_
              refine va_gets hx hb (hEn.2.1 21 _ rfl).1 hS hown (hts _ (wg_t kw_1830)) (fun _ h9 => h9) dME_encrypt_385 ?_
              refine lv_iload_n hx hb dME_encrypt_388 rfl (lv_at hl 3 rfl) ?_
              refine va_ti (v := .int (nI 10)) hx hb (hEn.2.1 21 _ rfl).2 hS (vp_in_nI (by decide) (by decide)) (by decide +kernel) dME_encrypt_389 ?_
              refine mi_imul hx hb dME_encrypt_390 ?_
              refine mi_as (show nI (32 * 10) = nI 320 from rfl) ?_
              refine lv_iload hx hb dME_encrypt_391 (lv_at hl 1 rfl) ?_
              refine mi_imul hx hb dME_encrypt_393 ?_
              refine mi_as (show nI (320 * 2) = nI 640 from rfl) ?_
              refine va_gets hx hb (hEn.2.1 22 _ rfl).1 hS hown (hts _ (wg_t kw_1838)) (fun _ h9 => h9) dME_encrypt_394 ?_
              refine lv_iload_n hx hb dME_encrypt_397 rfl (lv_at hl 3 rfl) ?_
              refine va_ti (v := .int (nI 4)) hx hb (hEn.2.1 22 _ rfl).2 hS (vp_in_nI (by decide) (by decide)) (by decide +kernel) dME_encrypt_398 ?_
              refine mp_v (cx := []) (wr := []) hP hD hS hA [] [] rfl rfl rfl (by decide) (va_runS (As := [.ref r32, .ref ct, .int (nI 640), .int (nI 4)]) (rest := []) F (N_ME_write_4 l g _ T s32 pl hO hU r32 ct 217 pct nc 640 kr32 rfl k_ct n_ct (by omega) (by omega)) (va_cwS 4 hts (wg_app (wg_c kw_1685 (wg_c kw_1686 (wg_c kw_11 wg_n))) kw_1687) rfl rfl rfl (by decide +kernel) ⟨by decide, by decide⟩) (pp_S (en_ok g) hP hD hS hA hEn [] rfl rfl) rfl rfl hl.1 rfl (lv_room (Nat.le_of_ble_eq_true rfl)) dME_encrypt_399 ⟨by omega, by omega⟩) (fun  u30 H locs hu30 hP hD hS => ?_)
              obtain ⟨s33, pl⟩ := u30
              obtain ⟨⟨eq30, hFc30, -⟩, hO⟩ := hu30
              have hO : okn g T s33 pl := hO
              have hP : va_P g.1 vcl ([] ++ pl) _ := hP
              have hD : va_D _ ([] ++ pl) := hD
              have hFc30 : frm (M_ME_write_4 pct) s32 s33 := hFc30
              replace hR := bnd_step hR eq30
              replace hE := bndP_step hE eq30
              have hF := frm_tr hF hFc30 (fun k hk => by unfold M_ME_write_4 at hk; unfold M_ME_encrypt_0; omega)
              refine W.widen (k := 0) (n := 0) (by omega) (by omega) ?_
              exact mp_vret hx hb hr hlk hP hD hS (s33, pl) ⟨⟨hR.symm, hF, trivial⟩, hO⟩ [] rfl rfl rfl (by omega) (by omega) dME_encrypt_402
            | succ n23 ih23 =>
              intro i23 s25 pl ls H locs hm23 hF hE hR hl hO hP hD hS
              refine lv_iload hx hb dME_encrypt_262 (lv_at hl 0 rfl) ?_
              refine lv_iload hx hb dME_encrypt_264 (lv_at hl 1 rfl) ?_
              refine mi_ge (tgt := 297) hx hb dME_encrypt_266 (by decide) (by omega) (by omega) (fun h24 => absurd h24 (by omega)) (fun h24 => ?_)
              refine lv_aload_n hx hb dME_encrypt_269 rfl (lv_at hl 2 rfl) ?_
              refine lv_aload_n hx hb dME_encrypt_270 rfl (lv_at hl 2 rfl) ?_
              refine nw_get (C := "LatticeKeysModel$Secrets") (TT := T_ME) (N := 14) hx hb hts (wg_ft i_ME) hown hK hO k_h0 (kn := 184) (ci := 11) (fl := [(3, 172), (3, 178), (3, 185), (3, 202), (3, 207), (3, 212), (3, 217), (3, 218), (3, 219), (3, 220), (3, 221), (3, 222), (3, 223), (3, 224)]) rfl hP rfl 5 (by decide) (hts _ (wg_t kw_1384)) (fun _ h9 => h9) (cd := (3, 212)) rfl dME_encrypt_271 (fun v33 hv33 => ?_)
              obtain ⟨r33, rfl, kr33⟩ := (show ∃ r : Nat, v33 = .ref r ∧ T r = some 212 from hv33)
              refine lv_iload hx hb dME_encrypt_274 (lv_at hl 0 rfl) ?_
              refine nw_aald3 hx hb hK hO kr33 (k := 212) (b := 213) rfl hP (by omega) (by omega) dME_encrypt_276 (fun r34 kr34 => ?_)
              have hn21 : nsp (213 + i23) = (0, 256, []) := rows_ok 213 4 (by decide) _ (by omega)
              refine lv_aload_n hx hb dME_encrypt_277 rfl (lv_at hl 2 rfl) ?_
              refine nw_get (C := "LatticeKeysModel$Secrets") (TT := T_ME) (N := 14) hx hb hts (wg_ft i_ME) hown hK hO k_h0 (kn := 184) (ci := 11) (fl := [(3, 172), (3, 178), (3, 185), (3, 202), (3, 207), (3, 212), (3, 217), (3, 218), (3, 219), (3, 220), (3, 221), (3, 222), (3, 223), (3, 224)]) rfl hP rfl 3 (by decide) (hts _ (wg_t kw_1382)) (fun _ h9 => h9) (cd := (3, 202)) rfl dME_encrypt_278 (fun v34 hv34 => ?_)
              obtain ⟨r35, rfl, kr35⟩ := (show ∃ r : Nat, v34 = .ref r ∧ T r = some 202 from hv34)
              refine lv_iload hx hb dME_encrypt_281 (lv_at hl 0 rfl) ?_
              refine nw_aald3 hx hb hK hO kr35 (k := 202) (b := 203) rfl hP (by omega) (by omega) dME_encrypt_283 (fun r36 kr36 => ?_)
              have hn22 : nsp (203 + i23) = (0, 256, []) := rows_ok 203 4 (by decide) _ (by omega)
              refine lv_aload_n hx hb dME_encrypt_284 rfl (lv_at hl 2 rfl) ?_
              refine nw_get (C := "LatticeKeysModel$Secrets") (TT := T_ME) (N := 14) hx hb hts (wg_ft i_ME) hown hK hO k_h0 (kn := 184) (ci := 11) (fl := [(3, 172), (3, 178), (3, 185), (3, 202), (3, 207), (3, 212), (3, 217), (3, 218), (3, 219), (3, 220), (3, 221), (3, 222), (3, 223), (3, 224)]) rfl hP rfl 6 (by decide) (hts _ (wg_t kw_1385)) (fun _ h9 => h9) (cd := (3, 217)) rfl dME_encrypt_285 (fun v35 hv35 => ?_)
              obtain ⟨r37, rfl, kr37⟩ := (show ∃ r : Nat, v35 = .ref r ∧ T r = some 217 from hv35)
              refine mp_v (cx := []) (wr := []) hP hD hS hA [] [] rfl rfl rfl (by decide) (va_runV (As := [.ref r34, .ref r36, .ref r37]) (rest := []) F (N_ME_product l g _ T s25 pl hO hU h0 r34 r36 r37 (213 + i23) (203 + i23) 217 k_h0 kr34 hn21 kr36 hn22 kr37 rfl) (cwV 3 hts (wg_app (wg_c kw_1676 (wg_c kw_1678 (wg_c ks_58 (wg_c kw_11 wg_n)))) kw_1679) rfl rfl rfl (by decide +kernel) ⟨by decide, by decide⟩) (pn_W "LatticeKeysModel$Secrets" (en_ok g) (ci := 11) (kn := 184) (fl := [(3, 172), (3, 178), (3, 185), (3, 202), (3, 207), (3, 212), (3, 217), (3, 218), (3, 219), (3, 220), (3, 221), (3, 222), (3, 223), (3, 224)]) hK hO k_h0 rfl hP hD hS hA hEn [] rfl rfl rfl) rfl rfl hl.1 rfl (lv_room (Nat.le_of_ble_eq_true rfl)) dME_encrypt_288 ⟨by omega, by omega⟩) (fun  u31 H locs hu31 hP hD hS => ?_)
              obtain ⟨s34, pl⟩ := u31
              obtain ⟨⟨eq31, hFc31, -⟩, hO⟩ := hu31
              have hO : okn g T s34 pl := hO
              have hP : va_P g.1 vcl ([] ++ pl) _ := hP
              have hD : va_D _ ([] ++ pl) := hD
              have hFc31 : frm (M_ME_product 217) s25 s34 := hFc31
              replace hR := bnd_step hR eq31
              replace hE := bndP_step hE eq31
              have hF := frm_tr hF hFc31 (fun k hk => by unfold M_ME_product at hk; unfold M_ME_encrypt_0; omega)
              refine W.widen (k := 0) (n := 0) (by omega) (by omega) ?_
              refine mi_iinc (k := 0) (x := i23) (d := 1) (y := i23 + 1) (lv' := [(7, .int (nI (i23 + 1))), (6, .int (nI 2)), (0, .ref h0), (1, .int (nI 0)), (4, .ref ms), (5, .ref ct)]) hx hb dME_encrypt_291 hl rfl (by decide) rfl (by decide) rfl (fun ls hl => ?_)
              refine lv_goto (tgt := 262) hx hb dME_encrypt_294 (by decide) ?_
              exact ih23 (i23 + 1) s34 pl ls H locs (by omega) hF hE hR (lv_sub hl [0, 1, 2, 3, 4, 5] rfl) hO hP hD hS
          exact lp23 2 0 s24 pl ls _ _ (by omega) hF hE hR (lv_sub hl [0, 1, 2, 3, 4, 5] rfl) hO hP hD hS
        | succ n22 ih22 =>
          intro i22 s23 pl ls H locs hm22 hF hE hR hl hO hP hD hS
          refine lv_iload hx hb dME_encrypt_130 (lv_at hl 0 rfl) ?_
          refine lv_iload hx hb dME_encrypt_132 (lv_at hl 1 rfl) ?_
          refine mi_ge (tgt := 252) hx hb dME_encrypt_134 (by decide) (by omega) (by omega) (fun h25 => absurd h25 (by omega)) (fun h25 => ?_)
          refine lv_aload_n hx hb dME_encrypt_137 rfl (lv_at hl 2 rfl) ?_
          refine nw_get (C := "LatticeKeysModel$Secrets") (TT := T_ME) (N := 14) hx hb hts (wg_ft i_ME) hown hK hO k_h0 (kn := 184) (ci := 11) (fl := [(3, 172), (3, 178), (3, 185), (3, 202), (3, 207), (3, 212), (3, 217), (3, 218), (3, 219), (3, 220), (3, 221), (3, 222), (3, 223), (3, 224)]) rfl hP rfl 6 (by decide) (hts _ (wg_t kw_1385)) (fun _ h9 => h9) (cd := (3, 217)) rfl dME_encrypt_138 (fun v36 hv36 => ?_)
          obtain ⟨r38, rfl, kr38⟩ := (show ∃ r : Nat, v36 = .ref r ∧ T r = some 217 from hv36)
          refine mp_v (cx := []) (wr := []) hP hD hS hA [] [] rfl rfl rfl (by decide) (va_runS (As := [.ref r38]) (rest := []) F (N_ME_clear l g _ T s23 pl hO hU r38 217 kr38 rfl) (va_cwS 1 hts (wg_app (wg_c kw_1819 (wg_c kw_1820 (wg_c kw_11 wg_n))) kw_1821) rfl rfl rfl (by decide +kernel) ⟨by decide, by decide⟩) (pp_S (en_ok g) hP hD hS hA hEn [] rfl rfl) rfl rfl hl.1 rfl (lv_room (Nat.le_of_ble_eq_true rfl)) dME_encrypt_141 ⟨by omega, by omega⟩) (fun  u32 H locs hu32 hP hD hS => ?_)
          obtain ⟨s35, pl⟩ := u32
          obtain ⟨⟨eq32, hFc32, -⟩, hO⟩ := hu32
          have hO : okn g T s35 pl := hO
          have hP : va_P g.1 vcl ([] ++ pl) _ := hP
          have hD : va_D _ ([] ++ pl) := hD
          have hFc32 : frm (M_ME_clear 217) s23 s35 := hFc32
          replace hR := bnd_step hR eq32
          replace hE := bndP_step hE eq32
          have hF := frm_tr hF hFc32 (fun k hk => by unfold M_ME_clear at hk; unfold M_ME_encrypt_0; omega)
          refine W.widen (k := 0) (n := 0) (by omega) (by omega) ?_
          refine lv_iconst (v := nI 0) hx hb dME_encrypt_144 (by decide) ?_
          refine lv_istore (lv' := [(8, .int (nI 0)), (7, .int (nI i22)), (6, .int (nI 2)), (0, .ref h0), (1, .int (nI 0)), (4, .ref ms), (5, .ref ct)]) hx hb dME_encrypt_145 hl (by decide) rfl (fun ls hl => ?_)
          have lp24 : ∀ (n24 : Nat) (i24 : Nat) (s36 : Sto) (pl : va_W) (ls : Array Slot) (H : Heap) (locs : List Loc), n24 + i24 = 2 → frm (M_ME_encrypt_0 pct) s s36 → E_ME_encrypt_0_L3 pct nc i22 (E_ME_encrypt_0_L1 pms nm pct nc n22) n24 i24 s36 → F_ME_encrypt_0 pek n at_ pms nm pct nc s = F_ME_encrypt_0_L3 pct nc i22 (F_ME_encrypt_0_L1 pms nm pct nc n22) n24 i24 s36 → lv_has ls 9 [(8, .int (nI i24)), (7, .int (nI i22)), (6, .int (nI 2)), (0, .ref h0), (1, .int (nI 0)), (4, .ref ms), (5, .ref ct)] → okn g T s36 pl → va_P g.1 vcl ([] ++ pl) H → va_D A ([] ++ pl) → va_S A s0.heap H locs → W p l e ({ frames := 5, cells := 0, slots := 0, locals := 118 } : Room) s0 m args below meth c H locs 0 0 (MQ below (va_Qv (fun (u : (Sto) × va_W) => (u.1 = F_ME_encrypt_0 pek n at_ pms nm pct nc s ∧ frm (M_ME_encrypt_0 pct) s u.1 ∧ True) ∧ okn g T u.1 u.2) (po g.1 vcl A (fun (u : (Sto) × va_W) => [] ++ u.2)) A) args s0 0 0 A) (F0 m 147 ls []) := by
            intro n24
            induction n24 with
            | zero =>
              intro i24 s36 pl ls H locs hm24 hF hE hR hl hO hP hD hS
              refine lv_iload hx hb dME_encrypt_147 (lv_at hl 0 rfl) ?_
              refine lv_iload hx hb dME_encrypt_149 (lv_at hl 2 rfl) ?_
              refine mi_ge (tgt := 187) hx hb dME_encrypt_151 (by decide) (by omega) (by omega) (fun h26 => ?_) (fun h26 => absurd h26 (by omega))
              refine lv_aload_n hx hb dME_encrypt_187 rfl (lv_at hl 3 rfl) ?_
              refine lv_aload_n hx hb dME_encrypt_188 rfl (lv_at hl 3 rfl) ?_
              refine nw_get (C := "LatticeKeysModel$Secrets") (TT := T_ME) (N := 14) hx hb hts (wg_ft i_ME) hown hK hO k_h0 (kn := 184) (ci := 11) (fl := [(3, 172), (3, 178), (3, 185), (3, 202), (3, 207), (3, 212), (3, 217), (3, 218), (3, 219), (3, 220), (3, 221), (3, 222), (3, 223), (3, 224)]) rfl hP rfl 6 (by decide) (hts _ (wg_t kw_1385)) (fun _ h9 => h9) (cd := (3, 217)) rfl dME_encrypt_189 (fun v37 hv37 => ?_)
              obtain ⟨r39, rfl, kr39⟩ := (show ∃ r : Nat, v37 = .ref r ∧ T r = some 217 from hv37)
              refine mp_v (cx := []) (wr := []) hP hD hS hA [] [] rfl rfl rfl (by decide) (va_runV (As := [.ref r39]) (rest := []) F (N_ME_back l g _ T s36 pl hO hU h0 r39 217 k_h0 kr39 rfl) (cwV 1 hts (wg_app (wg_c kw_1822 (wg_c kw_1824 (wg_c ks_69 (wg_c kw_11 wg_n)))) kw_1825) rfl rfl rfl (by decide +kernel) ⟨by decide, by decide⟩) (pn_W "LatticeKeysModel$Secrets" (en_ok g) (ci := 11) (kn := 184) (fl := [(3, 172), (3, 178), (3, 185), (3, 202), (3, 207), (3, 212), (3, 217), (3, 218), (3, 219), (3, 220), (3, 221), (3, 222), (3, 223), (3, 224)]) hK hO k_h0 rfl hP hD hS hA hEn [] rfl rfl rfl) rfl rfl hl.1 rfl (lv_room (Nat.le_of_ble_eq_true rfl)) dME_encrypt_192 ⟨by omega, by omega⟩) (fun  u33 H locs hu33 hP hD hS => ?_)
              obtain ⟨s37, pl⟩ := u33
              obtain ⟨⟨eq33, hFc33, -⟩, hO⟩ := hu33
              have hO : okn g T s37 pl := hO
              have hP : va_P g.1 vcl ([] ++ pl) _ := hP
              have hD : va_D _ ([] ++ pl) := hD
              have hFc33 : frm (M_ME_back 217) s36 s37 := hFc33
              replace hR := bnd_step hR eq33
              replace hE := bndP_step hE eq33
              have hF := frm_tr hF hFc33 (fun k hk => by unfold M_ME_back at hk; unfold M_ME_encrypt_0; omega)
              refine W.widen (k := 0) (n := 0) (by omega) (by omega) ?_
              refine lv_aload_n hx hb dME_encrypt_195 rfl (lv_at hl 3 rfl) ?_
              refine nw_get (C := "LatticeKeysModel$Secrets") (TT := T_ME) (N := 14) hx hb hts (wg_ft i_ME) hown hK hO k_h0 (kn := 184) (ci := 11) (fl := [(3, 172), (3, 178), (3, 185), (3, 202), (3, 207), (3, 212), (3, 217), (3, 218), (3, 219), (3, 220), (3, 221), (3, 222), (3, 223), (3, 224)]) rfl hP rfl 6 (by decide) (hts _ (wg_t kw_1385)) (fun _ h9 => h9) (cd := (3, 217)) rfl dME_encrypt_196 (fun v38 hv38 => ?_)
              obtain ⟨r40, rfl, kr40⟩ := (show ∃ r : Nat, v38 = .ref r ∧ T r = some 217 from hv38)
              refine lv_aload_n hx hb dME_encrypt_199 rfl (lv_at hl 3 rfl) ?_
              refine nw_get (C := "LatticeKeysModel$Secrets") (TT := T_ME) (N := 14) hx hb hts (wg_ft i_ME) hown hK hO k_h0 (kn := 184) (ci := 11) (fl := [(3, 172), (3, 178), (3, 185), (3, 202), (3, 207), (3, 212), (3, 217), (3, 218), (3, 219), (3, 220), (3, 221), (3, 222), (3, 223), (3, 224)]) rfl hP rfl 4 (by decide) (hts _ (wg_t kw_1383)) (fun _ h9 => h9) (cd := (3, 207)) rfl dME_encrypt_200 (fun v39 hv39 => ?_)
              obtain ⟨r41, rfl, kr41⟩ := (show ∃ r : Nat, v39 = .ref r ∧ T r = some 207 from hv39)
              refine lv_iload hx hb dME_encrypt_203 (lv_at hl 1 rfl) ?_
              refine nw_aald3 hx hb hK hO kr41 (k := 207) (b := 208) rfl hP (by omega) (by omega) dME_encrypt_205 (fun r42 kr42 => ?_)
              have hn23 : nsp (208 + i22) = (0, 256, []) := rows_ok 208 4 (by decide) _ (by omega)
              refine mp_v (cx := []) (wr := []) hP hD hS hA [] [] rfl rfl rfl (by decide) (va_runS (As := [.ref r40, .ref r42]) (rest := []) F (N_ME_plus l g _ T s37 pl hO hU r40 r42 217 (208 + i22) kr40 rfl kr42 hn23) (va_cwS 2 hts (wg_app (wg_c kw_1827 (wg_c kw_1828 (wg_c kw_11 wg_n))) kw_1829) rfl rfl rfl (by decide +kernel) ⟨by decide, by decide⟩) (pp_S (en_ok g) hP hD hS hA hEn [] rfl rfl) rfl rfl hl.1 rfl (lv_room (Nat.le_of_ble_eq_true rfl)) dME_encrypt_206 ⟨by omega, by omega⟩) (fun  u34 H locs hu34 hP hD hS => ?_)
              obtain ⟨s38, pl⟩ := u34
              obtain ⟨⟨eq34, hFc34, -⟩, hO⟩ := hu34
              have hO : okn g T s38 pl := hO
              have hP : va_P g.1 vcl ([] ++ pl) _ := hP
              have hD : va_D _ ([] ++ pl) := hD
              have hFc34 : frm (M_ME_plus 217) s37 s38 := hFc34
              replace hR := bnd_step hR eq34
              replace hE := bndP_step hE eq34
              have hF := frm_tr hF hFc34 (fun k hk => by unfold M_ME_plus at hk; unfold M_ME_encrypt_0; omega)
              refine W.widen (k := 0) (n := 0) (by omega) (by omega) ?_
              refine lv_aload_n hx hb dME_encrypt_209 rfl (lv_at hl 3 rfl) ?_
              refine nw_get (C := "LatticeKeysModel$Secrets") (TT := T_ME) (N := 14) hx hb hts (wg_ft i_ME) hown hK hO k_h0 (kn := 184) (ci := 11) (fl := [(3, 172), (3, 178), (3, 185), (3, 202), (3, 207), (3, 212), (3, 217), (3, 218), (3, 219), (3, 220), (3, 221), (3, 222), (3, 223), (3, 224)]) rfl hP rfl 6 (by decide) (hts _ (wg_t kw_1385)) (fun _ h9 => h9) (cd := (3, 217)) rfl dME_encrypt_210 (fun v40 hv40 => ?_)
              obtain ⟨r43, rfl, kr43⟩ := (show ∃ r : Nat, v40 = .ref r ∧ T r = some 217 from hv40)
              refine va_gets hx hb (hEn.2.1 21 _ rfl).1 hS hown (hts _ (wg_t kw_1830)) (fun _ h9 => h9) dME_encrypt_213 ?_
              refine lv_iload_n hx hb dME_encrypt_216 rfl (lv_at hl 4 rfl) ?_
              refine va_ti (v := .int (nI 10)) hx hb (hEn.2.1 21 _ rfl).2 hS (vp_in_nI (by decide) (by decide)) (by decide +kernel) dME_encrypt_217 ?_
              refine mp_v (cx := []) (wr := []) hP hD hS hA [] [] rfl rfl rfl (by decide) (va_runS (As := [.ref r43, .int (nI 10)]) (rest := []) F (N_ME_less_10 l g _ T s38 pl hO hU r43 217 kr43 rfl) (va_cwS 2 hts (wg_app (wg_c kw_1832 (wg_c kw_1833 (wg_c kw_11 wg_n))) kw_1834) rfl rfl rfl (by decide +kernel) ⟨by decide, by decide⟩) (pp_S (en_ok g) hP hD hS hA hEn [] rfl rfl) rfl rfl hl.1 rfl (lv_room (Nat.le_of_ble_eq_true rfl)) dME_encrypt_218 ⟨by omega, by omega⟩) (fun  u35 H locs hu35 hP hD hS => ?_)
              obtain ⟨s39, pl⟩ := u35
              obtain ⟨⟨eq35, hFc35, -⟩, hO⟩ := hu35
              have hO : okn g T s39 pl := hO
              have hP : va_P g.1 vcl ([] ++ pl) _ := hP
              have hD : va_D _ ([] ++ pl) := hD
              have hFc35 : frm (M_ME_less_10 217) s38 s39 := hFc35
              replace hR := bnd_step hR eq35
              replace hE := bndP_step hE eq35
              have hF := frm_tr hF hFc35 (fun k hk => by unfold M_ME_less_10 at hk; unfold M_ME_encrypt_0; omega)
              refine W.widen (k := 0) (n := 0) (by omega) (by omega) ?_
              refine lv_aload_n hx hb dME_encrypt_221 rfl (lv_at hl 3 rfl) ?_
              refine nw_get (C := "LatticeKeysModel$Secrets") (TT := T_ME) (N := 14) hx hb hts (wg_ft i_ME) hown hK hO k_h0 (kn := 184) (ci := 11) (fl := [(3, 172), (3, 178), (3, 185), (3, 202), (3, 207), (3, 212), (3, 217), (3, 218), (3, 219), (3, 220), (3, 221), (3, 222), (3, 223), (3, 224)]) rfl hP rfl 6 (by decide) (hts _ (wg_t kw_1385)) (fun _ h9 => h9) (cd := (3, 217)) rfl dME_encrypt_222 (fun v41 hv41 => ?_)
              obtain ⟨r44, rfl, kr44⟩ := (show ∃ r : Nat, v41 = .ref r ∧ T r = some 217 from hv41)
              refine lv_aload hx hb dME_encrypt_225 (lv_at hl 6 rfl) ?_
              refine lv_bipush (v := nI 32) hx hb dME_encrypt_227 (by decide) ?_
              refine va_gets hx hb (hEn.2.1 21 _ rfl).1 hS hown (hts _ (wg_t kw_1830)) (fun _ h9 => h9) dME_encrypt_229 ?_
              refine lv_iload_n hx hb dME_encrypt_232 rfl (lv_at hl 4 rfl) ?_
              refine va_ti (v := .int (nI 10)) hx hb (hEn.2.1 21 _ rfl).2 hS (vp_in_nI (by decide) (by decide)) (by decide +kernel) dME_encrypt_233 ?_
              refine mi_imul hx hb dME_encrypt_234 ?_
              refine mi_as (show nI (32 * 10) = nI 320 from rfl) ?_
              refine lv_iload hx hb dME_encrypt_235 (lv_at hl 1 rfl) ?_
              refine mi_imul hx hb dME_encrypt_237 ?_
              refine va_gets hx hb (hEn.2.1 21 _ rfl).1 hS hown (hts _ (wg_t kw_1830)) (fun _ h9 => h9) dME_encrypt_238 ?_
              refine lv_iload_n hx hb dME_encrypt_241 rfl (lv_at hl 4 rfl) ?_
              refine va_ti (v := .int (nI 10)) hx hb (hEn.2.1 21 _ rfl).2 hS (vp_in_nI (by decide) (by decide)) (by decide +kernel) dME_encrypt_242 ?_
              refine mp_v (cx := []) (wr := []) hP hD hS hA [] [] rfl rfl rfl (by decide) (va_runS (As := [.ref r44, .ref ct, .int (nI (320 * i22)), .int (nI 10)]) (rest := []) F (N_ME_write_10 l g _ T s39 pl hO hU r44 ct 217 pct nc (320 * i22) kr44 rfl k_ct n_ct (by omega) (by omega)) (va_cwS 4 hts (wg_app (wg_c kw_1685 (wg_c kw_1686 (wg_c kw_11 wg_n))) kw_1687) rfl rfl rfl (by decide +kernel) ⟨by decide, by decide⟩) (pp_S (en_ok g) hP hD hS hA hEn [] rfl rfl) rfl rfl hl.1 rfl (lv_room (Nat.le_of_ble_eq_true rfl)) dME_encrypt_243 ⟨by omega, by omega⟩) (fun  u36 H locs hu36 hP hD hS => ?_)
              obtain ⟨s40, pl⟩ := u36
              obtain ⟨⟨eq36, hFc36, -⟩, hO⟩ := hu36
              have hO : okn g T s40 pl := hO
              have hP : va_P g.1 vcl ([] ++ pl) _ := hP
              have hD : va_D _ ([] ++ pl) := hD
              have hFc36 : frm (M_ME_write_10 pct) s39 s40 := hFc36
              replace hR := bnd_step hR eq36
              replace hE := bndP_step hE eq36
              have hF := frm_tr hF hFc36 (fun k hk => by unfold M_ME_write_10 at hk; unfold M_ME_encrypt_0; omega)
              refine W.widen (k := 0) (n := 0) (by omega) (by omega) ?_
              refine mi_iinc (k := 1) (x := i22) (d := 1) (y := i22 + 1) (lv' := [(7, .int (nI (i22 + 1))), (8, .int (nI i24)), (6, .int (nI 2)), (0, .ref h0), (1, .int (nI 0)), (4, .ref ms), (5, .ref ct)]) hx hb dME_encrypt_246 hl rfl (by decide) rfl (by decide) rfl (fun ls hl => ?_)
              refine lv_goto (tgt := 130) hx hb dME_encrypt_249 (by decide) ?_
              exact ih22 (i22 + 1) s40 pl ls H locs (by omega) hF hE hR (lv_sub hl [0, 2, 3, 4, 5, 6] rfl) hO hP hD hS
            | succ n24 ih24 =>
              intro i24 s36 pl ls H locs hm24 hF hE hR hl hO hP hD hS
              refine lv_iload hx hb dME_encrypt_147 (lv_at hl 0 rfl) ?_
              refine lv_iload hx hb dME_encrypt_149 (lv_at hl 2 rfl) ?_
              refine mi_ge (tgt := 187) hx hb dME_encrypt_151 (by decide) (by omega) (by omega) (fun h27 => absurd h27 (by omega)) (fun h27 => ?_)
              refine lv_aload_n hx hb dME_encrypt_154 rfl (lv_at hl 3 rfl) ?_
              refine lv_aload_n hx hb dME_encrypt_155 rfl (lv_at hl 3 rfl) ?_
              refine nw_get (C := "LatticeKeysModel$Secrets") (TT := T_ME) (N := 14) hx hb hts (wg_ft i_ME) hown hK hO k_h0 (kn := 184) (ci := 11) (fl := [(3, 172), (3, 178), (3, 185), (3, 202), (3, 207), (3, 212), (3, 217), (3, 218), (3, 219), (3, 220), (3, 221), (3, 222), (3, 223), (3, 224)]) rfl hP rfl 2 (by decide) (hts _ (wg_t kw_1381)) (fun _ h9 => h9) (cd := (3, 185)) rfl dME_encrypt_156 (fun v42 hv42 => ?_)
              obtain ⟨r45, rfl, kr45⟩ := (show ∃ r : Nat, v42 = .ref r ∧ T r = some 185 from hv42)
              refine lv_iconst (v := nI 4) hx hb dME_encrypt_159 (by decide) ?_
              refine lv_iload hx hb dME_encrypt_160 (lv_at hl 0 rfl) ?_
              refine mi_imul hx hb dME_encrypt_162 ?_
              refine lv_iload hx hb dME_encrypt_163 (lv_at hl 1 rfl) ?_
              refine mi_iadd hx hb dME_encrypt_165 ?_
              refine nw_aald3 hx hb hK hO kr45 (k := 185) (b := 186) rfl hP (by omega) (by omega) dME_encrypt_166 (fun r46 kr46 => ?_)
              have hn24 : nsp (186 + ((4 * i24) + i22)) = (0, 256, []) := rows_ok 186 16 (by decide) _ (by omega)
              refine lv_aload_n hx hb dME_encrypt_167 rfl (lv_at hl 3 rfl) ?_
              refine nw_get (C := "LatticeKeysModel$Secrets") (TT := T_ME) (N := 14) hx hb hts (wg_ft i_ME) hown hK hO k_h0 (kn := 184) (ci := 11) (fl := [(3, 172), (3, 178), (3, 185), (3, 202), (3, 207), (3, 212), (3, 217), (3, 218), (3, 219), (3, 220), (3, 221), (3, 222), (3, 223), (3, 224)]) rfl hP rfl 3 (by decide) (hts _ (wg_t kw_1382)) (fun _ h9 => h9) (cd := (3, 202)) rfl dME_encrypt_168 (fun v43 hv43 => ?_)
              obtain ⟨r47, rfl, kr47⟩ := (show ∃ r : Nat, v43 = .ref r ∧ T r = some 202 from hv43)
              refine lv_iload hx hb dME_encrypt_171 (lv_at hl 0 rfl) ?_
              refine nw_aald3 hx hb hK hO kr47 (k := 202) (b := 203) rfl hP (by omega) (by omega) dME_encrypt_173 (fun r48 kr48 => ?_)
              have hn25 : nsp (203 + i24) = (0, 256, []) := rows_ok 203 4 (by decide) _ (by omega)
              refine lv_aload_n hx hb dME_encrypt_174 rfl (lv_at hl 3 rfl) ?_
              refine nw_get (C := "LatticeKeysModel$Secrets") (TT := T_ME) (N := 14) hx hb hts (wg_ft i_ME) hown hK hO k_h0 (kn := 184) (ci := 11) (fl := [(3, 172), (3, 178), (3, 185), (3, 202), (3, 207), (3, 212), (3, 217), (3, 218), (3, 219), (3, 220), (3, 221), (3, 222), (3, 223), (3, 224)]) rfl hP rfl 6 (by decide) (hts _ (wg_t kw_1385)) (fun _ h9 => h9) (cd := (3, 217)) rfl dME_encrypt_175 (fun v44 hv44 => ?_)
              obtain ⟨r49, rfl, kr49⟩ := (show ∃ r : Nat, v44 = .ref r ∧ T r = some 217 from hv44)
              refine mp_v (cx := []) (wr := []) hP hD hS hA [] [] rfl rfl rfl (by decide) (va_runV (As := [.ref r46, .ref r48, .ref r49]) (rest := []) F (N_ME_product l g _ T s36 pl hO hU h0 r46 r48 r49 (186 + ((4 * i24) + i22)) (203 + i24) 217 k_h0 kr46 hn24 kr48 hn25 kr49 rfl) (cwV 3 hts (wg_app (wg_c kw_1676 (wg_c kw_1678 (wg_c ks_58 (wg_c kw_11 wg_n)))) kw_1679) rfl rfl rfl (by decide +kernel) ⟨by decide, by decide⟩) (pn_W "LatticeKeysModel$Secrets" (en_ok g) (ci := 11) (kn := 184) (fl := [(3, 172), (3, 178), (3, 185), (3, 202), (3, 207), (3, 212), (3, 217), (3, 218), (3, 219), (3, 220), (3, 221), (3, 222), (3, 223), (3, 224)]) hK hO k_h0 rfl hP hD hS hA hEn [] rfl rfl rfl) rfl rfl hl.1 rfl (lv_room (Nat.le_of_ble_eq_true rfl)) dME_encrypt_178 ⟨by omega, by omega⟩) (fun  u37 H locs hu37 hP hD hS => ?_)
              obtain ⟨s41, pl⟩ := u37
              obtain ⟨⟨eq37, hFc37, -⟩, hO⟩ := hu37
              have hO : okn g T s41 pl := hO
              have hP : va_P g.1 vcl ([] ++ pl) _ := hP
              have hD : va_D _ ([] ++ pl) := hD
              have hFc37 : frm (M_ME_product 217) s36 s41 := hFc37
              replace hR := bnd_step hR eq37
              replace hE := bndP_step hE eq37
              have hF := frm_tr hF hFc37 (fun k hk => by unfold M_ME_product at hk; unfold M_ME_encrypt_0; omega)
              refine W.widen (k := 0) (n := 0) (by omega) (by omega) ?_
              refine mi_iinc (k := 0) (x := i24) (d := 1) (y := i24 + 1) (lv' := [(8, .int (nI (i24 + 1))), (7, .int (nI i22)), (6, .int (nI 2)), (0, .ref h0), (1, .int (nI 0)), (4, .ref ms), (5, .ref ct)]) hx hb dME_encrypt_181 hl rfl (by decide) rfl (by decide) rfl (fun ls hl => ?_)
              refine lv_goto (tgt := 147) hx hb dME_encrypt_184 (by decide) ?_
              exact ih24 (i24 + 1) s41 pl ls H locs (by omega) hF hE hR (lv_sub hl [0, 1, 2, 3, 4, 5, 6] rfl) hO hP hD hS
          exact lp24 2 0 s35 pl ls _ _ (by omega) hF hE hR (lv_sub hl [0, 1, 2, 3, 4, 5, 6] rfl) hO hP hD hS
      exact lp22 2 0 s22 pl ls _ _ (by omega) hF hE hR (lv_sub hl [0, 1, 2, 3, 6, 7] rfl) hO hP hD hS
    | succ n21 ih21 =>
      intro i21 s22 pl ls H locs hm21 hF hE hR hl hO hP hD hS
      refine lv_iload hx hb dME_encrypt_25 (lv_at hl 0 rfl) ?_
      refine lv_iload hx hb dME_encrypt_27 (lv_at hl 1 rfl) ?_
      refine mi_ge (tgt := 127) hx hb dME_encrypt_29 (by decide) (by omega) (by omega) (fun h28 => absurd h28 (by omega)) (fun h28 => ?_)
      refine lv_aload_n hx hb dME_encrypt_32 rfl (lv_at hl 4 rfl) ?_
      refine lv_iload_n hx hb dME_encrypt_33 rfl (lv_at hl 5 rfl) ?_
      refine lv_sipush (v := nI 384) hx hb dME_encrypt_34 (by decide) ?_
      refine lv_iload hx hb dME_encrypt_37 (lv_at hl 0 rfl) ?_
      refine mi_imul hx hb dME_encrypt_39 ?_
      refine mi_iadd hx hb dME_encrypt_40 ?_
      refine lv_bipush (v := nI 12) hx hb dME_encrypt_41 (by decide) ?_
      refine lv_aload_n hx hb dME_encrypt_43 rfl (lv_at hl 2 rfl) ?_
      refine nw_get (C := "LatticeKeysModel$Secrets") (TT := T_ME) (N := 14) hx hb hts (wg_ft i_ME) hown hK hO k_h0 (kn := 184) (ci := 11) (fl := [(3, 172), (3, 178), (3, 185), (3, 202), (3, 207), (3, 212), (3, 217), (3, 218), (3, 219), (3, 220), (3, 221), (3, 222), (3, 223), (3, 224)]) rfl hP rfl 5 (by decide) (hts _ (wg_t kw_1384)) (fun _ h9 => h9) (cd := (3, 212)) rfl dME_encrypt_44 (fun v45 hv45 => ?_)
      obtain ⟨r50, rfl, kr50⟩ := (show ∃ r : Nat, v45 = .ref r ∧ T r = some 212 from hv45)
      refine lv_iload hx hb dME_encrypt_47 (lv_at hl 0 rfl) ?_
      refine nw_aald3 hx hb hK hO kr50 (k := 212) (b := 213) rfl hP (by omega) (by omega) dME_encrypt_49 (fun r51 kr51 => ?_)
      have hn26 : nsp (213 + i21) = (0, 256, []) := rows_ok 213 4 (by decide) _ (by omega)
      refine mp_v (cx := []) (wr := []) hP hD hS hA [] [] rfl rfl rfl (by decide) (va_runS (As := [.ref ek, .int (nI (at_ + (384 * i21))), .int (nI 12), .ref r51]) (rest := []) F (N_ME_read_12 l g _ T s22 pl hO hU ek r51 pek n (at_ + (384 * i21)) (213 + i21) k_ek n_ek kr51 hn26 (by omega) (by omega)) (va_cwS 4 hts (wg_app (wg_c kw_1813 (wg_c kw_1814 (wg_c kw_11 wg_n))) kw_1815) rfl rfl rfl (by decide +kernel) ⟨by decide, by decide⟩) (pp_S (en_ok g) hP hD hS hA hEn [] rfl rfl) rfl rfl hl.1 rfl (lv_room (Nat.le_of_ble_eq_true rfl)) dME_encrypt_50 ⟨by omega, by omega⟩) (fun  u38 H locs hu38 hP hD hS => ?_)
      obtain ⟨s42, pl⟩ := u38
      obtain ⟨⟨eq38, hFc38, -⟩, hO⟩ := hu38
      have hO : okn g T s42 pl := hO
      have hP : va_P g.1 vcl ([] ++ pl) _ := hP
      have hD : va_D _ ([] ++ pl) := hD
      have hFc38 : frm (M_ME_read_12 (213 + i21)) s22 s42 := hFc38
      replace hR := bnd_step hR eq38
      replace hE := bndP_step hE eq38
      have hF := frm_tr hF hFc38 (fun k hk => by unfold M_ME_read_12 at hk; unfold M_ME_encrypt_0; omega)
      refine W.widen (k := 0) (n := 0) (by omega) (by omega) ?_
      refine lv_aload_n hx hb dME_encrypt_53 rfl (lv_at hl 2 rfl) ?_
      refine nw_get (C := "LatticeKeysModel$Secrets") (TT := T_ME) (N := 14) hx hb hts (wg_ft i_ME) hown hK hO k_h0 (kn := 184) (ci := 11) (fl := [(3, 172), (3, 178), (3, 185), (3, 202), (3, 207), (3, 212), (3, 217), (3, 218), (3, 219), (3, 220), (3, 221), (3, 222), (3, 223), (3, 224)]) rfl hP rfl 5 (by decide) (hts _ (wg_t kw_1384)) (fun _ h9 => h9) (cd := (3, 212)) rfl dME_encrypt_54 (fun v46 hv46 => ?_)
      obtain ⟨r52, rfl, kr52⟩ := (show ∃ r : Nat, v46 = .ref r ∧ T r = some 212 from hv46)
      refine lv_iload hx hb dME_encrypt_57 (lv_at hl 0 rfl) ?_
      refine nw_aald3 hx hb hK hO kr52 (k := 212) (b := 213) rfl hP (by omega) (by omega) dME_encrypt_59 (fun r53 kr53 => ?_)
      have hn27 : nsp (213 + i21) = (0, 256, []) := rows_ok 213 4 (by decide) _ (by omega)
      refine mp_v (cx := []) (wr := []) hP hD hS hA [] [] rfl rfl rfl (by decide) (va_runS (As := [.ref r53]) (rest := []) F (N_ME_proper l g _ T s42 pl hO hU r53 (213 + i21) kr53 hn27) (va_cwS 1 hts (wg_app (wg_c kw_1816 (wg_c kw_1817 (wg_c kw_11 wg_n))) kw_1818) rfl rfl rfl (by decide +kernel) ⟨by decide, by decide⟩) (pp_S (en_ok g) hP hD hS hA hEn [] rfl rfl) rfl rfl hl.1 rfl (lv_room (Nat.le_of_ble_eq_true rfl)) dME_encrypt_60 ⟨by omega, by omega⟩) (fun  u39 H locs hu39 hP hD hS => ?_)
      obtain ⟨s43, pl⟩ := u39
      obtain ⟨⟨eq39, hFc39, -⟩, hO⟩ := hu39
      have hO : okn g T s43 pl := hO
      have hP : va_P g.1 vcl ([] ++ pl) _ := hP
      have hD : va_D _ ([] ++ pl) := hD
      have hFc39 : frm (M_ME_proper (213 + i21)) s42 s43 := hFc39
      replace hR := bnd_step hR eq39
      replace hE := bndP_step hE eq39
      have hF := frm_tr hF hFc39 (fun k hk => by unfold M_ME_proper at hk; unfold M_ME_encrypt_0; omega)
      refine W.widen (k := 0) (n := 0) (by omega) (by omega) ?_
      refine lv_aload_n hx hb dME_encrypt_63 rfl (lv_at hl 2 rfl) ?_
      refine lv_aload_n hx hb dME_encrypt_64 rfl (lv_at hl 2 rfl) ?_
      refine nw_get (C := "LatticeKeysModel$Secrets") (TT := T_ME) (N := 14) hx hb hts (wg_ft i_ME) hown hK hO k_h0 (kn := 184) (ci := 11) (fl := [(3, 172), (3, 178), (3, 185), (3, 202), (3, 207), (3, 212), (3, 217), (3, 218), (3, 219), (3, 220), (3, 221), (3, 222), (3, 223), (3, 224)]) rfl hP rfl 3 (by decide) (hts _ (wg_t kw_1382)) (fun _ h9 => h9) (cd := (3, 202)) rfl dME_encrypt_65 (fun v47 hv47 => ?_)
      obtain ⟨r54, rfl, kr54⟩ := (show ∃ r : Nat, v47 = .ref r ∧ T r = some 202 from hv47)
      refine lv_iload hx hb dME_encrypt_68 (lv_at hl 0 rfl) ?_
      refine nw_aald3 hx hb hK hO kr54 (k := 202) (b := 203) rfl hP (by omega) (by omega) dME_encrypt_70 (fun r55 kr55 => ?_)
      have hn28 : nsp (203 + i21) = (0, 256, []) := rows_ok 203 4 (by decide) _ (by omega)
      refine lv_aload_n hx hb dME_encrypt_71 rfl (lv_at hl 2 rfl) ?_
      refine nw_get (C := "LatticeKeysModel$Secrets") (TT := T_ME) (N := 14) hx hb hts (wg_ft i_ME) hown hK hO k_h0 (kn := 184) (ci := 11) (fl := [(3, 172), (3, 178), (3, 185), (3, 202), (3, 207), (3, 212), (3, 217), (3, 218), (3, 219), (3, 220), (3, 221), (3, 222), (3, 223), (3, 224)]) rfl hP rfl 9 (by decide) (hts _ (wg_t kw_1388)) (fun _ h9 => h9) (cd := (3, 220)) rfl dME_encrypt_72 (fun v48 hv48 => ?_)
      obtain ⟨r56, rfl, kr56⟩ := (show ∃ r : Nat, v48 = .ref r ∧ T r = some 220 from hv48)
      refine lv_bipush (v := nI 32) hx hb dME_encrypt_75 (by decide) ?_
      refine lv_iload hx hb dME_encrypt_77 (lv_at hl 0 rfl) ?_
      refine va_gets hx hb (hEn.2.1 20 _ rfl).1 hS hown (hts _ (wg_t kw_1654)) (fun _ h9 => h9) dME_encrypt_79 ?_
      refine lv_iload_n hx hb dME_encrypt_82 rfl (lv_at hl 3 rfl) ?_
      refine va_ti (v := .int (nI 3)) hx hb (hEn.2.1 20 _ rfl).2 hS (vp_in_nI (by decide) (by decide)) (by decide +kernel) dME_encrypt_83 ?_
      refine mp_v (cx := []) (wr := []) hP hD hS hA [] [] rfl rfl rfl (by decide) (va_runV (As := [.ref r55, .ref r56, .int (nI 32), .int (nI i21), .int (nI 3)]) (rest := []) F (N_ME_noise_3 l g _ T s43 pl hO hU h0 r55 r56 (203 + i21) 220 64 32 (nI i21) k_h0 kr55 hn28 kr56 rfl (by omega) (by omega)) (cwV 5 hts (wg_app (wg_c kw_1656 (wg_c kw_1658 (wg_c ks_56 (wg_c kw_11 wg_n)))) kw_1659) rfl rfl rfl (by decide +kernel) ⟨by decide, by decide⟩) (pn_W "LatticeKeysModel$Secrets" (en_ok g) (ci := 11) (kn := 184) (fl := [(3, 172), (3, 178), (3, 185), (3, 202), (3, 207), (3, 212), (3, 217), (3, 218), (3, 219), (3, 220), (3, 221), (3, 222), (3, 223), (3, 224)]) hK hO k_h0 rfl hP hD hS hA hEn [] rfl rfl rfl) rfl rfl hl.1 rfl (lv_room (Nat.le_of_ble_eq_true rfl)) dME_encrypt_84 ⟨by omega, by omega⟩) (fun  u40 H locs hu40 hP hD hS => ?_)
      obtain ⟨s44, pl⟩ := u40
      obtain ⟨⟨eq40, hFc40, -⟩, hO⟩ := hu40
      have hO : okn g T s44 pl := hO
      have hP : va_P g.1 vcl ([] ++ pl) _ := hP
      have hD : va_D _ ([] ++ pl) := hD
      have hFc40 : frm (M_ME_noise_3 (203 + i21)) s43 s44 := hFc40
      replace hR := bnd_step hR eq40
      replace hE := bndP_step hE eq40
      have hF := frm_tr hF hFc40 (fun k hk => by unfold M_ME_noise_3 at hk; unfold M_ME_encrypt_0; omega)
      refine W.widen (k := 0) (n := 0) (by omega) (by omega) ?_
      refine lv_aload_n hx hb dME_encrypt_87 rfl (lv_at hl 2 rfl) ?_
      refine lv_aload_n hx hb dME_encrypt_88 rfl (lv_at hl 2 rfl) ?_
      refine nw_get (C := "LatticeKeysModel$Secrets") (TT := T_ME) (N := 14) hx hb hts (wg_ft i_ME) hown hK hO k_h0 (kn := 184) (ci := 11) (fl := [(3, 172), (3, 178), (3, 185), (3, 202), (3, 207), (3, 212), (3, 217), (3, 218), (3, 219), (3, 220), (3, 221), (3, 222), (3, 223), (3, 224)]) rfl hP rfl 4 (by decide) (hts _ (wg_t kw_1383)) (fun _ h9 => h9) (cd := (3, 207)) rfl dME_encrypt_89 (fun v49 hv49 => ?_)
      obtain ⟨r57, rfl, kr57⟩ := (show ∃ r : Nat, v49 = .ref r ∧ T r = some 207 from hv49)
      refine lv_iload hx hb dME_encrypt_92 (lv_at hl 0 rfl) ?_
      refine nw_aald3 hx hb hK hO kr57 (k := 207) (b := 208) rfl hP (by omega) (by omega) dME_encrypt_94 (fun r58 kr58 => ?_)
      have hn29 : nsp (208 + i21) = (0, 256, []) := rows_ok 208 4 (by decide) _ (by omega)
      refine lv_aload_n hx hb dME_encrypt_95 rfl (lv_at hl 2 rfl) ?_
      refine nw_get (C := "LatticeKeysModel$Secrets") (TT := T_ME) (N := 14) hx hb hts (wg_ft i_ME) hown hK hO k_h0 (kn := 184) (ci := 11) (fl := [(3, 172), (3, 178), (3, 185), (3, 202), (3, 207), (3, 212), (3, 217), (3, 218), (3, 219), (3, 220), (3, 221), (3, 222), (3, 223), (3, 224)]) rfl hP rfl 9 (by decide) (hts _ (wg_t kw_1388)) (fun _ h9 => h9) (cd := (3, 220)) rfl dME_encrypt_96 (fun v50 hv50 => ?_)
      obtain ⟨r59, rfl, kr59⟩ := (show ∃ r : Nat, v50 = .ref r ∧ T r = some 220 from hv50)
      refine lv_bipush (v := nI 32) hx hb dME_encrypt_99 (by decide) ?_
      refine lv_iload hx hb dME_encrypt_101 (lv_at hl 1 rfl) ?_
      refine lv_iload hx hb dME_encrypt_103 (lv_at hl 0 rfl) ?_
      refine mi_iadd hx hb dME_encrypt_105 ?_
      refine lv_iconst (v := nI 2) hx hb dME_encrypt_106 (by decide) ?_
      refine mp_v (cx := []) (wr := []) hP hD hS hA [] [] rfl rfl rfl (by decide) (va_runV (As := [.ref r58, .ref r59, .int (nI 32), .int (nI (2 + i21)), .int (nI 2)]) (rest := []) F (N_ME_noise_2 l g _ T s44 pl hO hU h0 r58 r59 (208 + i21) 220 64 32 (nI (2 + i21)) k_h0 kr58 hn29 kr59 rfl (by omega) (by omega)) (cwV 5 hts (wg_app (wg_c kw_1656 (wg_c kw_1658 (wg_c ks_56 (wg_c kw_11 wg_n)))) kw_1659) rfl rfl rfl (by decide +kernel) ⟨by decide, by decide⟩) (pn_W "LatticeKeysModel$Secrets" (en_ok g) (ci := 11) (kn := 184) (fl := [(3, 172), (3, 178), (3, 185), (3, 202), (3, 207), (3, 212), (3, 217), (3, 218), (3, 219), (3, 220), (3, 221), (3, 222), (3, 223), (3, 224)]) hK hO k_h0 rfl hP hD hS hA hEn [] rfl rfl rfl) rfl rfl hl.1 rfl (lv_room (Nat.le_of_ble_eq_true rfl)) dME_encrypt_107 ⟨by omega, by omega⟩) (fun  u41 H locs hu41 hP hD hS => ?_)
      obtain ⟨s45, pl⟩ := u41
      obtain ⟨⟨eq41, hFc41, -⟩, hO⟩ := hu41
      have hO : okn g T s45 pl := hO
      have hP : va_P g.1 vcl ([] ++ pl) _ := hP
      have hD : va_D _ ([] ++ pl) := hD
      have hFc41 : frm (M_ME_noise_2 (208 + i21)) s44 s45 := hFc41
      replace hR := bnd_step hR eq41
      replace hE := bndP_step hE eq41
      have hF := frm_tr hF hFc41 (fun k hk => by unfold M_ME_noise_2 at hk; unfold M_ME_encrypt_0; omega)
      refine W.widen (k := 0) (n := 0) (by omega) (by omega) ?_
      refine lv_aload_n hx hb dME_encrypt_110 rfl (lv_at hl 2 rfl) ?_
      refine lv_aload_n hx hb dME_encrypt_111 rfl (lv_at hl 2 rfl) ?_
      refine nw_get (C := "LatticeKeysModel$Secrets") (TT := T_ME) (N := 14) hx hb hts (wg_ft i_ME) hown hK hO k_h0 (kn := 184) (ci := 11) (fl := [(3, 172), (3, 178), (3, 185), (3, 202), (3, 207), (3, 212), (3, 217), (3, 218), (3, 219), (3, 220), (3, 221), (3, 222), (3, 223), (3, 224)]) rfl hP rfl 3 (by decide) (hts _ (wg_t kw_1382)) (fun _ h9 => h9) (cd := (3, 202)) rfl dME_encrypt_112 (fun v51 hv51 => ?_)
      obtain ⟨r60, rfl, kr60⟩ := (show ∃ r : Nat, v51 = .ref r ∧ T r = some 202 from hv51)
      refine lv_iload hx hb dME_encrypt_115 (lv_at hl 0 rfl) ?_
      refine nw_aald3 hx hb hK hO kr60 (k := 202) (b := 203) rfl hP (by omega) (by omega) dME_encrypt_117 (fun r61 kr61 => ?_)
      have hn30 : nsp (203 + i21) = (0, 256, []) := rows_ok 203 4 (by decide) _ (by omega)
      refine mp_v (cx := []) (wr := []) hP hD hS hA [] [] rfl rfl rfl (by decide) (va_runV (As := [.ref r61]) (rest := []) F (N_ME_forth l g _ T s45 pl hO hU h0 r61 (203 + i21) k_h0 kr61 hn30) (cwV 1 hts (wg_app (wg_c kw_1668 (wg_c kw_1670 (wg_c ks_57 (wg_c kw_11 wg_n)))) kw_1671) rfl rfl rfl (by decide +kernel) ⟨by decide, by decide⟩) (pn_W "LatticeKeysModel$Secrets" (en_ok g) (ci := 11) (kn := 184) (fl := [(3, 172), (3, 178), (3, 185), (3, 202), (3, 207), (3, 212), (3, 217), (3, 218), (3, 219), (3, 220), (3, 221), (3, 222), (3, 223), (3, 224)]) hK hO k_h0 rfl hP hD hS hA hEn [] rfl rfl rfl) rfl rfl hl.1 rfl (lv_room (Nat.le_of_ble_eq_true rfl)) dME_encrypt_118 ⟨by omega, by omega⟩) (fun  u42 H locs hu42 hP hD hS => ?_)
      obtain ⟨s46, pl⟩ := u42
      obtain ⟨⟨eq42, hFc42, -⟩, hO⟩ := hu42
      have hO : okn g T s46 pl := hO
      have hP : va_P g.1 vcl ([] ++ pl) _ := hP
      have hD : va_D _ ([] ++ pl) := hD
      have hFc42 : frm (M_ME_forth (203 + i21)) s45 s46 := hFc42
      replace hR := bnd_step hR eq42
      replace hE := bndP_step hE eq42
      have hF := frm_tr hF hFc42 (fun k hk => by unfold M_ME_forth at hk; unfold M_ME_encrypt_0; omega)
      refine W.widen (k := 0) (n := 0) (by omega) (by omega) ?_
      refine mi_iinc (k := 0) (x := i21) (d := 1) (y := i21 + 1) (lv' := [(7, .int (nI (i21 + 1))), (6, .int (nI 2)), (0, .ref h0), (1, .int (nI 0)), (2, .ref ek), (3, .int (nI at_)), (4, .ref ms), (5, .ref ct)]) hx hb dME_encrypt_121 hl rfl (by decide) rfl (by decide) rfl (fun ls hl => ?_)
      refine lv_goto (tgt := 25) hx hb dME_encrypt_124 (by decide) ?_
      exact ih21 (i21 + 1) s46 pl ls H locs (by omega) hF hE hR (lv_sub hl [0, 1, 2, 3, 4, 5, 6, 7] rfl) hO hP hD hS
  exact lp21 2 0 s21 pl ls _ _ (by omega) hF hE hR (lv_sub hl [0, 1, 2, 3, 4, 5, 6, 7] rfl) hO hP hD hS
def M_ME_encrypt_1 (pct : Nat) (k : Nat) : Prop := (186 ≤ k ∧ k < 202) ∨ (203 ≤ k ∧ k < 207) ∨ (208 ≤ k ∧ k < 212) ∨ (213 ≤ k ∧ k < 217) ∨ k = 172 ∨ k = 217 ∨ k = 218 ∨ k = 219 ∨ k = 221 ∨ k = pct ∨ (0 : Nat) = 1
noncomputable def F_ME_encrypt_1_L3 (pct : Nat) (nc : Nat) (i22 : Nat) (kk : Nat → Sto → Sto) : Nat → Nat → Sto → Sto
  | 0, i24, s36 => bnd (F_ME_back 217 s36) fun s37 => bnd (F_ME_plus 217 (208 + i22) s37) fun s38 => bnd (F_ME_less_10 217 s38) fun s39 => bnd (F_ME_write_10 217 pct nc (320 * i22) s39) fun s40 => kk (i22 + 1) s40
  | n24 + 1, i24, s36 => bnd (F_ME_product (186 + ((4 * i24) + i22)) (203 + i24) 217 s36) fun s41 => F_ME_encrypt_1_L3 pct nc i22 kk n24 (i24 + 1) s41
noncomputable def E_ME_encrypt_1_L3 (pct : Nat) (nc : Nat) (i22 : Nat) (ke : Nat → Sto → Prop) : Nat → Nat → Sto → Prop
  | 0, i24, s36 => bnd (F_ME_back 217 s36) fun s37 => bnd (F_ME_plus 217 (208 + i22) s37) fun s38 => bnd (F_ME_less_10 217 s38) fun s39 => bnd (F_ME_write_10 217 pct nc (320 * i22) s39) fun s40 => ke (i22 + 1) s40
  | n24 + 1, i24, s36 => bnd (F_ME_product (186 + ((4 * i24) + i22)) (203 + i24) 217 s36) fun s41 => E_ME_encrypt_1_L3 pct nc i22 ke n24 (i24 + 1) s41
noncomputable def F_ME_encrypt_1_L2 (pms : Nat) (nm : Nat) (pct : Nat) (nc : Nat) : Nat → Nat → Sto → Sto
  | 0, i23, s25 => bnd (F_ME_back 217 s25) fun s26 => bnd (F_ME_noise_2 218 220 64 32 (nI 6) s26) fun s27 => bnd (F_ME_plus 217 218 s27) fun s28 => bnd (F_ME_read_1 pms nm 0 218 s28) fun s29 => bnd (F_ME_more_1 218 s29) fun s30 => bnd (F_ME_plus 217 218 s30) fun s31 => bnd (F_ME_less_4 217 s31) fun s32 => bnd (F_ME_write_4 217 pct nc 960 s32) fun s33 => s33
  | n23 + 1, i23, s25 => bnd (F_ME_product (213 + i23) (203 + i23) 217 s25) fun s34 => F_ME_encrypt_1_L2 pms nm pct nc n23 (i23 + 1) s34
noncomputable def E_ME_encrypt_1_L2 (pms : Nat) (nm : Nat) (pct : Nat) (nc : Nat) : Nat → Nat → Sto → Prop
  | 0, i23, s25 => bnd (F_ME_back 217 s25) fun s26 => bnd (F_ME_noise_2 218 220 64 32 (nI 6) s26) fun s27 => bnd (F_ME_plus 217 218 s27) fun s28 => bnd (F_ME_read_1 pms nm 0 218 s28) fun s29 => bnd (F_ME_more_1 218 s29) fun s30 => bnd (F_ME_plus 217 218 s30) fun s31 => bnd (F_ME_less_4 217 s31) fun s32 => bnd (F_ME_write_4 217 pct nc 960 s32) fun s33 => True
  | n23 + 1, i23, s25 => bnd (F_ME_product (213 + i23) (203 + i23) 217 s25) fun s34 => E_ME_encrypt_1_L2 pms nm pct nc n23 (i23 + 1) s34
noncomputable def F_ME_encrypt_1_L1 (pms : Nat) (nm : Nat) (pct : Nat) (nc : Nat) : Nat → Nat → Sto → Sto
  | 0, i22, s23 => bnd (F_ME_clear 217 s23) fun s24 => F_ME_encrypt_1_L2 pms nm pct nc 3 0 s24
  | n22 + 1, i22, s23 => bnd (F_ME_clear 217 s23) fun s35 => F_ME_encrypt_1_L3 pct nc i22 (F_ME_encrypt_1_L1 pms nm pct nc n22) 3 0 s35
noncomputable def E_ME_encrypt_1_L1 (pms : Nat) (nm : Nat) (pct : Nat) (nc : Nat) : Nat → Nat → Sto → Prop
  | 0, i22, s23 => bnd (F_ME_clear 217 s23) fun s24 => E_ME_encrypt_1_L2 pms nm pct nc 3 0 s24
  | n22 + 1, i22, s23 => bnd (F_ME_clear 217 s23) fun s35 => E_ME_encrypt_1_L3 pct nc i22 (E_ME_encrypt_1_L1 pms nm pct nc n22) 3 0 s35
noncomputable def F_ME_encrypt_1_L0 (pek : Nat) (n : Nat) (at_ : Nat) (pms : Nat) (nm : Nat) (pct : Nat) (nc : Nat) : Nat → Nat → Sto → Sto
  | 0, i21, s22 => F_ME_encrypt_1_L1 pms nm pct nc 3 0 s22
  | n21 + 1, i21, s22 => bnd (F_ME_read_12 pek n (at_ + (384 * i21)) (213 + i21) s22) fun s42 => bnd (F_ME_proper (213 + i21) s42) fun s43 => bnd (F_ME_noise_2 (203 + i21) 220 64 32 (nI i21) s43) fun s44 => bnd (F_ME_noise_2 (208 + i21) 220 64 32 (nI (3 + i21)) s44) fun s45 => bnd (F_ME_forth (203 + i21) s45) fun s46 => F_ME_encrypt_1_L0 pek n at_ pms nm pct nc n21 (i21 + 1) s46
noncomputable def E_ME_encrypt_1_L0 (pek : Nat) (n : Nat) (at_ : Nat) (pms : Nat) (nm : Nat) (pct : Nat) (nc : Nat) : Nat → Nat → Sto → Prop
  | 0, i21, s22 => E_ME_encrypt_1_L1 pms nm pct nc 3 0 s22
  | n21 + 1, i21, s22 => bnd (F_ME_read_12 pek n (at_ + (384 * i21)) (213 + i21) s22) fun s42 => bnd (F_ME_proper (213 + i21) s42) fun s43 => bnd (F_ME_noise_2 (203 + i21) 220 64 32 (nI i21) s43) fun s44 => bnd (F_ME_noise_2 (208 + i21) 220 64 32 (nI (3 + i21)) s44) fun s45 => bnd (F_ME_forth (203 + i21) s45) fun s46 => E_ME_encrypt_1_L0 pek n at_ pms nm pct nc n21 (i21 + 1) s46
noncomputable def F_ME_encrypt_1 (pek : Nat) (n : Nat) (at_ : Nat) (pms : Nat) (nm : Nat) (pct : Nat) (nc : Nat) (s : Sto) : Sto := bnd (F_ME_expand_3 pek n (at_ + 1152) s) fun s21 => F_ME_encrypt_1_L0 pek n at_ pms nm pct nc 3 0 s21
noncomputable def E_ME_encrypt_1 (pek : Nat) (n : Nat) (at_ : Nat) (pms : Nat) (nm : Nat) (pct : Nat) (nc : Nat) (s : Sto) : Prop := (E_ME_expand_3 pek n (at_ + 1152) s) ∧ (bnd (F_ME_expand_3 pek n (at_ + 1152) s) fun s21 => E_ME_encrypt_1_L0 pek n at_ pms nm pct nc 3 0 s21)
set_option maxHeartbeats 8000000 in
set_option maxRecDepth 100000 in
theorem N_ME_encrypt_1 (l : Launch) (g : Gd) (sz : Nat) (T : TyN) (s : Sto) (pl : va_W) (hO : okn g T s pl) (hU : inj T) (h0 ek ms ct : Nat) (pek : Nat) (n : Nat) (at_ : Nat) (pms : Nat) (nm : Nat) (pct : Nat) (nc : Nat) (k_h0 : T h0 = some 184) (k_ek : T ek = some pek) (n_ek : nsp pek = (1, n, [])) (k_ms : T ms = some pms) (n_ms : nsp pms = (1, nm, [])) (k_ct : T ct = some pct) (n_ct : nsp pct = (1, nc, [])) (h1 : at_ + 1184 ≤ n) (h2 : n < 65536) (h3 : 32 ≤ nm) (h4 : nm < 65536) (h5 : 1088 ≤ nc) (h6 : nc < 65536) (hE : E_ME_encrypt_1 pek n at_ pms nm pct nc s)  : Met l y_ME_encrypt w_ME_encrypt ({ frames := 5, cells := 0, slots := 0, locals := 118 } : Room) (va_Pc [.ref h0, .int (nI 1), .ref ek, .int (nI at_), .ref ms, .ref ct] (pr (en g) g.1 vcl sz ([] ++ pl))) (va_Qv (fun (u : (Sto) × va_W) => (u.1 = F_ME_encrypt_1 pek n at_ pms nm pct nc s ∧ frm (M_ME_encrypt_1 pct) s u.1 ∧ True) ∧ okn g T u.1 u.2) (po g.1 vcl (va_A ([] ++ pl) sz) (fun (u : (Sto) × va_W) => [] ++ u.2)) (va_A ([] ++ pl) sz)) 0 0 (va_A ([] ++ pl) sz) := by
  refine mc_entry (cc := c_ME_encrypt) (maxL := 9) (ret := none) (by decide) rfl (Nat.le_of_ble_eq_true rfl) ?_
  intro p e s0 m args below meth c ls F hr hlk hnm hsz hP hD hEn hA hl
  obtain ⟨hx, hb, hml, hown, hts⟩ := id F
  have hK := hEn.1
  generalize va_A ([] ++ pl) sz = A at hD hEn hA ⊢
  have hS : va_S A s0.heap s0.heap [] := va_S.rf
  have hl : lv_has ls 9 [(0, .ref h0), (1, .int (nI 1)), (2, .ref ek), (3, .int (nI at_)), (4, .ref ms), (5, .ref ct)] := hl
  have hR : F_ME_encrypt_1 pek n at_ pms nm pct nc s = F_ME_encrypt_1 pek n at_ pms nm pct nc s := rfl
  have hF : frm (M_ME_encrypt_1 pct) s s := frm_rf
  refine va_gets hx hb (hEn.2.1 19 _ rfl).1 hS hown (hts _ (wg_t kw_1605)) (fun _ h9 => h9) dME_encrypt_0 ?_
  refine lv_iload_n hx hb dME_encrypt_3 rfl (lv_at hl 1 rfl) ?_
  refine va_ti (v := .int (nI 3)) hx hb (hEn.2.1 19 _ rfl).2 hS (vp_in_nI (by decide) (by decide)) (by decide +kernel) dME_encrypt_4 ?_
  refine lv_istore (lv' := [(6, .int (nI 3)), (0, .ref h0), (1, .int (nI 1)), (2, .ref ek), (3, .int (nI at_)), (4, .ref ms), (5, .ref ct)]) hx hb dME_encrypt_5 hl (by decide) rfl (fun ls hl => ?_)
  refine lv_aload_n hx hb dME_encrypt_7 rfl (lv_at hl 1 rfl) ?_
  refine lv_aload_n hx hb dME_encrypt_8 rfl (lv_at hl 3 rfl) ?_
  refine lv_iload_n hx hb dME_encrypt_9 rfl (lv_at hl 4 rfl) ?_
  refine lv_sipush (v := nI 384) hx hb dME_encrypt_10 (by decide) ?_
  refine lv_iload hx hb dME_encrypt_13 (lv_at hl 0 rfl) ?_
  refine mi_imul hx hb dME_encrypt_15 ?_
  refine mi_as (show nI (384 * 3) = nI 1152 from rfl) ?_
  refine mi_iadd hx hb dME_encrypt_16 ?_
  refine lv_iload hx hb dME_encrypt_17 (lv_at hl 0 rfl) ?_
  refine mp_v (cx := []) (wr := []) hP hD hS hA [] [] rfl rfl rfl (by decide) (va_runV (As := [.ref ek, .int (nI (at_ + 1152)), .int (nI 3)]) (rest := []) F (N_ME_expand_3 l g _ T s pl hO hU h0 ek pek n (at_ + 1152) k_h0 k_ek n_ek (by omega) (by omega) hE.1) (cwV 3 hts (wg_app (wg_c kw_1645 (wg_c kw_1647 (wg_c ks_54 (wg_c kw_11 wg_n)))) kw_1648) rfl rfl rfl (by decide +kernel) ⟨by decide, by decide⟩) (pn_W "LatticeKeysModel$Secrets" (en_ok g) (ci := 11) (kn := 184) (fl := [(3, 172), (3, 178), (3, 185), (3, 202), (3, 207), (3, 212), (3, 217), (3, 218), (3, 219), (3, 220), (3, 221), (3, 222), (3, 223), (3, 224)]) hK hO k_h0 rfl hP hD hS hA hEn [] rfl rfl rfl) rfl rfl hl.1 rfl (lv_room (Nat.le_of_ble_eq_true rfl)) dME_encrypt_19 ⟨by omega, by omega⟩) (fun  u21 H locs hu21 hP hD hS => ?_)
  obtain ⟨s21, pl⟩ := u21
  obtain ⟨⟨eq21, hFc21, -⟩, hO⟩ := hu21
  have hO : okn g T s21 pl := hO
  have hP : va_P g.1 vcl ([] ++ pl) _ := hP
  have hD : va_D _ ([] ++ pl) := hD
  have hFc21 : frm (M_ME_expand_3) s s21 := hFc21
  replace hE := hE.2
  replace hR := bnd_step hR eq21
  replace hE := bndP_step hE eq21
  have hF := frm_tr hF hFc21 (fun k hk => by unfold M_ME_expand_3 at hk; unfold M_ME_encrypt_1; omega)
  refine W.widen (k := 0) (n := 0) (by omega) (by omega) ?_
  refine lv_iconst (v := nI 0) hx hb dME_encrypt_22 (by decide) ?_
  refine lv_istore (lv' := [(7, .int (nI 0)), (6, .int (nI 3)), (0, .ref h0), (1, .int (nI 1)), (2, .ref ek), (3, .int (nI at_)), (4, .ref ms), (5, .ref ct)]) hx hb dME_encrypt_23 hl (by decide) rfl (fun ls hl => ?_)
  have lp21 : ∀ (n21 : Nat) (i21 : Nat) (s22 : Sto) (pl : va_W) (ls : Array Slot) (H : Heap) (locs : List Loc), n21 + i21 = 3 → frm (M_ME_encrypt_1 pct) s s22 → E_ME_encrypt_1_L0 pek n at_ pms nm pct nc n21 i21 s22 → F_ME_encrypt_1 pek n at_ pms nm pct nc s = F_ME_encrypt_1_L0 pek n at_ pms nm pct nc n21 i21 s22 → lv_has ls 9 [(7, .int (nI i21)), (6, .int (nI 3)), (0, .ref h0), (1, .int (nI 1)), (2, .ref ek), (3, .int (nI at_)), (4, .ref ms), (5, .ref ct)] → okn g T s22 pl → va_P g.1 vcl ([] ++ pl) H → va_D A ([] ++ pl) → va_S A s0.heap H locs → W p l e ({ frames := 5, cells := 0, slots := 0, locals := 118 } : Room) s0 m args below meth c H locs 0 0 (MQ below (va_Qv (fun (u : (Sto) × va_W) => (u.1 = F_ME_encrypt_1 pek n at_ pms nm pct nc s ∧ frm (M_ME_encrypt_1 pct) s u.1 ∧ True) ∧ okn g T u.1 u.2) (po g.1 vcl A (fun (u : (Sto) × va_W) => [] ++ u.2)) A) args s0 0 0 A) (F0 m 25 ls []) := by
    intro n21
    induction n21 with
    | zero =>
      intro i21 s22 pl ls H locs hm21 hF hE hR hl hO hP hD hS
      refine lv_iload hx hb dME_encrypt_25 (lv_at hl 0 rfl) ?_
      refine lv_iload hx hb dME_encrypt_27 (lv_at hl 1 rfl) ?_
      refine mi_ge (tgt := 127) hx hb dME_encrypt_29 (by decide) (by omega) (by omega) (fun h21 => ?_) (fun h21 => absurd h21 (by omega))
      refine lv_iconst (v := nI 0) hx hb dME_encrypt_127 (by decide) ?_
      refine lv_istore (lv' := [(7, .int (nI 0)), (6, .int (nI 3)), (0, .ref h0), (1, .int (nI 1)), (2, .ref ek), (3, .int (nI at_)), (4, .ref ms), (5, .ref ct)]) hx hb dME_encrypt_128 hl (by decide) rfl (fun ls hl => ?_)
      have lp22 : ∀ (n22 : Nat) (i22 : Nat) (s23 : Sto) (pl : va_W) (ls : Array Slot) (H : Heap) (locs : List Loc), n22 + i22 = 3 → frm (M_ME_encrypt_1 pct) s s23 → E_ME_encrypt_1_L1 pms nm pct nc n22 i22 s23 → F_ME_encrypt_1 pek n at_ pms nm pct nc s = F_ME_encrypt_1_L1 pms nm pct nc n22 i22 s23 → lv_has ls 9 [(7, .int (nI i22)), (6, .int (nI 3)), (0, .ref h0), (1, .int (nI 1)), (4, .ref ms), (5, .ref ct)] → okn g T s23 pl → va_P g.1 vcl ([] ++ pl) H → va_D A ([] ++ pl) → va_S A s0.heap H locs → W p l e ({ frames := 5, cells := 0, slots := 0, locals := 118 } : Room) s0 m args below meth c H locs 0 0 (MQ below (va_Qv (fun (u : (Sto) × va_W) => (u.1 = F_ME_encrypt_1 pek n at_ pms nm pct nc s ∧ frm (M_ME_encrypt_1 pct) s u.1 ∧ True) ∧ okn g T u.1 u.2) (po g.1 vcl A (fun (u : (Sto) × va_W) => [] ++ u.2)) A) args s0 0 0 A) (F0 m 130 ls []) := by
        intro n22
        induction n22 with
        | zero =>
          intro i22 s23 pl ls H locs hm22 hF hE hR hl hO hP hD hS
          refine lv_iload hx hb dME_encrypt_130 (lv_at hl 0 rfl) ?_
          refine lv_iload hx hb dME_encrypt_132 (lv_at hl 1 rfl) ?_
          refine mi_ge (tgt := 252) hx hb dME_encrypt_134 (by decide) (by omega) (by omega) (fun h22 => ?_) (fun h22 => absurd h22 (by omega))
          refine lv_aload_n hx hb dME_encrypt_252 rfl (lv_at hl 2 rfl) ?_
          refine nw_get (C := "LatticeKeysModel$Secrets") (TT := T_ME) (N := 14) hx hb hts (wg_ft i_ME) hown hK hO k_h0 (kn := 184) (ci := 11) (fl := [(3, 172), (3, 178), (3, 185), (3, 202), (3, 207), (3, 212), (3, 217), (3, 218), (3, 219), (3, 220), (3, 221), (3, 222), (3, 223), (3, 224)]) rfl hP rfl 6 (by decide) (hts _ (wg_t kw_1385)) (fun _ h9 => h9) (cd := (3, 217)) rfl dME_encrypt_253 (fun v21 hv21 => ?_)
          obtain ⟨r21, rfl, kr21⟩ := (show ∃ r : Nat, v21 = .ref r ∧ T r = some 217 from hv21)
          refine mp_v (cx := []) (wr := []) hP hD hS hA [] [] rfl rfl rfl (by decide) (va_runS (As := [.ref r21]) (rest := []) F (N_ME_clear l g _ T s23 pl hO hU r21 217 kr21 rfl) (va_cwS 1 hts (wg_app (wg_c kw_1819 (wg_c kw_1820 (wg_c kw_11 wg_n))) kw_1821) rfl rfl rfl (by decide +kernel) ⟨by decide, by decide⟩) (pp_S (en_ok g) hP hD hS hA hEn [] rfl rfl) rfl rfl hl.1 rfl (lv_room (Nat.le_of_ble_eq_true rfl)) dME_encrypt_256 ⟨by omega, by omega⟩) (fun  u22 H locs hu22 hP hD hS => ?_)
          obtain ⟨s24, pl⟩ := u22
          obtain ⟨⟨eq22, hFc22, -⟩, hO⟩ := hu22
          have hO : okn g T s24 pl := hO
          have hP : va_P g.1 vcl ([] ++ pl) _ := hP
          have hD : va_D _ ([] ++ pl) := hD
          have hFc22 : frm (M_ME_clear 217) s23 s24 := hFc22
          replace hR := bnd_step hR eq22
          replace hE := bndP_step hE eq22
          have hF := frm_tr hF hFc22 (fun k hk => by unfold M_ME_clear at hk; unfold M_ME_encrypt_1; omega)
          refine W.widen (k := 0) (n := 0) (by omega) (by omega) ?_
          refine lv_iconst (v := nI 0) hx hb dME_encrypt_259 (by decide) ?_
          refine lv_istore (lv' := [(7, .int (nI 0)), (6, .int (nI 3)), (0, .ref h0), (1, .int (nI 1)), (4, .ref ms), (5, .ref ct)]) hx hb dME_encrypt_260 hl (by decide) rfl (fun ls hl => ?_)
          have lp23 : ∀ (n23 : Nat) (i23 : Nat) (s25 : Sto) (pl : va_W) (ls : Array Slot) (H : Heap) (locs : List Loc), n23 + i23 = 3 → frm (M_ME_encrypt_1 pct) s s25 → E_ME_encrypt_1_L2 pms nm pct nc n23 i23 s25 → F_ME_encrypt_1 pek n at_ pms nm pct nc s = F_ME_encrypt_1_L2 pms nm pct nc n23 i23 s25 → lv_has ls 9 [(7, .int (nI i23)), (6, .int (nI 3)), (0, .ref h0), (1, .int (nI 1)), (4, .ref ms), (5, .ref ct)] → okn g T s25 pl → va_P g.1 vcl ([] ++ pl) H → va_D A ([] ++ pl) → va_S A s0.heap H locs → W p l e ({ frames := 5, cells := 0, slots := 0, locals := 118 } : Room) s0 m args below meth c H locs 0 0 (MQ below (va_Qv (fun (u : (Sto) × va_W) => (u.1 = F_ME_encrypt_1 pek n at_ pms nm pct nc s ∧ frm (M_ME_encrypt_1 pct) s u.1 ∧ True) ∧ okn g T u.1 u.2) (po g.1 vcl A (fun (u : (Sto) × va_W) => [] ++ u.2)) A) args s0 0 0 A) (F0 m 262 ls []) := by
            intro n23
            induction n23 with
            | zero =>
              intro i23 s25 pl ls H locs hm23 hF hE hR hl hO hP hD hS
              refine lv_iload hx hb dME_encrypt_262 (lv_at hl 0 rfl) ?_
              refine lv_iload hx hb dME_encrypt_264 (lv_at hl 1 rfl) ?_
              refine mi_ge (tgt := 297) hx hb dME_encrypt_266 (by decide) (by omega) (by omega) (fun h23 => ?_) (fun h23 => absurd h23 (by omega))
              refine lv_aload_n hx hb dME_encrypt_297 rfl (lv_at hl 2 rfl) ?_
              refine lv_aload_n hx hb dME_encrypt_298 rfl (lv_at hl 2 rfl) ?_
              refine nw_get (C := "LatticeKeysModel$Secrets") (TT := T_ME) (N := 14) hx hb hts (wg_ft i_ME) hown hK hO k_h0 (kn := 184) (ci := 11) (fl := [(3, 172), (3, 178), (3, 185), (3, 202), (3, 207), (3, 212), (3, 217), (3, 218), (3, 219), (3, 220), (3, 221), (3, 222), (3, 223), (3, 224)]) rfl hP rfl 6 (by decide) (hts _ (wg_t kw_1385)) (fun _ h9 => h9) (cd := (3, 217)) rfl dME_encrypt_299 (fun v22 hv22 => ?_)
              obtain ⟨r22, rfl, kr22⟩ := (show ∃ r : Nat, v22 = .ref r ∧ T r = some 217 from hv22)
              refine mp_v (cx := []) (wr := []) hP hD hS hA [] [] rfl rfl rfl (by decide) (va_runV (As := [.ref r22]) (rest := []) F (N_ME_back l g _ T s25 pl hO hU h0 r22 217 k_h0 kr22 rfl) (cwV 1 hts (wg_app (wg_c kw_1822 (wg_c kw_1824 (wg_c ks_69 (wg_c kw_11 wg_n)))) kw_1825) rfl rfl rfl (by decide +kernel) ⟨by decide, by decide⟩) (pn_W "LatticeKeysModel$Secrets" (en_ok g) (ci := 11) (kn := 184) (fl := [(3, 172), (3, 178), (3, 185), (3, 202), (3, 207), (3, 212), (3, 217), (3, 218), (3, 219), (3, 220), (3, 221), (3, 222), (3, 223), (3, 224)]) hK hO k_h0 rfl hP hD hS hA hEn [] rfl rfl rfl) rfl rfl hl.1 rfl (lv_room (Nat.le_of_ble_eq_true rfl)) dME_encrypt_302 ⟨by omega, by omega⟩) (fun  u23 H locs hu23 hP hD hS => ?_)
              obtain ⟨s26, pl⟩ := u23
              obtain ⟨⟨eq23, hFc23, -⟩, hO⟩ := hu23
              have hO : okn g T s26 pl := hO
              have hP : va_P g.1 vcl ([] ++ pl) _ := hP
              have hD : va_D _ ([] ++ pl) := hD
              have hFc23 : frm (M_ME_back 217) s25 s26 := hFc23
              replace hR := bnd_step hR eq23
              replace hE := bndP_step hE eq23
              have hF := frm_tr hF hFc23 (fun k hk => by unfold M_ME_back at hk; unfold M_ME_encrypt_1; omega)
              refine W.widen (k := 0) (n := 0) (by omega) (by omega) ?_
              refine lv_aload_n hx hb dME_encrypt_305 rfl (lv_at hl 2 rfl) ?_
              refine lv_aload_n hx hb dME_encrypt_306 rfl (lv_at hl 2 rfl) ?_
              refine nw_get (C := "LatticeKeysModel$Secrets") (TT := T_ME) (N := 14) hx hb hts (wg_ft i_ME) hown hK hO k_h0 (kn := 184) (ci := 11) (fl := [(3, 172), (3, 178), (3, 185), (3, 202), (3, 207), (3, 212), (3, 217), (3, 218), (3, 219), (3, 220), (3, 221), (3, 222), (3, 223), (3, 224)]) rfl hP rfl 7 (by decide) (hts _ (wg_t kw_1386)) (fun _ h9 => h9) (cd := (3, 218)) rfl dME_encrypt_307 (fun v23 hv23 => ?_)
              obtain ⟨r23, rfl, kr23⟩ := (show ∃ r : Nat, v23 = .ref r ∧ T r = some 218 from hv23)
              refine lv_aload_n hx hb dME_encrypt_310 rfl (lv_at hl 2 rfl) ?_
              refine nw_get (C := "LatticeKeysModel$Secrets") (TT := T_ME) (N := 14) hx hb hts (wg_ft i_ME) hown hK hO k_h0 (kn := 184) (ci := 11) (fl := [(3, 172), (3, 178), (3, 185), (3, 202), (3, 207), (3, 212), (3, 217), (3, 218), (3, 219), (3, 220), (3, 221), (3, 222), (3, 223), (3, 224)]) rfl hP rfl 9 (by decide) (hts _ (wg_t kw_1388)) (fun _ h9 => h9) (cd := (3, 220)) rfl dME_encrypt_311 (fun v24 hv24 => ?_)
              obtain ⟨r24, rfl, kr24⟩ := (show ∃ r : Nat, v24 = .ref r ∧ T r = some 220 from hv24)
              refine lv_bipush (v := nI 32) hx hb dME_encrypt_314 (by decide) ?_
              refine lv_iconst (v := nI 2) hx hb dME_encrypt_316 (by decide) ?_
              refine lv_iload hx hb dME_encrypt_317 (lv_at hl 1 rfl) ?_
              refine mi_imul hx hb dME_encrypt_319 ?_
              refine mi_as (show nI (2 * 3) = nI 6 from rfl) ?_
              refine lv_iconst (v := nI 2) hx hb dME_encrypt_320 (by decide) ?_
              refine mp_v (cx := []) (wr := []) hP hD hS hA [] [] rfl rfl rfl (by decide) (va_runV (As := [.ref r23, .ref r24, .int (nI 32), .int (nI 6), .int (nI 2)]) (rest := []) F (N_ME_noise_2 l g _ T s26 pl hO hU h0 r23 r24 218 220 64 32 (nI 6) k_h0 kr23 rfl kr24 rfl (by omega) (by omega)) (cwV 5 hts (wg_app (wg_c kw_1656 (wg_c kw_1658 (wg_c ks_56 (wg_c kw_11 wg_n)))) kw_1659) rfl rfl rfl (by decide +kernel) ⟨by decide, by decide⟩) (pn_W "LatticeKeysModel$Secrets" (en_ok g) (ci := 11) (kn := 184) (fl := [(3, 172), (3, 178), (3, 185), (3, 202), (3, 207), (3, 212), (3, 217), (3, 218), (3, 219), (3, 220), (3, 221), (3, 222), (3, 223), (3, 224)]) hK hO k_h0 rfl hP hD hS hA hEn [] rfl rfl rfl) rfl rfl hl.1 rfl (lv_room (Nat.le_of_ble_eq_true rfl)) dME_encrypt_321 ⟨by omega, by omega⟩) (fun  u24 H locs hu24 hP hD hS => ?_)
              obtain ⟨s27, pl⟩ := u24
              obtain ⟨⟨eq24, hFc24, -⟩, hO⟩ := hu24
              have hO : okn g T s27 pl := hO
              have hP : va_P g.1 vcl ([] ++ pl) _ := hP
              have hD : va_D _ ([] ++ pl) := hD
              have hFc24 : frm (M_ME_noise_2 218) s26 s27 := hFc24
              replace hR := bnd_step hR eq24
              replace hE := bndP_step hE eq24
              have hF := frm_tr hF hFc24 (fun k hk => by unfold M_ME_noise_2 at hk; unfold M_ME_encrypt_1; omega)
              refine W.widen (k := 0) (n := 0) (by omega) (by omega) ?_
              refine lv_aload_n hx hb dME_encrypt_324 rfl (lv_at hl 2 rfl) ?_
              refine nw_get (C := "LatticeKeysModel$Secrets") (TT := T_ME) (N := 14) hx hb hts (wg_ft i_ME) hown hK hO k_h0 (kn := 184) (ci := 11) (fl := [(3, 172), (3, 178), (3, 185), (3, 202), (3, 207), (3, 212), (3, 217), (3, 218), (3, 219), (3, 220), (3, 221), (3, 222), (3, 223), (3, 224)]) rfl hP rfl 6 (by decide) (hts _ (wg_t kw_1385)) (fun _ h9 => h9) (cd := (3, 217)) rfl dME_encrypt_325 (fun v25 hv25 => ?_)
              obtain ⟨r25, rfl, kr25⟩ := (show ∃ r : Nat, v25 = .ref r ∧ T r = some 217 from hv25)
              refine lv_aload_n hx hb dME_encrypt_328 rfl (lv_at hl 2 rfl) ?_
              refine nw_get (C := "LatticeKeysModel$Secrets") (TT := T_ME) (N := 14) hx hb hts (wg_ft i_ME) hown hK hO k_h0 (kn := 184) (ci := 11) (fl := [(3, 172), (3, 178), (3, 185), (3, 202), (3, 207), (3, 212), (3, 217), (3, 218), (3, 219), (3, 220), (3, 221), (3, 222), (3, 223), (3, 224)]) rfl hP rfl 7 (by decide) (hts _ (wg_t kw_1386)) (fun _ h9 => h9) (cd := (3, 218)) rfl dME_encrypt_329 (fun v26 hv26 => ?_)
              obtain ⟨r26, rfl, kr26⟩ := (show ∃ r : Nat, v26 = .ref r ∧ T r = some 218 from hv26)
              refine mp_v (cx := []) (wr := []) hP hD hS hA [] [] rfl rfl rfl (by decide) (va_runS (As := [.ref r25, .ref r26]) (rest := []) F (N_ME_plus l g _ T s27 pl hO hU r25 r26 217 218 kr25 rfl kr26 rfl) (va_cwS 2 hts (wg_app (wg_c kw_1827 (wg_c kw_1828 (wg_c kw_11 wg_n))) kw_1829) rfl rfl rfl (by decide +kernel) ⟨by decide, by decide⟩) (pp_S (en_ok g) hP hD hS hA hEn [] rfl rfl) rfl rfl hl.1 rfl (lv_room (Nat.le_of_ble_eq_true rfl)) dME_encrypt_332 ⟨by omega, by omega⟩) (fun  u25 H locs hu25 hP hD hS => ?_)
              obtain ⟨s28, pl⟩ := u25
              obtain ⟨⟨eq25, hFc25, -⟩, hO⟩ := hu25
              have hO : okn g T s28 pl := hO
              have hP : va_P g.1 vcl ([] ++ pl) _ := hP
              have hD : va_D _ ([] ++ pl) := hD
              have hFc25 : frm (M_ME_plus 217) s27 s28 := hFc25
              replace hR := bnd_step hR eq25
              replace hE := bndP_step hE eq25
              have hF := frm_tr hF hFc25 (fun k hk => by unfold M_ME_plus at hk; unfold M_ME_encrypt_1; omega)
              refine W.widen (k := 0) (n := 0) (by omega) (by omega) ?_
              refine lv_aload hx hb dME_encrypt_335 (lv_at hl 4 rfl) ?_
              refine lv_iconst (v := nI 0) hx hb dME_encrypt_337 (by decide) ?_
              refine lv_iconst (v := nI 1) hx hb dME_encrypt_338 (by decide) ?_
              refine lv_aload_n hx hb dME_encrypt_339 rfl (lv_at hl 2 rfl) ?_
              refine nw_get (C := "LatticeKeysModel$Secrets") (TT := T_ME) (N := 14) hx hb hts (wg_ft i_ME) hown hK hO k_h0 (kn := 184) (ci := 11) (fl := [(3, 172), (3, 178), (3, 185), (3, 202), (3, 207), (3, 212), (3, 217), (3, 218), (3, 219), (3, 220), (3, 221), (3, 222), (3, 223), (3, 224)]) rfl hP rfl 7 (by decide) (hts _ (wg_t kw_1386)) (fun _ h9 => h9) (cd := (3, 218)) rfl dME_encrypt_340 (fun v27 hv27 => ?_)
              obtain ⟨r27, rfl, kr27⟩ := (show ∃ r : Nat, v27 = .ref r ∧ T r = some 218 from hv27)
              refine mp_v (cx := []) (wr := []) hP hD hS hA [] [] rfl rfl rfl (by decide) (va_runS (As := [.ref ms, .int (nI 0), .int (nI 1), .ref r27]) (rest := []) F (N_ME_read_1 l g _ T s28 pl hO hU ms r27 pms nm 0 218 k_ms n_ms kr27 rfl (by omega) (by omega)) (va_cwS 4 hts (wg_app (wg_c kw_1813 (wg_c kw_1814 (wg_c kw_11 wg_n))) kw_1815) rfl rfl rfl (by decide +kernel) ⟨by decide, by decide⟩) (pp_S (en_ok g) hP hD hS hA hEn [] rfl rfl) rfl rfl hl.1 rfl (lv_room (Nat.le_of_ble_eq_true rfl)) dME_encrypt_343 ⟨by omega, by omega⟩) (fun  u26 H locs hu26 hP hD hS => ?_)
              obtain ⟨s29, pl⟩ := u26
              obtain ⟨⟨eq26, hFc26, -⟩, hO⟩ := hu26
              have hO : okn g T s29 pl := hO
              have hP : va_P g.1 vcl ([] ++ pl) _ := hP
              have hD : va_D _ ([] ++ pl) := hD
              have hFc26 : frm (M_ME_read_1 218) s28 s29 := hFc26
              replace hR := bnd_step hR eq26
              replace hE := bndP_step hE eq26
              have hF := frm_tr hF hFc26 (fun k hk => by unfold M_ME_read_1 at hk; unfold M_ME_encrypt_1; omega)
              refine W.widen (k := 0) (n := 0) (by omega) (by omega) ?_
              refine lv_aload_n hx hb dME_encrypt_346 rfl (lv_at hl 2 rfl) ?_
              refine nw_get (C := "LatticeKeysModel$Secrets") (TT := T_ME) (N := 14) hx hb hts (wg_ft i_ME) hown hK hO k_h0 (kn := 184) (ci := 11) (fl := [(3, 172), (3, 178), (3, 185), (3, 202), (3, 207), (3, 212), (3, 217), (3, 218), (3, 219), (3, 220), (3, 221), (3, 222), (3, 223), (3, 224)]) rfl hP rfl 7 (by decide) (hts _ (wg_t kw_1386)) (fun _ h9 => h9) (cd := (3, 218)) rfl dME_encrypt_347 (fun v28 hv28 => ?_)
              obtain ⟨r28, rfl, kr28⟩ := (show ∃ r : Nat, v28 = .ref r ∧ T r = some 218 from hv28)
              refine lv_iconst (v := nI 1) hx hb dME_encrypt_350 (by decide) ?_
              refine mp_v (cx := []) (wr := []) hP hD hS hA [] [] rfl rfl rfl (by decide) (va_runS (As := [.ref r28, .int (nI 1)]) (rest := []) F (N_ME_more_1 l g _ T s29 pl hO hU r28 218 kr28 rfl) (va_cwS 2 hts (wg_app (wg_c kw_1835 (wg_c kw_1836 (wg_c kw_11 wg_n))) kw_1837) rfl rfl rfl (by decide +kernel) ⟨by decide, by decide⟩) (pp_S (en_ok g) hP hD hS hA hEn [] rfl rfl) rfl rfl hl.1 rfl (lv_room (Nat.le_of_ble_eq_true rfl)) dME_encrypt_351 ⟨by omega, by omega⟩) (fun  u27 H locs hu27 hP hD hS => ?_)
              obtain ⟨s30, pl⟩ := u27
              obtain ⟨⟨eq27, hFc27, -⟩, hO⟩ := hu27
              have hO : okn g T s30 pl := hO
              have hP : va_P g.1 vcl ([] ++ pl) _ := hP
              have hD : va_D _ ([] ++ pl) := hD
              have hFc27 : frm (M_ME_more_1 218) s29 s30 := hFc27
              replace hR := bnd_step hR eq27
              replace hE := bndP_step hE eq27
              have hF := frm_tr hF hFc27 (fun k hk => by unfold M_ME_more_1 at hk; unfold M_ME_encrypt_1; omega)
              refine W.widen (k := 0) (n := 0) (by omega) (by omega) ?_
              refine lv_aload_n hx hb dME_encrypt_354 rfl (lv_at hl 2 rfl) ?_
              refine nw_get (C := "LatticeKeysModel$Secrets") (TT := T_ME) (N := 14) hx hb hts (wg_ft i_ME) hown hK hO k_h0 (kn := 184) (ci := 11) (fl := [(3, 172), (3, 178), (3, 185), (3, 202), (3, 207), (3, 212), (3, 217), (3, 218), (3, 219), (3, 220), (3, 221), (3, 222), (3, 223), (3, 224)]) rfl hP rfl 6 (by decide) (hts _ (wg_t kw_1385)) (fun _ h9 => h9) (cd := (3, 217)) rfl dME_encrypt_355 (fun v29 hv29 => ?_)
              obtain ⟨r29, rfl, kr29⟩ := (show ∃ r : Nat, v29 = .ref r ∧ T r = some 217 from hv29)
              refine lv_aload_n hx hb dME_encrypt_358 rfl (lv_at hl 2 rfl) ?_
              refine nw_get (C := "LatticeKeysModel$Secrets") (TT := T_ME) (N := 14) hx hb hts (wg_ft i_ME) hown hK hO k_h0 (kn := 184) (ci := 11) (fl := [(3, 172), (3, 178), (3, 185), (3, 202), (3, 207), (3, 212), (3, 217), (3, 218), (3, 219), (3, 220), (3, 221), (3, 222), (3, 223), (3, 224)]) rfl hP rfl 7 (by decide) (hts _ (wg_t kw_1386)) (fun _ h9 => h9) (cd := (3, 218)) rfl dME_encrypt_359 (fun v30 hv30 => ?_)
              obtain ⟨r30, rfl, kr30⟩ := (show ∃ r : Nat, v30 = .ref r ∧ T r = some 218 from hv30)
              refine mp_v (cx := []) (wr := []) hP hD hS hA [] [] rfl rfl rfl (by decide) (va_runS (As := [.ref r29, .ref r30]) (rest := []) F (N_ME_plus l g _ T s30 pl hO hU r29 r30 217 218 kr29 rfl kr30 rfl) (va_cwS 2 hts (wg_app (wg_c kw_1827 (wg_c kw_1828 (wg_c kw_11 wg_n))) kw_1829) rfl rfl rfl (by decide +kernel) ⟨by decide, by decide⟩) (pp_S (en_ok g) hP hD hS hA hEn [] rfl rfl) rfl rfl hl.1 rfl (lv_room (Nat.le_of_ble_eq_true rfl)) dME_encrypt_362 ⟨by omega, by omega⟩) (fun  u28 H locs hu28 hP hD hS => ?_)
              obtain ⟨s31, pl⟩ := u28
              obtain ⟨⟨eq28, hFc28, -⟩, hO⟩ := hu28
              have hO : okn g T s31 pl := hO
              have hP : va_P g.1 vcl ([] ++ pl) _ := hP
              have hD : va_D _ ([] ++ pl) := hD
              have hFc28 : frm (M_ME_plus 217) s30 s31 := hFc28
              replace hR := bnd_step hR eq28
              replace hE := bndP_step hE eq28
              have hF := frm_tr hF hFc28 (fun k hk => by unfold M_ME_plus at hk; unfold M_ME_encrypt_1; omega)
              refine W.widen (k := 0) (n := 0) (by omega) (by omega) ?_
              refine lv_aload_n hx hb dME_encrypt_365 rfl (lv_at hl 2 rfl) ?_
              refine nw_get (C := "LatticeKeysModel$Secrets") (TT := T_ME) (N := 14) hx hb hts (wg_ft i_ME) hown hK hO k_h0 (kn := 184) (ci := 11) (fl := [(3, 172), (3, 178), (3, 185), (3, 202), (3, 207), (3, 212), (3, 217), (3, 218), (3, 219), (3, 220), (3, 221), (3, 222), (3, 223), (3, 224)]) rfl hP rfl 6 (by decide) (hts _ (wg_t kw_1385)) (fun _ h9 => h9) (cd := (3, 217)) rfl dME_encrypt_366 (fun v31 hv31 => ?_)
              obtain ⟨r31, rfl, kr31⟩ := (show ∃ r : Nat, v31 = .ref r ∧ T r = some 217 from hv31)
              refine va_gets hx hb (hEn.2.1 22 _ rfl).1 hS hown (hts _ (wg_t kw_1838)) (fun _ h9 => h9) dME_encrypt_369 ?_
              refine lv_iload_n hx hb dME_encrypt_372 rfl (lv_at hl 3 rfl) ?_
              refine va_ti (v := .int (nI 4)) hx hb (hEn.2.1 22 _ rfl).2 hS (vp_in_nI (by decide) (by decide)) (by decide +kernel) dME_encrypt_373 ?_
              refine mp_v (cx := []) (wr := []) hP hD hS hA [] [] rfl rfl rfl (by decide) (va_runS (As := [.ref r31, .int (nI 4)]) (rest := []) F (N_ME_less_4 l g _ T s31 pl hO hU r31 217 kr31 rfl) (va_cwS 2 hts (wg_app (wg_c kw_1832 (wg_c kw_1833 (wg_c kw_11 wg_n))) kw_1834) rfl rfl rfl (by decide +kernel) ⟨by decide, by decide⟩) (pp_S (en_ok g) hP hD hS hA hEn [] rfl rfl) rfl rfl hl.1 rfl (lv_room (Nat.le_of_ble_eq_true rfl)) dME_encrypt_374 ⟨by omega, by omega⟩) (fun  u29 H locs hu29 hP hD hS => ?_)
              obtain ⟨s32, pl⟩ := u29
              obtain ⟨⟨eq29, hFc29, -⟩, hO⟩ := hu29
              have hO : okn g T s32 pl := hO
              have hP : va_P g.1 vcl ([] ++ pl) _ := hP
              have hD : va_D _ ([] ++ pl) := hD
              have hFc29 : frm (M_ME_less_4 217) s31 s32 := hFc29
              replace hR := bnd_step hR eq29
              replace hE := bndP_step hE eq29
              have hF := frm_tr hF hFc29 (fun k hk => by unfold M_ME_less_4 at hk; unfold M_ME_encrypt_1; omega)
              refine W.widen (k := 0) (n := 0) (by omega) (by omega) ?_
              refine lv_aload_n hx hb dME_encrypt_377 rfl (lv_at hl 2 rfl) ?_
              refine nw_get (C := "LatticeKeysModel$Secrets") (TT := T_ME) (N := 14) hx hb hts (wg_ft i_ME) hown hK hO k_h0 (kn := 184) (ci := 11) (fl := [(3, 172), (3, 178), (3, 185), (3, 202), (3, 207), (3, 212), (3, 217), (3, 218), (3, 219), (3, 220), (3, 221), (3, 222), (3, 223), (3, 224)]) rfl hP rfl 6 (by decide) (hts _ (wg_t kw_1385)) (fun _ h9 => h9) (cd := (3, 217)) rfl dME_encrypt_378 (fun v32 hv32 => ?_)
              obtain ⟨r32, rfl, kr32⟩ := (show ∃ r : Nat, v32 = .ref r ∧ T r = some 217 from hv32)
              refine lv_aload hx hb dME_encrypt_381 (lv_at hl 5 rfl) ?_
              refine lv_bipush (v := nI 32) hx hb dME_encrypt_383 (by decide) ?_
              refine va_gets hx hb (hEn.2.1 21 _ rfl).1 hS hown (hts _ (wg_t kw_1830)) (fun _ h9 => h9) dME_encrypt_385 ?_
              refine lv_iload_n hx hb dME_encrypt_388 rfl (lv_at hl 3 rfl) ?_
              refine va_ti (v := .int (nI 10)) hx hb (hEn.2.1 21 _ rfl).2 hS (vp_in_nI (by decide) (by decide)) (by decide +kernel) dME_encrypt_389 ?_
              refine mi_imul hx hb dME_encrypt_390 ?_
              refine mi_as (show nI (32 * 10) = nI 320 from rfl) ?_
              refine lv_iload hx hb dME_encrypt_391 (lv_at hl 1 rfl) ?_
              refine mi_imul hx hb dME_encrypt_393 ?_
              refine mi_as (show nI (320 * 3) = nI 960 from rfl) ?_
              refine va_gets hx hb (hEn.2.1 22 _ rfl).1 hS hown (hts _ (wg_t kw_1838)) (fun _ h9 => h9) dME_encrypt_394 ?_
              refine lv_iload_n hx hb dME_encrypt_397 rfl (lv_at hl 3 rfl) ?_
              refine va_ti (v := .int (nI 4)) hx hb (hEn.2.1 22 _ rfl).2 hS (vp_in_nI (by decide) (by decide)) (by decide +kernel) dME_encrypt_398 ?_
              refine mp_v (cx := []) (wr := []) hP hD hS hA [] [] rfl rfl rfl (by decide) (va_runS (As := [.ref r32, .ref ct, .int (nI 960), .int (nI 4)]) (rest := []) F (N_ME_write_4 l g _ T s32 pl hO hU r32 ct 217 pct nc 960 kr32 rfl k_ct n_ct (by omega) (by omega)) (va_cwS 4 hts (wg_app (wg_c kw_1685 (wg_c kw_1686 (wg_c kw_11 wg_n))) kw_1687) rfl rfl rfl (by decide +kernel) ⟨by decide, by decide⟩) (pp_S (en_ok g) hP hD hS hA hEn [] rfl rfl) rfl rfl hl.1 rfl (lv_room (Nat.le_of_ble_eq_true rfl)) dME_encrypt_399 ⟨by omega, by omega⟩) (fun  u30 H locs hu30 hP hD hS => ?_)
              obtain ⟨s33, pl⟩ := u30
              obtain ⟨⟨eq30, hFc30, -⟩, hO⟩ := hu30
              have hO : okn g T s33 pl := hO
              have hP : va_P g.1 vcl ([] ++ pl) _ := hP
              have hD : va_D _ ([] ++ pl) := hD
              have hFc30 : frm (M_ME_write_4 pct) s32 s33 := hFc30
              replace hR := bnd_step hR eq30
              replace hE := bndP_step hE eq30
              have hF := frm_tr hF hFc30 (fun k hk => by unfold M_ME_write_4 at hk; unfold M_ME_encrypt_1; omega)
              refine W.widen (k := 0) (n := 0) (by omega) (by omega) ?_
              exact mp_vret hx hb hr hlk hP hD hS (s33, pl) ⟨⟨hR.symm, hF, trivial⟩, hO⟩ [] rfl rfl rfl (by omega) (by omega) dME_encrypt_402
            | succ n23 ih23 =>
              intro i23 s25 pl ls H locs hm23 hF hE hR hl hO hP hD hS
              refine lv_iload hx hb dME_encrypt_262 (lv_at hl 0 rfl) ?_
              refine lv_iload hx hb dME_encrypt_264 (lv_at hl 1 rfl) ?_
              refine mi_ge (tgt := 297) hx hb dME_encrypt_266 (by decide) (by omega) (by omega) (fun h24 => absurd h24 (by omega)) (fun h24 => ?_)
              refine lv_aload_n hx hb dME_encrypt_269 rfl (lv_at hl 2 rfl) ?_
              refine lv_aload_n hx hb dME_encrypt_270 rfl (lv_at hl 2 rfl) ?_
              refine nw_get (C := "LatticeKeysModel$Secrets") (TT := T_ME) (N := 14) hx hb hts (wg_ft i_ME) hown hK hO k_h0 (kn := 184) (ci := 11) (fl := [(3, 172), (3, 178), (3, 185), (3, 202), (3, 207), (3, 212), (3, 217), (3, 218), (3, 219), (3, 220), (3, 221), (3, 222), (3, 223), (3, 224)]) rfl hP rfl 5 (by decide) (hts _ (wg_t kw_1384)) (fun _ h9 => h9) (cd := (3, 212)) rfl dME_encrypt_271 (fun v33 hv33 => ?_)
              obtain ⟨r33, rfl, kr33⟩ := (show ∃ r : Nat, v33 = .ref r ∧ T r = some 212 from hv33)
              refine lv_iload hx hb dME_encrypt_274 (lv_at hl 0 rfl) ?_
              refine nw_aald3 hx hb hK hO kr33 (k := 212) (b := 213) rfl hP (by omega) (by omega) dME_encrypt_276 (fun r34 kr34 => ?_)
              have hn21 : nsp (213 + i23) = (0, 256, []) := rows_ok 213 4 (by decide) _ (by omega)
              refine lv_aload_n hx hb dME_encrypt_277 rfl (lv_at hl 2 rfl) ?_
              refine nw_get (C := "LatticeKeysModel$Secrets") (TT := T_ME) (N := 14) hx hb hts (wg_ft i_ME) hown hK hO k_h0 (kn := 184) (ci := 11) (fl := [(3, 172), (3, 178), (3, 185), (3, 202), (3, 207), (3, 212), (3, 217), (3, 218), (3, 219), (3, 220), (3, 221), (3, 222), (3, 223), (3, 224)]) rfl hP rfl 3 (by decide) (hts _ (wg_t kw_1382)) (fun _ h9 => h9) (cd := (3, 202)) rfl dME_encrypt_278 (fun v34 hv34 => ?_)
              obtain ⟨r35, rfl, kr35⟩ := (show ∃ r : Nat, v34 = .ref r ∧ T r = some 202 from hv34)
              refine lv_iload hx hb dME_encrypt_281 (lv_at hl 0 rfl) ?_
              refine nw_aald3 hx hb hK hO kr35 (k := 202) (b := 203) rfl hP (by omega) (by omega) dME_encrypt_283 (fun r36 kr36 => ?_)
              have hn22 : nsp (203 + i23) = (0, 256, []) := rows_ok 203 4 (by decide) _ (by omega)
              refine lv_aload_n hx hb dME_encrypt_284 rfl (lv_at hl 2 rfl) ?_
              refine nw_get (C := "LatticeKeysModel$Secrets") (TT := T_ME) (N := 14) hx hb hts (wg_ft i_ME) hown hK hO k_h0 (kn := 184) (ci := 11) (fl := [(3, 172), (3, 178), (3, 185), (3, 202), (3, 207), (3, 212), (3, 217), (3, 218), (3, 219), (3, 220), (3, 221), (3, 222), (3, 223), (3, 224)]) rfl hP rfl 6 (by decide) (hts _ (wg_t kw_1385)) (fun _ h9 => h9) (cd := (3, 217)) rfl dME_encrypt_285 (fun v35 hv35 => ?_)
              obtain ⟨r37, rfl, kr37⟩ := (show ∃ r : Nat, v35 = .ref r ∧ T r = some 217 from hv35)
              refine mp_v (cx := []) (wr := []) hP hD hS hA [] [] rfl rfl rfl (by decide) (va_runV (As := [.ref r34, .ref r36, .ref r37]) (rest := []) F (N_ME_product l g _ T s25 pl hO hU h0 r34 r36 r37 (213 + i23) (203 + i23) 217 k_h0 kr34 hn21 kr36 hn22 kr37 rfl) (cwV 3 hts (wg_app (wg_c kw_1676 (wg_c kw_1678 (wg_c ks_58 (wg_c kw_11 wg_n)))) kw_1679) rfl rfl rfl (by decide +kernel) ⟨by decide, by decide⟩) (pn_W "LatticeKeysModel$Secrets" (en_ok g) (ci := 11) (kn := 184) (fl := [(3, 172), (3, 178), (3, 185), (3, 202), (3, 207), (3, 212), (3, 217), (3, 218), (3, 219), (3, 220), (3, 221), (3, 222), (3, 223), (3, 224)]) hK hO k_h0 rfl hP hD hS hA hEn [] rfl rfl rfl) rfl rfl hl.1 rfl (lv_room (Nat.le_of_ble_eq_true rfl)) dME_encrypt_288 ⟨by omega, by omega⟩) (fun  u31 H locs hu31 hP hD hS => ?_)
              obtain ⟨s34, pl⟩ := u31
              obtain ⟨⟨eq31, hFc31, -⟩, hO⟩ := hu31
              have hO : okn g T s34 pl := hO
              have hP : va_P g.1 vcl ([] ++ pl) _ := hP
              have hD : va_D _ ([] ++ pl) := hD
              have hFc31 : frm (M_ME_product 217) s25 s34 := hFc31
              replace hR := bnd_step hR eq31
              replace hE := bndP_step hE eq31
              have hF := frm_tr hF hFc31 (fun k hk => by unfold M_ME_product at hk; unfold M_ME_encrypt_1; omega)
              refine W.widen (k := 0) (n := 0) (by omega) (by omega) ?_
              refine mi_iinc (k := 0) (x := i23) (d := 1) (y := i23 + 1) (lv' := [(7, .int (nI (i23 + 1))), (6, .int (nI 3)), (0, .ref h0), (1, .int (nI 1)), (4, .ref ms), (5, .ref ct)]) hx hb dME_encrypt_291 hl rfl (by decide) rfl (by decide) rfl (fun ls hl => ?_)
              refine lv_goto (tgt := 262) hx hb dME_encrypt_294 (by decide) ?_
              exact ih23 (i23 + 1) s34 pl ls H locs (by omega) hF hE hR (lv_sub hl [0, 1, 2, 3, 4, 5] rfl) hO hP hD hS
          exact lp23 3 0 s24 pl ls _ _ (by omega) hF hE hR (lv_sub hl [0, 1, 2, 3, 4, 5] rfl) hO hP hD hS
        | succ n22 ih22 =>
          intro i22 s23 pl ls H locs hm22 hF hE hR hl hO hP hD hS
          refine lv_iload hx hb dME_encrypt_130 (lv_at hl 0 rfl) ?_
          refine lv_iload hx hb dME_encrypt_132 (lv_at hl 1 rfl) ?_
          refine mi_ge (tgt := 252) hx hb dME_encrypt_134 (by decide) (by omega) (by omega) (fun h25 => absurd h25 (by omega)) (fun h25 => ?_)
          refine lv_aload_n hx hb dME_encrypt_137 rfl (lv_at hl 2 rfl) ?_
          refine nw_get (C := "LatticeKeysModel$Secrets") (TT := T_ME) (N := 14) hx hb hts (wg_ft i_ME) hown hK hO k_h0 (kn := 184) (ci := 11) (fl := [(3, 172), (3, 178), (3, 185), (3, 202), (3, 207), (3, 212), (3, 217), (3, 218), (3, 219), (3, 220), (3, 221), (3, 222), (3, 223), (3, 224)]) rfl hP rfl 6 (by decide) (hts _ (wg_t kw_1385)) (fun _ h9 => h9) (cd := (3, 217)) rfl dME_encrypt_138 (fun v36 hv36 => ?_)
          obtain ⟨r38, rfl, kr38⟩ := (show ∃ r : Nat, v36 = .ref r ∧ T r = some 217 from hv36)
          refine mp_v (cx := []) (wr := []) hP hD hS hA [] [] rfl rfl rfl (by decide) (va_runS (As := [.ref r38]) (rest := []) F (N_ME_clear l g _ T s23 pl hO hU r38 217 kr38 rfl) (va_cwS 1 hts (wg_app (wg_c kw_1819 (wg_c kw_1820 (wg_c kw_11 wg_n))) kw_1821) rfl rfl rfl (by decide +kernel) ⟨by decide, by decide⟩) (pp_S (en_ok g) hP hD hS hA hEn [] rfl rfl) rfl rfl hl.1 rfl (lv_room (Nat.le_of_ble_eq_true rfl)) dME_encrypt_141 ⟨by omega, by omega⟩) (fun  u32 H locs hu32 hP hD hS => ?_)
          obtain ⟨s35, pl⟩ := u32
          obtain ⟨⟨eq32, hFc32, -⟩, hO⟩ := hu32
          have hO : okn g T s35 pl := hO
          have hP : va_P g.1 vcl ([] ++ pl) _ := hP
          have hD : va_D _ ([] ++ pl) := hD
          have hFc32 : frm (M_ME_clear 217) s23 s35 := hFc32
          replace hR := bnd_step hR eq32
          replace hE := bndP_step hE eq32
          have hF := frm_tr hF hFc32 (fun k hk => by unfold M_ME_clear at hk; unfold M_ME_encrypt_1; omega)
          refine W.widen (k := 0) (n := 0) (by omega) (by omega) ?_
          refine lv_iconst (v := nI 0) hx hb dME_encrypt_144 (by decide) ?_
          refine lv_istore (lv' := [(8, .int (nI 0)), (7, .int (nI i22)), (6, .int (nI 3)), (0, .ref h0), (1, .int (nI 1)), (4, .ref ms), (5, .ref ct)]) hx hb dME_encrypt_145 hl (by decide) rfl (fun ls hl => ?_)
          have lp24 : ∀ (n24 : Nat) (i24 : Nat) (s36 : Sto) (pl : va_W) (ls : Array Slot) (H : Heap) (locs : List Loc), n24 + i24 = 3 → frm (M_ME_encrypt_1 pct) s s36 → E_ME_encrypt_1_L3 pct nc i22 (E_ME_encrypt_1_L1 pms nm pct nc n22) n24 i24 s36 → F_ME_encrypt_1 pek n at_ pms nm pct nc s = F_ME_encrypt_1_L3 pct nc i22 (F_ME_encrypt_1_L1 pms nm pct nc n22) n24 i24 s36 → lv_has ls 9 [(8, .int (nI i24)), (7, .int (nI i22)), (6, .int (nI 3)), (0, .ref h0), (1, .int (nI 1)), (4, .ref ms), (5, .ref ct)] → okn g T s36 pl → va_P g.1 vcl ([] ++ pl) H → va_D A ([] ++ pl) → va_S A s0.heap H locs → W p l e ({ frames := 5, cells := 0, slots := 0, locals := 118 } : Room) s0 m args below meth c H locs 0 0 (MQ below (va_Qv (fun (u : (Sto) × va_W) => (u.1 = F_ME_encrypt_1 pek n at_ pms nm pct nc s ∧ frm (M_ME_encrypt_1 pct) s u.1 ∧ True) ∧ okn g T u.1 u.2) (po g.1 vcl A (fun (u : (Sto) × va_W) => [] ++ u.2)) A) args s0 0 0 A) (F0 m 147 ls []) := by
            intro n24
            induction n24 with
            | zero =>
              intro i24 s36 pl ls H locs hm24 hF hE hR hl hO hP hD hS
              refine lv_iload hx hb dME_encrypt_147 (lv_at hl 0 rfl) ?_
              refine lv_iload hx hb dME_encrypt_149 (lv_at hl 2 rfl) ?_
              refine mi_ge (tgt := 187) hx hb dME_encrypt_151 (by decide) (by omega) (by omega) (fun h26 => ?_) (fun h26 => absurd h26 (by omega))
              refine lv_aload_n hx hb dME_encrypt_187 rfl (lv_at hl 3 rfl) ?_
              refine lv_aload_n hx hb dME_encrypt_188 rfl (lv_at hl 3 rfl) ?_
              refine nw_get (C := "LatticeKeysModel$Secrets") (TT := T_ME) (N := 14) hx hb hts (wg_ft i_ME) hown hK hO k_h0 (kn := 184) (ci := 11) (fl := [(3, 172), (3, 178), (3, 185), (3, 202), (3, 207), (3, 212), (3, 217), (3, 218), (3, 219), (3, 220), (3, 221), (3, 222), (3, 223), (3, 224)]) rfl hP rfl 6 (by decide) (hts _ (wg_t kw_1385)) (fun _ h9 => h9) (cd := (3, 217)) rfl dME_encrypt_189 (fun v37 hv37 => ?_)
              obtain ⟨r39, rfl, kr39⟩ := (show ∃ r : Nat, v37 = .ref r ∧ T r = some 217 from hv37)
              refine mp_v (cx := []) (wr := []) hP hD hS hA [] [] rfl rfl rfl (by decide) (va_runV (As := [.ref r39]) (rest := []) F (N_ME_back l g _ T s36 pl hO hU h0 r39 217 k_h0 kr39 rfl) (cwV 1 hts (wg_app (wg_c kw_1822 (wg_c kw_1824 (wg_c ks_69 (wg_c kw_11 wg_n)))) kw_1825) rfl rfl rfl (by decide +kernel) ⟨by decide, by decide⟩) (pn_W "LatticeKeysModel$Secrets" (en_ok g) (ci := 11) (kn := 184) (fl := [(3, 172), (3, 178), (3, 185), (3, 202), (3, 207), (3, 212), (3, 217), (3, 218), (3, 219), (3, 220), (3, 221), (3, 222), (3, 223), (3, 224)]) hK hO k_h0 rfl hP hD hS hA hEn [] rfl rfl rfl) rfl rfl hl.1 rfl (lv_room (Nat.le_of_ble_eq_true rfl)) dME_encrypt_192 ⟨by omega, by omega⟩) (fun  u33 H locs hu33 hP hD hS => ?_)
              obtain ⟨s37, pl⟩ := u33
              obtain ⟨⟨eq33, hFc33, -⟩, hO⟩ := hu33
              have hO : okn g T s37 pl := hO
              have hP : va_P g.1 vcl ([] ++ pl) _ := hP
              have hD : va_D _ ([] ++ pl) := hD
              have hFc33 : frm (M_ME_back 217) s36 s37 := hFc33
              replace hR := bnd_step hR eq33
              replace hE := bndP_step hE eq33
              have hF := frm_tr hF hFc33 (fun k hk => by unfold M_ME_back at hk; unfold M_ME_encrypt_1; omega)
              refine W.widen (k := 0) (n := 0) (by omega) (by omega) ?_
              refine lv_aload_n hx hb dME_encrypt_195 rfl (lv_at hl 3 rfl) ?_
              refine nw_get (C := "LatticeKeysModel$Secrets") (TT := T_ME) (N := 14) hx hb hts (wg_ft i_ME) hown hK hO k_h0 (kn := 184) (ci := 11) (fl := [(3, 172), (3, 178), (3, 185), (3, 202), (3, 207), (3, 212), (3, 217), (3, 218), (3, 219), (3, 220), (3, 221), (3, 222), (3, 223), (3, 224)]) rfl hP rfl 6 (by decide) (hts _ (wg_t kw_1385)) (fun _ h9 => h9) (cd := (3, 217)) rfl dME_encrypt_196 (fun v38 hv38 => ?_)
              obtain ⟨r40, rfl, kr40⟩ := (show ∃ r : Nat, v38 = .ref r ∧ T r = some 217 from hv38)
              refine lv_aload_n hx hb dME_encrypt_199 rfl (lv_at hl 3 rfl) ?_
              refine nw_get (C := "LatticeKeysModel$Secrets") (TT := T_ME) (N := 14) hx hb hts (wg_ft i_ME) hown hK hO k_h0 (kn := 184) (ci := 11) (fl := [(3, 172), (3, 178), (3, 185), (3, 202), (3, 207), (3, 212), (3, 217), (3, 218), (3, 219), (3, 220), (3, 221), (3, 222), (3, 223), (3, 224)]) rfl hP rfl 4 (by decide) (hts _ (wg_t kw_1383)) (fun _ h9 => h9) (cd := (3, 207)) rfl dME_encrypt_200 (fun v39 hv39 => ?_)
              obtain ⟨r41, rfl, kr41⟩ := (show ∃ r : Nat, v39 = .ref r ∧ T r = some 207 from hv39)
              refine lv_iload hx hb dME_encrypt_203 (lv_at hl 1 rfl) ?_
              refine nw_aald3 hx hb hK hO kr41 (k := 207) (b := 208) rfl hP (by omega) (by omega) dME_encrypt_205 (fun r42 kr42 => ?_)
              have hn23 : nsp (208 + i22) = (0, 256, []) := rows_ok 208 4 (by decide) _ (by omega)
              refine mp_v (cx := []) (wr := []) hP hD hS hA [] [] rfl rfl rfl (by decide) (va_runS (As := [.ref r40, .ref r42]) (rest := []) F (N_ME_plus l g _ T s37 pl hO hU r40 r42 217 (208 + i22) kr40 rfl kr42 hn23) (va_cwS 2 hts (wg_app (wg_c kw_1827 (wg_c kw_1828 (wg_c kw_11 wg_n))) kw_1829) rfl rfl rfl (by decide +kernel) ⟨by decide, by decide⟩) (pp_S (en_ok g) hP hD hS hA hEn [] rfl rfl) rfl rfl hl.1 rfl (lv_room (Nat.le_of_ble_eq_true rfl)) dME_encrypt_206 ⟨by omega, by omega⟩) (fun  u34 H locs hu34 hP hD hS => ?_)
              obtain ⟨s38, pl⟩ := u34
              obtain ⟨⟨eq34, hFc34, -⟩, hO⟩ := hu34
              have hO : okn g T s38 pl := hO
              have hP : va_P g.1 vcl ([] ++ pl) _ := hP
              have hD : va_D _ ([] ++ pl) := hD
              have hFc34 : frm (M_ME_plus 217) s37 s38 := hFc34
              replace hR := bnd_step hR eq34
              replace hE := bndP_step hE eq34
              have hF := frm_tr hF hFc34 (fun k hk => by unfold M_ME_plus at hk; unfold M_ME_encrypt_1; omega)
              refine W.widen (k := 0) (n := 0) (by omega) (by omega) ?_
              refine lv_aload_n hx hb dME_encrypt_209 rfl (lv_at hl 3 rfl) ?_
              refine nw_get (C := "LatticeKeysModel$Secrets") (TT := T_ME) (N := 14) hx hb hts (wg_ft i_ME) hown hK hO k_h0 (kn := 184) (ci := 11) (fl := [(3, 172), (3, 178), (3, 185), (3, 202), (3, 207), (3, 212), (3, 217), (3, 218), (3, 219), (3, 220), (3, 221), (3, 222), (3, 223), (3, 224)]) rfl hP rfl 6 (by decide) (hts _ (wg_t kw_1385)) (fun _ h9 => h9) (cd := (3, 217)) rfl dME_encrypt_210 (fun v40 hv40 => ?_)
              obtain ⟨r43, rfl, kr43⟩ := (show ∃ r : Nat, v40 = .ref r ∧ T r = some 217 from hv40)
              refine va_gets hx hb (hEn.2.1 21 _ rfl).1 hS hown (hts _ (wg_t kw_1830)) (fun _ h9 => h9) dME_encrypt_213 ?_
              refine lv_iload_n hx hb dME_encrypt_216 rfl (lv_at hl 4 rfl) ?_
              refine va_ti (v := .int (nI 10)) hx hb (hEn.2.1 21 _ rfl).2 hS (vp_in_nI (by decide) (by decide)) (by decide +kernel) dME_encrypt_217 ?_
              refine mp_v (cx := []) (wr := []) hP hD hS hA [] [] rfl rfl rfl (by decide) (va_runS (As := [.ref r43, .int (nI 10)]) (rest := []) F (N_ME_less_10 l g _ T s38 pl hO hU r43 217 kr43 rfl) (va_cwS 2 hts (wg_app (wg_c kw_1832 (wg_c kw_1833 (wg_c kw_11 wg_n))) kw_1834) rfl rfl rfl (by decide +kernel) ⟨by decide, by decide⟩) (pp_S (en_ok g) hP hD hS hA hEn [] rfl rfl) rfl rfl hl.1 rfl (lv_room (Nat.le_of_ble_eq_true rfl)) dME_encrypt_218 ⟨by omega, by omega⟩) (fun  u35 H locs hu35 hP hD hS => ?_)
              obtain ⟨s39, pl⟩ := u35
              obtain ⟨⟨eq35, hFc35, -⟩, hO⟩ := hu35
              have hO : okn g T s39 pl := hO
              have hP : va_P g.1 vcl ([] ++ pl) _ := hP
              have hD : va_D _ ([] ++ pl) := hD
              have hFc35 : frm (M_ME_less_10 217) s38 s39 := hFc35
              replace hR := bnd_step hR eq35
              replace hE := bndP_step hE eq35
              have hF := frm_tr hF hFc35 (fun k hk => by unfold M_ME_less_10 at hk; unfold M_ME_encrypt_1; omega)
              refine W.widen (k := 0) (n := 0) (by omega) (by omega) ?_
              refine lv_aload_n hx hb dME_encrypt_221 rfl (lv_at hl 3 rfl) ?_
              refine nw_get (C := "LatticeKeysModel$Secrets") (TT := T_ME) (N := 14) hx hb hts (wg_ft i_ME) hown hK hO k_h0 (kn := 184) (ci := 11) (fl := [(3, 172), (3, 178), (3, 185), (3, 202), (3, 207), (3, 212), (3, 217), (3, 218), (3, 219), (3, 220), (3, 221), (3, 222), (3, 223), (3, 224)]) rfl hP rfl 6 (by decide) (hts _ (wg_t kw_1385)) (fun _ h9 => h9) (cd := (3, 217)) rfl dME_encrypt_222 (fun v41 hv41 => ?_)
              obtain ⟨r44, rfl, kr44⟩ := (show ∃ r : Nat, v41 = .ref r ∧ T r = some 217 from hv41)
              refine lv_aload hx hb dME_encrypt_225 (lv_at hl 6 rfl) ?_
              refine lv_bipush (v := nI 32) hx hb dME_encrypt_227 (by decide) ?_
              refine va_gets hx hb (hEn.2.1 21 _ rfl).1 hS hown (hts _ (wg_t kw_1830)) (fun _ h9 => h9) dME_encrypt_229 ?_
              refine lv_iload_n hx hb dME_encrypt_232 rfl (lv_at hl 4 rfl) ?_
              refine va_ti (v := .int (nI 10)) hx hb (hEn.2.1 21 _ rfl).2 hS (vp_in_nI (by decide) (by decide)) (by decide +kernel) dME_encrypt_233 ?_
              refine mi_imul hx hb dME_encrypt_234 ?_
              refine mi_as (show nI (32 * 10) = nI 320 from rfl) ?_
              refine lv_iload hx hb dME_encrypt_235 (lv_at hl 1 rfl) ?_
              refine mi_imul hx hb dME_encrypt_237 ?_
              refine va_gets hx hb (hEn.2.1 21 _ rfl).1 hS hown (hts _ (wg_t kw_1830)) (fun _ h9 => h9) dME_encrypt_238 ?_
              refine lv_iload_n hx hb dME_encrypt_241 rfl (lv_at hl 4 rfl) ?_
              refine va_ti (v := .int (nI 10)) hx hb (hEn.2.1 21 _ rfl).2 hS (vp_in_nI (by decide) (by decide)) (by decide +kernel) dME_encrypt_242 ?_
              refine mp_v (cx := []) (wr := []) hP hD hS hA [] [] rfl rfl rfl (by decide) (va_runS (As := [.ref r44, .ref ct, .int (nI (320 * i22)), .int (nI 10)]) (rest := []) F (N_ME_write_10 l g _ T s39 pl hO hU r44 ct 217 pct nc (320 * i22) kr44 rfl k_ct n_ct (by omega) (by omega)) (va_cwS 4 hts (wg_app (wg_c kw_1685 (wg_c kw_1686 (wg_c kw_11 wg_n))) kw_1687) rfl rfl rfl (by decide +kernel) ⟨by decide, by decide⟩) (pp_S (en_ok g) hP hD hS hA hEn [] rfl rfl) rfl rfl hl.1 rfl (lv_room (Nat.le_of_ble_eq_true rfl)) dME_encrypt_243 ⟨by omega, by omega⟩) (fun  u36 H locs hu36 hP hD hS => ?_)
              obtain ⟨s40, pl⟩ := u36
              obtain ⟨⟨eq36, hFc36, -⟩, hO⟩ := hu36
              have hO : okn g T s40 pl := hO
              have hP : va_P g.1 vcl ([] ++ pl) _ := hP
              have hD : va_D _ ([] ++ pl) := hD
              have hFc36 : frm (M_ME_write_10 pct) s39 s40 := hFc36
              replace hR := bnd_step hR eq36
              replace hE := bndP_step hE eq36
              have hF := frm_tr hF hFc36 (fun k hk => by unfold M_ME_write_10 at hk; unfold M_ME_encrypt_1; omega)
              refine W.widen (k := 0) (n := 0) (by omega) (by omega) ?_
              refine mi_iinc (k := 1) (x := i22) (d := 1) (y := i22 + 1) (lv' := [(7, .int (nI (i22 + 1))), (8, .int (nI i24)), (6, .int (nI 3)), (0, .ref h0), (1, .int (nI 1)), (4, .ref ms), (5, .ref ct)]) hx hb dME_encrypt_246 hl rfl (by decide) rfl (by decide) rfl (fun ls hl => ?_)
              refine lv_goto (tgt := 130) hx hb dME_encrypt_249 (by decide) ?_
              exact ih22 (i22 + 1) s40 pl ls H locs (by omega) hF hE hR (lv_sub hl [0, 2, 3, 4, 5, 6] rfl) hO hP hD hS
            | succ n24 ih24 =>
              intro i24 s36 pl ls H locs hm24 hF hE hR hl hO hP hD hS
              refine lv_iload hx hb dME_encrypt_147 (lv_at hl 0 rfl) ?_
              refine lv_iload hx hb dME_encrypt_149 (lv_at hl 2 rfl) ?_
              refine mi_ge (tgt := 187) hx hb dME_encrypt_151 (by decide) (by omega) (by omega) (fun h27 => absurd h27 (by omega)) (fun h27 => ?_)
              refine lv_aload_n hx hb dME_encrypt_154 rfl (lv_at hl 3 rfl) ?_
              refine lv_aload_n hx hb dME_encrypt_155 rfl (lv_at hl 3 rfl) ?_
              refine nw_get (C := "LatticeKeysModel$Secrets") (TT := T_ME) (N := 14) hx hb hts (wg_ft i_ME) hown hK hO k_h0 (kn := 184) (ci := 11) (fl := [(3, 172), (3, 178), (3, 185), (3, 202), (3, 207), (3, 212), (3, 217), (3, 218), (3, 219), (3, 220), (3, 221), (3, 222), (3, 223), (3, 224)]) rfl hP rfl 2 (by decide) (hts _ (wg_t kw_1381)) (fun _ h9 => h9) (cd := (3, 185)) rfl dME_encrypt_156 (fun v42 hv42 => ?_)
              obtain ⟨r45, rfl, kr45⟩ := (show ∃ r : Nat, v42 = .ref r ∧ T r = some 185 from hv42)
              refine lv_iconst (v := nI 4) hx hb dME_encrypt_159 (by decide) ?_
              refine lv_iload hx hb dME_encrypt_160 (lv_at hl 0 rfl) ?_
              refine mi_imul hx hb dME_encrypt_162 ?_
              refine lv_iload hx hb dME_encrypt_163 (lv_at hl 1 rfl) ?_
              refine mi_iadd hx hb dME_encrypt_165 ?_
              refine nw_aald3 hx hb hK hO kr45 (k := 185) (b := 186) rfl hP (by omega) (by omega) dME_encrypt_166 (fun r46 kr46 => ?_)
              have hn24 : nsp (186 + ((4 * i24) + i22)) = (0, 256, []) := rows_ok 186 16 (by decide) _ (by omega)
              refine lv_aload_n hx hb dME_encrypt_167 rfl (lv_at hl 3 rfl) ?_
              refine nw_get (C := "LatticeKeysModel$Secrets") (TT := T_ME) (N := 14) hx hb hts (wg_ft i_ME) hown hK hO k_h0 (kn := 184) (ci := 11) (fl := [(3, 172), (3, 178), (3, 185), (3, 202), (3, 207), (3, 212), (3, 217), (3, 218), (3, 219), (3, 220), (3, 221), (3, 222), (3, 223), (3, 224)]) rfl hP rfl 3 (by decide) (hts _ (wg_t kw_1382)) (fun _ h9 => h9) (cd := (3, 202)) rfl dME_encrypt_168 (fun v43 hv43 => ?_)
              obtain ⟨r47, rfl, kr47⟩ := (show ∃ r : Nat, v43 = .ref r ∧ T r = some 202 from hv43)
              refine lv_iload hx hb dME_encrypt_171 (lv_at hl 0 rfl) ?_
              refine nw_aald3 hx hb hK hO kr47 (k := 202) (b := 203) rfl hP (by omega) (by omega) dME_encrypt_173 (fun r48 kr48 => ?_)
              have hn25 : nsp (203 + i24) = (0, 256, []) := rows_ok 203 4 (by decide) _ (by omega)
              refine lv_aload_n hx hb dME_encrypt_174 rfl (lv_at hl 3 rfl) ?_
              refine nw_get (C := "LatticeKeysModel$Secrets") (TT := T_ME) (N := 14) hx hb hts (wg_ft i_ME) hown hK hO k_h0 (kn := 184) (ci := 11) (fl := [(3, 172), (3, 178), (3, 185), (3, 202), (3, 207), (3, 212), (3, 217), (3, 218), (3, 219), (3, 220), (3, 221), (3, 222), (3, 223), (3, 224)]) rfl hP rfl 6 (by decide) (hts _ (wg_t kw_1385)) (fun _ h9 => h9) (cd := (3, 217)) rfl dME_encrypt_175 (fun v44 hv44 => ?_)
              obtain ⟨r49, rfl, kr49⟩ := (show ∃ r : Nat, v44 = .ref r ∧ T r = some 217 from hv44)
              refine mp_v (cx := []) (wr := []) hP hD hS hA [] [] rfl rfl rfl (by decide) (va_runV (As := [.ref r46, .ref r48, .ref r49]) (rest := []) F (N_ME_product l g _ T s36 pl hO hU h0 r46 r48 r49 (186 + ((4 * i24) + i22)) (203 + i24) 217 k_h0 kr46 hn24 kr48 hn25 kr49 rfl) (cwV 3 hts (wg_app (wg_c kw_1676 (wg_c kw_1678 (wg_c ks_58 (wg_c kw_11 wg_n)))) kw_1679) rfl rfl rfl (by decide +kernel) ⟨by decide, by decide⟩) (pn_W "LatticeKeysModel$Secrets" (en_ok g) (ci := 11) (kn := 184) (fl := [(3, 172), (3, 178), (3, 185), (3, 202), (3, 207), (3, 212), (3, 217), (3, 218), (3, 219), (3, 220), (3, 221), (3, 222), (3, 223), (3, 224)]) hK hO k_h0 rfl hP hD hS hA hEn [] rfl rfl rfl) rfl rfl hl.1 rfl (lv_room (Nat.le_of_ble_eq_true rfl)) dME_encrypt_178 ⟨by omega, by omega⟩) (fun  u37 H locs hu37 hP hD hS => ?_)
              obtain ⟨s41, pl⟩ := u37
              obtain ⟨⟨eq37, hFc37, -⟩, hO⟩ := hu37
              have hO : okn g T s41 pl := hO
              have hP : va_P g.1 vcl ([] ++ pl) _ := hP
              have hD : va_D _ ([] ++ pl) := hD
              have hFc37 : frm (M_ME_product 217) s36 s41 := hFc37
              replace hR := bnd_step hR eq37
              replace hE := bndP_step hE eq37
              have hF := frm_tr hF hFc37 (fun k hk => by unfold M_ME_product at hk; unfold M_ME_encrypt_1; omega)
              refine W.widen (k := 0) (n := 0) (by omega) (by omega) ?_
              refine mi_iinc (k := 0) (x := i24) (d := 1) (y := i24 + 1) (lv' := [(8, .int (nI (i24 + 1))), (7, .int (nI i22)), (6, .int (nI 3)), (0, .ref h0), (1, .int (nI 1)), (4, .ref ms), (5, .ref ct)]) hx hb dME_encrypt_181 hl rfl (by decide) rfl (by decide) rfl (fun ls hl => ?_)
              refine lv_goto (tgt := 147) hx hb dME_encrypt_184 (by decide) ?_
              exact ih24 (i24 + 1) s41 pl ls H locs (by omega) hF hE hR (lv_sub hl [0, 1, 2, 3, 4, 5, 6] rfl) hO hP hD hS
          exact lp24 3 0 s35 pl ls _ _ (by omega) hF hE hR (lv_sub hl [0, 1, 2, 3, 4, 5, 6] rfl) hO hP hD hS
      exact lp22 3 0 s22 pl ls _ _ (by omega) hF hE hR (lv_sub hl [0, 1, 2, 3, 6, 7] rfl) hO hP hD hS
    | succ n21 ih21 =>
      intro i21 s22 pl ls H locs hm21 hF hE hR hl hO hP hD hS
      refine lv_iload hx hb dME_encrypt_25 (lv_at hl 0 rfl) ?_
      refine lv_iload hx hb dME_encrypt_27 (lv_at hl 1 rfl) ?_
      refine mi_ge (tgt := 127) hx hb dME_encrypt_29 (by decide) (by omega) (by omega) (fun h28 => absurd h28 (by omega)) (fun h28 => ?_)
      refine lv_aload_n hx hb dME_encrypt_32 rfl (lv_at hl 4 rfl) ?_
      refine lv_iload_n hx hb dME_encrypt_33 rfl (lv_at hl 5 rfl) ?_
      refine lv_sipush (v := nI 384) hx hb dME_encrypt_34 (by decide) ?_
      refine lv_iload hx hb dME_encrypt_37 (lv_at hl 0 rfl) ?_
      refine mi_imul hx hb dME_encrypt_39 ?_
      refine mi_iadd hx hb dME_encrypt_40 ?_
      refine lv_bipush (v := nI 12) hx hb dME_encrypt_41 (by decide) ?_
      refine lv_aload_n hx hb dME_encrypt_43 rfl (lv_at hl 2 rfl) ?_
      refine nw_get (C := "LatticeKeysModel$Secrets") (TT := T_ME) (N := 14) hx hb hts (wg_ft i_ME) hown hK hO k_h0 (kn := 184) (ci := 11) (fl := [(3, 172), (3, 178), (3, 185), (3, 202), (3, 207), (3, 212), (3, 217), (3, 218), (3, 219), (3, 220), (3, 221), (3, 222), (3, 223), (3, 224)]) rfl hP rfl 5 (by decide) (hts _ (wg_t kw_1384)) (fun _ h9 => h9) (cd := (3, 212)) rfl dME_encrypt_44 (fun v45 hv45 => ?_)
      obtain ⟨r50, rfl, kr50⟩ := (show ∃ r : Nat, v45 = .ref r ∧ T r = some 212 from hv45)
      refine lv_iload hx hb dME_encrypt_47 (lv_at hl 0 rfl) ?_
      refine nw_aald3 hx hb hK hO kr50 (k := 212) (b := 213) rfl hP (by omega) (by omega) dME_encrypt_49 (fun r51 kr51 => ?_)
      have hn26 : nsp (213 + i21) = (0, 256, []) := rows_ok 213 4 (by decide) _ (by omega)
      refine mp_v (cx := []) (wr := []) hP hD hS hA [] [] rfl rfl rfl (by decide) (va_runS (As := [.ref ek, .int (nI (at_ + (384 * i21))), .int (nI 12), .ref r51]) (rest := []) F (N_ME_read_12 l g _ T s22 pl hO hU ek r51 pek n (at_ + (384 * i21)) (213 + i21) k_ek n_ek kr51 hn26 (by omega) (by omega)) (va_cwS 4 hts (wg_app (wg_c kw_1813 (wg_c kw_1814 (wg_c kw_11 wg_n))) kw_1815) rfl rfl rfl (by decide +kernel) ⟨by decide, by decide⟩) (pp_S (en_ok g) hP hD hS hA hEn [] rfl rfl) rfl rfl hl.1 rfl (lv_room (Nat.le_of_ble_eq_true rfl)) dME_encrypt_50 ⟨by omega, by omega⟩) (fun  u38 H locs hu38 hP hD hS => ?_)
      obtain ⟨s42, pl⟩ := u38
      obtain ⟨⟨eq38, hFc38, -⟩, hO⟩ := hu38
      have hO : okn g T s42 pl := hO
      have hP : va_P g.1 vcl ([] ++ pl) _ := hP
      have hD : va_D _ ([] ++ pl) := hD
      have hFc38 : frm (M_ME_read_12 (213 + i21)) s22 s42 := hFc38
      replace hR := bnd_step hR eq38
      replace hE := bndP_step hE eq38
      have hF := frm_tr hF hFc38 (fun k hk => by unfold M_ME_read_12 at hk; unfold M_ME_encrypt_1; omega)
      refine W.widen (k := 0) (n := 0) (by omega) (by omega) ?_
      refine lv_aload_n hx hb dME_encrypt_53 rfl (lv_at hl 2 rfl) ?_
      refine nw_get (C := "LatticeKeysModel$Secrets") (TT := T_ME) (N := 14) hx hb hts (wg_ft i_ME) hown hK hO k_h0 (kn := 184) (ci := 11) (fl := [(3, 172), (3, 178), (3, 185), (3, 202), (3, 207), (3, 212), (3, 217), (3, 218), (3, 219), (3, 220), (3, 221), (3, 222), (3, 223), (3, 224)]) rfl hP rfl 5 (by decide) (hts _ (wg_t kw_1384)) (fun _ h9 => h9) (cd := (3, 212)) rfl dME_encrypt_54 (fun v46 hv46 => ?_)
      obtain ⟨r52, rfl, kr52⟩ := (show ∃ r : Nat, v46 = .ref r ∧ T r = some 212 from hv46)
      refine lv_iload hx hb dME_encrypt_57 (lv_at hl 0 rfl) ?_
      refine nw_aald3 hx hb hK hO kr52 (k := 212) (b := 213) rfl hP (by omega) (by omega) dME_encrypt_59 (fun r53 kr53 => ?_)
      have hn27 : nsp (213 + i21) = (0, 256, []) := rows_ok 213 4 (by decide) _ (by omega)
      refine mp_v (cx := []) (wr := []) hP hD hS hA [] [] rfl rfl rfl (by decide) (va_runS (As := [.ref r53]) (rest := []) F (N_ME_proper l g _ T s42 pl hO hU r53 (213 + i21) kr53 hn27) (va_cwS 1 hts (wg_app (wg_c kw_1816 (wg_c kw_1817 (wg_c kw_11 wg_n))) kw_1818) rfl rfl rfl (by decide +kernel) ⟨by decide, by decide⟩) (pp_S (en_ok g) hP hD hS hA hEn [] rfl rfl) rfl rfl hl.1 rfl (lv_room (Nat.le_of_ble_eq_true rfl)) dME_encrypt_60 ⟨by omega, by omega⟩) (fun  u39 H locs hu39 hP hD hS => ?_)
      obtain ⟨s43, pl⟩ := u39
      obtain ⟨⟨eq39, hFc39, -⟩, hO⟩ := hu39
      have hO : okn g T s43 pl := hO
      have hP : va_P g.1 vcl ([] ++ pl) _ := hP
      have hD : va_D _ ([] ++ pl) := hD
      have hFc39 : frm (M_ME_proper (213 + i21)) s42 s43 := hFc39
      replace hR := bnd_step hR eq39
      replace hE := bndP_step hE eq39
      have hF := frm_tr hF hFc39 (fun k hk => by unfold M_ME_proper at hk; unfold M_ME_encrypt_1; omega)
      refine W.widen (k := 0) (n := 0) (by omega) (by omega) ?_
      refine lv_aload_n hx hb dME_encrypt_63 rfl (lv_at hl 2 rfl) ?_
      refine lv_aload_n hx hb dME_encrypt_64 rfl (lv_at hl 2 rfl) ?_
      refine nw_get (C := "LatticeKeysModel$Secrets") (TT := T_ME) (N := 14) hx hb hts (wg_ft i_ME) hown hK hO k_h0 (kn := 184) (ci := 11) (fl := [(3, 172), (3, 178), (3, 185), (3, 202), (3, 207), (3, 212), (3, 217), (3, 218), (3, 219), (3, 220), (3, 221), (3, 222), (3, 223), (3, 224)]) rfl hP rfl 3 (by decide) (hts _ (wg_t kw_1382)) (fun _ h9 => h9) (cd := (3, 202)) rfl dME_encrypt_65 (fun v47 hv47 => ?_)
      obtain ⟨r54, rfl, kr54⟩ := (show ∃ r : Nat, v47 = .ref r ∧ T r = some 202 from hv47)
      refine lv_iload hx hb dME_encrypt_68 (lv_at hl 0 rfl) ?_
      refine nw_aald3 hx hb hK hO kr54 (k := 202) (b := 203) rfl hP (by omega) (by omega) dME_encrypt_70 (fun r55 kr55 => ?_)
      have hn28 : nsp (203 + i21) = (0, 256, []) := rows_ok 203 4 (by decide) _ (by omega)
      refine lv_aload_n hx hb dME_encrypt_71 rfl (lv_at hl 2 rfl) ?_
      refine nw_get (C := "LatticeKeysModel$Secrets") (TT := T_ME) (N := 14) hx hb hts (wg_ft i_ME) hown hK hO k_h0 (kn := 184) (ci := 11) (fl := [(3, 172), (3, 178), (3, 185), (3, 202), (3, 207), (3, 212), (3, 217), (3, 218), (3, 219), (3, 220), (3, 221), (3, 222), (3, 223), (3, 224)]) rfl hP rfl 9 (by decide) (hts _ (wg_t kw_1388)) (fun _ h9 => h9) (cd := (3, 220)) rfl dME_encrypt_72 (fun v48 hv48 => ?_)
      obtain ⟨r56, rfl, kr56⟩ := (show ∃ r : Nat, v48 = .ref r ∧ T r = some 220 from hv48)
      refine lv_bipush (v := nI 32) hx hb dME_encrypt_75 (by decide) ?_
      refine lv_iload hx hb dME_encrypt_77 (lv_at hl 0 rfl) ?_
      refine va_gets hx hb (hEn.2.1 20 _ rfl).1 hS hown (hts _ (wg_t kw_1654)) (fun _ h9 => h9) dME_encrypt_79 ?_
      refine lv_iload_n hx hb dME_encrypt_82 rfl (lv_at hl 3 rfl) ?_
      refine va_ti (v := .int (nI 2)) hx hb (hEn.2.1 20 _ rfl).2 hS (vp_in_nI (by decide) (by decide)) (by decide +kernel) dME_encrypt_83 ?_
      refine mp_v (cx := []) (wr := []) hP hD hS hA [] [] rfl rfl rfl (by decide) (va_runV (As := [.ref r55, .ref r56, .int (nI 32), .int (nI i21), .int (nI 2)]) (rest := []) F (N_ME_noise_2 l g _ T s43 pl hO hU h0 r55 r56 (203 + i21) 220 64 32 (nI i21) k_h0 kr55 hn28 kr56 rfl (by omega) (by omega)) (cwV 5 hts (wg_app (wg_c kw_1656 (wg_c kw_1658 (wg_c ks_56 (wg_c kw_11 wg_n)))) kw_1659) rfl rfl rfl (by decide +kernel) ⟨by decide, by decide⟩) (pn_W "LatticeKeysModel$Secrets" (en_ok g) (ci := 11) (kn := 184) (fl := [(3, 172), (3, 178), (3, 185), (3, 202), (3, 207), (3, 212), (3, 217), (3, 218), (3, 219), (3, 220), (3, 221), (3, 222), (3, 223), (3, 224)]) hK hO k_h0 rfl hP hD hS hA hEn [] rfl rfl rfl) rfl rfl hl.1 rfl (lv_room (Nat.le_of_ble_eq_true rfl)) dME_encrypt_84 ⟨by omega, by omega⟩) (fun  u40 H locs hu40 hP hD hS => ?_)
      obtain ⟨s44, pl⟩ := u40
      obtain ⟨⟨eq40, hFc40, -⟩, hO⟩ := hu40
      have hO : okn g T s44 pl := hO
      have hP : va_P g.1 vcl ([] ++ pl) _ := hP
      have hD : va_D _ ([] ++ pl) := hD
      have hFc40 : frm (M_ME_noise_2 (203 + i21)) s43 s44 := hFc40
      replace hR := bnd_step hR eq40
      replace hE := bndP_step hE eq40
      have hF := frm_tr hF hFc40 (fun k hk => by unfold M_ME_noise_2 at hk; unfold M_ME_encrypt_1; omega)
      refine W.widen (k := 0) (n := 0) (by omega) (by omega) ?_
      refine lv_aload_n hx hb dME_encrypt_87 rfl (lv_at hl 2 rfl) ?_
      refine lv_aload_n hx hb dME_encrypt_88 rfl (lv_at hl 2 rfl) ?_
      refine nw_get (C := "LatticeKeysModel$Secrets") (TT := T_ME) (N := 14) hx hb hts (wg_ft i_ME) hown hK hO k_h0 (kn := 184) (ci := 11) (fl := [(3, 172), (3, 178), (3, 185), (3, 202), (3, 207), (3, 212), (3, 217), (3, 218), (3, 219), (3, 220), (3, 221), (3, 222), (3, 223), (3, 224)]) rfl hP rfl 4 (by decide) (hts _ (wg_t kw_1383)) (fun _ h9 => h9) (cd := (3, 207)) rfl dME_encrypt_89 (fun v49 hv49 => ?_)
      obtain ⟨r57, rfl, kr57⟩ := (show ∃ r : Nat, v49 = .ref r ∧ T r = some 207 from hv49)
      refine lv_iload hx hb dME_encrypt_92 (lv_at hl 0 rfl) ?_
      refine nw_aald3 hx hb hK hO kr57 (k := 207) (b := 208) rfl hP (by omega) (by omega) dME_encrypt_94 (fun r58 kr58 => ?_)
      have hn29 : nsp (208 + i21) = (0, 256, []) := rows_ok 208 4 (by decide) _ (by omega)
      refine lv_aload_n hx hb dME_encrypt_95 rfl (lv_at hl 2 rfl) ?_
      refine nw_get (C := "LatticeKeysModel$Secrets") (TT := T_ME) (N := 14) hx hb hts (wg_ft i_ME) hown hK hO k_h0 (kn := 184) (ci := 11) (fl := [(3, 172), (3, 178), (3, 185), (3, 202), (3, 207), (3, 212), (3, 217), (3, 218), (3, 219), (3, 220), (3, 221), (3, 222), (3, 223), (3, 224)]) rfl hP rfl 9 (by decide) (hts _ (wg_t kw_1388)) (fun _ h9 => h9) (cd := (3, 220)) rfl dME_encrypt_96 (fun v50 hv50 => ?_)
      obtain ⟨r59, rfl, kr59⟩ := (show ∃ r : Nat, v50 = .ref r ∧ T r = some 220 from hv50)
      refine lv_bipush (v := nI 32) hx hb dME_encrypt_99 (by decide) ?_
      refine lv_iload hx hb dME_encrypt_101 (lv_at hl 1 rfl) ?_
      refine lv_iload hx hb dME_encrypt_103 (lv_at hl 0 rfl) ?_
      refine mi_iadd hx hb dME_encrypt_105 ?_
      refine lv_iconst (v := nI 2) hx hb dME_encrypt_106 (by decide) ?_
      refine mp_v (cx := []) (wr := []) hP hD hS hA [] [] rfl rfl rfl (by decide) (va_runV (As := [.ref r58, .ref r59, .int (nI 32), .int (nI (3 + i21)), .int (nI 2)]) (rest := []) F (N_ME_noise_2 l g _ T s44 pl hO hU h0 r58 r59 (208 + i21) 220 64 32 (nI (3 + i21)) k_h0 kr58 hn29 kr59 rfl (by omega) (by omega)) (cwV 5 hts (wg_app (wg_c kw_1656 (wg_c kw_1658 (wg_c ks_56 (wg_c kw_11 wg_n)))) kw_1659) rfl rfl rfl (by decide +kernel) ⟨by decide, by decide⟩) (pn_W "LatticeKeysModel$Secrets" (en_ok g) (ci := 11) (kn := 184) (fl := [(3, 172), (3, 178), (3, 185), (3, 202), (3, 207), (3, 212), (3, 217), (3, 218), (3, 219), (3, 220), (3, 221), (3, 222), (3, 223), (3, 224)]) hK hO k_h0 rfl hP hD hS hA hEn [] rfl rfl rfl) rfl rfl hl.1 rfl (lv_room (Nat.le_of_ble_eq_true rfl)) dME_encrypt_107 ⟨by omega, by omega⟩) (fun  u41 H locs hu41 hP hD hS => ?_)
      obtain ⟨s45, pl⟩ := u41
      obtain ⟨⟨eq41, hFc41, -⟩, hO⟩ := hu41
      have hO : okn g T s45 pl := hO
      have hP : va_P g.1 vcl ([] ++ pl) _ := hP
      have hD : va_D _ ([] ++ pl) := hD
      have hFc41 : frm (M_ME_noise_2 (208 + i21)) s44 s45 := hFc41
      replace hR := bnd_step hR eq41
      replace hE := bndP_step hE eq41
      have hF := frm_tr hF hFc41 (fun k hk => by unfold M_ME_noise_2 at hk; unfold M_ME_encrypt_1; omega)
      refine W.widen (k := 0) (n := 0) (by omega) (by omega) ?_
      refine lv_aload_n hx hb dME_encrypt_110 rfl (lv_at hl 2 rfl) ?_
      refine lv_aload_n hx hb dME_encrypt_111 rfl (lv_at hl 2 rfl) ?_
      refine nw_get (C := "LatticeKeysModel$Secrets") (TT := T_ME) (N := 14) hx hb hts (wg_ft i_ME) hown hK hO k_h0 (kn := 184) (ci := 11) (fl := [(3, 172), (3, 178), (3, 185), (3, 202), (3, 207), (3, 212), (3, 217), (3, 218), (3, 219), (3, 220), (3, 221), (3, 222), (3, 223), (3, 224)]) rfl hP rfl 3 (by decide) (hts _ (wg_t kw_1382)) (fun _ h9 => h9) (cd := (3, 202)) rfl dME_encrypt_112 (fun v51 hv51 => ?_)
      obtain ⟨r60, rfl, kr60⟩ := (show ∃ r : Nat, v51 = .ref r ∧ T r = some 202 from hv51)
      refine lv_iload hx hb dME_encrypt_115 (lv_at hl 0 rfl) ?_
      refine nw_aald3 hx hb hK hO kr60 (k := 202) (b := 203) rfl hP (by omega) (by omega) dME_encrypt_117 (fun r61 kr61 => ?_)
      have hn30 : nsp (203 + i21) = (0, 256, []) := rows_ok 203 4 (by decide) _ (by omega)
      refine mp_v (cx := []) (wr := []) hP hD hS hA [] [] rfl rfl rfl (by decide) (va_runV (As := [.ref r61]) (rest := []) F (N_ME_forth l g _ T s45 pl hO hU h0 r61 (203 + i21) k_h0 kr61 hn30) (cwV 1 hts (wg_app (wg_c kw_1668 (wg_c kw_1670 (wg_c ks_57 (wg_c kw_11 wg_n)))) kw_1671) rfl rfl rfl (by decide +kernel) ⟨by decide, by decide⟩) (pn_W "LatticeKeysModel$Secrets" (en_ok g) (ci := 11) (kn := 184) (fl := [(3, 172), (3, 178), (3, 185), (3, 202), (3, 207), (3, 212), (3, 217), (3, 218), (3, 219), (3, 220), (3, 221), (3, 222), (3, 223), (3, 224)]) hK hO k_h0 rfl hP hD hS hA hEn [] rfl rfl rfl) rfl rfl hl.1 rfl (lv_room (Nat.le_of_ble_eq_true rfl)) dME_encrypt_118 ⟨by omega, by omega⟩) (fun  u42 H locs hu42 hP hD hS => ?_)
      obtain ⟨s46, pl⟩ := u42
      obtain ⟨⟨eq42, hFc42, -⟩, hO⟩ := hu42
      have hO : okn g T s46 pl := hO
      have hP : va_P g.1 vcl ([] ++ pl) _ := hP
      have hD : va_D _ ([] ++ pl) := hD
      have hFc42 : frm (M_ME_forth (203 + i21)) s45 s46 := hFc42
      replace hR := bnd_step hR eq42
      replace hE := bndP_step hE eq42
      have hF := frm_tr hF hFc42 (fun k hk => by unfold M_ME_forth at hk; unfold M_ME_encrypt_1; omega)
      refine W.widen (k := 0) (n := 0) (by omega) (by omega) ?_
      refine mi_iinc (k := 0) (x := i21) (d := 1) (y := i21 + 1) (lv' := [(7, .int (nI (i21 + 1))), (6, .int (nI 3)), (0, .ref h0), (1, .int (nI 1)), (2, .ref ek), (3, .int (nI at_)), (4, .ref ms), (5, .ref ct)]) hx hb dME_encrypt_121 hl rfl (by decide) rfl (by decide) rfl (fun ls hl => ?_)
      refine lv_goto (tgt := 25) hx hb dME_encrypt_124 (by decide) ?_
      exact ih21 (i21 + 1) s46 pl ls H locs (by omega) hF hE hR (lv_sub hl [0, 1, 2, 3, 4, 5, 6, 7] rfl) hO hP hD hS
  exact lp21 3 0 s21 pl ls _ _ (by omega) hF hE hR (lv_sub hl [0, 1, 2, 3, 4, 5, 6, 7] rfl) hO hP hD hS
def M_ME_encrypt_2 (pct : Nat) (k : Nat) : Prop := (186 ≤ k ∧ k < 202) ∨ (203 ≤ k ∧ k < 207) ∨ (208 ≤ k ∧ k < 212) ∨ (213 ≤ k ∧ k < 217) ∨ k = 172 ∨ k = 217 ∨ k = 218 ∨ k = 219 ∨ k = 221 ∨ k = pct ∨ (0 : Nat) = 1
noncomputable def F_ME_encrypt_2_L3 (pct : Nat) (nc : Nat) (i22 : Nat) (kk : Nat → Sto → Sto) : Nat → Nat → Sto → Sto
  | 0, i24, s36 => bnd (F_ME_back 217 s36) fun s37 => bnd (F_ME_plus 217 (208 + i22) s37) fun s38 => bnd (F_ME_less_11 217 s38) fun s39 => bnd (F_ME_write_11 217 pct nc (352 * i22) s39) fun s40 => kk (i22 + 1) s40
  | n24 + 1, i24, s36 => bnd (F_ME_product (186 + ((4 * i24) + i22)) (203 + i24) 217 s36) fun s41 => F_ME_encrypt_2_L3 pct nc i22 kk n24 (i24 + 1) s41
noncomputable def E_ME_encrypt_2_L3 (pct : Nat) (nc : Nat) (i22 : Nat) (ke : Nat → Sto → Prop) : Nat → Nat → Sto → Prop
  | 0, i24, s36 => bnd (F_ME_back 217 s36) fun s37 => bnd (F_ME_plus 217 (208 + i22) s37) fun s38 => bnd (F_ME_less_11 217 s38) fun s39 => bnd (F_ME_write_11 217 pct nc (352 * i22) s39) fun s40 => ke (i22 + 1) s40
  | n24 + 1, i24, s36 => bnd (F_ME_product (186 + ((4 * i24) + i22)) (203 + i24) 217 s36) fun s41 => E_ME_encrypt_2_L3 pct nc i22 ke n24 (i24 + 1) s41
noncomputable def F_ME_encrypt_2_L2 (pms : Nat) (nm : Nat) (pct : Nat) (nc : Nat) : Nat → Nat → Sto → Sto
  | 0, i23, s25 => bnd (F_ME_back 217 s25) fun s26 => bnd (F_ME_noise_2 218 220 64 32 (nI 8) s26) fun s27 => bnd (F_ME_plus 217 218 s27) fun s28 => bnd (F_ME_read_1 pms nm 0 218 s28) fun s29 => bnd (F_ME_more_1 218 s29) fun s30 => bnd (F_ME_plus 217 218 s30) fun s31 => bnd (F_ME_less_5 217 s31) fun s32 => bnd (F_ME_write_5 217 pct nc 1408 s32) fun s33 => s33
  | n23 + 1, i23, s25 => bnd (F_ME_product (213 + i23) (203 + i23) 217 s25) fun s34 => F_ME_encrypt_2_L2 pms nm pct nc n23 (i23 + 1) s34
noncomputable def E_ME_encrypt_2_L2 (pms : Nat) (nm : Nat) (pct : Nat) (nc : Nat) : Nat → Nat → Sto → Prop
  | 0, i23, s25 => bnd (F_ME_back 217 s25) fun s26 => bnd (F_ME_noise_2 218 220 64 32 (nI 8) s26) fun s27 => bnd (F_ME_plus 217 218 s27) fun s28 => bnd (F_ME_read_1 pms nm 0 218 s28) fun s29 => bnd (F_ME_more_1 218 s29) fun s30 => bnd (F_ME_plus 217 218 s30) fun s31 => bnd (F_ME_less_5 217 s31) fun s32 => bnd (F_ME_write_5 217 pct nc 1408 s32) fun s33 => True
  | n23 + 1, i23, s25 => bnd (F_ME_product (213 + i23) (203 + i23) 217 s25) fun s34 => E_ME_encrypt_2_L2 pms nm pct nc n23 (i23 + 1) s34
noncomputable def F_ME_encrypt_2_L1 (pms : Nat) (nm : Nat) (pct : Nat) (nc : Nat) : Nat → Nat → Sto → Sto
  | 0, i22, s23 => bnd (F_ME_clear 217 s23) fun s24 => F_ME_encrypt_2_L2 pms nm pct nc 4 0 s24
  | n22 + 1, i22, s23 => bnd (F_ME_clear 217 s23) fun s35 => F_ME_encrypt_2_L3 pct nc i22 (F_ME_encrypt_2_L1 pms nm pct nc n22) 4 0 s35
noncomputable def E_ME_encrypt_2_L1 (pms : Nat) (nm : Nat) (pct : Nat) (nc : Nat) : Nat → Nat → Sto → Prop
  | 0, i22, s23 => bnd (F_ME_clear 217 s23) fun s24 => E_ME_encrypt_2_L2 pms nm pct nc 4 0 s24
  | n22 + 1, i22, s23 => bnd (F_ME_clear 217 s23) fun s35 => E_ME_encrypt_2_L3 pct nc i22 (E_ME_encrypt_2_L1 pms nm pct nc n22) 4 0 s35
noncomputable def F_ME_encrypt_2_L0 (pek : Nat) (n : Nat) (at_ : Nat) (pms : Nat) (nm : Nat) (pct : Nat) (nc : Nat) : Nat → Nat → Sto → Sto
  | 0, i21, s22 => F_ME_encrypt_2_L1 pms nm pct nc 4 0 s22
  | n21 + 1, i21, s22 => bnd (F_ME_read_12 pek n (at_ + (384 * i21)) (213 + i21) s22) fun s42 => bnd (F_ME_proper (213 + i21) s42) fun s43 => bnd (F_ME_noise_2 (203 + i21) 220 64 32 (nI i21) s43) fun s44 => bnd (F_ME_noise_2 (208 + i21) 220 64 32 (nI (4 + i21)) s44) fun s45 => bnd (F_ME_forth (203 + i21) s45) fun s46 => F_ME_encrypt_2_L0 pek n at_ pms nm pct nc n21 (i21 + 1) s46
noncomputable def E_ME_encrypt_2_L0 (pek : Nat) (n : Nat) (at_ : Nat) (pms : Nat) (nm : Nat) (pct : Nat) (nc : Nat) : Nat → Nat → Sto → Prop
  | 0, i21, s22 => E_ME_encrypt_2_L1 pms nm pct nc 4 0 s22
  | n21 + 1, i21, s22 => bnd (F_ME_read_12 pek n (at_ + (384 * i21)) (213 + i21) s22) fun s42 => bnd (F_ME_proper (213 + i21) s42) fun s43 => bnd (F_ME_noise_2 (203 + i21) 220 64 32 (nI i21) s43) fun s44 => bnd (F_ME_noise_2 (208 + i21) 220 64 32 (nI (4 + i21)) s44) fun s45 => bnd (F_ME_forth (203 + i21) s45) fun s46 => E_ME_encrypt_2_L0 pek n at_ pms nm pct nc n21 (i21 + 1) s46
noncomputable def F_ME_encrypt_2 (pek : Nat) (n : Nat) (at_ : Nat) (pms : Nat) (nm : Nat) (pct : Nat) (nc : Nat) (s : Sto) : Sto := bnd (F_ME_expand_4 pek n (at_ + 1536) s) fun s21 => F_ME_encrypt_2_L0 pek n at_ pms nm pct nc 4 0 s21
noncomputable def E_ME_encrypt_2 (pek : Nat) (n : Nat) (at_ : Nat) (pms : Nat) (nm : Nat) (pct : Nat) (nc : Nat) (s : Sto) : Prop := (E_ME_expand_4 pek n (at_ + 1536) s) ∧ (bnd (F_ME_expand_4 pek n (at_ + 1536) s) fun s21 => E_ME_encrypt_2_L0 pek n at_ pms nm pct nc 4 0 s21)
set_option maxHeartbeats 8000000 in
set_option maxRecDepth 100000 in
theorem N_ME_encrypt_2 (l : Launch) (g : Gd) (sz : Nat) (T : TyN) (s : Sto) (pl : va_W) (hO : okn g T s pl) (hU : inj T) (h0 ek ms ct : Nat) (pek : Nat) (n : Nat) (at_ : Nat) (pms : Nat) (nm : Nat) (pct : Nat) (nc : Nat) (k_h0 : T h0 = some 184) (k_ek : T ek = some pek) (n_ek : nsp pek = (1, n, [])) (k_ms : T ms = some pms) (n_ms : nsp pms = (1, nm, [])) (k_ct : T ct = some pct) (n_ct : nsp pct = (1, nc, [])) (h1 : at_ + 1568 ≤ n) (h2 : n < 65536) (h3 : 32 ≤ nm) (h4 : nm < 65536) (h5 : 1568 ≤ nc) (h6 : nc < 65536) (hE : E_ME_encrypt_2 pek n at_ pms nm pct nc s)  : Met l y_ME_encrypt w_ME_encrypt ({ frames := 5, cells := 0, slots := 0, locals := 118 } : Room) (va_Pc [.ref h0, .int (nI 2), .ref ek, .int (nI at_), .ref ms, .ref ct] (pr (en g) g.1 vcl sz ([] ++ pl))) (va_Qv (fun (u : (Sto) × va_W) => (u.1 = F_ME_encrypt_2 pek n at_ pms nm pct nc s ∧ frm (M_ME_encrypt_2 pct) s u.1 ∧ True) ∧ okn g T u.1 u.2) (po g.1 vcl (va_A ([] ++ pl) sz) (fun (u : (Sto) × va_W) => [] ++ u.2)) (va_A ([] ++ pl) sz)) 0 0 (va_A ([] ++ pl) sz) := by
  refine mc_entry (cc := c_ME_encrypt) (maxL := 9) (ret := none) (by decide) rfl (Nat.le_of_ble_eq_true rfl) ?_
  intro p e s0 m args below meth c ls F hr hlk hnm hsz hP hD hEn hA hl
  obtain ⟨hx, hb, hml, hown, hts⟩ := id F
  have hK := hEn.1
  generalize va_A ([] ++ pl) sz = A at hD hEn hA ⊢
  have hS : va_S A s0.heap s0.heap [] := va_S.rf
  have hl : lv_has ls 9 [(0, .ref h0), (1, .int (nI 2)), (2, .ref ek), (3, .int (nI at_)), (4, .ref ms), (5, .ref ct)] := hl
  have hR : F_ME_encrypt_2 pek n at_ pms nm pct nc s = F_ME_encrypt_2 pek n at_ pms nm pct nc s := rfl
  have hF : frm (M_ME_encrypt_2 pct) s s := frm_rf
  refine va_gets hx hb (hEn.2.1 19 _ rfl).1 hS hown (hts _ (wg_t kw_1605)) (fun _ h9 => h9) dME_encrypt_0 ?_
  refine lv_iload_n hx hb dME_encrypt_3 rfl (lv_at hl 1 rfl) ?_
  refine va_ti (v := .int (nI 4)) hx hb (hEn.2.1 19 _ rfl).2 hS (vp_in_nI (by decide) (by decide)) (by decide +kernel) dME_encrypt_4 ?_
  refine lv_istore (lv' := [(6, .int (nI 4)), (0, .ref h0), (1, .int (nI 2)), (2, .ref ek), (3, .int (nI at_)), (4, .ref ms), (5, .ref ct)]) hx hb dME_encrypt_5 hl (by decide) rfl (fun ls hl => ?_)
  refine lv_aload_n hx hb dME_encrypt_7 rfl (lv_at hl 1 rfl) ?_
  refine lv_aload_n hx hb dME_encrypt_8 rfl (lv_at hl 3 rfl) ?_
  refine lv_iload_n hx hb dME_encrypt_9 rfl (lv_at hl 4 rfl) ?_
  refine lv_sipush (v := nI 384) hx hb dME_encrypt_10 (by decide) ?_
  refine lv_iload hx hb dME_encrypt_13 (lv_at hl 0 rfl) ?_
  refine mi_imul hx hb dME_encrypt_15 ?_
  refine mi_as (show nI (384 * 4) = nI 1536 from rfl) ?_
  refine mi_iadd hx hb dME_encrypt_16 ?_
  refine lv_iload hx hb dME_encrypt_17 (lv_at hl 0 rfl) ?_
  refine mp_v (cx := []) (wr := []) hP hD hS hA [] [] rfl rfl rfl (by decide) (va_runV (As := [.ref ek, .int (nI (at_ + 1536)), .int (nI 4)]) (rest := []) F (N_ME_expand_4 l g _ T s pl hO hU h0 ek pek n (at_ + 1536) k_h0 k_ek n_ek (by omega) (by omega) hE.1) (cwV 3 hts (wg_app (wg_c kw_1645 (wg_c kw_1647 (wg_c ks_54 (wg_c kw_11 wg_n)))) kw_1648) rfl rfl rfl (by decide +kernel) ⟨by decide, by decide⟩) (pn_W "LatticeKeysModel$Secrets" (en_ok g) (ci := 11) (kn := 184) (fl := [(3, 172), (3, 178), (3, 185), (3, 202), (3, 207), (3, 212), (3, 217), (3, 218), (3, 219), (3, 220), (3, 221), (3, 222), (3, 223), (3, 224)]) hK hO k_h0 rfl hP hD hS hA hEn [] rfl rfl rfl) rfl rfl hl.1 rfl (lv_room (Nat.le_of_ble_eq_true rfl)) dME_encrypt_19 ⟨by omega, by omega⟩) (fun  u21 H locs hu21 hP hD hS => ?_)
  obtain ⟨s21, pl⟩ := u21
  obtain ⟨⟨eq21, hFc21, -⟩, hO⟩ := hu21
  have hO : okn g T s21 pl := hO
  have hP : va_P g.1 vcl ([] ++ pl) _ := hP
  have hD : va_D _ ([] ++ pl) := hD
  have hFc21 : frm (M_ME_expand_4) s s21 := hFc21
  replace hE := hE.2
  replace hR := bnd_step hR eq21
  replace hE := bndP_step hE eq21
  have hF := frm_tr hF hFc21 (fun k hk => by unfold M_ME_expand_4 at hk; unfold M_ME_encrypt_2; omega)
  refine W.widen (k := 0) (n := 0) (by omega) (by omega) ?_
  refine lv_iconst (v := nI 0) hx hb dME_encrypt_22 (by decide) ?_
  refine lv_istore (lv' := [(7, .int (nI 0)), (6, .int (nI 4)), (0, .ref h0), (1, .int (nI 2)), (2, .ref ek), (3, .int (nI at_)), (4, .ref ms), (5, .ref ct)]) hx hb dME_encrypt_23 hl (by decide) rfl (fun ls hl => ?_)
  have lp21 : ∀ (n21 : Nat) (i21 : Nat) (s22 : Sto) (pl : va_W) (ls : Array Slot) (H : Heap) (locs : List Loc), n21 + i21 = 4 → frm (M_ME_encrypt_2 pct) s s22 → E_ME_encrypt_2_L0 pek n at_ pms nm pct nc n21 i21 s22 → F_ME_encrypt_2 pek n at_ pms nm pct nc s = F_ME_encrypt_2_L0 pek n at_ pms nm pct nc n21 i21 s22 → lv_has ls 9 [(7, .int (nI i21)), (6, .int (nI 4)), (0, .ref h0), (1, .int (nI 2)), (2, .ref ek), (3, .int (nI at_)), (4, .ref ms), (5, .ref ct)] → okn g T s22 pl → va_P g.1 vcl ([] ++ pl) H → va_D A ([] ++ pl) → va_S A s0.heap H locs → W p l e ({ frames := 5, cells := 0, slots := 0, locals := 118 } : Room) s0 m args below meth c H locs 0 0 (MQ below (va_Qv (fun (u : (Sto) × va_W) => (u.1 = F_ME_encrypt_2 pek n at_ pms nm pct nc s ∧ frm (M_ME_encrypt_2 pct) s u.1 ∧ True) ∧ okn g T u.1 u.2) (po g.1 vcl A (fun (u : (Sto) × va_W) => [] ++ u.2)) A) args s0 0 0 A) (F0 m 25 ls []) := by
    intro n21
    induction n21 with
    | zero =>
      intro i21 s22 pl ls H locs hm21 hF hE hR hl hO hP hD hS
      refine lv_iload hx hb dME_encrypt_25 (lv_at hl 0 rfl) ?_
      refine lv_iload hx hb dME_encrypt_27 (lv_at hl 1 rfl) ?_
      refine mi_ge (tgt := 127) hx hb dME_encrypt_29 (by decide) (by omega) (by omega) (fun h21 => ?_) (fun h21 => absurd h21 (by omega))
      refine lv_iconst (v := nI 0) hx hb dME_encrypt_127 (by decide) ?_
      refine lv_istore (lv' := [(7, .int (nI 0)), (6, .int (nI 4)), (0, .ref h0), (1, .int (nI 2)), (2, .ref ek), (3, .int (nI at_)), (4, .ref ms), (5, .ref ct)]) hx hb dME_encrypt_128 hl (by decide) rfl (fun ls hl => ?_)
      have lp22 : ∀ (n22 : Nat) (i22 : Nat) (s23 : Sto) (pl : va_W) (ls : Array Slot) (H : Heap) (locs : List Loc), n22 + i22 = 4 → frm (M_ME_encrypt_2 pct) s s23 → E_ME_encrypt_2_L1 pms nm pct nc n22 i22 s23 → F_ME_encrypt_2 pek n at_ pms nm pct nc s = F_ME_encrypt_2_L1 pms nm pct nc n22 i22 s23 → lv_has ls 9 [(7, .int (nI i22)), (6, .int (nI 4)), (0, .ref h0), (1, .int (nI 2)), (4, .ref ms), (5, .ref ct)] → okn g T s23 pl → va_P g.1 vcl ([] ++ pl) H → va_D A ([] ++ pl) → va_S A s0.heap H locs → W p l e ({ frames := 5, cells := 0, slots := 0, locals := 118 } : Room) s0 m args below meth c H locs 0 0 (MQ below (va_Qv (fun (u : (Sto) × va_W) => (u.1 = F_ME_encrypt_2 pek n at_ pms nm pct nc s ∧ frm (M_ME_encrypt_2 pct) s u.1 ∧ True) ∧ okn g T u.1 u.2) (po g.1 vcl A (fun (u : (Sto) × va_W) => [] ++ u.2)) A) args s0 0 0 A) (F0 m 130 ls []) := by
        intro n22
        induction n22 with
        | zero =>
          intro i22 s23 pl ls H locs hm22 hF hE hR hl hO hP hD hS
          refine lv_iload hx hb dME_encrypt_130 (lv_at hl 0 rfl) ?_
          refine lv_iload hx hb dME_encrypt_132 (lv_at hl 1 rfl) ?_
          refine mi_ge (tgt := 252) hx hb dME_encrypt_134 (by decide) (by omega) (by omega) (fun h22 => ?_) (fun h22 => absurd h22 (by omega))
          refine lv_aload_n hx hb dME_encrypt_252 rfl (lv_at hl 2 rfl) ?_
          refine nw_get (C := "LatticeKeysModel$Secrets") (TT := T_ME) (N := 14) hx hb hts (wg_ft i_ME) hown hK hO k_h0 (kn := 184) (ci := 11) (fl := [(3, 172), (3, 178), (3, 185), (3, 202), (3, 207), (3, 212), (3, 217), (3, 218), (3, 219), (3, 220), (3, 221), (3, 222), (3, 223), (3, 224)]) rfl hP rfl 6 (by decide) (hts _ (wg_t kw_1385)) (fun _ h9 => h9) (cd := (3, 217)) rfl dME_encrypt_253 (fun v21 hv21 => ?_)
          obtain ⟨r21, rfl, kr21⟩ := (show ∃ r : Nat, v21 = .ref r ∧ T r = some 217 from hv21)
          refine mp_v (cx := []) (wr := []) hP hD hS hA [] [] rfl rfl rfl (by decide) (va_runS (As := [.ref r21]) (rest := []) F (N_ME_clear l g _ T s23 pl hO hU r21 217 kr21 rfl) (va_cwS 1 hts (wg_app (wg_c kw_1819 (wg_c kw_1820 (wg_c kw_11 wg_n))) kw_1821) rfl rfl rfl (by decide +kernel) ⟨by decide, by decide⟩) (pp_S (en_ok g) hP hD hS hA hEn [] rfl rfl) rfl rfl hl.1 rfl (lv_room (Nat.le_of_ble_eq_true rfl)) dME_encrypt_256 ⟨by omega, by omega⟩) (fun  u22 H locs hu22 hP hD hS => ?_)
          obtain ⟨s24, pl⟩ := u22
          obtain ⟨⟨eq22, hFc22, -⟩, hO⟩ := hu22
          have hO : okn g T s24 pl := hO
          have hP : va_P g.1 vcl ([] ++ pl) _ := hP
          have hD : va_D _ ([] ++ pl) := hD
          have hFc22 : frm (M_ME_clear 217) s23 s24 := hFc22
          replace hR := bnd_step hR eq22
          replace hE := bndP_step hE eq22
          have hF := frm_tr hF hFc22 (fun k hk => by unfold M_ME_clear at hk; unfold M_ME_encrypt_2; omega)
          refine W.widen (k := 0) (n := 0) (by omega) (by omega) ?_
          refine lv_iconst (v := nI 0) hx hb dME_encrypt_259 (by decide) ?_
          refine lv_istore (lv' := [(7, .int (nI 0)), (6, .int (nI 4)), (0, .ref h0), (1, .int (nI 2)), (4, .ref ms), (5, .ref ct)]) hx hb dME_encrypt_260 hl (by decide) rfl (fun ls hl => ?_)
          have lp23 : ∀ (n23 : Nat) (i23 : Nat) (s25 : Sto) (pl : va_W) (ls : Array Slot) (H : Heap) (locs : List Loc), n23 + i23 = 4 → frm (M_ME_encrypt_2 pct) s s25 → E_ME_encrypt_2_L2 pms nm pct nc n23 i23 s25 → F_ME_encrypt_2 pek n at_ pms nm pct nc s = F_ME_encrypt_2_L2 pms nm pct nc n23 i23 s25 → lv_has ls 9 [(7, .int (nI i23)), (6, .int (nI 4)), (0, .ref h0), (1, .int (nI 2)), (4, .ref ms), (5, .ref ct)] → okn g T s25 pl → va_P g.1 vcl ([] ++ pl) H → va_D A ([] ++ pl) → va_S A s0.heap H locs → W p l e ({ frames := 5, cells := 0, slots := 0, locals := 118 } : Room) s0 m args below meth c H locs 0 0 (MQ below (va_Qv (fun (u : (Sto) × va_W) => (u.1 = F_ME_encrypt_2 pek n at_ pms nm pct nc s ∧ frm (M_ME_encrypt_2 pct) s u.1 ∧ True) ∧ okn g T u.1 u.2) (po g.1 vcl A (fun (u : (Sto) × va_W) => [] ++ u.2)) A) args s0 0 0 A) (F0 m 262 ls []) := by
            intro n23
            induction n23 with
            | zero =>
              intro i23 s25 pl ls H locs hm23 hF hE hR hl hO hP hD hS
              refine lv_iload hx hb dME_encrypt_262 (lv_at hl 0 rfl) ?_
              refine lv_iload hx hb dME_encrypt_264 (lv_at hl 1 rfl) ?_
              refine mi_ge (tgt := 297) hx hb dME_encrypt_266 (by decide) (by omega) (by omega) (fun h23 => ?_) (fun h23 => absurd h23 (by omega))
              refine lv_aload_n hx hb dME_encrypt_297 rfl (lv_at hl 2 rfl) ?_
              refine lv_aload_n hx hb dME_encrypt_298 rfl (lv_at hl 2 rfl) ?_
              refine nw_get (C := "LatticeKeysModel$Secrets") (TT := T_ME) (N := 14) hx hb hts (wg_ft i_ME) hown hK hO k_h0 (kn := 184) (ci := 11) (fl := [(3, 172), (3, 178), (3, 185), (3, 202), (3, 207), (3, 212), (3, 217), (3, 218), (3, 219), (3, 220), (3, 221), (3, 222), (3, 223), (3, 224)]) rfl hP rfl 6 (by decide) (hts _ (wg_t kw_1385)) (fun _ h9 => h9) (cd := (3, 217)) rfl dME_encrypt_299 (fun v22 hv22 => ?_)
              obtain ⟨r22, rfl, kr22⟩ := (show ∃ r : Nat, v22 = .ref r ∧ T r = some 217 from hv22)
              refine mp_v (cx := []) (wr := []) hP hD hS hA [] [] rfl rfl rfl (by decide) (va_runV (As := [.ref r22]) (rest := []) F (N_ME_back l g _ T s25 pl hO hU h0 r22 217 k_h0 kr22 rfl) (cwV 1 hts (wg_app (wg_c kw_1822 (wg_c kw_1824 (wg_c ks_69 (wg_c kw_11 wg_n)))) kw_1825) rfl rfl rfl (by decide +kernel) ⟨by decide, by decide⟩) (pn_W "LatticeKeysModel$Secrets" (en_ok g) (ci := 11) (kn := 184) (fl := [(3, 172), (3, 178), (3, 185), (3, 202), (3, 207), (3, 212), (3, 217), (3, 218), (3, 219), (3, 220), (3, 221), (3, 222), (3, 223), (3, 224)]) hK hO k_h0 rfl hP hD hS hA hEn [] rfl rfl rfl) rfl rfl hl.1 rfl (lv_room (Nat.le_of_ble_eq_true rfl)) dME_encrypt_302 ⟨by omega, by omega⟩) (fun  u23 H locs hu23 hP hD hS => ?_)
              obtain ⟨s26, pl⟩ := u23
              obtain ⟨⟨eq23, hFc23, -⟩, hO⟩ := hu23
              have hO : okn g T s26 pl := hO
              have hP : va_P g.1 vcl ([] ++ pl) _ := hP
              have hD : va_D _ ([] ++ pl) := hD
              have hFc23 : frm (M_ME_back 217) s25 s26 := hFc23
              replace hR := bnd_step hR eq23
              replace hE := bndP_step hE eq23
              have hF := frm_tr hF hFc23 (fun k hk => by unfold M_ME_back at hk; unfold M_ME_encrypt_2; omega)
              refine W.widen (k := 0) (n := 0) (by omega) (by omega) ?_
              refine lv_aload_n hx hb dME_encrypt_305 rfl (lv_at hl 2 rfl) ?_
              refine lv_aload_n hx hb dME_encrypt_306 rfl (lv_at hl 2 rfl) ?_
              refine nw_get (C := "LatticeKeysModel$Secrets") (TT := T_ME) (N := 14) hx hb hts (wg_ft i_ME) hown hK hO k_h0 (kn := 184) (ci := 11) (fl := [(3, 172), (3, 178), (3, 185), (3, 202), (3, 207), (3, 212), (3, 217), (3, 218), (3, 219), (3, 220), (3, 221), (3, 222), (3, 223), (3, 224)]) rfl hP rfl 7 (by decide) (hts _ (wg_t kw_1386)) (fun _ h9 => h9) (cd := (3, 218)) rfl dME_encrypt_307 (fun v23 hv23 => ?_)
              obtain ⟨r23, rfl, kr23⟩ := (show ∃ r : Nat, v23 = .ref r ∧ T r = some 218 from hv23)
              refine lv_aload_n hx hb dME_encrypt_310 rfl (lv_at hl 2 rfl) ?_
              refine nw_get (C := "LatticeKeysModel$Secrets") (TT := T_ME) (N := 14) hx hb hts (wg_ft i_ME) hown hK hO k_h0 (kn := 184) (ci := 11) (fl := [(3, 172), (3, 178), (3, 185), (3, 202), (3, 207), (3, 212), (3, 217), (3, 218), (3, 219), (3, 220), (3, 221), (3, 222), (3, 223), (3, 224)]) rfl hP rfl 9 (by decide) (hts _ (wg_t kw_1388)) (fun _ h9 => h9) (cd := (3, 220)) rfl dME_encrypt_311 (fun v24 hv24 => ?_)
              obtain ⟨r24, rfl, kr24⟩ := (show ∃ r : Nat, v24 = .ref r ∧ T r = some 220 from hv24)
              refine lv_bipush (v := nI 32) hx hb dME_encrypt_314 (by decide) ?_
              refine lv_iconst (v := nI 2) hx hb dME_encrypt_316 (by decide) ?_
              refine lv_iload hx hb dME_encrypt_317 (lv_at hl 1 rfl) ?_
              refine mi_imul hx hb dME_encrypt_319 ?_
              refine mi_as (show nI (2 * 4) = nI 8 from rfl) ?_
              refine lv_iconst (v := nI 2) hx hb dME_encrypt_320 (by decide) ?_
              refine mp_v (cx := []) (wr := []) hP hD hS hA [] [] rfl rfl rfl (by decide) (va_runV (As := [.ref r23, .ref r24, .int (nI 32), .int (nI 8), .int (nI 2)]) (rest := []) F (N_ME_noise_2 l g _ T s26 pl hO hU h0 r23 r24 218 220 64 32 (nI 8) k_h0 kr23 rfl kr24 rfl (by omega) (by omega)) (cwV 5 hts (wg_app (wg_c kw_1656 (wg_c kw_1658 (wg_c ks_56 (wg_c kw_11 wg_n)))) kw_1659) rfl rfl rfl (by decide +kernel) ⟨by decide, by decide⟩) (pn_W "LatticeKeysModel$Secrets" (en_ok g) (ci := 11) (kn := 184) (fl := [(3, 172), (3, 178), (3, 185), (3, 202), (3, 207), (3, 212), (3, 217), (3, 218), (3, 219), (3, 220), (3, 221), (3, 222), (3, 223), (3, 224)]) hK hO k_h0 rfl hP hD hS hA hEn [] rfl rfl rfl) rfl rfl hl.1 rfl (lv_room (Nat.le_of_ble_eq_true rfl)) dME_encrypt_321 ⟨by omega, by omega⟩) (fun  u24 H locs hu24 hP hD hS => ?_)
              obtain ⟨s27, pl⟩ := u24
              obtain ⟨⟨eq24, hFc24, -⟩, hO⟩ := hu24
              have hO : okn g T s27 pl := hO
              have hP : va_P g.1 vcl ([] ++ pl) _ := hP
              have hD : va_D _ ([] ++ pl) := hD
              have hFc24 : frm (M_ME_noise_2 218) s26 s27 := hFc24
              replace hR := bnd_step hR eq24
              replace hE := bndP_step hE eq24
              have hF := frm_tr hF hFc24 (fun k hk => by unfold M_ME_noise_2 at hk; unfold M_ME_encrypt_2; omega)
              refine W.widen (k := 0) (n := 0) (by omega) (by omega) ?_
              refine lv_aload_n hx hb dME_encrypt_324 rfl (lv_at hl 2 rfl) ?_
              refine nw_get (C := "LatticeKeysModel$Secrets") (TT := T_ME) (N := 14) hx hb hts (wg_ft i_ME) hown hK hO k_h0 (kn := 184) (ci := 11) (fl := [(3, 172), (3, 178), (3, 185), (3, 202), (3, 207), (3, 212), (3, 217), (3, 218), (3, 219), (3, 220), (3, 221), (3, 222), (3, 223), (3, 224)]) rfl hP rfl 6 (by decide) (hts _ (wg_t kw_1385)) (fun _ h9 => h9) (cd := (3, 217)) rfl dME_encrypt_325 (fun v25 hv25 => ?_)
              obtain ⟨r25, rfl, kr25⟩ := (show ∃ r : Nat, v25 = .ref r ∧ T r = some 217 from hv25)
              refine lv_aload_n hx hb dME_encrypt_328 rfl (lv_at hl 2 rfl) ?_
              refine nw_get (C := "LatticeKeysModel$Secrets") (TT := T_ME) (N := 14) hx hb hts (wg_ft i_ME) hown hK hO k_h0 (kn := 184) (ci := 11) (fl := [(3, 172), (3, 178), (3, 185), (3, 202), (3, 207), (3, 212), (3, 217), (3, 218), (3, 219), (3, 220), (3, 221), (3, 222), (3, 223), (3, 224)]) rfl hP rfl 7 (by decide) (hts _ (wg_t kw_1386)) (fun _ h9 => h9) (cd := (3, 218)) rfl dME_encrypt_329 (fun v26 hv26 => ?_)
              obtain ⟨r26, rfl, kr26⟩ := (show ∃ r : Nat, v26 = .ref r ∧ T r = some 218 from hv26)
              refine mp_v (cx := []) (wr := []) hP hD hS hA [] [] rfl rfl rfl (by decide) (va_runS (As := [.ref r25, .ref r26]) (rest := []) F (N_ME_plus l g _ T s27 pl hO hU r25 r26 217 218 kr25 rfl kr26 rfl) (va_cwS 2 hts (wg_app (wg_c kw_1827 (wg_c kw_1828 (wg_c kw_11 wg_n))) kw_1829) rfl rfl rfl (by decide +kernel) ⟨by decide, by decide⟩) (pp_S (en_ok g) hP hD hS hA hEn [] rfl rfl) rfl rfl hl.1 rfl (lv_room (Nat.le_of_ble_eq_true rfl)) dME_encrypt_332 ⟨by omega, by omega⟩) (fun  u25 H locs hu25 hP hD hS => ?_)
              obtain ⟨s28, pl⟩ := u25
              obtain ⟨⟨eq25, hFc25, -⟩, hO⟩ := hu25
              have hO : okn g T s28 pl := hO
              have hP : va_P g.1 vcl ([] ++ pl) _ := hP
              have hD : va_D _ ([] ++ pl) := hD
              have hFc25 : frm (M_ME_plus 217) s27 s28 := hFc25
              replace hR := bnd_step hR eq25
              replace hE := bndP_step hE eq25
              have hF := frm_tr hF hFc25 (fun k hk => by unfold M_ME_plus at hk; unfold M_ME_encrypt_2; omega)
              refine W.widen (k := 0) (n := 0) (by omega) (by omega) ?_
              refine lv_aload hx hb dME_encrypt_335 (lv_at hl 4 rfl) ?_
              refine lv_iconst (v := nI 0) hx hb dME_encrypt_337 (by decide) ?_
              refine lv_iconst (v := nI 1) hx hb dME_encrypt_338 (by decide) ?_
              refine lv_aload_n hx hb dME_encrypt_339 rfl (lv_at hl 2 rfl) ?_
              refine nw_get (C := "LatticeKeysModel$Secrets") (TT := T_ME) (N := 14) hx hb hts (wg_ft i_ME) hown hK hO k_h0 (kn := 184) (ci := 11) (fl := [(3, 172), (3, 178), (3, 185), (3, 202), (3, 207), (3, 212), (3, 217), (3, 218), (3, 219), (3, 220), (3, 221), (3, 222), (3, 223), (3, 224)]) rfl hP rfl 7 (by decide) (hts _ (wg_t kw_1386)) (fun _ h9 => h9) (cd := (3, 218)) rfl dME_encrypt_340 (fun v27 hv27 => ?_)
              obtain ⟨r27, rfl, kr27⟩ := (show ∃ r : Nat, v27 = .ref r ∧ T r = some 218 from hv27)
              refine mp_v (cx := []) (wr := []) hP hD hS hA [] [] rfl rfl rfl (by decide) (va_runS (As := [.ref ms, .int (nI 0), .int (nI 1), .ref r27]) (rest := []) F (N_ME_read_1 l g _ T s28 pl hO hU ms r27 pms nm 0 218 k_ms n_ms kr27 rfl (by omega) (by omega)) (va_cwS 4 hts (wg_app (wg_c kw_1813 (wg_c kw_1814 (wg_c kw_11 wg_n))) kw_1815) rfl rfl rfl (by decide +kernel) ⟨by decide, by decide⟩) (pp_S (en_ok g) hP hD hS hA hEn [] rfl rfl) rfl rfl hl.1 rfl (lv_room (Nat.le_of_ble_eq_true rfl)) dME_encrypt_343 ⟨by omega, by omega⟩) (fun  u26 H locs hu26 hP hD hS => ?_)
              obtain ⟨s29, pl⟩ := u26
              obtain ⟨⟨eq26, hFc26, -⟩, hO⟩ := hu26
              have hO : okn g T s29 pl := hO
              have hP : va_P g.1 vcl ([] ++ pl) _ := hP
              have hD : va_D _ ([] ++ pl) := hD
              have hFc26 : frm (M_ME_read_1 218) s28 s29 := hFc26
              replace hR := bnd_step hR eq26
              replace hE := bndP_step hE eq26
              have hF := frm_tr hF hFc26 (fun k hk => by unfold M_ME_read_1 at hk; unfold M_ME_encrypt_2; omega)
              refine W.widen (k := 0) (n := 0) (by omega) (by omega) ?_
              refine lv_aload_n hx hb dME_encrypt_346 rfl (lv_at hl 2 rfl) ?_
              refine nw_get (C := "LatticeKeysModel$Secrets") (TT := T_ME) (N := 14) hx hb hts (wg_ft i_ME) hown hK hO k_h0 (kn := 184) (ci := 11) (fl := [(3, 172), (3, 178), (3, 185), (3, 202), (3, 207), (3, 212), (3, 217), (3, 218), (3, 219), (3, 220), (3, 221), (3, 222), (3, 223), (3, 224)]) rfl hP rfl 7 (by decide) (hts _ (wg_t kw_1386)) (fun _ h9 => h9) (cd := (3, 218)) rfl dME_encrypt_347 (fun v28 hv28 => ?_)
              obtain ⟨r28, rfl, kr28⟩ := (show ∃ r : Nat, v28 = .ref r ∧ T r = some 218 from hv28)
              refine lv_iconst (v := nI 1) hx hb dME_encrypt_350 (by decide) ?_
              refine mp_v (cx := []) (wr := []) hP hD hS hA [] [] rfl rfl rfl (by decide) (va_runS (As := [.ref r28, .int (nI 1)]) (rest := []) F (N_ME_more_1 l g _ T s29 pl hO hU r28 218 kr28 rfl) (va_cwS 2 hts (wg_app (wg_c kw_1835 (wg_c kw_1836 (wg_c kw_11 wg_n))) kw_1837) rfl rfl rfl (by decide +kernel) ⟨by decide, by decide⟩) (pp_S (en_ok g) hP hD hS hA hEn [] rfl rfl) rfl rfl hl.1 rfl (lv_room (Nat.le_of_ble_eq_true rfl)) dME_encrypt_351 ⟨by omega, by omega⟩) (fun  u27 H locs hu27 hP hD hS => ?_)
              obtain ⟨s30, pl⟩ := u27
              obtain ⟨⟨eq27, hFc27, -⟩, hO⟩ := hu27
              have hO : okn g T s30 pl := hO
              have hP : va_P g.1 vcl ([] ++ pl) _ := hP
              have hD : va_D _ ([] ++ pl) := hD
              have hFc27 : frm (M_ME_more_1 218) s29 s30 := hFc27
              replace hR := bnd_step hR eq27
              replace hE := bndP_step hE eq27
              have hF := frm_tr hF hFc27 (fun k hk => by unfold M_ME_more_1 at hk; unfold M_ME_encrypt_2; omega)
              refine W.widen (k := 0) (n := 0) (by omega) (by omega) ?_
              refine lv_aload_n hx hb dME_encrypt_354 rfl (lv_at hl 2 rfl) ?_
              refine nw_get (C := "LatticeKeysModel$Secrets") (TT := T_ME) (N := 14) hx hb hts (wg_ft i_ME) hown hK hO k_h0 (kn := 184) (ci := 11) (fl := [(3, 172), (3, 178), (3, 185), (3, 202), (3, 207), (3, 212), (3, 217), (3, 218), (3, 219), (3, 220), (3, 221), (3, 222), (3, 223), (3, 224)]) rfl hP rfl 6 (by decide) (hts _ (wg_t kw_1385)) (fun _ h9 => h9) (cd := (3, 217)) rfl dME_encrypt_355 (fun v29 hv29 => ?_)
              obtain ⟨r29, rfl, kr29⟩ := (show ∃ r : Nat, v29 = .ref r ∧ T r = some 217 from hv29)
              refine lv_aload_n hx hb dME_encrypt_358 rfl (lv_at hl 2 rfl) ?_
              refine nw_get (C := "LatticeKeysModel$Secrets") (TT := T_ME) (N := 14) hx hb hts (wg_ft i_ME) hown hK hO k_h0 (kn := 184) (ci := 11) (fl := [(3, 172), (3, 178), (3, 185), (3, 202), (3, 207), (3, 212), (3, 217), (3, 218), (3, 219), (3, 220), (3, 221), (3, 222), (3, 223), (3, 224)]) rfl hP rfl 7 (by decide) (hts _ (wg_t kw_1386)) (fun _ h9 => h9) (cd := (3, 218)) rfl dME_encrypt_359 (fun v30 hv30 => ?_)
              obtain ⟨r30, rfl, kr30⟩ := (show ∃ r : Nat, v30 = .ref r ∧ T r = some 218 from hv30)
              refine mp_v (cx := []) (wr := []) hP hD hS hA [] [] rfl rfl rfl (by decide) (va_runS (As := [.ref r29, .ref r30]) (rest := []) F (N_ME_plus l g _ T s30 pl hO hU r29 r30 217 218 kr29 rfl kr30 rfl) (va_cwS 2 hts (wg_app (wg_c kw_1827 (wg_c kw_1828 (wg_c kw_11 wg_n))) kw_1829) rfl rfl rfl (by decide +kernel) ⟨by decide, by decide⟩) (pp_S (en_ok g) hP hD hS hA hEn [] rfl rfl) rfl rfl hl.1 rfl (lv_room (Nat.le_of_ble_eq_true rfl)) dME_encrypt_362 ⟨by omega, by omega⟩) (fun  u28 H locs hu28 hP hD hS => ?_)
              obtain ⟨s31, pl⟩ := u28
              obtain ⟨⟨eq28, hFc28, -⟩, hO⟩ := hu28
              have hO : okn g T s31 pl := hO
              have hP : va_P g.1 vcl ([] ++ pl) _ := hP
              have hD : va_D _ ([] ++ pl) := hD
              have hFc28 : frm (M_ME_plus 217) s30 s31 := hFc28
              replace hR := bnd_step hR eq28
              replace hE := bndP_step hE eq28
              have hF := frm_tr hF hFc28 (fun k hk => by unfold M_ME_plus at hk; unfold M_ME_encrypt_2; omega)
              refine W.widen (k := 0) (n := 0) (by omega) (by omega) ?_
              refine lv_aload_n hx hb dME_encrypt_365 rfl (lv_at hl 2 rfl) ?_
              refine nw_get (C := "LatticeKeysModel$Secrets") (TT := T_ME) (N := 14) hx hb hts (wg_ft i_ME) hown hK hO k_h0 (kn := 184) (ci := 11) (fl := [(3, 172), (3, 178), (3, 185), (3, 202), (3, 207), (3, 212), (3, 217), (3, 218), (3, 219), (3, 220), (3, 221), (3, 222), (3, 223), (3, 224)]) rfl hP rfl 6 (by decide) (hts _ (wg_t kw_1385)) (fun _ h9 => h9) (cd := (3, 217)) rfl dME_encrypt_366 (fun v31 hv31 => ?_)
              obtain ⟨r31, rfl, kr31⟩ := (show ∃ r : Nat, v31 = .ref r ∧ T r = some 217 from hv31)
              refine va_gets hx hb (hEn.2.1 22 _ rfl).1 hS hown (hts _ (wg_t kw_1838)) (fun _ h9 => h9) dME_encrypt_369 ?_
              refine lv_iload_n hx hb dME_encrypt_372 rfl (lv_at hl 3 rfl) ?_
              refine va_ti (v := .int (nI 5)) hx hb (hEn.2.1 22 _ rfl).2 hS (vp_in_nI (by decide) (by decide)) (by decide +kernel) dME_encrypt_373 ?_
              refine mp_v (cx := []) (wr := []) hP hD hS hA [] [] rfl rfl rfl (by decide) (va_runS (As := [.ref r31, .int (nI 5)]) (rest := []) F (N_ME_less_5 l g _ T s31 pl hO hU r31 217 kr31 rfl) (va_cwS 2 hts (wg_app (wg_c kw_1832 (wg_c kw_1833 (wg_c kw_11 wg_n))) kw_1834) rfl rfl rfl (by decide +kernel) ⟨by decide, by decide⟩) (pp_S (en_ok g) hP hD hS hA hEn [] rfl rfl) rfl rfl hl.1 rfl (lv_room (Nat.le_of_ble_eq_true rfl)) dME_encrypt_374 ⟨by omega, by omega⟩) (fun  u29 H locs hu29 hP hD hS => ?_)
              obtain ⟨s32, pl⟩ := u29
              obtain ⟨⟨eq29, hFc29, -⟩, hO⟩ := hu29
              have hO : okn g T s32 pl := hO
              have hP : va_P g.1 vcl ([] ++ pl) _ := hP
              have hD : va_D _ ([] ++ pl) := hD
              have hFc29 : frm (M_ME_less_5 217) s31 s32 := hFc29
              replace hR := bnd_step hR eq29
              replace hE := bndP_step hE eq29
              have hF := frm_tr hF hFc29 (fun k hk => by unfold M_ME_less_5 at hk; unfold M_ME_encrypt_2; omega)
              refine W.widen (k := 0) (n := 0) (by omega) (by omega) ?_
              refine lv_aload_n hx hb dME_encrypt_377 rfl (lv_at hl 2 rfl) ?_
              refine nw_get (C := "LatticeKeysModel$Secrets") (TT := T_ME) (N := 14) hx hb hts (wg_ft i_ME) hown hK hO k_h0 (kn := 184) (ci := 11) (fl := [(3, 172), (3, 178), (3, 185), (3, 202), (3, 207), (3, 212), (3, 217), (3, 218), (3, 219), (3, 220), (3, 221), (3, 222), (3, 223), (3, 224)]) rfl hP rfl 6 (by decide) (hts _ (wg_t kw_1385)) (fun _ h9 => h9) (cd := (3, 217)) rfl dME_encrypt_378 (fun v32 hv32 => ?_)
              obtain ⟨r32, rfl, kr32⟩ := (show ∃ r : Nat, v32 = .ref r ∧ T r = some 217 from hv32)
              refine lv_aload hx hb dME_encrypt_381 (lv_at hl 5 rfl) ?_
              refine lv_bipush (v := nI 32) hx hb dME_encrypt_383 (by decide) ?_
              refine va_gets hx hb (hEn.2.1 21 _ rfl).1 hS hown (hts _ (wg_t kw_1830)) (fun _ h9 => h9) dME_encrypt_385 ?_
              refine lv_iload_n hx hb dME_encrypt_388 rfl (lv_at hl 3 rfl) ?_
              refine va_ti (v := .int (nI 11)) hx hb (hEn.2.1 21 _ rfl).2 hS (vp_in_nI (by decide) (by decide)) (by decide +kernel) dME_encrypt_389 ?_
              refine mi_imul hx hb dME_encrypt_390 ?_
              refine mi_as (show nI (32 * 11) = nI 352 from rfl) ?_
              refine lv_iload hx hb dME_encrypt_391 (lv_at hl 1 rfl) ?_
              refine mi_imul hx hb dME_encrypt_393 ?_
              refine mi_as (show nI (352 * 4) = nI 1408 from rfl) ?_
              refine va_gets hx hb (hEn.2.1 22 _ rfl).1 hS hown (hts _ (wg_t kw_1838)) (fun _ h9 => h9) dME_encrypt_394 ?_
              refine lv_iload_n hx hb dME_encrypt_397 rfl (lv_at hl 3 rfl) ?_
              refine va_ti (v := .int (nI 5)) hx hb (hEn.2.1 22 _ rfl).2 hS (vp_in_nI (by decide) (by decide)) (by decide +kernel) dME_encrypt_398 ?_
              refine mp_v (cx := []) (wr := []) hP hD hS hA [] [] rfl rfl rfl (by decide) (va_runS (As := [.ref r32, .ref ct, .int (nI 1408), .int (nI 5)]) (rest := []) F (N_ME_write_5 l g _ T s32 pl hO hU r32 ct 217 pct nc 1408 kr32 rfl k_ct n_ct (by omega) (by omega)) (va_cwS 4 hts (wg_app (wg_c kw_1685 (wg_c kw_1686 (wg_c kw_11 wg_n))) kw_1687) rfl rfl rfl (by decide +kernel) ⟨by decide, by decide⟩) (pp_S (en_ok g) hP hD hS hA hEn [] rfl rfl) rfl rfl hl.1 rfl (lv_room (Nat.le_of_ble_eq_true rfl)) dME_encrypt_399 ⟨by omega, by omega⟩) (fun  u30 H locs hu30 hP hD hS => ?_)
              obtain ⟨s33, pl⟩ := u30
              obtain ⟨⟨eq30, hFc30, -⟩, hO⟩ := hu30
              have hO : okn g T s33 pl := hO
              have hP : va_P g.1 vcl ([] ++ pl) _ := hP
              have hD : va_D _ ([] ++ pl) := hD
              have hFc30 : frm (M_ME_write_5 pct) s32 s33 := hFc30
              replace hR := bnd_step hR eq30
              replace hE := bndP_step hE eq30
              have hF := frm_tr hF hFc30 (fun k hk => by unfold M_ME_write_5 at hk; unfold M_ME_encrypt_2; omega)
              refine W.widen (k := 0) (n := 0) (by omega) (by omega) ?_
              exact mp_vret hx hb hr hlk hP hD hS (s33, pl) ⟨⟨hR.symm, hF, trivial⟩, hO⟩ [] rfl rfl rfl (by omega) (by omega) dME_encrypt_402
            | succ n23 ih23 =>
              intro i23 s25 pl ls H locs hm23 hF hE hR hl hO hP hD hS
              refine lv_iload hx hb dME_encrypt_262 (lv_at hl 0 rfl) ?_
              refine lv_iload hx hb dME_encrypt_264 (lv_at hl 1 rfl) ?_
              refine mi_ge (tgt := 297) hx hb dME_encrypt_266 (by decide) (by omega) (by omega) (fun h24 => absurd h24 (by omega)) (fun h24 => ?_)
              refine lv_aload_n hx hb dME_encrypt_269 rfl (lv_at hl 2 rfl) ?_
              refine lv_aload_n hx hb dME_encrypt_270 rfl (lv_at hl 2 rfl) ?_
              refine nw_get (C := "LatticeKeysModel$Secrets") (TT := T_ME) (N := 14) hx hb hts (wg_ft i_ME) hown hK hO k_h0 (kn := 184) (ci := 11) (fl := [(3, 172), (3, 178), (3, 185), (3, 202), (3, 207), (3, 212), (3, 217), (3, 218), (3, 219), (3, 220), (3, 221), (3, 222), (3, 223), (3, 224)]) rfl hP rfl 5 (by decide) (hts _ (wg_t kw_1384)) (fun _ h9 => h9) (cd := (3, 212)) rfl dME_encrypt_271 (fun v33 hv33 => ?_)
              obtain ⟨r33, rfl, kr33⟩ := (show ∃ r : Nat, v33 = .ref r ∧ T r = some 212 from hv33)
              refine lv_iload hx hb dME_encrypt_274 (lv_at hl 0 rfl) ?_
              refine nw_aald3 hx hb hK hO kr33 (k := 212) (b := 213) rfl hP (by omega) (by omega) dME_encrypt_276 (fun r34 kr34 => ?_)
              have hn21 : nsp (213 + i23) = (0, 256, []) := rows_ok 213 4 (by decide) _ (by omega)
              refine lv_aload_n hx hb dME_encrypt_277 rfl (lv_at hl 2 rfl) ?_
              refine nw_get (C := "LatticeKeysModel$Secrets") (TT := T_ME) (N := 14) hx hb hts (wg_ft i_ME) hown hK hO k_h0 (kn := 184) (ci := 11) (fl := [(3, 172), (3, 178), (3, 185), (3, 202), (3, 207), (3, 212), (3, 217), (3, 218), (3, 219), (3, 220), (3, 221), (3, 222), (3, 223), (3, 224)]) rfl hP rfl 3 (by decide) (hts _ (wg_t kw_1382)) (fun _ h9 => h9) (cd := (3, 202)) rfl dME_encrypt_278 (fun v34 hv34 => ?_)
              obtain ⟨r35, rfl, kr35⟩ := (show ∃ r : Nat, v34 = .ref r ∧ T r = some 202 from hv34)
              refine lv_iload hx hb dME_encrypt_281 (lv_at hl 0 rfl) ?_
              refine nw_aald3 hx hb hK hO kr35 (k := 202) (b := 203) rfl hP (by omega) (by omega) dME_encrypt_283 (fun r36 kr36 => ?_)
              have hn22 : nsp (203 + i23) = (0, 256, []) := rows_ok 203 4 (by decide) _ (by omega)
              refine lv_aload_n hx hb dME_encrypt_284 rfl (lv_at hl 2 rfl) ?_
              refine nw_get (C := "LatticeKeysModel$Secrets") (TT := T_ME) (N := 14) hx hb hts (wg_ft i_ME) hown hK hO k_h0 (kn := 184) (ci := 11) (fl := [(3, 172), (3, 178), (3, 185), (3, 202), (3, 207), (3, 212), (3, 217), (3, 218), (3, 219), (3, 220), (3, 221), (3, 222), (3, 223), (3, 224)]) rfl hP rfl 6 (by decide) (hts _ (wg_t kw_1385)) (fun _ h9 => h9) (cd := (3, 217)) rfl dME_encrypt_285 (fun v35 hv35 => ?_)
              obtain ⟨r37, rfl, kr37⟩ := (show ∃ r : Nat, v35 = .ref r ∧ T r = some 217 from hv35)
              refine mp_v (cx := []) (wr := []) hP hD hS hA [] [] rfl rfl rfl (by decide) (va_runV (As := [.ref r34, .ref r36, .ref r37]) (rest := []) F (N_ME_product l g _ T s25 pl hO hU h0 r34 r36 r37 (213 + i23) (203 + i23) 217 k_h0 kr34 hn21 kr36 hn22 kr37 rfl) (cwV 3 hts (wg_app (wg_c kw_1676 (wg_c kw_1678 (wg_c ks_58 (wg_c kw_11 wg_n)))) kw_1679) rfl rfl rfl (by decide +kernel) ⟨by decide, by decide⟩) (pn_W "LatticeKeysModel$Secrets" (en_ok g) (ci := 11) (kn := 184) (fl := [(3, 172), (3, 178), (3, 185), (3, 202), (3, 207), (3, 212), (3, 217), (3, 218), (3, 219), (3, 220), (3, 221), (3, 222), (3, 223), (3, 224)]) hK hO k_h0 rfl hP hD hS hA hEn [] rfl rfl rfl) rfl rfl hl.1 rfl (lv_room (Nat.le_of_ble_eq_true rfl)) dME_encrypt_288 ⟨by omega, by omega⟩) (fun  u31 H locs hu31 hP hD hS => ?_)
              obtain ⟨s34, pl⟩ := u31
              obtain ⟨⟨eq31, hFc31, -⟩, hO⟩ := hu31
              have hO : okn g T s34 pl := hO
              have hP : va_P g.1 vcl ([] ++ pl) _ := hP
              have hD : va_D _ ([] ++ pl) := hD
              have hFc31 : frm (M_ME_product 217) s25 s34 := hFc31
              replace hR := bnd_step hR eq31
              replace hE := bndP_step hE eq31
              have hF := frm_tr hF hFc31 (fun k hk => by unfold M_ME_product at hk; unfold M_ME_encrypt_2; omega)
              refine W.widen (k := 0) (n := 0) (by omega) (by omega) ?_
              refine mi_iinc (k := 0) (x := i23) (d := 1) (y := i23 + 1) (lv' := [(7, .int (nI (i23 + 1))), (6, .int (nI 4)), (0, .ref h0), (1, .int (nI 2)), (4, .ref ms), (5, .ref ct)]) hx hb dME_encrypt_291 hl rfl (by decide) rfl (by decide) rfl (fun ls hl => ?_)
              refine lv_goto (tgt := 262) hx hb dME_encrypt_294 (by decide) ?_
              exact ih23 (i23 + 1) s34 pl ls H locs (by omega) hF hE hR (lv_sub hl [0, 1, 2, 3, 4, 5] rfl) hO hP hD hS
          exact lp23 4 0 s24 pl ls _ _ (by omega) hF hE hR (lv_sub hl [0, 1, 2, 3, 4, 5] rfl) hO hP hD hS
        | succ n22 ih22 =>
          intro i22 s23 pl ls H locs hm22 hF hE hR hl hO hP hD hS
          refine lv_iload hx hb dME_encrypt_130 (lv_at hl 0 rfl) ?_
          refine lv_iload hx hb dME_encrypt_132 (lv_at hl 1 rfl) ?_
          refine mi_ge (tgt := 252) hx hb dME_encrypt_134 (by decide) (by omega) (by omega) (fun h25 => absurd h25 (by omega)) (fun h25 => ?_)
          refine lv_aload_n hx hb dME_encrypt_137 rfl (lv_at hl 2 rfl) ?_
          refine nw_get (C := "LatticeKeysModel$Secrets") (TT := T_ME) (N := 14) hx hb hts (wg_ft i_ME) hown hK hO k_h0 (kn := 184) (ci := 11) (fl := [(3, 172), (3, 178), (3, 185), (3, 202), (3, 207), (3, 212), (3, 217), (3, 218), (3, 219), (3, 220), (3, 221), (3, 222), (3, 223), (3, 224)]) rfl hP rfl 6 (by decide) (hts _ (wg_t kw_1385)) (fun _ h9 => h9) (cd := (3, 217)) rfl dME_encrypt_138 (fun v36 hv36 => ?_)
          obtain ⟨r38, rfl, kr38⟩ := (show ∃ r : Nat, v36 = .ref r ∧ T r = some 217 from hv36)
          refine mp_v (cx := []) (wr := []) hP hD hS hA [] [] rfl rfl rfl (by decide) (va_runS (As := [.ref r38]) (rest := []) F (N_ME_clear l g _ T s23 pl hO hU r38 217 kr38 rfl) (va_cwS 1 hts (wg_app (wg_c kw_1819 (wg_c kw_1820 (wg_c kw_11 wg_n))) kw_1821) rfl rfl rfl (by decide +kernel) ⟨by decide, by decide⟩) (pp_S (en_ok g) hP hD hS hA hEn [] rfl rfl) rfl rfl hl.1 rfl (lv_room (Nat.le_of_ble_eq_true rfl)) dME_encrypt_141 ⟨by omega, by omega⟩) (fun  u32 H locs hu32 hP hD hS => ?_)
          obtain ⟨s35, pl⟩ := u32
          obtain ⟨⟨eq32, hFc32, -⟩, hO⟩ := hu32
          have hO : okn g T s35 pl := hO
          have hP : va_P g.1 vcl ([] ++ pl) _ := hP
          have hD : va_D _ ([] ++ pl) := hD
          have hFc32 : frm (M_ME_clear 217) s23 s35 := hFc32
          replace hR := bnd_step hR eq32
          replace hE := bndP_step hE eq32
          have hF := frm_tr hF hFc32 (fun k hk => by unfold M_ME_clear at hk; unfold M_ME_encrypt_2; omega)
          refine W.widen (k := 0) (n := 0) (by omega) (by omega) ?_
          refine lv_iconst (v := nI 0) hx hb dME_encrypt_144 (by decide) ?_
          refine lv_istore (lv' := [(8, .int (nI 0)), (7, .int (nI i22)), (6, .int (nI 4)), (0, .ref h0), (1, .int (nI 2)), (4, .ref ms), (5, .ref ct)]) hx hb dME_encrypt_145 hl (by decide) rfl (fun ls hl => ?_)
          have lp24 : ∀ (n24 : Nat) (i24 : Nat) (s36 : Sto) (pl : va_W) (ls : Array Slot) (H : Heap) (locs : List Loc), n24 + i24 = 4 → frm (M_ME_encrypt_2 pct) s s36 → E_ME_encrypt_2_L3 pct nc i22 (E_ME_encrypt_2_L1 pms nm pct nc n22) n24 i24 s36 → F_ME_encrypt_2 pek n at_ pms nm pct nc s = F_ME_encrypt_2_L3 pct nc i22 (F_ME_encrypt_2_L1 pms nm pct nc n22) n24 i24 s36 → lv_has ls 9 [(8, .int (nI i24)), (7, .int (nI i22)), (6, .int (nI 4)), (0, .ref h0), (1, .int (nI 2)), (4, .ref ms), (5, .ref ct)] → okn g T s36 pl → va_P g.1 vcl ([] ++ pl) H → va_D A ([] ++ pl) → va_S A s0.heap H locs → W p l e ({ frames := 5, cells := 0, slots := 0, locals := 118 } : Room) s0 m args below meth c H locs 0 0 (MQ below (va_Qv (fun (u : (Sto) × va_W) => (u.1 = F_ME_encrypt_2 pek n at_ pms nm pct nc s ∧ frm (M_ME_encrypt_2 pct) s u.1 ∧ True) ∧ okn g T u.1 u.2) (po g.1 vcl A (fun (u : (Sto) × va_W) => [] ++ u.2)) A) args s0 0 0 A) (F0 m 147 ls []) := by
            intro n24
            induction n24 with
            | zero =>
              intro i24 s36 pl ls H locs hm24 hF hE hR hl hO hP hD hS
              refine lv_iload hx hb dME_encrypt_147 (lv_at hl 0 rfl) ?_
              refine lv_iload hx hb dME_encrypt_149 (lv_at hl 2 rfl) ?_
              refine mi_ge (tgt := 187) hx hb dME_encrypt_151 (by decide) (by omega) (by omega) (fun h26 => ?_) (fun h26 => absurd h26 (by omega))
              refine lv_aload_n hx hb dME_encrypt_187 rfl (lv_at hl 3 rfl) ?_
              refine lv_aload_n hx hb dME_encrypt_188 rfl (lv_at hl 3 rfl) ?_
              refine nw_get (C := "LatticeKeysModel$Secrets") (TT := T_ME) (N := 14) hx hb hts (wg_ft i_ME) hown hK hO k_h0 (kn := 184) (ci := 11) (fl := [(3, 172), (3, 178), (3, 185), (3, 202), (3, 207), (3, 212), (3, 217), (3, 218), (3, 219), (3, 220), (3, 221), (3, 222), (3, 223), (3, 224)]) rfl hP rfl 6 (by decide) (hts _ (wg_t kw_1385)) (fun _ h9 => h9) (cd := (3, 217)) rfl dME_encrypt_189 (fun v37 hv37 => ?_)
              obtain ⟨r39, rfl, kr39⟩ := (show ∃ r : Nat, v37 = .ref r ∧ T r = some 217 from hv37)
              refine mp_v (cx := []) (wr := []) hP hD hS hA [] [] rfl rfl rfl (by decide) (va_runV (As := [.ref r39]) (rest := []) F (N_ME_back l g _ T s36 pl hO hU h0 r39 217 k_h0 kr39 rfl) (cwV 1 hts (wg_app (wg_c kw_1822 (wg_c kw_1824 (wg_c ks_69 (wg_c kw_11 wg_n)))) kw_1825) rfl rfl rfl (by decide +kernel) ⟨by decide, by decide⟩) (pn_W "LatticeKeysModel$Secrets" (en_ok g) (ci := 11) (kn := 184) (fl := [(3, 172), (3, 178), (3, 185), (3, 202), (3, 207), (3, 212), (3, 217), (3, 218), (3, 219), (3, 220), (3, 221), (3, 222), (3, 223), (3, 224)]) hK hO k_h0 rfl hP hD hS hA hEn [] rfl rfl rfl) rfl rfl hl.1 rfl (lv_room (Nat.le_of_ble_eq_true rfl)) dME_encrypt_192 ⟨by omega, by omega⟩) (fun  u33 H locs hu33 hP hD hS => ?_)
              obtain ⟨s37, pl⟩ := u33
              obtain ⟨⟨eq33, hFc33, -⟩, hO⟩ := hu33
              have hO : okn g T s37 pl := hO
              have hP : va_P g.1 vcl ([] ++ pl) _ := hP
              have hD : va_D _ ([] ++ pl) := hD
              have hFc33 : frm (M_ME_back 217) s36 s37 := hFc33
              replace hR := bnd_step hR eq33
              replace hE := bndP_step hE eq33
              have hF := frm_tr hF hFc33 (fun k hk => by unfold M_ME_back at hk; unfold M_ME_encrypt_2; omega)
              refine W.widen (k := 0) (n := 0) (by omega) (by omega) ?_
              refine lv_aload_n hx hb dME_encrypt_195 rfl (lv_at hl 3 rfl) ?_
              refine nw_get (C := "LatticeKeysModel$Secrets") (TT := T_ME) (N := 14) hx hb hts (wg_ft i_ME) hown hK hO k_h0 (kn := 184) (ci := 11) (fl := [(3, 172), (3, 178), (3, 185), (3, 202), (3, 207), (3, 212), (3, 217), (3, 218), (3, 219), (3, 220), (3, 221), (3, 222), (3, 223), (3, 224)]) rfl hP rfl 6 (by decide) (hts _ (wg_t kw_1385)) (fun _ h9 => h9) (cd := (3, 217)) rfl dME_encrypt_196 (fun v38 hv38 => ?_)
              obtain ⟨r40, rfl, kr40⟩ := (show ∃ r : Nat, v38 = .ref r ∧ T r = some 217 from hv38)
              refine lv_aload_n hx hb dME_encrypt_199 rfl (lv_at hl 3 rfl) ?_
              refine nw_get (C := "LatticeKeysModel$Secrets") (TT := T_ME) (N := 14) hx hb hts (wg_ft i_ME) hown hK hO k_h0 (kn := 184) (ci := 11) (fl := [(3, 172), (3, 178), (3, 185), (3, 202), (3, 207), (3, 212), (3, 217), (3, 218), (3, 219), (3, 220), (3, 221), (3, 222), (3, 223), (3, 224)]) rfl hP rfl 4 (by decide) (hts _ (wg_t kw_1383)) (fun _ h9 => h9) (cd := (3, 207)) rfl dME_encrypt_200 (fun v39 hv39 => ?_)
              obtain ⟨r41, rfl, kr41⟩ := (show ∃ r : Nat, v39 = .ref r ∧ T r = some 207 from hv39)
              refine lv_iload hx hb dME_encrypt_203 (lv_at hl 1 rfl) ?_
              refine nw_aald3 hx hb hK hO kr41 (k := 207) (b := 208) rfl hP (by omega) (by omega) dME_encrypt_205 (fun r42 kr42 => ?_)
              have hn23 : nsp (208 + i22) = (0, 256, []) := rows_ok 208 4 (by decide) _ (by omega)
              refine mp_v (cx := []) (wr := []) hP hD hS hA [] [] rfl rfl rfl (by decide) (va_runS (As := [.ref r40, .ref r42]) (rest := []) F (N_ME_plus l g _ T s37 pl hO hU r40 r42 217 (208 + i22) kr40 rfl kr42 hn23) (va_cwS 2 hts (wg_app (wg_c kw_1827 (wg_c kw_1828 (wg_c kw_11 wg_n))) kw_1829) rfl rfl rfl (by decide +kernel) ⟨by decide, by decide⟩) (pp_S (en_ok g) hP hD hS hA hEn [] rfl rfl) rfl rfl hl.1 rfl (lv_room (Nat.le_of_ble_eq_true rfl)) dME_encrypt_206 ⟨by omega, by omega⟩) (fun  u34 H locs hu34 hP hD hS => ?_)
              obtain ⟨s38, pl⟩ := u34
              obtain ⟨⟨eq34, hFc34, -⟩, hO⟩ := hu34
              have hO : okn g T s38 pl := hO
              have hP : va_P g.1 vcl ([] ++ pl) _ := hP
              have hD : va_D _ ([] ++ pl) := hD
              have hFc34 : frm (M_ME_plus 217) s37 s38 := hFc34
              replace hR := bnd_step hR eq34
              replace hE := bndP_step hE eq34
              have hF := frm_tr hF hFc34 (fun k hk => by unfold M_ME_plus at hk; unfold M_ME_encrypt_2; omega)
              refine W.widen (k := 0) (n := 0) (by omega) (by omega) ?_
              refine lv_aload_n hx hb dME_encrypt_209 rfl (lv_at hl 3 rfl) ?_
              refine nw_get (C := "LatticeKeysModel$Secrets") (TT := T_ME) (N := 14) hx hb hts (wg_ft i_ME) hown hK hO k_h0 (kn := 184) (ci := 11) (fl := [(3, 172), (3, 178), (3, 185), (3, 202), (3, 207), (3, 212), (3, 217), (3, 218), (3, 219), (3, 220), (3, 221), (3, 222), (3, 223), (3, 224)]) rfl hP rfl 6 (by decide) (hts _ (wg_t kw_1385)) (fun _ h9 => h9) (cd := (3, 217)) rfl dME_encrypt_210 (fun v40 hv40 => ?_)
              obtain ⟨r43, rfl, kr43⟩ := (show ∃ r : Nat, v40 = .ref r ∧ T r = some 217 from hv40)
              refine va_gets hx hb (hEn.2.1 21 _ rfl).1 hS hown (hts _ (wg_t kw_1830)) (fun _ h9 => h9) dME_encrypt_213 ?_
              refine lv_iload_n hx hb dME_encrypt_216 rfl (lv_at hl 4 rfl) ?_
              refine va_ti (v := .int (nI 11)) hx hb (hEn.2.1 21 _ rfl).2 hS (vp_in_nI (by decide) (by decide)) (by decide +kernel) dME_encrypt_217 ?_
              refine mp_v (cx := []) (wr := []) hP hD hS hA [] [] rfl rfl rfl (by decide) (va_runS (As := [.ref r43, .int (nI 11)]) (rest := []) F (N_ME_less_11 l g _ T s38 pl hO hU r43 217 kr43 rfl) (va_cwS 2 hts (wg_app (wg_c kw_1832 (wg_c kw_1833 (wg_c kw_11 wg_n))) kw_1834) rfl rfl rfl (by decide +kernel) ⟨by decide, by decide⟩) (pp_S (en_ok g) hP hD hS hA hEn [] rfl rfl) rfl rfl hl.1 rfl (lv_room (Nat.le_of_ble_eq_true rfl)) dME_encrypt_218 ⟨by omega, by omega⟩) (fun  u35 H locs hu35 hP hD hS => ?_)
              obtain ⟨s39, pl⟩ := u35
              obtain ⟨⟨eq35, hFc35, -⟩, hO⟩ := hu35
              have hO : okn g T s39 pl := hO
              have hP : va_P g.1 vcl ([] ++ pl) _ := hP
              have hD : va_D _ ([] ++ pl) := hD
              have hFc35 : frm (M_ME_less_11 217) s38 s39 := hFc35
              replace hR := bnd_step hR eq35
              replace hE := bndP_step hE eq35
              have hF := frm_tr hF hFc35 (fun k hk => by unfold M_ME_less_11 at hk; unfold M_ME_encrypt_2; omega)
              refine W.widen (k := 0) (n := 0) (by omega) (by omega) ?_
              refine lv_aload_n hx hb dME_encrypt_221 rfl (lv_at hl 3 rfl) ?_
              refine nw_get (C := "LatticeKeysModel$Secrets") (TT := T_ME) (N := 14) hx hb hts (wg_ft i_ME) hown hK hO k_h0 (kn := 184) (ci := 11) (fl := [(3, 172), (3, 178), (3, 185), (3, 202), (3, 207), (3, 212), (3, 217), (3, 218), (3, 219), (3, 220), (3, 221), (3, 222), (3, 223), (3, 224)]) rfl hP rfl 6 (by decide) (hts _ (wg_t kw_1385)) (fun _ h9 => h9) (cd := (3, 217)) rfl dME_encrypt_222 (fun v41 hv41 => ?_)
              obtain ⟨r44, rfl, kr44⟩ := (show ∃ r : Nat, v41 = .ref r ∧ T r = some 217 from hv41)
              refine lv_aload hx hb dME_encrypt_225 (lv_at hl 6 rfl) ?_
              refine lv_bipush (v := nI 32) hx hb dME_encrypt_227 (by decide) ?_
              refine va_gets hx hb (hEn.2.1 21 _ rfl).1 hS hown (hts _ (wg_t kw_1830)) (fun _ h9 => h9) dME_encrypt_229 ?_
              refine lv_iload_n hx hb dME_encrypt_232 rfl (lv_at hl 4 rfl) ?_
              refine va_ti (v := .int (nI 11)) hx hb (hEn.2.1 21 _ rfl).2 hS (vp_in_nI (by decide) (by decide)) (by decide +kernel) dME_encrypt_233 ?_
              refine mi_imul hx hb dME_encrypt_234 ?_
              refine mi_as (show nI (32 * 11) = nI 352 from rfl) ?_
              refine lv_iload hx hb dME_encrypt_235 (lv_at hl 1 rfl) ?_
              refine mi_imul hx hb dME_encrypt_237 ?_
              refine va_gets hx hb (hEn.2.1 21 _ rfl).1 hS hown (hts _ (wg_t kw_1830)) (fun _ h9 => h9) dME_encrypt_238 ?_
              refine lv_iload_n hx hb dME_encrypt_241 rfl (lv_at hl 4 rfl) ?_
              refine va_ti (v := .int (nI 11)) hx hb (hEn.2.1 21 _ rfl).2 hS (vp_in_nI (by decide) (by decide)) (by decide +kernel) dME_encrypt_242 ?_
              refine mp_v (cx := []) (wr := []) hP hD hS hA [] [] rfl rfl rfl (by decide) (va_runS (As := [.ref r44, .ref ct, .int (nI (352 * i22)), .int (nI 11)]) (rest := []) F (N_ME_write_11 l g _ T s39 pl hO hU r44 ct 217 pct nc (352 * i22) kr44 rfl k_ct n_ct (by omega) (by omega)) (va_cwS 4 hts (wg_app (wg_c kw_1685 (wg_c kw_1686 (wg_c kw_11 wg_n))) kw_1687) rfl rfl rfl (by decide +kernel) ⟨by decide, by decide⟩) (pp_S (en_ok g) hP hD hS hA hEn [] rfl rfl) rfl rfl hl.1 rfl (lv_room (Nat.le_of_ble_eq_true rfl)) dME_encrypt_243 ⟨by omega, by omega⟩) (fun  u36 H locs hu36 hP hD hS => ?_)
              obtain ⟨s40, pl⟩ := u36
              obtain ⟨⟨eq36, hFc36, -⟩, hO⟩ := hu36
              have hO : okn g T s40 pl := hO
              have hP : va_P g.1 vcl ([] ++ pl) _ := hP
              have hD : va_D _ ([] ++ pl) := hD
              have hFc36 : frm (M_ME_write_11 pct) s39 s40 := hFc36
              replace hR := bnd_step hR eq36
              replace hE := bndP_step hE eq36
              have hF := frm_tr hF hFc36 (fun k hk => by unfold M_ME_write_11 at hk; unfold M_ME_encrypt_2; omega)
              refine W.widen (k := 0) (n := 0) (by omega) (by omega) ?_
              refine mi_iinc (k := 1) (x := i22) (d := 1) (y := i22 + 1) (lv' := [(7, .int (nI (i22 + 1))), (8, .int (nI i24)), (6, .int (nI 4)), (0, .ref h0), (1, .int (nI 2)), (4, .ref ms), (5, .ref ct)]) hx hb dME_encrypt_246 hl rfl (by decide) rfl (by decide) rfl (fun ls hl => ?_)
              refine lv_goto (tgt := 130) hx hb dME_encrypt_249 (by decide) ?_
              exact ih22 (i22 + 1) s40 pl ls H locs (by omega) hF hE hR (lv_sub hl [0, 2, 3, 4, 5, 6] rfl) hO hP hD hS
            | succ n24 ih24 =>
              intro i24 s36 pl ls H locs hm24 hF hE hR hl hO hP hD hS
              refine lv_iload hx hb dME_encrypt_147 (lv_at hl 0 rfl) ?_
              refine lv_iload hx hb dME_encrypt_149 (lv_at hl 2 rfl) ?_
              refine mi_ge (tgt := 187) hx hb dME_encrypt_151 (by decide) (by omega) (by omega) (fun h27 => absurd h27 (by omega)) (fun h27 => ?_)
              refine lv_aload_n hx hb dME_encrypt_154 rfl (lv_at hl 3 rfl) ?_
              refine lv_aload_n hx hb dME_encrypt_155 rfl (lv_at hl 3 rfl) ?_
              refine nw_get (C := "LatticeKeysModel$Secrets") (TT := T_ME) (N := 14) hx hb hts (wg_ft i_ME) hown hK hO k_h0 (kn := 184) (ci := 11) (fl := [(3, 172), (3, 178), (3, 185), (3, 202), (3, 207), (3, 212), (3, 217), (3, 218), (3, 219), (3, 220), (3, 221), (3, 222), (3, 223), (3, 224)]) rfl hP rfl 2 (by decide) (hts _ (wg_t kw_1381)) (fun _ h9 => h9) (cd := (3, 185)) rfl dME_encrypt_156 (fun v42 hv42 => ?_)
              obtain ⟨r45, rfl, kr45⟩ := (show ∃ r : Nat, v42 = .ref r ∧ T r = some 185 from hv42)
              refine lv_iconst (v := nI 4) hx hb dME_encrypt_159 (by decide) ?_
              refine lv_iload hx hb dME_encrypt_160 (lv_at hl 0 rfl) ?_
              refine mi_imul hx hb dME_encrypt_162 ?_
              refine lv_iload hx hb dME_encrypt_163 (lv_at hl 1 rfl) ?_
              refine mi_iadd hx hb dME_encrypt_165 ?_
              refine nw_aald3 hx hb hK hO kr45 (k := 185) (b := 186) rfl hP (by omega) (by omega) dME_encrypt_166 (fun r46 kr46 => ?_)
              have hn24 : nsp (186 + ((4 * i24) + i22)) = (0, 256, []) := rows_ok 186 16 (by decide) _ (by omega)
              refine lv_aload_n hx hb dME_encrypt_167 rfl (lv_at hl 3 rfl) ?_
              refine nw_get (C := "LatticeKeysModel$Secrets") (TT := T_ME) (N := 14) hx hb hts (wg_ft i_ME) hown hK hO k_h0 (kn := 184) (ci := 11) (fl := [(3, 172), (3, 178), (3, 185), (3, 202), (3, 207), (3, 212), (3, 217), (3, 218), (3, 219), (3, 220), (3, 221), (3, 222), (3, 223), (3, 224)]) rfl hP rfl 3 (by decide) (hts _ (wg_t kw_1382)) (fun _ h9 => h9) (cd := (3, 202)) rfl dME_encrypt_168 (fun v43 hv43 => ?_)
              obtain ⟨r47, rfl, kr47⟩ := (show ∃ r : Nat, v43 = .ref r ∧ T r = some 202 from hv43)
              refine lv_iload hx hb dME_encrypt_171 (lv_at hl 0 rfl) ?_
              refine nw_aald3 hx hb hK hO kr47 (k := 202) (b := 203) rfl hP (by omega) (by omega) dME_encrypt_173 (fun r48 kr48 => ?_)
              have hn25 : nsp (203 + i24) = (0, 256, []) := rows_ok 203 4 (by decide) _ (by omega)
              refine lv_aload_n hx hb dME_encrypt_174 rfl (lv_at hl 3 rfl) ?_
              refine nw_get (C := "LatticeKeysModel$Secrets") (TT := T_ME) (N := 14) hx hb hts (wg_ft i_ME) hown hK hO k_h0 (kn := 184) (ci := 11) (fl := [(3, 172), (3, 178), (3, 185), (3, 202), (3, 207), (3, 212), (3, 217), (3, 218), (3, 219), (3, 220), (3, 221), (3, 222), (3, 223), (3, 224)]) rfl hP rfl 6 (by decide) (hts _ (wg_t kw_1385)) (fun _ h9 => h9) (cd := (3, 217)) rfl dME_encrypt_175 (fun v44 hv44 => ?_)
              obtain ⟨r49, rfl, kr49⟩ := (show ∃ r : Nat, v44 = .ref r ∧ T r = some 217 from hv44)
              refine mp_v (cx := []) (wr := []) hP hD hS hA [] [] rfl rfl rfl (by decide) (va_runV (As := [.ref r46, .ref r48, .ref r49]) (rest := []) F (N_ME_product l g _ T s36 pl hO hU h0 r46 r48 r49 (186 + ((4 * i24) + i22)) (203 + i24) 217 k_h0 kr46 hn24 kr48 hn25 kr49 rfl) (cwV 3 hts (wg_app (wg_c kw_1676 (wg_c kw_1678 (wg_c ks_58 (wg_c kw_11 wg_n)))) kw_1679) rfl rfl rfl (by decide +kernel) ⟨by decide, by decide⟩) (pn_W "LatticeKeysModel$Secrets" (en_ok g) (ci := 11) (kn := 184) (fl := [(3, 172), (3, 178), (3, 185), (3, 202), (3, 207), (3, 212), (3, 217), (3, 218), (3, 219), (3, 220), (3, 221), (3, 222), (3, 223), (3, 224)]) hK hO k_h0 rfl hP hD hS hA hEn [] rfl rfl rfl) rfl rfl hl.1 rfl (lv_room (Nat.le_of_ble_eq_true rfl)) dME_encrypt_178 ⟨by omega, by omega⟩) (fun  u37 H locs hu37 hP hD hS => ?_)
              obtain ⟨s41, pl⟩ := u37
              obtain ⟨⟨eq37, hFc37, -⟩, hO⟩ := hu37
              have hO : okn g T s41 pl := hO
              have hP : va_P g.1 vcl ([] ++ pl) _ := hP
              have hD : va_D _ ([] ++ pl) := hD
              have hFc37 : frm (M_ME_product 217) s36 s41 := hFc37
              replace hR := bnd_step hR eq37
              replace hE := bndP_step hE eq37
              have hF := frm_tr hF hFc37 (fun k hk => by unfold M_ME_product at hk; unfold M_ME_encrypt_2; omega)
              refine W.widen (k := 0) (n := 0) (by omega) (by omega) ?_
              refine mi_iinc (k := 0) (x := i24) (d := 1) (y := i24 + 1) (lv' := [(8, .int (nI (i24 + 1))), (7, .int (nI i22)), (6, .int (nI 4)), (0, .ref h0), (1, .int (nI 2)), (4, .ref ms), (5, .ref ct)]) hx hb dME_encrypt_181 hl rfl (by decide) rfl (by decide) rfl (fun ls hl => ?_)
              refine lv_goto (tgt := 147) hx hb dME_encrypt_184 (by decide) ?_
              exact ih24 (i24 + 1) s41 pl ls H locs (by omega) hF hE hR (lv_sub hl [0, 1, 2, 3, 4, 5, 6] rfl) hO hP hD hS
          exact lp24 4 0 s35 pl ls _ _ (by omega) hF hE hR (lv_sub hl [0, 1, 2, 3, 4, 5, 6] rfl) hO hP hD hS
      exact lp22 4 0 s22 pl ls _ _ (by omega) hF hE hR (lv_sub hl [0, 1, 2, 3, 6, 7] rfl) hO hP hD hS
    | succ n21 ih21 =>
      intro i21 s22 pl ls H locs hm21 hF hE hR hl hO hP hD hS
      refine lv_iload hx hb dME_encrypt_25 (lv_at hl 0 rfl) ?_
      refine lv_iload hx hb dME_encrypt_27 (lv_at hl 1 rfl) ?_
      refine mi_ge (tgt := 127) hx hb dME_encrypt_29 (by decide) (by omega) (by omega) (fun h28 => absurd h28 (by omega)) (fun h28 => ?_)
      refine lv_aload_n hx hb dME_encrypt_32 rfl (lv_at hl 4 rfl) ?_
      refine lv_iload_n hx hb dME_encrypt_33 rfl (lv_at hl 5 rfl) ?_
      refine lv_sipush (v := nI 384) hx hb dME_encrypt_34 (by decide) ?_
      refine lv_iload hx hb dME_encrypt_37 (lv_at hl 0 rfl) ?_
      refine mi_imul hx hb dME_encrypt_39 ?_
      refine mi_iadd hx hb dME_encrypt_40 ?_
      refine lv_bipush (v := nI 12) hx hb dME_encrypt_41 (by decide) ?_
      refine lv_aload_n hx hb dME_encrypt_43 rfl (lv_at hl 2 rfl) ?_
      refine nw_get (C := "LatticeKeysModel$Secrets") (TT := T_ME) (N := 14) hx hb hts (wg_ft i_ME) hown hK hO k_h0 (kn := 184) (ci := 11) (fl := [(3, 172), (3, 178), (3, 185), (3, 202), (3, 207), (3, 212), (3, 217), (3, 218), (3, 219), (3, 220), (3, 221), (3, 222), (3, 223), (3, 224)]) rfl hP rfl 5 (by decide) (hts _ (wg_t kw_1384)) (fun _ h9 => h9) (cd := (3, 212)) rfl dME_encrypt_44 (fun v45 hv45 => ?_)
      obtain ⟨r50, rfl, kr50⟩ := (show ∃ r : Nat, v45 = .ref r ∧ T r = some 212 from hv45)
      refine lv_iload hx hb dME_encrypt_47 (lv_at hl 0 rfl) ?_
      refine nw_aald3 hx hb hK hO kr50 (k := 212) (b := 213) rfl hP (by omega) (by omega) dME_encrypt_49 (fun r51 kr51 => ?_)
      have hn26 : nsp (213 + i21) = (0, 256, []) := rows_ok 213 4 (by decide) _ (by omega)
      refine mp_v (cx := []) (wr := []) hP hD hS hA [] [] rfl rfl rfl (by decide) (va_runS (As := [.ref ek, .int (nI (at_ + (384 * i21))), .int (nI 12), .ref r51]) (rest := []) F (N_ME_read_12 l g _ T s22 pl hO hU ek r51 pek n (at_ + (384 * i21)) (213 + i21) k_ek n_ek kr51 hn26 (by omega) (by omega)) (va_cwS 4 hts (wg_app (wg_c kw_1813 (wg_c kw_1814 (wg_c kw_11 wg_n))) kw_1815) rfl rfl rfl (by decide +kernel) ⟨by decide, by decide⟩) (pp_S (en_ok g) hP hD hS hA hEn [] rfl rfl) rfl rfl hl.1 rfl (lv_room (Nat.le_of_ble_eq_true rfl)) dME_encrypt_50 ⟨by omega, by omega⟩) (fun  u38 H locs hu38 hP hD hS => ?_)
      obtain ⟨s42, pl⟩ := u38
      obtain ⟨⟨eq38, hFc38, -⟩, hO⟩ := hu38
      have hO : okn g T s42 pl := hO
      have hP : va_P g.1 vcl ([] ++ pl) _ := hP
      have hD : va_D _ ([] ++ pl) := hD
      have hFc38 : frm (M_ME_read_12 (213 + i21)) s22 s42 := hFc38
      replace hR := bnd_step hR eq38
      replace hE := bndP_step hE eq38
      have hF := frm_tr hF hFc38 (fun k hk => by unfold M_ME_read_12 at hk; unfold M_ME_encrypt_2; omega)
      refine W.widen (k := 0) (n := 0) (by omega) (by omega) ?_
      refine lv_aload_n hx hb dME_encrypt_53 rfl (lv_at hl 2 rfl) ?_
      refine nw_get (C := "LatticeKeysModel$Secrets") (TT := T_ME) (N := 14) hx hb hts (wg_ft i_ME) hown hK hO k_h0 (kn := 184) (ci := 11) (fl := [(3, 172), (3, 178), (3, 185), (3, 202), (3, 207), (3, 212), (3, 217), (3, 218), (3, 219), (3, 220), (3, 221), (3, 222), (3, 223), (3, 224)]) rfl hP rfl 5 (by decide) (hts _ (wg_t kw_1384)) (fun _ h9 => h9) (cd := (3, 212)) rfl dME_encrypt_54 (fun v46 hv46 => ?_)
      obtain ⟨r52, rfl, kr52⟩ := (show ∃ r : Nat, v46 = .ref r ∧ T r = some 212 from hv46)
      refine lv_iload hx hb dME_encrypt_57 (lv_at hl 0 rfl) ?_
      refine nw_aald3 hx hb hK hO kr52 (k := 212) (b := 213) rfl hP (by omega) (by omega) dME_encrypt_59 (fun r53 kr53 => ?_)
      have hn27 : nsp (213 + i21) = (0, 256, []) := rows_ok 213 4 (by decide) _ (by omega)
      refine mp_v (cx := []) (wr := []) hP hD hS hA [] [] rfl rfl rfl (by decide) (va_runS (As := [.ref r53]) (rest := []) F (N_ME_proper l g _ T s42 pl hO hU r53 (213 + i21) kr53 hn27) (va_cwS 1 hts (wg_app (wg_c kw_1816 (wg_c kw_1817 (wg_c kw_11 wg_n))) kw_1818) rfl rfl rfl (by decide +kernel) ⟨by decide, by decide⟩) (pp_S (en_ok g) hP hD hS hA hEn [] rfl rfl) rfl rfl hl.1 rfl (lv_room (Nat.le_of_ble_eq_true rfl)) dME_encrypt_60 ⟨by omega, by omega⟩) (fun  u39 H locs hu39 hP hD hS => ?_)
      obtain ⟨s43, pl⟩ := u39
      obtain ⟨⟨eq39, hFc39, -⟩, hO⟩ := hu39
      have hO : okn g T s43 pl := hO
      have hP : va_P g.1 vcl ([] ++ pl) _ := hP
      have hD : va_D _ ([] ++ pl) := hD
      have hFc39 : frm (M_ME_proper (213 + i21)) s42 s43 := hFc39
      replace hR := bnd_step hR eq39
      replace hE := bndP_step hE eq39
      have hF := frm_tr hF hFc39 (fun k hk => by unfold M_ME_proper at hk; unfold M_ME_encrypt_2; omega)
      refine W.widen (k := 0) (n := 0) (by omega) (by omega) ?_
      refine lv_aload_n hx hb dME_encrypt_63 rfl (lv_at hl 2 rfl) ?_
      refine lv_aload_n hx hb dME_encrypt_64 rfl (lv_at hl 2 rfl) ?_
      refine nw_get (C := "LatticeKeysModel$Secrets") (TT := T_ME) (N := 14) hx hb hts (wg_ft i_ME) hown hK hO k_h0 (kn := 184) (ci := 11) (fl := [(3, 172), (3, 178), (3, 185), (3, 202), (3, 207), (3, 212), (3, 217), (3, 218), (3, 219), (3, 220), (3, 221), (3, 222), (3, 223), (3, 224)]) rfl hP rfl 3 (by decide) (hts _ (wg_t kw_1382)) (fun _ h9 => h9) (cd := (3, 202)) rfl dME_encrypt_65 (fun v47 hv47 => ?_)
      obtain ⟨r54, rfl, kr54⟩ := (show ∃ r : Nat, v47 = .ref r ∧ T r = some 202 from hv47)
      refine lv_iload hx hb dME_encrypt_68 (lv_at hl 0 rfl) ?_
      refine nw_aald3 hx hb hK hO kr54 (k := 202) (b := 203) rfl hP (by omega) (by omega) dME_encrypt_70 (fun r55 kr55 => ?_)
      have hn28 : nsp (203 + i21) = (0, 256, []) := rows_ok 203 4 (by decide) _ (by omega)
      refine lv_aload_n hx hb dME_encrypt_71 rfl (lv_at hl 2 rfl) ?_
      refine nw_get (C := "LatticeKeysModel$Secrets") (TT := T_ME) (N := 14) hx hb hts (wg_ft i_ME) hown hK hO k_h0 (kn := 184) (ci := 11) (fl := [(3, 172), (3, 178), (3, 185), (3, 202), (3, 207), (3, 212), (3, 217), (3, 218), (3, 219), (3, 220), (3, 221), (3, 222), (3, 223), (3, 224)]) rfl hP rfl 9 (by decide) (hts _ (wg_t kw_1388)) (fun _ h9 => h9) (cd := (3, 220)) rfl dME_encrypt_72 (fun v48 hv48 => ?_)
      obtain ⟨r56, rfl, kr56⟩ := (show ∃ r : Nat, v48 = .ref r ∧ T r = some 220 from hv48)
      refine lv_bipush (v := nI 32) hx hb dME_encrypt_75 (by decide) ?_
      refine lv_iload hx hb dME_encrypt_77 (lv_at hl 0 rfl) ?_
      refine va_gets hx hb (hEn.2.1 20 _ rfl).1 hS hown (hts _ (wg_t kw_1654)) (fun _ h9 => h9) dME_encrypt_79 ?_
      refine lv_iload_n hx hb dME_encrypt_82 rfl (lv_at hl 3 rfl) ?_
      refine va_ti (v := .int (nI 2)) hx hb (hEn.2.1 20 _ rfl).2 hS (vp_in_nI (by decide) (by decide)) (by decide +kernel) dME_encrypt_83 ?_
      refine mp_v (cx := []) (wr := []) hP hD hS hA [] [] rfl rfl rfl (by decide) (va_runV (As := [.ref r55, .ref r56, .int (nI 32), .int (nI i21), .int (nI 2)]) (rest := []) F (N_ME_noise_2 l g _ T s43 pl hO hU h0 r55 r56 (203 + i21) 220 64 32 (nI i21) k_h0 kr55 hn28 kr56 rfl (by omega) (by omega)) (cwV 5 hts (wg_app (wg_c kw_1656 (wg_c kw_1658 (wg_c ks_56 (wg_c kw_11 wg_n)))) kw_1659) rfl rfl rfl (by decide +kernel) ⟨by decide, by decide⟩) (pn_W "LatticeKeysModel$Secrets" (en_ok g) (ci := 11) (kn := 184) (fl := [(3, 172), (3, 178), (3, 185), (3, 202), (3, 207), (3, 212), (3, 217), (3, 218), (3, 219), (3, 220), (3, 221), (3, 222), (3, 223), (3, 224)]) hK hO k_h0 rfl hP hD hS hA hEn [] rfl rfl rfl) rfl rfl hl.1 rfl (lv_room (Nat.le_of_ble_eq_true rfl)) dME_encrypt_84 ⟨by omega, by omega⟩) (fun  u40 H locs hu40 hP hD hS => ?_)
      obtain ⟨s44, pl⟩ := u40
      obtain ⟨⟨eq40, hFc40, -⟩, hO⟩ := hu40
      have hO : okn g T s44 pl := hO
      have hP : va_P g.1 vcl ([] ++ pl) _ := hP
      have hD : va_D _ ([] ++ pl) := hD
      have hFc40 : frm (M_ME_noise_2 (203 + i21)) s43 s44 := hFc40
      replace hR := bnd_step hR eq40
      replace hE := bndP_step hE eq40
      have hF := frm_tr hF hFc40 (fun k hk => by unfold M_ME_noise_2 at hk; unfold M_ME_encrypt_2; omega)
      refine W.widen (k := 0) (n := 0) (by omega) (by omega) ?_
      refine lv_aload_n hx hb dME_encrypt_87 rfl (lv_at hl 2 rfl) ?_
      refine lv_aload_n hx hb dME_encrypt_88 rfl (lv_at hl 2 rfl) ?_
      refine nw_get (C := "LatticeKeysModel$Secrets") (TT := T_ME) (N := 14) hx hb hts (wg_ft i_ME) hown hK hO k_h0 (kn := 184) (ci := 11) (fl := [(3, 172), (3, 178), (3, 185), (3, 202), (3, 207), (3, 212), (3, 217), (3, 218), (3, 219), (3, 220), (3, 221), (3, 222), (3, 223), (3, 224)]) rfl hP rfl 4 (by decide) (hts _ (wg_t kw_1383)) (fun _ h9 => h9) (cd := (3, 207)) rfl dME_encrypt_89 (fun v49 hv49 => ?_)
      obtain ⟨r57, rfl, kr57⟩ := (show ∃ r : Nat, v49 = .ref r ∧ T r = some 207 from hv49)
      refine lv_iload hx hb dME_encrypt_92 (lv_at hl 0 rfl) ?_
      refine nw_aald3 hx hb hK hO kr57 (k := 207) (b := 208) rfl hP (by omega) (by omega) dME_encrypt_94 (fun r58 kr58 => ?_)
      have hn29 : nsp (208 + i21) = (0, 256, []) := rows_ok 208 4 (by decide) _ (by omega)
      refine lv_aload_n hx hb dME_encrypt_95 rfl (lv_at hl 2 rfl) ?_
      refine nw_get (C := "LatticeKeysModel$Secrets") (TT := T_ME) (N := 14) hx hb hts (wg_ft i_ME) hown hK hO k_h0 (kn := 184) (ci := 11) (fl := [(3, 172), (3, 178), (3, 185), (3, 202), (3, 207), (3, 212), (3, 217), (3, 218), (3, 219), (3, 220), (3, 221), (3, 222), (3, 223), (3, 224)]) rfl hP rfl 9 (by decide) (hts _ (wg_t kw_1388)) (fun _ h9 => h9) (cd := (3, 220)) rfl dME_encrypt_96 (fun v50 hv50 => ?_)
      obtain ⟨r59, rfl, kr59⟩ := (show ∃ r : Nat, v50 = .ref r ∧ T r = some 220 from hv50)
      refine lv_bipush (v := nI 32) hx hb dME_encrypt_99 (by decide) ?_
      refine lv_iload hx hb dME_encrypt_101 (lv_at hl 1 rfl) ?_
      refine lv_iload hx hb dME_encrypt_103 (lv_at hl 0 rfl) ?_
      refine mi_iadd hx hb dME_encrypt_105 ?_
      refine lv_iconst (v := nI 2) hx hb dME_encrypt_106 (by decide) ?_
      refine mp_v (cx := []) (wr := []) hP hD hS hA [] [] rfl rfl rfl (by decide) (va_runV (As := [.ref r58, .ref r59, .int (nI 32), .int (nI (4 + i21)), .int (nI 2)]) (rest := []) F (N_ME_noise_2 l g _ T s44 pl hO hU h0 r58 r59 (208 + i21) 220 64 32 (nI (4 + i21)) k_h0 kr58 hn29 kr59 rfl (by omega) (by omega)) (cwV 5 hts (wg_app (wg_c kw_1656 (wg_c kw_1658 (wg_c ks_56 (wg_c kw_11 wg_n)))) kw_1659) rfl rfl rfl (by decide +kernel) ⟨by decide, by decide⟩) (pn_W "LatticeKeysModel$Secrets" (en_ok g) (ci := 11) (kn := 184) (fl := [(3, 172), (3, 178), (3, 185), (3, 202), (3, 207), (3, 212), (3, 217), (3, 218), (3, 219), (3, 220), (3, 221), (3, 222), (3, 223), (3, 224)]) hK hO k_h0 rfl hP hD hS hA hEn [] rfl rfl rfl) rfl rfl hl.1 rfl (lv_room (Nat.le_of_ble_eq_true rfl)) dME_encrypt_107 ⟨by omega, by omega⟩) (fun  u41 H locs hu41 hP hD hS => ?_)
      obtain ⟨s45, pl⟩ := u41
      obtain ⟨⟨eq41, hFc41, -⟩, hO⟩ := hu41
      have hO : okn g T s45 pl := hO
      have hP : va_P g.1 vcl ([] ++ pl) _ := hP
      have hD : va_D _ ([] ++ pl) := hD
      have hFc41 : frm (M_ME_noise_2 (208 + i21)) s44 s45 := hFc41
      replace hR := bnd_step hR eq41
      replace hE := bndP_step hE eq41
      have hF := frm_tr hF hFc41 (fun k hk => by unfold M_ME_noise_2 at hk; unfold M_ME_encrypt_2; omega)
      refine W.widen (k := 0) (n := 0) (by omega) (by omega) ?_
      refine lv_aload_n hx hb dME_encrypt_110 rfl (lv_at hl 2 rfl) ?_
      refine lv_aload_n hx hb dME_encrypt_111 rfl (lv_at hl 2 rfl) ?_
      refine nw_get (C := "LatticeKeysModel$Secrets") (TT := T_ME) (N := 14) hx hb hts (wg_ft i_ME) hown hK hO k_h0 (kn := 184) (ci := 11) (fl := [(3, 172), (3, 178), (3, 185), (3, 202), (3, 207), (3, 212), (3, 217), (3, 218), (3, 219), (3, 220), (3, 221), (3, 222), (3, 223), (3, 224)]) rfl hP rfl 3 (by decide) (hts _ (wg_t kw_1382)) (fun _ h9 => h9) (cd := (3, 202)) rfl dME_encrypt_112 (fun v51 hv51 => ?_)
      obtain ⟨r60, rfl, kr60⟩ := (show ∃ r : Nat, v51 = .ref r ∧ T r = some 202 from hv51)
      refine lv_iload hx hb dME_encrypt_115 (lv_at hl 0 rfl) ?_
      refine nw_aald3 hx hb hK hO kr60 (k := 202) (b := 203) rfl hP (by omega) (by omega) dME_encrypt_117 (fun r61 kr61 => ?_)
      have hn30 : nsp (203 + i21) = (0, 256, []) := rows_ok 203 4 (by decide) _ (by omega)
      refine mp_v (cx := []) (wr := []) hP hD hS hA [] [] rfl rfl rfl (by decide) (va_runV (As := [.ref r61]) (rest := []) F (N_ME_forth l g _ T s45 pl hO hU h0 r61 (203 + i21) k_h0 kr61 hn30) (cwV 1 hts (wg_app (wg_c kw_1668 (wg_c kw_1670 (wg_c ks_57 (wg_c kw_11 wg_n)))) kw_1671) rfl rfl rfl (by decide +kernel) ⟨by decide, by decide⟩) (pn_W "LatticeKeysModel$Secrets" (en_ok g) (ci := 11) (kn := 184) (fl := [(3, 172), (3, 178), (3, 185), (3, 202), (3, 207), (3, 212), (3, 217), (3, 218), (3, 219), (3, 220), (3, 221), (3, 222), (3, 223), (3, 224)]) hK hO k_h0 rfl hP hD hS hA hEn [] rfl rfl rfl) rfl rfl hl.1 rfl (lv_room (Nat.le_of_ble_eq_true rfl)) dME_encrypt_118 ⟨by omega, by omega⟩) (fun  u42 H locs hu42 hP hD hS => ?_)
      obtain ⟨s46, pl⟩ := u42
      obtain ⟨⟨eq42, hFc42, -⟩, hO⟩ := hu42
      have hO : okn g T s46 pl := hO
      have hP : va_P g.1 vcl ([] ++ pl) _ := hP
      have hD : va_D _ ([] ++ pl) := hD
      have hFc42 : frm (M_ME_forth (203 + i21)) s45 s46 := hFc42
      replace hR := bnd_step hR eq42
      replace hE := bndP_step hE eq42
      have hF := frm_tr hF hFc42 (fun k hk => by unfold M_ME_forth at hk; unfold M_ME_encrypt_2; omega)
      refine W.widen (k := 0) (n := 0) (by omega) (by omega) ?_
      refine mi_iinc (k := 0) (x := i21) (d := 1) (y := i21 + 1) (lv' := [(7, .int (nI (i21 + 1))), (6, .int (nI 4)), (0, .ref h0), (1, .int (nI 2)), (2, .ref ek), (3, .int (nI at_)), (4, .ref ms), (5, .ref ct)]) hx hb dME_encrypt_121 hl rfl (by decide) rfl (by decide) rfl (fun ls hl => ?_)
      refine lv_goto (tgt := 25) hx hb dME_encrypt_124 (by decide) ?_
      exact ih21 (i21 + 1) s46 pl ls H locs (by omega) hF hE hR (lv_sub hl [0, 1, 2, 3, 4, 5, 6, 7] rfl) hO hP hD hS
  exact lp21 4 0 s21 pl ls _ _ (by omega) hF hE hR (lv_sub hl [0, 1, 2, 3, 4, 5, 6, 7] rfl) hO hP hD hS
