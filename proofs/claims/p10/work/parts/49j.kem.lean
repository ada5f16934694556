set_option linter.all false
abbrev c_KM_encrypt : ByteArray := prog_6_method_9_code
abbrev y_KM_encrypt : MethodName := ⟨"LatticeKeys$Kem", "encrypt", "(LLatticeKeys$KemSet;[B[B)V"⟩
abbrev w_KM_encrypt : List Cond := Cond.code y_KM_encrypt c_KM_encrypt 6 none :: WG
theorem dKM_encrypt_0 : decode c_KM_encrypt 0 = .ok (.iconst 0, 1) := by decide +kernel
theorem dKM_encrypt_1 : decode c_KM_encrypt 1 = .ok (.istore 4, 2) := by decide +kernel
theorem dKM_encrypt_3 : decode c_KM_encrypt 3 = .ok (.iload 4, 2) := by decide +kernel
theorem dKM_encrypt_5 : decode c_KM_encrypt 5 = .ok (.aload_n 1, 1) := by decide +kernel
theorem dKM_encrypt_6 : decode c_KM_encrypt 6 = .ok (.getfield 61, 3) := by decide +kernel
theorem dKM_encrypt_9 : decode c_KM_encrypt 9 = .ok (.if_icmp .ge 40, 3) := by decide +kernel
theorem dKM_encrypt_12 : decode c_KM_encrypt 12 = .ok (.aload_n 0, 1) := by decide +kernel
theorem dKM_encrypt_13 : decode c_KM_encrypt 13 = .ok (.aload_n 0, 1) := by decide +kernel
theorem dKM_encrypt_14 : decode c_KM_encrypt 14 = .ok (.getfield 27, 3) := by decide +kernel
theorem dKM_encrypt_17 : decode c_KM_encrypt 17 = .ok (.iload 4, 2) := by decide +kernel
theorem dKM_encrypt_19 : decode c_KM_encrypt 19 = .ok (.aaload, 1) := by decide +kernel
theorem dKM_encrypt_20 : decode c_KM_encrypt 20 = .ok (.aload_n 1, 1) := by decide +kernel
theorem dKM_encrypt_21 : decode c_KM_encrypt 21 = .ok (.getfield 85, 3) := by decide +kernel
theorem dKM_encrypt_24 : decode c_KM_encrypt 24 = .ok (.iload 4, 2) := by decide +kernel
theorem dKM_encrypt_26 : decode c_KM_encrypt 26 = .ok (.invokevirtual 88, 3) := by decide +kernel
theorem dKM_encrypt_29 : decode c_KM_encrypt 29 = .ok (.aload_n 0, 1) := by decide +kernel
theorem dKM_encrypt_30 : decode c_KM_encrypt 30 = .ok (.getfield 21, 3) := by decide +kernel
theorem dKM_encrypt_33 : decode c_KM_encrypt 33 = .ok (.aload_n 0, 1) := by decide +kernel
theorem dKM_encrypt_34 : decode c_KM_encrypt 34 = .ok (.getfield 27, 3) := by decide +kernel
theorem dKM_encrypt_37 : decode c_KM_encrypt 37 = .ok (.iload 4, 2) := by decide +kernel
theorem dKM_encrypt_39 : decode c_KM_encrypt 39 = .ok (.aaload, 1) := by decide +kernel
theorem dKM_encrypt_40 : decode c_KM_encrypt 40 = .ok (.invokevirtual 92, 3) := by decide +kernel
theorem dKM_encrypt_43 : decode c_KM_encrypt 43 = .ok (.iinc 4 1, 3) := by decide +kernel
theorem dKM_encrypt_46 : decode c_KM_encrypt 46 = .ok (.goto (-43), 3) := by decide +kernel
theorem dKM_encrypt_49 : decode c_KM_encrypt 49 = .ok (.iconst 0, 1) := by decide +kernel
theorem dKM_encrypt_50 : decode c_KM_encrypt 50 = .ok (.istore 4, 2) := by decide +kernel
theorem dKM_encrypt_52 : decode c_KM_encrypt 52 = .ok (.iload 4, 2) := by decide +kernel
theorem dKM_encrypt_54 : decode c_KM_encrypt 54 = .ok (.aload_n 1, 1) := by decide +kernel
theorem dKM_encrypt_55 : decode c_KM_encrypt 55 = .ok (.getfield 61, 3) := by decide +kernel
theorem dKM_encrypt_58 : decode c_KM_encrypt 58 = .ok (.if_icmp .ge 138, 3) := by decide +kernel
theorem dKM_encrypt_61 : decode c_KM_encrypt 61 = .ok (.aload_n 0, 1) := by decide +kernel
theorem dKM_encrypt_62 : decode c_KM_encrypt 62 = .ok (.getfield 30, 3) := by decide +kernel
theorem dKM_encrypt_65 : decode c_KM_encrypt 65 = .ok (.iconst 0, 1) := by decide +kernel
theorem dKM_encrypt_66 : decode c_KM_encrypt 66 = .ok (.invokestatic 147, 3) := by decide +kernel
theorem dKM_encrypt_69 : decode c_KM_encrypt 69 = .ok (.iconst 0, 1) := by decide +kernel
theorem dKM_encrypt_70 : decode c_KM_encrypt 70 = .ok (.istore 5, 2) := by decide +kernel
theorem dKM_encrypt_72 : decode c_KM_encrypt 72 = .ok (.iload 5, 2) := by decide +kernel
theorem dKM_encrypt_74 : decode c_KM_encrypt 74 = .ok (.aload_n 1, 1) := by decide +kernel
theorem dKM_encrypt_75 : decode c_KM_encrypt 75 = .ok (.getfield 61, 3) := by decide +kernel
theorem dKM_encrypt_78 : decode c_KM_encrypt 78 = .ok (.if_icmp .ge 47, 3) := by decide +kernel
theorem dKM_encrypt_81 : decode c_KM_encrypt 81 = .ok (.aload_n 0, 1) := by decide +kernel
theorem dKM_encrypt_82 : decode c_KM_encrypt 82 = .ok (.aload_n 2, 1) := by decide +kernel
theorem dKM_encrypt_83 : decode c_KM_encrypt 83 = .ok (.aload_n 1, 1) := by decide +kernel
theorem dKM_encrypt_84 : decode c_KM_encrypt 84 = .ok (.getfield 76, 3) := by decide +kernel
theorem dKM_encrypt_87 : decode c_KM_encrypt 87 = .ok (.bipush 32, 2) := by decide +kernel
theorem dKM_encrypt_89 : decode c_KM_encrypt 89 = .ok (.isub, 1) := by decide +kernel
theorem dKM_encrypt_90 : decode c_KM_encrypt 90 = .ok (.iload 4, 2) := by decide +kernel
theorem dKM_encrypt_92 : decode c_KM_encrypt 92 = .ok (.iload 5, 2) := by decide +kernel
theorem dKM_encrypt_94 : decode c_KM_encrypt 94 = .ok (.invokevirtual 102, 3) := by decide +kernel
theorem dKM_encrypt_97 : decode c_KM_encrypt 97 = .ok (.aload_n 0, 1) := by decide +kernel
theorem dKM_encrypt_98 : decode c_KM_encrypt 98 = .ok (.getfield 21, 3) := by decide +kernel
theorem dKM_encrypt_101 : decode c_KM_encrypt 101 = .ok (.aload_n 0, 1) := by decide +kernel
theorem dKM_encrypt_102 : decode c_KM_encrypt 102 = .ok (.getfield 30, 3) := by decide +kernel
theorem dKM_encrypt_105 : decode c_KM_encrypt 105 = .ok (.aload_n 0, 1) := by decide +kernel
theorem dKM_encrypt_106 : decode c_KM_encrypt 106 = .ok (.getfield 34, 3) := by decide +kernel
theorem dKM_encrypt_109 : decode c_KM_encrypt 109 = .ok (.aload_n 0, 1) := by decide +kernel
theorem dKM_encrypt_110 : decode c_KM_encrypt 110 = .ok (.getfield 27, 3) := by decide +kernel
theorem dKM_encrypt_113 : decode c_KM_encrypt 113 = .ok (.iload 5, 2) := by decide +kernel
theorem dKM_encrypt_115 : decode c_KM_encrypt 115 = .ok (.aaload, 1) := by decide +kernel
theorem dKM_encrypt_116 : decode c_KM_encrypt 116 = .ok (.invokevirtual 106, 3) := by decide +kernel
theorem dKM_encrypt_119 : decode c_KM_encrypt 119 = .ok (.iinc 5 1, 3) := by decide +kernel
theorem dKM_encrypt_122 : decode c_KM_encrypt 122 = .ok (.goto (-50), 3) := by decide +kernel
theorem dKM_encrypt_125 : decode c_KM_encrypt 125 = .ok (.aload_n 0, 1) := by decide +kernel
theorem dKM_encrypt_126 : decode c_KM_encrypt 126 = .ok (.getfield 21, 3) := by decide +kernel
theorem dKM_encrypt_129 : decode c_KM_encrypt 129 = .ok (.aload_n 0, 1) := by decide +kernel
theorem dKM_encrypt_130 : decode c_KM_encrypt 130 = .ok (.getfield 30, 3) := by decide +kernel
theorem dKM_encrypt_133 : decode c_KM_encrypt 133 = .ok (.invokevirtual 153, 3) := by decide +kernel
theorem dKM_encrypt_136 : decode c_KM_encrypt 136 = .ok (.aload_n 0, 1) := by decide +kernel
theorem dKM_encrypt_137 : decode c_KM_encrypt 137 = .ok (.aload_n 0, 1) := by decide +kernel
theorem dKM_encrypt_138 : decode c_KM_encrypt 138 = .ok (.getfield 34, 3) := by decide +kernel
theorem dKM_encrypt_141 : decode c_KM_encrypt 141 = .ok (.iconst 2, 1) := by decide +kernel
theorem dKM_encrypt_142 : decode c_KM_encrypt 142 = .ok (.aload_n 1, 1) := by decide +kernel
theorem dKM_encrypt_143 : decode c_KM_encrypt 143 = .ok (.getfield 61, 3) := by decide +kernel
theorem dKM_encrypt_146 : decode c_KM_encrypt 146 = .ok (.iload 4, 2) := by decide +kernel
theorem dKM_encrypt_148 : decode c_KM_encrypt 148 = .ok (.iadd, 1) := by decide +kernel
theorem dKM_encrypt_149 : decode c_KM_encrypt 149 = .ok (.invokevirtual 88, 3) := by decide +kernel
theorem dKM_encrypt_152 : decode c_KM_encrypt 152 = .ok (.aload_n 0, 1) := by decide +kernel
theorem dKM_encrypt_153 : decode c_KM_encrypt 153 = .ok (.getfield 21, 3) := by decide +kernel
theorem dKM_encrypt_156 : decode c_KM_encrypt 156 = .ok (.aload_n 0, 1) := by decide +kernel
theorem dKM_encrypt_157 : decode c_KM_encrypt 157 = .ok (.getfield 30, 3) := by decide +kernel
theorem dKM_encrypt_160 : decode c_KM_encrypt 160 = .ok (.aload_n 0, 1) := by decide +kernel
theorem dKM_encrypt_161 : decode c_KM_encrypt 161 = .ok (.getfield 34, 3) := by decide +kernel
theorem dKM_encrypt_164 : decode c_KM_encrypt 164 = .ok (.invokevirtual 156, 3) := by decide +kernel
theorem dKM_encrypt_167 : decode c_KM_encrypt 167 = .ok (.aload_n 0, 1) := by decide +kernel
theorem dKM_encrypt_168 : decode c_KM_encrypt 168 = .ok (.aload_n 0, 1) := by decide +kernel
theorem dKM_encrypt_169 : decode c_KM_encrypt 169 = .ok (.getfield 30, 3) := by decide +kernel
theorem dKM_encrypt_172 : decode c_KM_encrypt 172 = .ok (.aload_n 1, 1) := by decide +kernel
theorem dKM_encrypt_173 : decode c_KM_encrypt 173 = .ok (.getfield 160, 3) := by decide +kernel
theorem dKM_encrypt_176 : decode c_KM_encrypt 176 = .ok (.aload_n 3, 1) := by decide +kernel
theorem dKM_encrypt_177 : decode c_KM_encrypt 177 = .ok (.bipush 32, 2) := by decide +kernel
theorem dKM_encrypt_179 : decode c_KM_encrypt 179 = .ok (.aload_n 1, 1) := by decide +kernel
theorem dKM_encrypt_180 : decode c_KM_encrypt 180 = .ok (.getfield 160, 3) := by decide +kernel
theorem dKM_encrypt_183 : decode c_KM_encrypt 183 = .ok (.imul, 1) := by decide +kernel
theorem dKM_encrypt_184 : decode c_KM_encrypt 184 = .ok (.iload 4, 2) := by decide +kernel
theorem dKM_encrypt_186 : decode c_KM_encrypt 186 = .ok (.imul, 1) := by decide +kernel
theorem dKM_encrypt_187 : decode c_KM_encrypt 187 = .ok (.invokevirtual 163, 3) := by decide +kernel
theorem dKM_encrypt_190 : decode c_KM_encrypt 190 = .ok (.iinc 4 1, 3) := by decide +kernel
theorem dKM_encrypt_193 : decode c_KM_encrypt 193 = .ok (.goto (-141), 3) := by decide +kernel
theorem dKM_encrypt_196 : decode c_KM_encrypt 196 = .ok (.aload_n 0, 1) := by decide +kernel
theorem dKM_encrypt_197 : decode c_KM_encrypt 197 = .ok (.getfield 30, 3) := by decide +kernel
theorem dKM_encrypt_200 : decode c_KM_encrypt 200 = .ok (.iconst 0, 1) := by decide +kernel
theorem dKM_encrypt_201 : decode c_KM_encrypt 201 = .ok (.invokestatic 147, 3) := by decide +kernel
theorem dKM_encrypt_204 : decode c_KM_encrypt 204 = .ok (.iconst 0, 1) := by decide +kernel
theorem dKM_encrypt_205 : decode c_KM_encrypt 205 = .ok (.istore 4, 2) := by decide +kernel
theorem dKM_encrypt_207 : decode c_KM_encrypt 207 = .ok (.iload 4, 2) := by decide +kernel
theorem dKM_encrypt_209 : decode c_KM_encrypt 209 = .ok (.aload_n 1, 1) := by decide +kernel
theorem dKM_encrypt_210 : decode c_KM_encrypt 210 = .ok (.getfield 61, 3) := by decide +kernel
theorem dKM_encrypt_213 : decode c_KM_encrypt 213 = .ok (.if_icmp .ge 42, 3) := by decide +kernel
theorem dKM_encrypt_216 : decode c_KM_encrypt 216 = .ok (.aload_n 0, 1) := by decide +kernel
theorem dKM_encrypt_217 : decode c_KM_encrypt 217 = .ok (.aload_n 2, 1) := by decide +kernel
theorem dKM_encrypt_218 : decode c_KM_encrypt 218 = .ok (.sipush 384, 3) := by decide +kernel
theorem dKM_encrypt_221 : decode c_KM_encrypt 221 = .ok (.iload 4, 2) := by decide +kernel
theorem dKM_encrypt_223 : decode c_KM_encrypt 223 = .ok (.imul, 1) := by decide +kernel
theorem dKM_encrypt_224 : decode c_KM_encrypt 224 = .ok (.invokevirtual 166, 3) := by decide +kernel
theorem dKM_encrypt_227 : decode c_KM_encrypt 227 = .ok (.aload_n 0, 1) := by decide +kernel
theorem dKM_encrypt_228 : decode c_KM_encrypt 228 = .ok (.getfield 21, 3) := by decide +kernel
theorem dKM_encrypt_231 : decode c_KM_encrypt 231 = .ok (.aload_n 0, 1) := by decide +kernel
theorem dKM_encrypt_232 : decode c_KM_encrypt 232 = .ok (.getfield 30, 3) := by decide +kernel
theorem dKM_encrypt_235 : decode c_KM_encrypt 235 = .ok (.aload_n 0, 1) := by decide +kernel
theorem dKM_encrypt_236 : decode c_KM_encrypt 236 = .ok (.getfield 34, 3) := by decide +kernel
theorem dKM_encrypt_239 : decode c_KM_encrypt 239 = .ok (.aload_n 0, 1) := by decide +kernel
theorem dKM_encrypt_240 : decode c_KM_encrypt 240 = .ok (.getfield 27, 3) := by decide +kernel
theorem dKM_encrypt_243 : decode c_KM_encrypt 243 = .ok (.iload 4, 2) := by decide +kernel
theorem dKM_encrypt_245 : decode c_KM_encrypt 245 = .ok (.aaload, 1) := by decide +kernel
theorem dKM_encrypt_246 : decode c_KM_encrypt 246 = .ok (.invokevirtual 106, 3) := by decide +kernel
theorem dKM_encrypt_249 : decode c_KM_encrypt 249 = .ok (.iinc 4 1, 3) := by decide +kernel
theorem dKM_encrypt_252 : decode c_KM_encrypt 252 = .ok (.goto (-45), 3) := by decide +kernel
theorem dKM_encrypt_255 : decode c_KM_encrypt 255 = .ok (.aload_n 0, 1) := by decide +kernel
theorem dKM_encrypt_256 : decode c_KM_encrypt 256 = .ok (.getfield 21, 3) := by decide +kernel
theorem dKM_encrypt_259 : decode c_KM_encrypt 259 = .ok (.aload_n 0, 1) := by decide +kernel
theorem dKM_encrypt_260 : decode c_KM_encrypt 260 = .ok (.getfield 30, 3) := by decide +kernel
theorem dKM_encrypt_263 : decode c_KM_encrypt 263 = .ok (.invokevirtual 153, 3) := by decide +kernel
theorem dKM_encrypt_266 : decode c_KM_encrypt 266 = .ok (.aload_n 0, 1) := by decide +kernel
theorem dKM_encrypt_267 : decode c_KM_encrypt 267 = .ok (.aload_n 0, 1) := by decide +kernel
theorem dKM_encrypt_268 : decode c_KM_encrypt 268 = .ok (.getfield 34, 3) := by decide +kernel
theorem dKM_encrypt_271 : decode c_KM_encrypt 271 = .ok (.iconst 2, 1) := by decide +kernel
theorem dKM_encrypt_272 : decode c_KM_encrypt 272 = .ok (.iconst 2, 1) := by decide +kernel
theorem dKM_encrypt_273 : decode c_KM_encrypt 273 = .ok (.aload_n 1, 1) := by decide +kernel
theorem dKM_encrypt_274 : decode c_KM_encrypt 274 = .ok (.getfield 61, 3) := by decide +kernel
theorem dKM_encrypt_277 : decode c_KM_encrypt 277 = .ok (.imul, 1) := by decide +kernel
theorem dKM_encrypt_278 : decode c_KM_encrypt 278 = .ok (.invokevirtual 88, 3) := by decide +kernel
theorem dKM_encrypt_281 : decode c_KM_encrypt 281 = .ok (.aload_n 0, 1) := by decide +kernel
theorem dKM_encrypt_282 : decode c_KM_encrypt 282 = .ok (.getfield 21, 3) := by decide +kernel
theorem dKM_encrypt_285 : decode c_KM_encrypt 285 = .ok (.aload_n 0, 1) := by decide +kernel
theorem dKM_encrypt_286 : decode c_KM_encrypt 286 = .ok (.getfield 30, 3) := by decide +kernel
theorem dKM_encrypt_289 : decode c_KM_encrypt 289 = .ok (.aload_n 0, 1) := by decide +kernel
theorem dKM_encrypt_290 : decode c_KM_encrypt 290 = .ok (.getfield 34, 3) := by decide +kernel
theorem dKM_encrypt_293 : decode c_KM_encrypt 293 = .ok (.invokevirtual 156, 3) := by decide +kernel
theorem dKM_encrypt_296 : decode c_KM_encrypt 296 = .ok (.aload_n 0, 1) := by decide +kernel
theorem dKM_encrypt_297 : decode c_KM_encrypt 297 = .ok (.aload_n 0, 1) := by decide +kernel
theorem dKM_encrypt_298 : decode c_KM_encrypt 298 = .ok (.getfield 34, 3) := by decide +kernel
theorem dKM_encrypt_301 : decode c_KM_encrypt 301 = .ok (.iconst 1, 1) := by decide +kernel
theorem dKM_encrypt_302 : decode c_KM_encrypt 302 = .ok (.aload_n 0, 1) := by decide +kernel
theorem dKM_encrypt_303 : decode c_KM_encrypt 303 = .ok (.getfield 37, 3) := by decide +kernel
theorem dKM_encrypt_306 : decode c_KM_encrypt 306 = .ok (.iconst 0, 1) := by decide +kernel
theorem dKM_encrypt_307 : decode c_KM_encrypt 307 = .ok (.invokevirtual 169, 3) := by decide +kernel
theorem dKM_encrypt_310 : decode c_KM_encrypt 310 = .ok (.aload_n 0, 1) := by decide +kernel
theorem dKM_encrypt_311 : decode c_KM_encrypt 311 = .ok (.getfield 21, 3) := by decide +kernel
theorem dKM_encrypt_314 : decode c_KM_encrypt 314 = .ok (.aload_n 0, 1) := by decide +kernel
theorem dKM_encrypt_315 : decode c_KM_encrypt 315 = .ok (.getfield 30, 3) := by decide +kernel
theorem dKM_encrypt_318 : decode c_KM_encrypt 318 = .ok (.aload_n 0, 1) := by decide +kernel
theorem dKM_encrypt_319 : decode c_KM_encrypt 319 = .ok (.getfield 34, 3) := by decide +kernel
theorem dKM_encrypt_322 : decode c_KM_encrypt 322 = .ok (.invokevirtual 156, 3) := by decide +kernel
theorem dKM_encrypt_325 : decode c_KM_encrypt 325 = .ok (.aload_n 0, 1) := by decide +kernel
theorem dKM_encrypt_326 : decode c_KM_encrypt 326 = .ok (.aload_n 0, 1) := by decide +kernel
theorem dKM_encrypt_327 : decode c_KM_encrypt 327 = .ok (.getfield 30, 3) := by decide +kernel
theorem dKM_encrypt_330 : decode c_KM_encrypt 330 = .ok (.aload_n 1, 1) := by decide +kernel
theorem dKM_encrypt_331 : decode c_KM_encrypt 331 = .ok (.getfield 172, 3) := by decide +kernel
theorem dKM_encrypt_334 : decode c_KM_encrypt 334 = .ok (.aload_n 3, 1) := by decide +kernel
theorem dKM_encrypt_335 : decode c_KM_encrypt 335 = .ok (.bipush 32, 2) := by decide +kernel
theorem dKM_encrypt_337 : decode c_KM_encrypt 337 = .ok (.aload_n 1, 1) := by decide +kernel
theorem dKM_encrypt_338 : decode c_KM_encrypt 338 = .ok (.getfield 160, 3) := by decide +kernel
theorem dKM_encrypt_341 : decode c_KM_encrypt 341 = .ok (.imul, 1) := by decide +kernel
theorem dKM_encrypt_342 : decode c_KM_encrypt 342 = .ok (.aload_n 1, 1) := by decide +kernel
theorem dKM_encrypt_343 : decode c_KM_encrypt 343 = .ok (.getfield 61, 3) := by decide +kernel
theorem dKM_encrypt_346 : decode c_KM_encrypt 346 = .ok (.imul, 1) := by decide +kernel
theorem dKM_encrypt_347 : decode c_KM_encrypt 347 = .ok (.invokevirtual 163, 3) := by decide +kernel
theorem dKM_encrypt_350 : decode c_KM_encrypt 350 = .ok (.return_, 1) := by decide +kernel
abbrev c_KM_decrypt : ByteArray := prog_6_method_10_code
abbrev y_KM_decrypt : MethodName := ⟨"LatticeKeys$Kem", "decrypt", "(LLatticeKeys$KemSet;[B[B)V"⟩
abbrev w_KM_decrypt : List Cond := Cond.code y_KM_decrypt c_KM_decrypt 5 none :: WG
theorem dKM_decrypt_0 : decode c_KM_decrypt 0 = .ok (.aload_n 0, 1) := by decide +kernel
theorem dKM_decrypt_1 : decode c_KM_decrypt 1 = .ok (.getfield 30, 3) := by decide +kernel
theorem dKM_decrypt_4 : decode c_KM_decrypt 4 = .ok (.iconst 0, 1) := by decide +kernel
theorem dKM_decrypt_5 : decode c_KM_decrypt 5 = .ok (.invokestatic 147, 3) := by decide +kernel
theorem dKM_decrypt_8 : decode c_KM_decrypt 8 = .ok (.iconst 0, 1) := by decide +kernel
theorem dKM_decrypt_9 : decode c_KM_decrypt 9 = .ok (.istore 4, 2) := by decide +kernel
theorem dKM_decrypt_11 : decode c_KM_decrypt 11 = .ok (.iload 4, 2) := by decide +kernel
theorem dKM_decrypt_13 : decode c_KM_decrypt 13 = .ok (.aload_n 1, 1) := by decide +kernel
theorem dKM_decrypt_14 : decode c_KM_decrypt 14 = .ok (.getfield 61, 3) := by decide +kernel
theorem dKM_decrypt_17 : decode c_KM_decrypt 17 = .ok (.if_icmp .ge 82, 3) := by decide +kernel
theorem dKM_decrypt_20 : decode c_KM_decrypt 20 = .ok (.aload_n 0, 1) := by decide +kernel
theorem dKM_decrypt_21 : decode c_KM_decrypt 21 = .ok (.aload_n 0, 1) := by decide +kernel
theorem dKM_decrypt_22 : decode c_KM_decrypt 22 = .ok (.getfield 27, 3) := by decide +kernel
theorem dKM_decrypt_25 : decode c_KM_decrypt 25 = .ok (.iload 4, 2) := by decide +kernel
theorem dKM_decrypt_27 : decode c_KM_decrypt 27 = .ok (.aaload, 1) := by decide +kernel
theorem dKM_decrypt_28 : decode c_KM_decrypt 28 = .ok (.aload_n 1, 1) := by decide +kernel
theorem dKM_decrypt_29 : decode c_KM_decrypt 29 = .ok (.getfield 160, 3) := by decide +kernel
theorem dKM_decrypt_32 : decode c_KM_decrypt 32 = .ok (.aload_n 3, 1) := by decide +kernel
theorem dKM_decrypt_33 : decode c_KM_decrypt 33 = .ok (.bipush 32, 2) := by decide +kernel
theorem dKM_decrypt_35 : decode c_KM_decrypt 35 = .ok (.aload_n 1, 1) := by decide +kernel
theorem dKM_decrypt_36 : decode c_KM_decrypt 36 = .ok (.getfield 160, 3) := by decide +kernel
theorem dKM_decrypt_39 : decode c_KM_decrypt 39 = .ok (.imul, 1) := by decide +kernel
theorem dKM_decrypt_40 : decode c_KM_decrypt 40 = .ok (.iload 4, 2) := by decide +kernel
theorem dKM_decrypt_42 : decode c_KM_decrypt 42 = .ok (.imul, 1) := by decide +kernel
theorem dKM_decrypt_43 : decode c_KM_decrypt 43 = .ok (.invokevirtual 169, 3) := by decide +kernel
theorem dKM_decrypt_46 : decode c_KM_decrypt 46 = .ok (.aload_n 0, 1) := by decide +kernel
theorem dKM_decrypt_47 : decode c_KM_decrypt 47 = .ok (.getfield 21, 3) := by decide +kernel
theorem dKM_decrypt_50 : decode c_KM_decrypt 50 = .ok (.aload_n 0, 1) := by decide +kernel
theorem dKM_decrypt_51 : decode c_KM_decrypt 51 = .ok (.getfield 27, 3) := by decide +kernel
theorem dKM_decrypt_54 : decode c_KM_decrypt 54 = .ok (.iload 4, 2) := by decide +kernel
theorem dKM_decrypt_56 : decode c_KM_decrypt 56 = .ok (.aaload, 1) := by decide +kernel
theorem dKM_decrypt_57 : decode c_KM_decrypt 57 = .ok (.invokevirtual 92, 3) := by decide +kernel
theorem dKM_decrypt_60 : decode c_KM_decrypt 60 = .ok (.aload_n 0, 1) := by decide +kernel
theorem dKM_decrypt_61 : decode c_KM_decrypt 61 = .ok (.aload_n 2, 1) := by decide +kernel
theorem dKM_decrypt_62 : decode c_KM_decrypt 62 = .ok (.sipush 384, 3) := by decide +kernel
theorem dKM_decrypt_65 : decode c_KM_decrypt 65 = .ok (.iload 4, 2) := by decide +kernel
theorem dKM_decrypt_67 : decode c_KM_decrypt 67 = .ok (.imul, 1) := by decide +kernel
theorem dKM_decrypt_68 : decode c_KM_decrypt 68 = .ok (.invokevirtual 166, 3) := by decide +kernel
theorem dKM_decrypt_71 : decode c_KM_decrypt 71 = .ok (.aload_n 0, 1) := by decide +kernel
theorem dKM_decrypt_72 : decode c_KM_decrypt 72 = .ok (.getfield 21, 3) := by decide +kernel
theorem dKM_decrypt_75 : decode c_KM_decrypt 75 = .ok (.aload_n 0, 1) := by decide +kernel
theorem dKM_decrypt_76 : decode c_KM_decrypt 76 = .ok (.getfield 30, 3) := by decide +kernel
theorem dKM_decrypt_79 : decode c_KM_decrypt 79 = .ok (.aload_n 0, 1) := by decide +kernel
theorem dKM_decrypt_80 : decode c_KM_decrypt 80 = .ok (.getfield 34, 3) := by decide +kernel
theorem dKM_decrypt_83 : decode c_KM_decrypt 83 = .ok (.aload_n 0, 1) := by decide +kernel
theorem dKM_decrypt_84 : decode c_KM_decrypt 84 = .ok (.getfield 27, 3) := by decide +kernel
theorem dKM_decrypt_87 : decode c_KM_decrypt 87 = .ok (.iload 4, 2) := by decide +kernel
theorem dKM_decrypt_89 : decode c_KM_decrypt 89 = .ok (.aaload, 1) := by decide +kernel
theorem dKM_decrypt_90 : decode c_KM_decrypt 90 = .ok (.invokevirtual 106, 3) := by decide +kernel
theorem dKM_decrypt_93 : decode c_KM_decrypt 93 = .ok (.iinc 4 1, 3) := by decide +kernel
theorem dKM_decrypt_96 : decode c_KM_decrypt 96 = .ok (.goto (-85), 3) := by decide +kernel
theorem dKM_decrypt_99 : decode c_KM_decrypt 99 = .ok (.aload_n 0, 1) := by decide +kernel
theorem dKM_decrypt_100 : decode c_KM_decrypt 100 = .ok (.getfield 21, 3) := by decide +kernel
theorem dKM_decrypt_103 : decode c_KM_decrypt 103 = .ok (.aload_n 0, 1) := by decide +kernel
theorem dKM_decrypt_104 : decode c_KM_decrypt 104 = .ok (.getfield 30, 3) := by decide +kernel
theorem dKM_decrypt_107 : decode c_KM_decrypt 107 = .ok (.invokevirtual 153, 3) := by decide +kernel
theorem dKM_decrypt_110 : decode c_KM_decrypt 110 = .ok (.aload_n 0, 1) := by decide +kernel
theorem dKM_decrypt_111 : decode c_KM_decrypt 111 = .ok (.aload_n 0, 1) := by decide +kernel
theorem dKM_decrypt_112 : decode c_KM_decrypt 112 = .ok (.getfield 34, 3) := by decide +kernel
theorem dKM_decrypt_115 : decode c_KM_decrypt 115 = .ok (.aload_n 1, 1) := by decide +kernel
theorem dKM_decrypt_116 : decode c_KM_decrypt 116 = .ok (.getfield 172, 3) := by decide +kernel
theorem dKM_decrypt_119 : decode c_KM_decrypt 119 = .ok (.aload_n 3, 1) := by decide +kernel
theorem dKM_decrypt_120 : decode c_KM_decrypt 120 = .ok (.bipush 32, 2) := by decide +kernel
theorem dKM_decrypt_122 : decode c_KM_decrypt 122 = .ok (.aload_n 1, 1) := by decide +kernel
theorem dKM_decrypt_123 : decode c_KM_decrypt 123 = .ok (.getfield 160, 3) := by decide +kernel
theorem dKM_decrypt_126 : decode c_KM_decrypt 126 = .ok (.imul, 1) := by decide +kernel
theorem dKM_decrypt_127 : decode c_KM_decrypt 127 = .ok (.aload_n 1, 1) := by decide +kernel
theorem dKM_decrypt_128 : decode c_KM_decrypt 128 = .ok (.getfield 61, 3) := by decide +kernel
theorem dKM_decrypt_131 : decode c_KM_decrypt 131 = .ok (.imul, 1) := by decide +kernel
theorem dKM_decrypt_132 : decode c_KM_decrypt 132 = .ok (.invokevirtual 169, 3) := by decide +kernel
theorem dKM_decrypt_135 : decode c_KM_decrypt 135 = .ok (.aload_n 0, 1) := by decide +kernel
theorem dKM_decrypt_136 : decode c_KM_decrypt 136 = .ok (.getfield 21, 3) := by decide +kernel
theorem dKM_decrypt_139 : decode c_KM_decrypt 139 = .ok (.aload_n 0, 1) := by decide +kernel
theorem dKM_decrypt_140 : decode c_KM_decrypt 140 = .ok (.getfield 34, 3) := by decide +kernel
theorem dKM_decrypt_143 : decode c_KM_decrypt 143 = .ok (.aload_n 0, 1) := by decide +kernel
theorem dKM_decrypt_144 : decode c_KM_decrypt 144 = .ok (.getfield 30, 3) := by decide +kernel
theorem dKM_decrypt_147 : decode c_KM_decrypt 147 = .ok (.invokevirtual 175, 3) := by decide +kernel
theorem dKM_decrypt_150 : decode c_KM_decrypt 150 = .ok (.aload_n 0, 1) := by decide +kernel
theorem dKM_decrypt_151 : decode c_KM_decrypt 151 = .ok (.aload_n 0, 1) := by decide +kernel
theorem dKM_decrypt_152 : decode c_KM_decrypt 152 = .ok (.getfield 34, 3) := by decide +kernel
theorem dKM_decrypt_155 : decode c_KM_decrypt 155 = .ok (.iconst 1, 1) := by decide +kernel
theorem dKM_decrypt_156 : decode c_KM_decrypt 156 = .ok (.aload_n 0, 1) := by decide +kernel
theorem dKM_decrypt_157 : decode c_KM_decrypt 157 = .ok (.getfield 37, 3) := by decide +kernel
theorem dKM_decrypt_160 : decode c_KM_decrypt 160 = .ok (.iconst 0, 1) := by decide +kernel
theorem dKM_decrypt_161 : decode c_KM_decrypt 161 = .ok (.invokevirtual 163, 3) := by decide +kernel
theorem dKM_decrypt_164 : decode c_KM_decrypt 164 = .ok (.return_, 1) := by decide +kernel
def M_KM_encrypt_0 (pt : Nat) (k : Nat) : Prop := (26 ≤ k ∧ k < 30) ∨ k = 14 ∨ k = 30 ∨ k = 31 ∨ k = 35 ∨ k = pt ∨ (0 : Nat) = 1
noncomputable def F_KM_encrypt_0_L3 (pp : Nat) (pt : Nat) (n : Nat) (i22 : Nat) (kk : Nat → Sto → Sto) : Nat → Nat → Sto → Sto
  | 0, i24, s34 => bnd (F_RG_restore_7 30 s34) fun s35 => bnd (F_KM_sampleNoise_2 31 (nI (2 + i22)) s35) fun s36 => bnd (F_RG_add_7 30 31 s36) fun s37 => bnd (F_KM_writeRounded 30 10 pt n (320 * i22) s37) fun s38 => kk (i22 + 1) s38
  | n24 + 1, i24, s34 => bnd (F_KM_sampleEntry pp 800 768 (nI i22) (nI i24) s34) fun s39 => bnd (F_RG_addProduct_7 30 31 (26 + i24) s39) fun s40 => F_KM_encrypt_0_L3 pp pt n i22 kk n24 (i24 + 1) s40
noncomputable def F_KM_encrypt_0_L2 (pp : Nat) (pt : Nat) (n : Nat) : Nat → Nat → Sto → Sto
  | 0, i23, s24 => bnd (F_RG_restore_7 30 s24) fun s25 => bnd (F_KM_sampleNoise_2 31 (nI 4) s25) fun s26 => bnd (F_RG_add_7 30 31 s26) fun s27 => bnd (F_KM_readRounded 31 1 32 32 0 s27) fun s28 => bnd (F_RG_add_7 30 31 s28) fun s29 => bnd (F_KM_writeRounded 30 4 pt n 640 s29) fun s30 => s30
  | n23 + 1, i23, s24 => bnd (F_KM_readReduced pp 800 (384 * i23) s24) fun s31 => bnd (F_RG_addProduct_7 30 31 (26 + i23) s31) fun s32 => F_KM_encrypt_0_L2 pp pt n n23 (i23 + 1) s32
noncomputable def F_KM_encrypt_0_L1 (pp : Nat) (pt : Nat) (n : Nat) : Nat → Nat → Sto → Sto
  | 0, i22, s22 => bnd (F_AR_fillI 30 256 (nI 0) s22) fun s23 => F_KM_encrypt_0_L2 pp pt n 2 0 s23
  | n22 + 1, i22, s22 => bnd (F_AR_fillI 30 256 (nI 0) s22) fun s33 => F_KM_encrypt_0_L3 pp pt n i22 (F_KM_encrypt_0_L1 pp pt n n22) 2 0 s33
noncomputable def F_KM_encrypt_0_L0 (pp : Nat) (pt : Nat) (n : Nat) : Nat → Nat → Sto → Sto
  | 0, i21, s21 => F_KM_encrypt_0_L1 pp pt n 2 0 s21
  | n21 + 1, i21, s21 => bnd (F_KM_sampleNoise_3 (26 + i21) (nI i21) s21) fun s41 => bnd (F_RG_transform_7 (26 + i21) s41) fun s42 => F_KM_encrypt_0_L0 pp pt n n21 (i21 + 1) s42
noncomputable def F_KM_encrypt_0 (pp : Nat) (pt : Nat) (n : Nat) (s : Sto) : Sto := F_KM_encrypt_0_L0 pp pt n 2 0 s
set_option maxHeartbeats 400000 in
set_option maxRecDepth 100000 in
theorem N_KM_encrypt_0 (l : Launch) (g : Gd) (sz : Nat) (T : TyN) (s : Sto) (pl : va_W) (hO : okn g T s pl) (hU : inj T) (h0 st pk to : Nat) (pp : Nat) (pt : Nat) (n : Nat) (k_h0 : T h0 = some 24) (k_st : T st = some 5) (k_pk : T pk = some pp) (n_pk : nsp pp = (1, 800, [])) (k_to : T to = some pt) (n_to : nsp pt = (1, n, [])) (h1 : 768 ≤ n) (h2 : n < 65536)  : Met l y_KM_encrypt w_KM_encrypt ({ frames := 4, cells := 0, slots := 0, locals := 131 } : Room) (va_Pc [.ref h0, .ref st, .ref pk, .ref to] (pr (en g) g.1 vcl sz ([] ++ pl))) (va_Qv (fun (u : (Sto) × va_W) => (u.1 = F_KM_encrypt_0 pp pt n s ∧ frm (M_KM_encrypt_0 pt) s u.1 ∧ True) ∧ okn g T u.1 u.2) (po g.1 vcl (va_A ([] ++ pl) sz) (fun (u : (Sto) × va_W) => [] ++ u.2)) (va_A ([] ++ pl) sz)) 0 0 (va_A ([] ++ pl) sz) := by
  refine mc_entry (cc := c_KM_encrypt) (maxL := 6) (ret := none) (by decide) rfl (Nat.le_of_ble_eq_true rfl) ?_
  intro p e s0 m args below meth c ls F hr hlk hnm hsz hP hD hE hA hl
  obtain ⟨hx, hb, hml, hown, hts⟩ := id F
  have hK := hE.1
  generalize va_A ([] ++ pl) sz = A at hD hE hA ⊢
  have hS : va_S A s0.heap s0.heap [] := va_S.rf
  have hl : lv_has ls 6 [(0, .ref h0), (1, .ref st), (2, .ref pk), (3, .ref to)] := hl
  have hR : F_KM_encrypt_0 pp pt n s = F_KM_encrypt_0 pp pt n s := rfl
  have hF : frm (M_KM_encrypt_0 pt) s s := frm_rf
  refine lv_iconst (v := nI 0) hx hb dKM_encrypt_0 (by decide) ?_
  refine lv_istore (lv' := [(4, .int (nI 0)), (0, .ref h0), (1, .ref st), (2, .ref pk), (3, .ref to)]) hx hb dKM_encrypt_1 hl (by decide) rfl (fun ls hl => ?_)
  have lp21 : ∀ (n21 : Nat) (i21 : Nat) (s21 : Sto) (pl : va_W) (ls : Array Slot) (H : Heap) (locs : List Loc), n21 + i21 = 2 → frm (M_KM_encrypt_0 pt) s s21 → F_KM_encrypt_0 pp pt n s = F_KM_encrypt_0_L0 pp pt n n21 i21 s21 → lv_has ls 6 [(4, .int (nI i21)), (0, .ref h0), (1, .ref st), (2, .ref pk), (3, .ref to)] → okn g T s21 pl → va_P g.1 vcl ([] ++ pl) H → va_D A ([] ++ pl) → va_S A s0.heap H locs → W p l e ({ frames := 4, cells := 0, slots := 0, locals := 131 } : Room) s0 m args below meth c H locs 0 0 (MQ below (va_Qv (fun (u : (Sto) × va_W) => (u.1 = F_KM_encrypt_0 pp pt n s ∧ frm (M_KM_encrypt_0 pt) s u.1 ∧ True) ∧ okn g T u.1 u.2) (po g.1 vcl A (fun (u : (Sto) × va_W) => [] ++ u.2)) A) args s0 0 0 A) (F0 m 3 ls []) := by
    intro n21
    induction n21 with
    | zero =>
      intro i21 s21 pl ls H locs hm21 hF hR hl hO hP hD hS
      refine lv_iload hx hb dKM_encrypt_3 (lv_at hl 0 rfl) ?_
      refine lv_aload_n hx hb dKM_encrypt_5 rfl (lv_at hl 2 rfl) ?_
      refine nw_get (C := "LatticeKeys$KemSet") (TT := T_KS) (N := 10) hx hb hts (wg_ft i_KS) hown hK hO k_st (kn := 5) (ci := 1) (fl := [(1, 2), (1, 3), (1, 10), (1, 4), (1, 800), (1, 1632), (1, 768), (1, 768), (1, 1568), (1, 1600)]) rfl hP rfl 0 (by decide) (hts _ (wg_t kw_231)) (fun _ h9 => h9) (cd := (1, 2)) rfl dKM_encrypt_6 (fun v21 hv21 => ?_)
      obtain rfl := (show v21 = .int (nI 2) from hv21)
      refine mi_ge (tgt := 49) hx hb dKM_encrypt_9 (by decide) (by omega) (by omega) (fun h21 => ?_) (fun h21 => absurd h21 (by omega))
      refine lv_iconst (v := nI 0) hx hb dKM_encrypt_49 (by decide) ?_
      refine lv_istore (lv' := [(4, .int (nI 0)), (0, .ref h0), (1, .ref st), (2, .ref pk), (3, .ref to)]) hx hb dKM_encrypt_50 hl (by decide) rfl (fun ls hl => ?_)
      have lp22 : ∀ (n22 : Nat) (i22 : Nat) (s22 : Sto) (pl : va_W) (ls : Array Slot) (H : Heap) (locs : List Loc), n22 + i22 = 2 → frm (M_KM_encrypt_0 pt) s s22 → F_KM_encrypt_0 pp pt n s = F_KM_encrypt_0_L1 pp pt n n22 i22 s22 → lv_has ls 6 [(4, .int (nI i22)), (0, .ref h0), (1, .ref st), (2, .ref pk), (3, .ref to)] → okn g T s22 pl → va_P g.1 vcl ([] ++ pl) H → va_D A ([] ++ pl) → va_S A s0.heap H locs → W p l e ({ frames := 4, cells := 0, slots := 0, locals := 131 } : Room) s0 m args below meth c H locs 0 0 (MQ below (va_Qv (fun (u : (Sto) × va_W) => (u.1 = F_KM_encrypt_0 pp pt n s ∧ frm (M_KM_encrypt_0 pt) s u.1 ∧ True) ∧ okn g T u.1 u.2) (po g.1 vcl A (fun (u : (Sto) × va_W) => [] ++ u.2)) A) args s0 0 0 A) (F0 m 52 ls []) := by
        intro n22
        induction n22 with
        | zero =>
          intro i22 s22 pl ls H locs hm22 hF hR hl hO hP hD hS
          refine lv_iload hx hb dKM_encrypt_52 (lv_at hl 0 rfl) ?_
          refine lv_aload_n hx hb dKM_encrypt_54 rfl (lv_at hl 2 rfl) ?_
          refine nw_get (C := "LatticeKeys$KemSet") (TT := T_KS) (N := 10) hx hb hts (wg_ft i_KS) hown hK hO k_st (kn := 5) (ci := 1) (fl := [(1, 2), (1, 3), (1, 10), (1, 4), (1, 800), (1, 1632), (1, 768), (1, 768), (1, 1568), (1, 1600)]) rfl hP rfl 0 (by decide) (hts _ (wg_t kw_231)) (fun _ h9 => h9) (cd := (1, 2)) rfl dKM_encrypt_55 (fun v22 hv22 => ?_)
          obtain rfl := (show v22 = .int (nI 2) from hv22)
          refine mi_ge (tgt := 196) hx hb dKM_encrypt_58 (by decide) (by omega) (by omega) (fun h22 => ?_) (fun h22 => absurd h22 (by omega))
          refine lv_aload_n hx hb dKM_encrypt_196 rfl (lv_at hl 1 rfl) ?_
          refine nw_get (C := "LatticeKeys$Kem") (TT := T_KM) (N := 10) hx hb hts (wg_ft i_KM) hown hK hO k_h0 (kn := 24) (ci := 5) (fl := [(3, 14), (3, 20), (3, 25), (3, 30), (3, 31), (3, 32), (3, 33), (3, 34), (3, 35), (3, 36)]) rfl hP rfl 3 (by decide) (hts _ (wg_t kw_110)) (fun _ h9 => h9) (cd := (3, 30)) rfl dKM_encrypt_197 (fun v23 hv23 => ?_)
          obtain ⟨r21, rfl, kr21⟩ := (show ∃ r : Nat, v23 = .ref r ∧ T r = some 30 from hv23)
          refine lv_iconst (v := nI 0) hx hb dKM_encrypt_200 (by decide) ?_
          refine mp_v (cx := []) (wr := []) hP hD hS hA [] [] rfl rfl rfl (by decide) (va_runS (As := [.ref r21, .int (nI 0)]) (rest := []) F (N_AR_fillI l g _ T s22 pl hO hU r21 30 256 (nI 0) kr21 rfl (by omega)) (va_cwS 2 hts (wg_app (wg_c kw_1122 (wg_c kw_717 (wg_c kw_21 wg_n))) kw_718) rfl rfl rfl (by decide +kernel) ⟨by decide, by decide⟩) (pp_S (en_ok g) hP hD hS hA hE [] rfl rfl) rfl rfl hl.1 rfl (lv_room (Nat.le_of_ble_eq_true rfl)) dKM_encrypt_201 ⟨by omega, by omega⟩) (fun  u21 H locs hu21 hP hD hS => ?_)
          obtain ⟨s23, pl⟩ := u21
          obtain ⟨⟨eq21, hFc21, -⟩, hO⟩ := hu21
          have hO : okn g T s23 pl := hO
          have hP : va_P g.1 vcl ([] ++ pl) _ := hP
          have hD : va_D _ ([] ++ pl) := hD
          have hFc21 : frm (M_AR_fillI 30) s22 s23 := hFc21
          replace hR := bnd_step hR eq21
          have hF := frm_tr hF hFc21 (fun k hk => by unfold M_AR_fillI at hk; unfold M_KM_encrypt_0; omega)
          refine W.widen (k := 0) (n := 0) (by omega) (by omega) ?_
          refine lv_iconst (v := nI 0) hx hb dKM_encrypt_204 (by decide) ?_
          refine lv_istore (lv' := [(4, .int (nI 0)), (0, .ref h0), (1, .ref st), (2, .ref pk), (3, .ref to)]) hx hb dKM_encrypt_205 hl (by decide) rfl (fun ls hl => ?_)
          have lp23 : ∀ (n23 : Nat) (i23 : Nat) (s24 : Sto) (pl : va_W) (ls : Array Slot) (H : Heap) (locs : List Loc), n23 + i23 = 2 → frm (M_KM_encrypt_0 pt) s s24 → F_KM_encrypt_0 pp pt n s = F_KM_encrypt_0_L2 pp pt n n23 i23 s24 → lv_has ls 6 [(4, .int (nI i23)), (0, .ref h0), (1, .ref st), (2, .ref pk), (3, .ref to)] → okn g T s24 pl → va_P g.1 vcl ([] ++ pl) H → va_D A ([] ++ pl) → va_S A s0.heap H locs → W p l e ({ frames := 4, cells := 0, slots := 0, locals := 131 } : Room) s0 m args below meth c H locs 0 0 (MQ below (va_Qv (fun (u : (Sto) × va_W) => (u.1 = F_KM_encrypt_0 pp pt n s ∧ frm (M_KM_encrypt_0 pt) s u.1 ∧ True) ∧ okn g T u.1 u.2) (po g.1 vcl A (fun (u : (Sto) × va_W) => [] ++ u.2)) A) args s0 0 0 A) (F0 m 207 ls []) := by
            intro n23
            induction n23 with
            | zero =>
              intro i23 s24 pl ls H locs hm23 hF hR hl hO hP hD hS
              refine lv_iload hx hb dKM_encrypt_207 (lv_at hl 0 rfl) ?_
              refine lv_aload_n hx hb dKM_encrypt_209 rfl (lv_at hl 2 rfl) ?_
              refine nw_get (C := "LatticeKeys$KemSet") (TT := T_KS) (N := 10) hx hb hts (wg_ft i_KS) hown hK hO k_st (kn := 5) (ci := 1) (fl := [(1, 2), (1, 3), (1, 10), (1, 4), (1, 800), (1, 1632), (1, 768), (1, 768), (1, 1568), (1, 1600)]) rfl hP rfl 0 (by decide) (hts _ (wg_t kw_231)) (fun _ h9 => h9) (cd := (1, 2)) rfl dKM_encrypt_210 (fun v24 hv24 => ?_)
              obtain rfl := (show v24 = .int (nI 2) from hv24)
              refine mi_ge (tgt := 255) hx hb dKM_encrypt_213 (by decide) (by omega) (by omega) (fun h23 => ?_) (fun h23 => absurd h23 (by omega))
              refine lv_aload_n hx hb dKM_encrypt_255 rfl (lv_at hl 1 rfl) ?_
              refine nw_get (C := "LatticeKeys$Kem") (TT := T_KM) (N := 10) hx hb hts (wg_ft i_KM) hown hK hO k_h0 (kn := 24) (ci := 5) (fl := [(3, 14), (3, 20), (3, 25), (3, 30), (3, 31), (3, 32), (3, 33), (3, 34), (3, 35), (3, 36)]) rfl hP rfl 1 (by decide) (hts _ (wg_t kw_108)) (fun _ h9 => h9) (cd := (3, 20)) rfl dKM_encrypt_256 (fun v25 hv25 => ?_)
              obtain ⟨r22, rfl, kr22⟩ := (show ∃ r : Nat, v25 = .ref r ∧ T r = some 20 from hv25)
              refine lv_aload_n hx hb dKM_encrypt_259 rfl (lv_at hl 1 rfl) ?_
              refine nw_get (C := "LatticeKeys$Kem") (TT := T_KM) (N := 10) hx hb hts (wg_ft i_KM) hown hK hO k_h0 (kn := 24) (ci := 5) (fl := [(3, 14), (3, 20), (3, 25), (3, 30), (3, 31), (3, 32), (3, 33), (3, 34), (3, 35), (3, 36)]) rfl hP rfl 3 (by decide) (hts _ (wg_t kw_110)) (fun _ h9 => h9) (cd := (3, 30)) rfl dKM_encrypt_260 (fun v26 hv26 => ?_)
              obtain ⟨r23, rfl, kr23⟩ := (show ∃ r : Nat, v26 = .ref r ∧ T r = some 30 from hv26)
              refine mp_v (cx := []) (wr := []) hP hD hS hA [] [] rfl rfl rfl (by decide) (va_runV (As := [.ref r23]) (rest := []) F (N_RG_restore_7 l g _ T s24 pl hO hU r22 r23 30 kr22 kr23 rfl) (cwV 1 hts (wg_app (wg_c kw_1123 (wg_c kw_721 (wg_c kw_722 (wg_c kw_4 wg_n)))) kw_723) rfl rfl rfl (by decide +kernel) ⟨by decide, by decide⟩) (pn_W "LatticeKeys$Ring" (en_ok g) (ci := 4) (kn := 20) (fl := [(1, 3329), (1, 7), (1, 3303), (3, 21)]) hK hO kr22 rfl hP hD hS hA hE [] rfl rfl rfl) rfl rfl hl.1 rfl (lv_room (Nat.le_of_ble_eq_true rfl)) dKM_encrypt_263 ⟨by omega, by omega⟩) (fun  u22 H locs hu22 hP hD hS => ?_)
              obtain ⟨s25, pl⟩ := u22
              obtain ⟨⟨eq22, hFc22, -⟩, hO⟩ := hu22
              have hO : okn g T s25 pl := hO
              have hP : va_P g.1 vcl ([] ++ pl) _ := hP
              have hD : va_D _ ([] ++ pl) := hD
              have hFc22 : frm (M_RG_restore_7 30) s24 s25 := hFc22
              replace hR := bnd_step hR eq22
              have hF := frm_tr hF hFc22 (fun k hk => by unfold M_RG_restore_7 at hk; unfold M_KM_encrypt_0; omega)
              refine W.widen (k := 0) (n := 0) (by omega) (by omega) ?_
              refine lv_aload_n hx hb dKM_encrypt_266 rfl (lv_at hl 1 rfl) ?_
              refine lv_aload_n hx hb dKM_encrypt_267 rfl (lv_at hl 1 rfl) ?_
              refine nw_get (C := "LatticeKeys$Kem") (TT := T_KM) (N := 10) hx hb hts (wg_ft i_KM) hown hK hO k_h0 (kn := 24) (ci := 5) (fl := [(3, 14), (3, 20), (3, 25), (3, 30), (3, 31), (3, 32), (3, 33), (3, 34), (3, 35), (3, 36)]) rfl hP rfl 4 (by decide) (hts _ (wg_t kw_111)) (fun _ h9 => h9) (cd := (3, 31)) rfl dKM_encrypt_268 (fun v27 hv27 => ?_)
              obtain ⟨r24, rfl, kr24⟩ := (show ∃ r : Nat, v27 = .ref r ∧ T r = some 31 from hv27)
              refine lv_iconst (v := nI 2) hx hb dKM_encrypt_271 (by decide) ?_
              refine lv_iconst (v := nI 2) hx hb dKM_encrypt_272 (by decide) ?_
              refine lv_aload_n hx hb dKM_encrypt_273 rfl (lv_at hl 2 rfl) ?_
              refine nw_get (C := "LatticeKeys$KemSet") (TT := T_KS) (N := 10) hx hb hts (wg_ft i_KS) hown hK hO k_st (kn := 5) (ci := 1) (fl := [(1, 2), (1, 3), (1, 10), (1, 4), (1, 800), (1, 1632), (1, 768), (1, 768), (1, 1568), (1, 1600)]) rfl hP rfl 0 (by decide) (hts _ (wg_t kw_231)) (fun _ h9 => h9) (cd := (1, 2)) rfl dKM_encrypt_274 (fun v28 hv28 => ?_)
              obtain rfl := (show v28 = .int (nI 2) from hv28)
              refine mi_imul hx hb dKM_encrypt_277 ?_
              refine mi_as (show nI (2 * 2) = nI 4 from rfl) ?_
              refine mp_v (cx := []) (wr := []) hP hD hS hA [] [] rfl rfl rfl (by decide) (va_runV (As := [.ref r24, .int (nI 2), .int (nI 4)]) (rest := []) F (N_KM_sampleNoise_2 l g _ T s25 pl hO hU h0 r24 31 (nI 4) k_h0 kr24 rfl) (cwV 3 hts (wg_app (wg_c kw_623 (wg_c kw_625 (wg_c ks_6 (wg_c kw_3 wg_n)))) kw_626) rfl rfl rfl (by decide +kernel) ⟨by decide, by decide⟩) (pn_W "LatticeKeys$Kem" (en_ok g) (ci := 5) (kn := 24) (fl := [(3, 14), (3, 20), (3, 25), (3, 30), (3, 31), (3, 32), (3, 33), (3, 34), (3, 35), (3, 36)]) hK hO k_h0 rfl hP hD hS hA hE [] rfl rfl rfl) rfl rfl hl.1 rfl (lv_room (Nat.le_of_ble_eq_true rfl)) dKM_encrypt_278 ⟨by omega, by omega⟩) (fun  u23 H locs hu23 hP hD hS => ?_)
              obtain ⟨s26, pl⟩ := u23
              obtain ⟨⟨eq23, hFc23, -⟩, hO⟩ := hu23
              have hO : okn g T s26 pl := hO
              have hP : va_P g.1 vcl ([] ++ pl) _ := hP
              have hD : va_D _ ([] ++ pl) := hD
              have hFc23 : frm (M_KM_sampleNoise_2 31) s25 s26 := hFc23
              replace hR := bnd_step hR eq23
              have hF := frm_tr hF hFc23 (fun k hk => by unfold M_KM_sampleNoise_2 at hk; unfold M_KM_encrypt_0; omega)
              refine W.widen (k := 0) (n := 0) (by omega) (by omega) ?_
              refine lv_aload_n hx hb dKM_encrypt_281 rfl (lv_at hl 1 rfl) ?_
              refine nw_get (C := "LatticeKeys$Kem") (TT := T_KM) (N := 10) hx hb hts (wg_ft i_KM) hown hK hO k_h0 (kn := 24) (ci := 5) (fl := [(3, 14), (3, 20), (3, 25), (3, 30), (3, 31), (3, 32), (3, 33), (3, 34), (3, 35), (3, 36)]) rfl hP rfl 1 (by decide) (hts _ (wg_t kw_108)) (fun _ h9 => h9) (cd := (3, 20)) rfl dKM_encrypt_282 (fun v29 hv29 => ?_)
              obtain ⟨r25, rfl, kr25⟩ := (show ∃ r : Nat, v29 = .ref r ∧ T r = some 20 from hv29)
              refine lv_aload_n hx hb dKM_encrypt_285 rfl (lv_at hl 1 rfl) ?_
              refine nw_get (C := "LatticeKeys$Kem") (TT := T_KM) (N := 10) hx hb hts (wg_ft i_KM) hown hK hO k_h0 (kn := 24) (ci := 5) (fl := [(3, 14), (3, 20), (3, 25), (3, 30), (3, 31), (3, 32), (3, 33), (3, 34), (3, 35), (3, 36)]) rfl hP rfl 3 (by decide) (hts _ (wg_t kw_110)) (fun _ h9 => h9) (cd := (3, 30)) rfl dKM_encrypt_286 (fun v30 hv30 => ?_)
              obtain ⟨r26, rfl, kr26⟩ := (show ∃ r : Nat, v30 = .ref r ∧ T r = some 30 from hv30)
              refine lv_aload_n hx hb dKM_encrypt_289 rfl (lv_at hl 1 rfl) ?_
              refine nw_get (C := "LatticeKeys$Kem") (TT := T_KM) (N := 10) hx hb hts (wg_ft i_KM) hown hK hO k_h0 (kn := 24) (ci := 5) (fl := [(3, 14), (3, 20), (3, 25), (3, 30), (3, 31), (3, 32), (3, 33), (3, 34), (3, 35), (3, 36)]) rfl hP rfl 4 (by decide) (hts _ (wg_t kw_111)) (fun _ h9 => h9) (cd := (3, 31)) rfl dKM_encrypt_290 (fun v31 hv31 => ?_)
              obtain ⟨r27, rfl, kr27⟩ := (show ∃ r : Nat, v31 = .ref r ∧ T r = some 31 from hv31)
              refine mp_v (cx := []) (wr := []) hP hD hS hA [] [] rfl rfl rfl (by decide) (va_runV (As := [.ref r26, .ref r27]) (rest := []) F (N_RG_add_7 l g _ T s26 pl hO hU r25 r26 r27 30 31 kr25 kr26 rfl kr27 rfl) (cwV 2 hts (wg_app (wg_c kw_1124 (wg_c kw_729 (wg_c kw_730 (wg_c kw_4 wg_n)))) kw_731) rfl rfl rfl (by decide +kernel) ⟨by decide, by decide⟩) (pn_W "LatticeKeys$Ring" (en_ok g) (ci := 4) (kn := 20) (fl := [(1, 3329), (1, 7), (1, 3303), (3, 21)]) hK hO kr25 rfl hP hD hS hA hE [] rfl rfl rfl) rfl rfl hl.1 rfl (lv_room (Nat.le_of_ble_eq_true rfl)) dKM_encrypt_293 ⟨by omega, by omega⟩) (fun  u24 H locs hu24 hP hD hS => ?_)
              obtain ⟨s27, pl⟩ := u24
              obtain ⟨⟨eq24, hFc24, -⟩, hO⟩ := hu24
              have hO : okn g T s27 pl := hO
              have hP : va_P g.1 vcl ([] ++ pl) _ := hP
              have hD : va_D _ ([] ++ pl) := hD
              have hFc24 : frm (M_RG_add_7 30) s26 s27 := hFc24
              replace hR := bnd_step hR eq24
              have hF := frm_tr hF hFc24 (fun k hk => by unfold M_RG_add_7 at hk; unfold M_KM_encrypt_0; omega)
              refine W.widen (k := 0) (n := 0) (by omega) (by omega) ?_
              refine lv_aload_n hx hb dKM_encrypt_296 rfl (lv_at hl 1 rfl) ?_
              refine lv_aload_n hx hb dKM_encrypt_297 rfl (lv_at hl 1 rfl) ?_
              refine nw_get (C := "LatticeKeys$Kem") (TT := T_KM) (N := 10) hx hb hts (wg_ft i_KM) hown hK hO k_h0 (kn := 24) (ci := 5) (fl := [(3, 14), (3, 20), (3, 25), (3, 30), (3, 31), (3, 32), (3, 33), (3, 34), (3, 35), (3, 36)]) rfl hP rfl 4 (by decide) (hts _ (wg_t kw_111)) (fun _ h9 => h9) (cd := (3, 31)) rfl dKM_encrypt_298 (fun v32 hv32 => ?_)
              obtain ⟨r28, rfl, kr28⟩ := (show ∃ r : Nat, v32 = .ref r ∧ T r = some 31 from hv32)
              refine lv_iconst (v := nI 1) hx hb dKM_encrypt_301 (by decide) ?_
              refine lv_aload_n hx hb dKM_encrypt_302 rfl (lv_at hl 1 rfl) ?_
              refine nw_get (C := "LatticeKeys$Kem") (TT := T_KM) (N := 10) hx hb hts (wg_ft i_KM) hown hK hO k_h0 (kn := 24) (ci := 5) (fl := [(3, 14), (3, 20), (3, 25), (3, 30), (3, 31), (3, 32), (3, 33), (3, 34), (3, 35), (3, 36)]) rfl hP rfl 5 (by decide) (hts _ (wg_t kw_112)) (fun _ h9 => h9) (cd := (3, 32)) rfl dKM_encrypt_303 (fun v33 hv33 => ?_)
              obtain ⟨r29, rfl, kr29⟩ := (show ∃ r : Nat, v33 = .ref r ∧ T r = some 32 from hv33)
              refine lv_iconst (v := nI 0) hx hb dKM_encrypt_306 (by decide) ?_
              refine mp_v (cx := []) (wr := []) hP hD hS hA [] [] rfl rfl rfl (by decide) (va_runV (As := [.ref r28, .int (nI 1), .ref r29, .int (nI 0)]) (rest := []) F (N_KM_readRounded l g _ T s27 pl hO hU h0 r28 r29 31 1 32 32 0 k_h0 kr28 rfl kr29 rfl (by omega) (by omega) (by omega) (by omega)) (cwV 4 hts (wg_app (wg_c kw_1133 (wg_c kw_1135 (wg_c ks_30 (wg_c kw_3 wg_n)))) kw_1136) rfl rfl rfl (by decide +kernel) ⟨by decide, by decide⟩) (pn_W "LatticeKeys$Kem" (en_ok g) (ci := 5) (kn := 24) (fl := [(3, 14), (3, 20), (3, 25), (3, 30), (3, 31), (3, 32), (3, 33), (3, 34), (3, 35), (3, 36)]) hK hO k_h0 rfl hP hD hS hA hE [] rfl rfl rfl) rfl rfl hl.1 rfl (lv_room (Nat.le_of_ble_eq_true rfl)) dKM_encrypt_307 ⟨by omega, by omega⟩) (fun  u25 H locs hu25 hP hD hS => ?_)
              obtain ⟨s28, pl⟩ := u25
              obtain ⟨⟨eq25, hFc25, -⟩, hO⟩ := hu25
              have hO : okn g T s28 pl := hO
              have hP : va_P g.1 vcl ([] ++ pl) _ := hP
              have hD : va_D _ ([] ++ pl) := hD
              have hFc25 : frm (M_KM_readRounded 31) s27 s28 := hFc25
              replace hR := bnd_step hR eq25
              have hF := frm_tr hF hFc25 (fun k hk => by unfold M_KM_readRounded at hk; unfold M_KM_encrypt_0; omega)
              refine W.widen (k := 0) (n := 0) (by omega) (by omega) ?_
              refine lv_aload_n hx hb dKM_encrypt_310 rfl (lv_at hl 1 rfl) ?_
              refine nw_get (C := "LatticeKeys$Kem") (TT := T_KM) (N := 10) hx hb hts (wg_ft i_KM) hown hK hO k_h0 (kn := 24) (ci := 5) (fl := [(3, 14), (3, 20), (3, 25), (3, 30), (3, 31), (3, 32), (3, 33), (3, 34), (3, 35), (3, 36)]) rfl hP rfl 1 (by decide) (hts _ (wg_t kw_108)) (fun _ h9 => h9) (cd := (3, 20)) rfl dKM_encrypt_311 (fun v34 hv34 => ?_)
              obtain ⟨r30, rfl, kr30⟩ := (show ∃ r : Nat, v34 = .ref r ∧ T r = some 20 from hv34)
              refine lv_aload_n hx hb dKM_encrypt_314 rfl (lv_at hl 1 rfl) ?_
              refine nw_get (C := "LatticeKeys$Kem") (TT := T_KM) (N := 10) hx hb hts (wg_ft i_KM) hown hK hO k_h0 (kn := 24) (ci := 5) (fl := [(3, 14), (3, 20), (3, 25), (3, 30), (3, 31), (3, 32), (3, 33), (3, 34), (3, 35), (3, 36)]) rfl hP rfl 3 (by decide) (hts _ (wg_t kw_110)) (fun _ h9 => h9) (cd := (3, 30)) rfl dKM_encrypt_315 (fun v35 hv35 => ?_)
              obtain ⟨r31, rfl, kr31⟩ := (show ∃ r : Nat, v35 = .ref r ∧ T r = some 30 from hv35)
              refine lv_aload_n hx hb dKM_encrypt_318 rfl (lv_at hl 1 rfl) ?_
              refine nw_get (C := "LatticeKeys$Kem") (TT := T_KM) (N := 10) hx hb hts (wg_ft i_KM) hown hK hO k_h0 (kn := 24) (ci := 5) (fl := [(3, 14), (3, 20), (3, 25), (3, 30), (3, 31), (3, 32), (3, 33), (3, 34), (3, 35), (3, 36)]) rfl hP rfl 4 (by decide) (hts _ (wg_t kw_111)) (fun _ h9 => h9) (cd := (3, 31)) rfl dKM_encrypt_319 (fun v36 hv36 => ?_)
              obtain ⟨r32, rfl, kr32⟩ := (show ∃ r : Nat, v36 = .ref r ∧ T r = some 31 from hv36)
              refine mp_v (cx := []) (wr := []) hP hD hS hA [] [] rfl rfl rfl (by decide) (va_runV (As := [.ref r31, .ref r32]) (rest := []) F (N_RG_add_7 l g _ T s28 pl hO hU r30 r31 r32 30 31 kr30 kr31 rfl kr32 rfl) (cwV 2 hts (wg_app (wg_c kw_1124 (wg_c kw_729 (wg_c kw_730 (wg_c kw_4 wg_n)))) kw_731) rfl rfl rfl (by decide +kernel) ⟨by decide, by decide⟩) (pn_W "LatticeKeys$Ring" (en_ok g) (ci := 4) (kn := 20) (fl := [(1, 3329), (1, 7), (1, 3303), (3, 21)]) hK hO kr30 rfl hP hD hS hA hE [] rfl rfl rfl) rfl rfl hl.1 rfl (lv_room (Nat.le_of_ble_eq_true rfl)) dKM_encrypt_322 ⟨by omega, by omega⟩) (fun  u26 H locs hu26 hP hD hS => ?_)
              obtain ⟨s29, pl⟩ := u26
              obtain ⟨⟨eq26, hFc26, -⟩, hO⟩ := hu26
              have hO : okn g T s29 pl := hO
              have hP : va_P g.1 vcl ([] ++ pl) _ := hP
              have hD : va_D _ ([] ++ pl) := hD
              have hFc26 : frm (M_RG_add_7 30) s28 s29 := hFc26
              replace hR := bnd_step hR eq26
              have hF := frm_tr hF hFc26 (fun k hk => by unfold M_RG_add_7 at hk; unfold M_KM_encrypt_0; omega)
              refine W.widen (k := 0) (n := 0) (by omega) (by omega) ?_
              refine lv_aload_n hx hb dKM_encrypt_325 rfl (lv_at hl 1 rfl) ?_
              refine lv_aload_n hx hb dKM_encrypt_326 rfl (lv_at hl 1 rfl) ?_
              refine nw_get (C := "LatticeKeys$Kem") (TT := T_KM) (N := 10) hx hb hts (wg_ft i_KM) hown hK hO k_h0 (kn := 24) (ci := 5) (fl := [(3, 14), (3, 20), (3, 25), (3, 30), (3, 31), (3, 32), (3, 33), (3, 34), (3, 35), (3, 36)]) rfl hP rfl 3 (by decide) (hts _ (wg_t kw_110)) (fun _ h9 => h9) (cd := (3, 30)) rfl dKM_encrypt_327 (fun v37 hv37 => ?_)
              obtain ⟨r33, rfl, kr33⟩ := (show ∃ r : Nat, v37 = .ref r ∧ T r = some 30 from hv37)
              refine lv_aload_n hx hb dKM_encrypt_330 rfl (lv_at hl 2 rfl) ?_
              refine nw_get (C := "LatticeKeys$KemSet") (TT := T_KS) (N := 10) hx hb hts (wg_ft i_KS) hown hK hO k_st (kn := 5) (ci := 1) (fl := [(1, 2), (1, 3), (1, 10), (1, 4), (1, 800), (1, 1632), (1, 768), (1, 768), (1, 1568), (1, 1600)]) rfl hP rfl 3 (by decide) (hts _ (wg_t kw_237)) (fun _ h9 => h9) (cd := (1, 4)) rfl dKM_encrypt_331 (fun v38 hv38 => ?_)
              obtain rfl := (show v38 = .int (nI 4) from hv38)
              refine lv_aload_n hx hb dKM_encrypt_334 rfl (lv_at hl 4 rfl) ?_
              refine lv_bipush (v := nI 32) hx hb dKM_encrypt_335 (by decide) ?_
              refine lv_aload_n hx hb dKM_encrypt_337 rfl (lv_at hl 2 rfl) ?_
              refine nw_get (C := "LatticeKeys$KemSet") (TT := T_KS) (N := 10) hx hb hts (wg_ft i_KS) hown hK hO k_st (kn := 5) (ci := 1) (fl := [(1, 2), (1, 3), (1, 10), (1, 4), (1, 800), (1, 1632), (1, 768), (1, 768), (1, 1568), (1, 1600)]) rfl hP rfl 2 (by decide) (hts _ (wg_t kw_235)) (fun _ h9 => h9) (cd := (1, 10)) rfl dKM_encrypt_338 (fun v39 hv39 => ?_)
              obtain rfl := (show v39 = .int (nI 10) from hv39)
              refine mi_imul hx hb dKM_encrypt_341 ?_
              refine mi_as (show nI (32 * 10) = nI 320 from rfl) ?_
              refine lv_aload_n hx hb dKM_encrypt_342 rfl (lv_at hl 2 rfl) ?_
              refine nw_get (C := "LatticeKeys$KemSet") (TT := T_KS) (N := 10) hx hb hts (wg_ft i_KS) hown hK hO k_st (kn := 5) (ci := 1) (fl := [(1, 2), (1, 3), (1, 10), (1, 4), (1, 800), (1, 1632), (1, 768), (1, 768), (1, 1568), (1, 1600)]) rfl hP rfl 0 (by decide) (hts _ (wg_t kw_231)) (fun _ h9 => h9) (cd := (1, 2)) rfl dKM_encrypt_343 (fun v40 hv40 => ?_)
              obtain rfl := (show v40 = .int (nI 2) from hv40)
              refine mi_imul hx hb dKM_encrypt_346 ?_
              refine mi_as (show nI (320 * 2) = nI 640 from rfl) ?_
              refine mp_v (cx := []) (wr := []) hP hD hS hA [] [] rfl rfl rfl (by decide) (va_runV (As := [.ref r33, .int (nI 4), .ref to, .int (nI 640)]) (rest := []) F (N_KM_writeRounded l g _ T s29 pl hO hU h0 r33 to 30 4 pt n 640 k_h0 kr33 rfl k_to n_to (by omega) (by omega) (by omega)) (cwV 4 hts (wg_app (wg_c kw_1125 (wg_c kw_1127 (wg_c ks_28 (wg_c kw_3 wg_n)))) kw_1128) rfl rfl rfl (by decide +kernel) ⟨by decide, by decide⟩) (pn_W "LatticeKeys$Kem" (en_ok g) (ci := 5) (kn := 24) (fl := [(3, 14), (3, 20), (3, 25), (3, 30), (3, 31), (3, 32), (3, 33), (3, 34), (3, 35), (3, 36)]) hK hO k_h0 rfl hP hD hS hA hE [] rfl rfl rfl) rfl rfl hl.1 rfl (lv_room (Nat.le_of_ble_eq_true rfl)) dKM_encrypt_347 ⟨by omega, by omega⟩) (fun  u27 H locs hu27 hP hD hS => ?_)
              obtain ⟨s30, pl⟩ := u27
              obtain ⟨⟨eq27, hFc27, -⟩, hO⟩ := hu27
              have hO : okn g T s30 pl := hO
              have hP : va_P g.1 vcl ([] ++ pl) _ := hP
              have hD : va_D _ ([] ++ pl) := hD
              have hFc27 : frm (M_KM_writeRounded 30 pt) s29 s30 := hFc27
              replace hR := bnd_step hR eq27
              have hF := frm_tr hF hFc27 (fun k hk => by unfold M_KM_writeRounded at hk; unfold M_KM_encrypt_0; omega)
              refine W.widen (k := 0) (n := 0) (by omega) (by omega) ?_
              exact mp_vret hx hb hr hlk hP hD hS (s30, pl) ⟨⟨hR.symm, hF, trivial⟩, hO⟩ [] rfl rfl rfl (by omega) (by omega) dKM_encrypt_350
            | succ n23 ih23 =>
              intro i23 s24 pl ls H locs hm23 hF hR hl hO hP hD hS
              refine lv_iload hx hb dKM_encrypt_207 (lv_at hl 0 rfl) ?_
              refine lv_aload_n hx hb dKM_encrypt_209 rfl (lv_at hl 2 rfl) ?_
              refine nw_get (C := "LatticeKeys$KemSet") (TT := T_KS) (N := 10) hx hb hts (wg_ft i_KS) hown hK hO k_st (kn := 5) (ci := 1) (fl := [(1, 2), (1, 3), (1, 10), (1, 4), (1, 800), (1, 1632), (1, 768), (1, 768), (1, 1568), (1, 1600)]) rfl hP rfl 0 (by decide) (hts _ (wg_t kw_231)) (fun _ h9 => h9) (cd := (1, 2)) rfl dKM_encrypt_210 (fun v41 hv41 => ?_)
              obtain rfl := (show v41 = .int (nI 2) from hv41)
              refine mi_ge (tgt := 255) hx hb dKM_encrypt_213 (by decide) (by omega) (by omega) (fun h24 => absurd h24 (by omega)) (fun h24 => ?_)
              refine lv_aload_n hx hb dKM_encrypt_216 rfl (lv_at hl 1 rfl) ?_
              refine lv_aload_n hx hb dKM_encrypt_217 rfl (lv_at hl 3 rfl) ?_
              refine lv_sipush (v := nI 384) hx hb dKM_encrypt_218 (by decide) ?_
              refine lv_iload hx hb dKM_encrypt_221 (lv_at hl 0 rfl) ?_
              refine mi_imul hx hb dKM_encrypt_223 ?_
              refine mp_v (cx := []) (wr := []) hP hD hS hA [] [] rfl rfl rfl (by decide) (va_runV (As := [.ref pk, .int (nI (384 * i23))]) (rest := []) F (N_KM_readReduced l g _ T s24 pl hO hU h0 pk pp 800 (384 * i23) k_h0 k_pk n_pk (by omega) (by omega)) (cwV 2 hts (wg_app (wg_c kw_1129 (wg_c kw_1131 (wg_c ks_29 (wg_c kw_3 wg_n)))) kw_1132) rfl rfl rfl (by decide +kernel) ⟨by decide, by decide⟩) (pn_W "LatticeKeys$Kem" (en_ok g) (ci := 5) (kn := 24) (fl := [(3, 14), (3, 20), (3, 25), (3, 30), (3, 31), (3, 32), (3, 33), (3, 34), (3, 35), (3, 36)]) hK hO k_h0 rfl hP hD hS hA hE [] rfl rfl rfl) rfl rfl hl.1 rfl (lv_room (Nat.le_of_ble_eq_true rfl)) dKM_encrypt_224 ⟨by omega, by omega⟩) (fun  u28 H locs hu28 hP hD hS => ?_)
              obtain ⟨s31, pl⟩ := u28
              obtain ⟨⟨eq28, hFc28, -⟩, hO⟩ := hu28
              have hO : okn g T s31 pl := hO
              have hP : va_P g.1 vcl ([] ++ pl) _ := hP
              have hD : va_D _ ([] ++ pl) := hD
              have hFc28 : frm (M_KM_readReduced) s24 s31 := hFc28
              replace hR := bnd_step hR eq28
              have hF := frm_tr hF hFc28 (fun k hk => by unfold M_KM_readReduced at hk; unfold M_KM_encrypt_0; omega)
              refine W.widen (k := 0) (n := 0) (by omega) (by omega) ?_
              refine lv_aload_n hx hb dKM_encrypt_227 rfl (lv_at hl 1 rfl) ?_
              refine nw_get (C := "LatticeKeys$Kem") (TT := T_KM) (N := 10) hx hb hts (wg_ft i_KM) hown hK hO k_h0 (kn := 24) (ci := 5) (fl := [(3, 14), (3, 20), (3, 25), (3, 30), (3, 31), (3, 32), (3, 33), (3, 34), (3, 35), (3, 36)]) rfl hP rfl 1 (by decide) (hts _ (wg_t kw_108)) (fun _ h9 => h9) (cd := (3, 20)) rfl dKM_encrypt_228 (fun v42 hv42 => ?_)
              obtain ⟨r34, rfl, kr34⟩ := (show ∃ r : Nat, v42 = .ref r ∧ T r = some 20 from hv42)
              refine lv_aload_n hx hb dKM_encrypt_231 rfl (lv_at hl 1 rfl) ?_
              refine nw_get (C := "LatticeKeys$Kem") (TT := T_KM) (N := 10) hx hb hts (wg_ft i_KM) hown hK hO k_h0 (kn := 24) (ci := 5) (fl := [(3, 14), (3, 20), (3, 25), (3, 30), (3, 31), (3, 32), (3, 33), (3, 34), (3, 35), (3, 36)]) rfl hP rfl 3 (by decide) (hts _ (wg_t kw_110)) (fun _ h9 => h9) (cd := (3, 30)) rfl dKM_encrypt_232 (fun v43 hv43 => ?_)
              obtain ⟨r35, rfl, kr35⟩ := (show ∃ r : Nat, v43 = .ref r ∧ T r = some 30 from hv43)
              refine lv_aload_n hx hb dKM_encrypt_235 rfl (lv_at hl 1 rfl) ?_
              refine nw_get (C := "LatticeKeys$Kem") (TT := T_KM) (N := 10) hx hb hts (wg_ft i_KM) hown hK hO k_h0 (kn := 24) (ci := 5) (fl := [(3, 14), (3, 20), (3, 25), (3, 30), (3, 31), (3, 32), (3, 33), (3, 34), (3, 35), (3, 36)]) rfl hP rfl 4 (by decide) (hts _ (wg_t kw_111)) (fun _ h9 => h9) (cd := (3, 31)) rfl dKM_encrypt_236 (fun v44 hv44 => ?_)
              obtain ⟨r36, rfl, kr36⟩ := (show ∃ r : Nat, v44 = .ref r ∧ T r = some 31 from hv44)
              refine lv_aload_n hx hb dKM_encrypt_239 rfl (lv_at hl 1 rfl) ?_
              refine nw_get (C := "LatticeKeys$Kem") (TT := T_KM) (N := 10) hx hb hts (wg_ft i_KM) hown hK hO k_h0 (kn := 24) (ci := 5) (fl := [(3, 14), (3, 20), (3, 25), (3, 30), (3, 31), (3, 32), (3, 33), (3, 34), (3, 35), (3, 36)]) rfl hP rfl 2 (by decide) (hts _ (wg_t kw_109)) (fun _ h9 => h9) (cd := (3, 25)) rfl dKM_encrypt_240 (fun v45 hv45 => ?_)
              obtain ⟨r37, rfl, kr37⟩ := (show ∃ r : Nat, v45 = .ref r ∧ T r = some 25 from hv45)
              refine lv_iload hx hb dKM_encrypt_243 (lv_at hl 0 rfl) ?_
              refine nw_aald3 hx hb hK hO kr37 (k := 25) (b := 26) rfl hP (by omega) (by omega) dKM_encrypt_245 (fun r38 kr38 => ?_)
              have hn21 : nsp (26 + i23) = (0, 256, []) := rows_ok 26 4 (by decide) _ (by omega)
              refine mp_v (cx := []) (wr := []) hP hD hS hA [] [] rfl rfl rfl (by decide) (va_runV (As := [.ref r35, .ref r36, .ref r38]) (rest := []) F (N_RG_addProduct_7 l g _ T s31 pl hO hU r34 r35 r36 r38 30 31 (26 + i23) kr34 kr35 rfl kr36 rfl kr38 hn21) (cwV 3 hts (wg_app (wg_c kw_653 (wg_c kw_654 (wg_c kw_655 (wg_c kw_4 wg_n)))) kw_656) rfl rfl rfl (by decide +kernel) ⟨by decide, by decide⟩) (pn_W "LatticeKeys$Ring" (en_ok g) (ci := 4) (kn := 20) (fl := [(1, 3329), (1, 7), (1, 3303), (3, 21)]) hK hO kr34 rfl hP hD hS hA hE [] rfl rfl rfl) rfl rfl hl.1 rfl (lv_room (Nat.le_of_ble_eq_true rfl)) dKM_encrypt_246 ⟨by omega, by omega⟩) (fun  u29 H locs hu29 hP hD hS => ?_)
              obtain ⟨s32, pl⟩ := u29
              obtain ⟨⟨eq29, hFc29, -⟩, hO⟩ := hu29
              have hO : okn g T s32 pl := hO
              have hP : va_P g.1 vcl ([] ++ pl) _ := hP
              have hD : va_D _ ([] ++ pl) := hD
              have hFc29 : frm (M_RG_addProduct_7 30) s31 s32 := hFc29
              replace hR := bnd_step hR eq29
              have hF := frm_tr hF hFc29 (fun k hk => by unfold M_RG_addProduct_7 at hk; unfold M_KM_encrypt_0; omega)
              refine W.widen (k := 0) (n := 0) (by omega) (by omega) ?_
              refine mi_iinc (k := 0) (x := i23) (d := 1) (y := i23 + 1) (lv' := [(4, .int (nI (i23 + 1))), (0, .ref h0), (1, .ref st), (2, .ref pk), (3, .ref to)]) hx hb dKM_encrypt_249 hl rfl (by decide) rfl (by decide) rfl (fun ls hl => ?_)
              refine lv_goto (tgt := 207) hx hb dKM_encrypt_252 (by decide) ?_
              exact ih23 (i23 + 1) s32 pl ls H locs (by omega) hF hR (lv_sub hl [0, 1, 2, 3, 4] rfl) hO hP hD hS
          exact lp23 2 0 s23 pl ls _ _ (by omega) hF hR (lv_sub hl [0, 1, 2, 3, 4] rfl) hO hP hD hS
        | succ n22 ih22 =>
          intro i22 s22 pl ls H locs hm22 hF hR hl hO hP hD hS
          refine lv_iload hx hb dKM_encrypt_52 (lv_at hl 0 rfl) ?_
          refine lv_aload_n hx hb dKM_encrypt_54 rfl (lv_at hl 2 rfl) ?_
          refine nw_get (C := "LatticeKeys$KemSet") (TT := T_KS) (N := 10) hx hb hts (wg_ft i_KS) hown hK hO k_st (kn := 5) (ci := 1) (fl := [(1, 2), (1, 3), (1, 10), (1, 4), (1, 800), (1, 1632), (1, 768), (1, 768), (1, 1568), (1, 1600)]) rfl hP rfl 0 (by decide) (hts _ (wg_t kw_231)) (fun _ h9 => h9) (cd := (1, 2)) rfl dKM_encrypt_55 (fun v46 hv46 => ?_)
          obtain rfl := (show v46 = .int (nI 2) from hv46)
          refine mi_ge (tgt := 196) hx hb dKM_encrypt_58 (by decide) (by omega) (by omega) (fun h25 => absurd h25 (by omega)) (fun h25 => ?_)
          refine lv_aload_n hx hb dKM_encrypt_61 rfl (lv_at hl 1 rfl) ?_
          refine nw_get (C := "LatticeKeys$Kem") (TT := T_KM) (N := 10) hx hb hts (wg_ft i_KM) hown hK hO k_h0 (kn := 24) (ci := 5) (fl := [(3, 14), (3, 20), (3, 25), (3, 30), (3, 31), (3, 32), (3, 33), (3, 34), (3, 35), (3, 36)]) rfl hP rfl 3 (by decide) (hts _ (wg_t kw_110)) (fun _ h9 => h9) (cd := (3, 30)) rfl dKM_encrypt_62 (fun v47 hv47 => ?_)
          obtain ⟨r39, rfl, kr39⟩ := (show ∃ r : Nat, v47 = .ref r ∧ T r = some 30 from hv47)
          refine lv_iconst (v := nI 0) hx hb dKM_encrypt_65 (by decide) ?_
          refine mp_v (cx := []) (wr := []) hP hD hS hA [] [] rfl rfl rfl (by decide) (va_runS (As := [.ref r39, .int (nI 0)]) (rest := []) F (N_AR_fillI l g _ T s22 pl hO hU r39 30 256 (nI 0) kr39 rfl (by omega)) (va_cwS 2 hts (wg_app (wg_c kw_1122 (wg_c kw_717 (wg_c kw_21 wg_n))) kw_718) rfl rfl rfl (by decide +kernel) ⟨by decide, by decide⟩) (pp_S (en_ok g) hP hD hS hA hE [] rfl rfl) rfl rfl hl.1 rfl (lv_room (Nat.le_of_ble_eq_true rfl)) dKM_encrypt_66 ⟨by omega, by omega⟩) (fun  u30 H locs hu30 hP hD hS => ?_)
          obtain ⟨s33, pl⟩ := u30
          obtain ⟨⟨eq30, hFc30, -⟩, hO⟩ := hu30
          have hO : okn g T s33 pl := hO
          have hP : va_P g.1 vcl ([] ++ pl) _ := hP
          have hD : va_D _ ([] ++ pl) := hD
          have hFc30 : frm (M_AR_fillI 30) s22 s33 := hFc30
          replace hR := bnd_step hR eq30
          have hF := frm_tr hF hFc30 (fun k hk => by unfold M_AR_fillI at hk; unfold M_KM_encrypt_0; omega)
          refine W.widen (k := 0) (n := 0) (by omega) (by omega) ?_
          refine lv_iconst (v := nI 0) hx hb dKM_encrypt_69 (by decide) ?_
          refine lv_istore (lv' := [(5, .int (nI 0)), (4, .int (nI i22)), (0, .ref h0), (1, .ref st), (2, .ref pk), (3, .ref to)]) hx hb dKM_encrypt_70 hl (by decide) rfl (fun ls hl => ?_)
          have lp24 : ∀ (n24 : Nat) (i24 : Nat) (s34 : Sto) (pl : va_W) (ls : Array Slot) (H : Heap) (locs : List Loc), n24 + i24 = 2 → frm (M_KM_encrypt_0 pt) s s34 → F_KM_encrypt_0 pp pt n s = F_KM_encrypt_0_L3 pp pt n i22 (F_KM_encrypt_0_L1 pp pt n n22) n24 i24 s34 → lv_has ls 6 [(5, .int (nI i24)), (4, .int (nI i22)), (0, .ref h0), (1, .ref st), (2, .ref pk), (3, .ref to)] → okn g T s34 pl → va_P g.1 vcl ([] ++ pl) H → va_D A ([] ++ pl) → va_S A s0.heap H locs → W p l e ({ frames := 4, cells := 0, slots := 0, locals := 131 } : Room) s0 m args below meth c H locs 0 0 (MQ below (va_Qv (fun (u : (Sto) × va_W) => (u.1 = F_KM_encrypt_0 pp pt n s ∧ frm (M_KM_encrypt_0 pt) s u.1 ∧ True) ∧ okn g T u.1 u.2) (po g.1 vcl A (fun (u : (Sto) × va_W) => [] ++ u.2)) A) args s0 0 0 A) (F0 m 72 ls []) := by
            intro n24
            induction n24 with
            | zero =>
              intro i24 s34 pl ls H locs hm24 hF hR hl hO hP hD hS
              refine lv_iload hx hb dKM_encrypt_72 (lv_at hl 0 rfl) ?_
              refine lv_aload_n hx hb dKM_encrypt_74 rfl (lv_at hl 3 rfl) ?_
              refine nw_get (C := "LatticeKeys$KemSet") (TT := T_KS) (N := 10) hx hb hts (wg_ft i_KS) hown hK hO k_st (kn := 5) (ci := 1) (fl := [(1, 2), (1, 3), (1, 10), (1, 4), (1, 800), (1, 1632), (1, 768), (1, 768), (1, 1568), (1, 1600)]) rfl hP rfl 0 (by decide) (hts _ (wg_t kw_231)) (fun _ h9 => h9) (cd := (1, 2)) rfl dKM_encrypt_75 (fun v48 hv48 => ?_)
              obtain rfl := (show v48 = .int (nI 2) from hv48)
              refine mi_ge (tgt := 125) hx hb dKM_encrypt_78 (by decide) (by omega) (by omega) (fun h26 => ?_) (fun h26 => absurd h26 (by omega))
              refine lv_aload_n hx hb dKM_encrypt_125 rfl (lv_at hl 2 rfl) ?_
              refine nw_get (C := "LatticeKeys$Kem") (TT := T_KM) (N := 10) hx hb hts (wg_ft i_KM) hown hK hO k_h0 (kn := 24) (ci := 5) (fl := [(3, 14), (3, 20), (3, 25), (3, 30), (3, 31), (3, 32), (3, 33), (3, 34), (3, 35), (3, 36)]) rfl hP rfl 1 (by decide) (hts _ (wg_t kw_108)) (fun _ h9 => h9) (cd := (3, 20)) rfl dKM_encrypt_126 (fun v49 hv49 => ?_)
              obtain ⟨r40, rfl, kr40⟩ := (show ∃ r : Nat, v49 = .ref r ∧ T r = some 20 from hv49)
              refine lv_aload_n hx hb dKM_encrypt_129 rfl (lv_at hl 2 rfl) ?_
              refine nw_get (C := "LatticeKeys$Kem") (TT := T_KM) (N := 10) hx hb hts (wg_ft i_KM) hown hK hO k_h0 (kn := 24) (ci := 5) (fl := [(3, 14), (3, 20), (3, 25), (3, 30), (3, 31), (3, 32), (3, 33), (3, 34), (3, 35), (3, 36)]) rfl hP rfl 3 (by decide) (hts _ (wg_t kw_110)) (fun _ h9 => h9) (cd := (3, 30)) rfl dKM_encrypt_130 (fun v50 hv50 => ?_)
              obtain ⟨r41, rfl, kr41⟩ := (show ∃ r : Nat, v50 = .ref r ∧ T r = some 30 from hv50)
              refine mp_v (cx := []) (wr := []) hP hD hS hA [] [] rfl rfl rfl (by decide) (va_runV (As := [.ref r41]) (rest := []) F (N_RG_restore_7 l g _ T s34 pl hO hU r40 r41 30 kr40 kr41 rfl) (cwV 1 hts (wg_app (wg_c kw_1123 (wg_c kw_721 (wg_c kw_722 (wg_c kw_4 wg_n)))) kw_723) rfl rfl rfl (by decide +kernel) ⟨by decide, by decide⟩) (pn_W "LatticeKeys$Ring" (en_ok g) (ci := 4) (kn := 20) (fl := [(1, 3329), (1, 7), (1, 3303), (3, 21)]) hK hO kr40 rfl hP hD hS hA hE [] rfl rfl rfl) rfl rfl hl.1 rfl (lv_room (Nat.le_of_ble_eq_true rfl)) dKM_encrypt_133 ⟨by omega, by omega⟩) (fun  u31 H locs hu31 hP hD hS => ?_)
              obtain ⟨s35, pl⟩ := u31
              obtain ⟨⟨eq31, hFc31, -⟩, hO⟩ := hu31
              have hO : okn g T s35 pl := hO
              have hP : va_P g.1 vcl ([] ++ pl) _ := hP
              have hD : va_D _ ([] ++ pl) := hD
              have hFc31 : frm (M_RG_restore_7 30) s34 s35 := hFc31
              replace hR := bnd_step hR eq31
              have hF := frm_tr hF hFc31 (fun k hk => by unfold M_RG_restore_7 at hk; unfold M_KM_encrypt_0; omega)
              refine W.widen (k := 0) (n := 0) (by omega) (by omega) ?_
              refine lv_aload_n hx hb dKM_encrypt_136 rfl (lv_at hl 2 rfl) ?_
              refine lv_aload_n hx hb dKM_encrypt_137 rfl (lv_at hl 2 rfl) ?_
              refine nw_get (C := "LatticeKeys$Kem") (TT := T_KM) (N := 10) hx hb hts (wg_ft i_KM) hown hK hO k_h0 (kn := 24) (ci := 5) (fl := [(3, 14), (3, 20), (3, 25), (3, 30), (3, 31), (3, 32), (3, 33), (3, 34), (3, 35), (3, 36)]) rfl hP rfl 4 (by decide) (hts _ (wg_t kw_111)) (fun _ h9 => h9) (cd := (3, 31)) rfl dKM_encrypt_138 (fun v51 hv51 => ?_)
              obtain ⟨r42, rfl, kr42⟩ := (show ∃ r : Nat, v51 = .ref r ∧ T r = some 31 from hv51)
              refine lv_iconst (v := nI 2) hx hb dKM_encrypt_141 (by decide) ?_
              refine lv_aload_n hx hb dKM_encrypt_142 rfl (lv_at hl 3 rfl) ?_
              refine nw_get (C := "LatticeKeys$KemSet") (TT := T_KS) (N := 10) hx hb hts (wg_ft i_KS) hown hK hO k_st (kn := 5) (ci := 1) (fl := [(1, 2), (1, 3), (1, 10), (1, 4), (1, 800), (1, 1632), (1, 768), (1, 768), (1, 1568), (1, 1600)]) rfl hP rfl 0 (by decide) (hts _ (wg_t kw_231)) (fun _ h9 => h9) (cd := (1, 2)) rfl dKM_encrypt_143 (fun v52 hv52 => ?_)
              obtain rfl := (show v52 = .int (nI 2) from hv52)
              refine lv_iload hx hb dKM_encrypt_146 (lv_at hl 1 rfl) ?_
              refine mi_iadd hx hb dKM_encrypt_148 ?_
              refine mp_v (cx := []) (wr := []) hP hD hS hA [] [] rfl rfl rfl (by decide) (va_runV (As := [.ref r42, .int (nI 2), .int (nI (2 + i22))]) (rest := []) F (N_KM_sampleNoise_2 l g _ T s35 pl hO hU h0 r42 31 (nI (2 + i22)) k_h0 kr42 rfl) (cwV 3 hts (wg_app (wg_c kw_623 (wg_c kw_625 (wg_c ks_6 (wg_c kw_3 wg_n)))) kw_626) rfl rfl rfl (by decide +kernel) ⟨by decide, by decide⟩) (pn_W "LatticeKeys$Kem" (en_ok g) (ci := 5) (kn := 24) (fl := [(3, 14), (3, 20), (3, 25), (3, 30), (3, 31), (3, 32), (3, 33), (3, 34), (3, 35), (3, 36)]) hK hO k_h0 rfl hP hD hS hA hE [] rfl rfl rfl) rfl rfl hl.1 rfl (lv_room (Nat.le_of_ble_eq_true rfl)) dKM_encrypt_149 ⟨by omega, by omega⟩) (fun  u32 H locs hu32 hP hD hS => ?_)
              obtain ⟨s36, pl⟩ := u32
              obtain ⟨⟨eq32, hFc32, -⟩, hO⟩ := hu32
              have hO : okn g T s36 pl := hO
              have hP : va_P g.1 vcl ([] ++ pl) _ := hP
              have hD : va_D _ ([] ++ pl) := hD
              have hFc32 : frm (M_KM_sampleNoise_2 31) s35 s36 := hFc32
              replace hR := bnd_step hR eq32
              have hF := frm_tr hF hFc32 (fun k hk => by unfold M_KM_sampleNoise_2 at hk; unfold M_KM_encrypt_0; omega)
              refine W.widen (k := 0) (n := 0) (by omega) (by omega) ?_
              refine lv_aload_n hx hb dKM_encrypt_152 rfl (lv_at hl 2 rfl) ?_
              refine nw_get (C := "LatticeKeys$Kem") (TT := T_KM) (N := 10) hx hb hts (wg_ft i_KM) hown hK hO k_h0 (kn := 24) (ci := 5) (fl := [(3, 14), (3, 20), (3, 25), (3, 30), (3, 31), (3, 32), (3, 33), (3, 34), (3, 35), (3, 36)]) rfl hP rfl 1 (by decide) (hts _ (wg_t kw_108)) (fun _ h9 => h9) (cd := (3, 20)) rfl dKM_encrypt_153 (fun v53 hv53 => ?_)
              obtain ⟨r43, rfl, kr43⟩ := (show ∃ r : Nat, v53 = .ref r ∧ T r = some 20 from hv53)
              refine lv_aload_n hx hb dKM_encrypt_156 rfl (lv_at hl 2 rfl) ?_
              refine nw_get (C := "LatticeKeys$Kem") (TT := T_KM) (N := 10) hx hb hts (wg_ft i_KM) hown hK hO k_h0 (kn := 24) (ci := 5) (fl := [(3, 14), (3, 20), (3, 25), (3, 30), (3, 31), (3, 32), (3, 33), (3, 34), (3, 35), (3, 36)]) rfl hP rfl 3 (by decide) (hts _ (wg_t kw_110)) (fun _ h9 => h9) (cd := (3, 30)) rfl dKM_encrypt_157 (fun v54 hv54 => ?_)
              obtain ⟨r44, rfl, kr44⟩ := (show ∃ r : Nat, v54 = .ref r ∧ T r = some 30 from hv54)
              refine lv_aload_n hx hb dKM_encrypt_160 rfl (lv_at hl 2 rfl) ?_
              refine nw_get (C := "LatticeKeys$Kem") (TT := T_KM) (N := 10) hx hb hts (wg_ft i_KM) hown hK hO k_h0 (kn := 24) (ci := 5) (fl := [(3, 14), (3, 20), (3, 25), (3, 30), (3, 31), (3, 32), (3, 33), (3, 34), (3, 35), (3, 36)]) rfl hP rfl 4 (by decide) (hts _ (wg_t kw_111)) (fun _ h9 => h9) (cd := (3, 31)) rfl dKM_encrypt_161 (fun v55 hv55 => ?_)
              obtain ⟨r45, rfl, kr45⟩ := (show ∃ r : Nat, v55 = .ref r ∧ T r = some 31 from hv55)
              refine mp_v (cx := []) (wr := []) hP hD hS hA [] [] rfl rfl rfl (by decide) (va_runV (As := [.ref r44, .ref r45]) (rest := []) F (N_RG_add_7 l g _ T s36 pl hO hU r43 r44 r45 30 31 kr43 kr44 rfl kr45 rfl) (cwV 2 hts (wg_app (wg_c kw_1124 (wg_c kw_729 (wg_c kw_730 (wg_c kw_4 wg_n)))) kw_731) rfl rfl rfl (by decide +kernel) ⟨by decide, by decide⟩) (pn_W "LatticeKeys$Ring" (en_ok g) (ci := 4) (kn := 20) (fl := [(1, 3329), (1, 7), (1, 3303), (3, 21)]) hK hO kr43 rfl hP hD hS hA hE [] rfl rfl rfl) rfl rfl hl.1 rfl (lv_room (Nat.le_of_ble_eq_true rfl)) dKM_encrypt_164 ⟨by omega, by omega⟩) (fun  u33 H locs hu33 hP hD hS => ?_)
              obtain ⟨s37, pl⟩ := u33
              obtain ⟨⟨eq33, hFc33, -⟩, hO⟩ := hu33
              have hO : okn g T s37 pl := hO
              have hP : va_P g.1 vcl ([] ++ pl) _ := hP
              have hD : va_D _ ([] ++ pl) := hD
              have hFc33 : frm (M_RG_add_7 30) s36 s37 := hFc33
              replace hR := bnd_step hR eq33
              have hF := frm_tr hF hFc33 (fun k hk => by unfold M_RG_add_7 at hk; unfold M_KM_encrypt_0; omega)
              refine W.widen (k := 0) (n := 0) (by omega) (by omega) ?_
              refine lv_aload_n hx hb dKM_encrypt_167 rfl (lv_at hl 2 rfl) ?_
              refine lv_aload_n hx hb dKM_encrypt_168 rfl (lv_at hl 2 rfl) ?_
              refine nw_get (C := "LatticeKeys$Kem") (TT := T_KM) (N := 10) hx hb hts (wg_ft i_KM) hown hK hO k_h0 (kn := 24) (ci := 5) (fl := [(3, 14), (3, 20), (3, 25), (3, 30), (3, 31), (3, 32), (3, 33), (3, 34), (3, 35), (3, 36)]) rfl hP rfl 3 (by decide) (hts _ (wg_t kw_110)) (fun _ h9 => h9) (cd := (3, 30)) rfl dKM_encrypt_169 (fun v56 hv56 => ?_)
              obtain ⟨r46, rfl, kr46⟩ := (show ∃ r : Nat, v56 = .ref r ∧ T r = some 30 from hv56)
              refine lv_aload_n hx hb dKM_encrypt_172 rfl (lv_at hl 3 rfl) ?_
              refine nw_get (C := "LatticeKeys$KemSet") (TT := T_KS) (N := 10) hx hb hts (wg_ft i_KS) hown hK hO k_st (kn := 5) (ci := 1) (fl := [(1, 2), (1, 3), (1, 10), (1, 4), (1, 800), (1, 1632), (1, 768), (1, 768), (1, 1568), (1, 1600)]) rfl hP rfl 2 (by decide) (hts _ (wg_t kw_235)) (fun _ h9 => h9) (cd := (1, 10)) rfl dKM_encrypt_173 (fun v57 hv57 => ?_)
              obtain rfl := (show v57 = .int (nI 10) from hv57)
              refine lv_aload_n hx hb dKM_encrypt_176 rfl (lv_at hl 5 rfl) ?_
              refine lv_bipush (v := nI 32) hx hb dKM_encrypt_177 (by decide) ?_
              refine lv_aload_n hx hb dKM_encrypt_179 rfl (lv_at hl 3 rfl) ?_
              refine nw_get (C := "LatticeKeys$KemSet") (TT := T_KS) (N := 10) hx hb hts (wg_ft i_KS) hown hK hO k_st (kn := 5) (ci := 1) (fl := [(1, 2), (1, 3), (1, 10), (1, 4), (1, 800), (1, 1632), (1, 768), (1, 768), (1, 1568), (1, 1600)]) rfl hP rfl 2 (by decide) (hts _ (wg_t kw_235)) (fun _ h9 => h9) (cd := (1, 10)) rfl dKM_encrypt_180 (fun v58 hv58 => ?_)
              obtain rfl := (show v58 = .int (nI 10) from hv58)
              refine mi_imul hx hb dKM_encrypt_183 ?_
              refine mi_as (show nI (32 * 10) = nI 320 from rfl) ?_
              refine lv_iload hx hb dKM_encrypt_184 (lv_at hl 1 rfl) ?_
              refine mi_imul hx hb dKM_encrypt_186 ?_
              refine mp_v (cx := []) (wr := []) hP hD hS hA [] [] rfl rfl rfl (by decide) (va_runV (As := [.ref r46, .int (nI 10), .ref to, .int (nI (320 * i22))]) (rest := []) F (N_KM_writeRounded l g _ T s37 pl hO hU h0 r46 to 30 10 pt n (320 * i22) k_h0 kr46 rfl k_to n_to (by omega) (by omega) (by omega)) (cwV 4 hts (wg_app (wg_c kw_1125 (wg_c kw_1127 (wg_c ks_28 (wg_c kw_3 wg_n)))) kw_1128) rfl rfl rfl (by decide +kernel) ⟨by decide, by decide⟩) (pn_W "LatticeKeys$Kem" (en_ok g) (ci := 5) (kn := 24) (fl := [(3, 14), (3, 20), (3, 25), (3, 30), (3, 31), (3, 32), (3, 33), (3, 34), (3, 35), (3, 36)]) hK hO k_h0 rfl hP hD hS hA hE [] rfl rfl rfl) rfl rfl hl.1 rfl (lv_room (Nat.le_of_ble_eq_true rfl)) dKM_encrypt_187 ⟨by omega, by omega⟩) (fun  u34 H locs hu34 hP hD hS => ?_)
              obtain ⟨s38, pl⟩ := u34
              obtain ⟨⟨eq34, hFc34, -⟩, hO⟩ := hu34
              have hO : okn g T s38 pl := hO
              have hP : va_P g.1 vcl ([] ++ pl) _ := hP
              have hD : va_D _ ([] ++ pl) := hD
              have hFc34 : frm (M_KM_writeRounded 30 pt) s37 s38 := hFc34
              replace hR := bnd_step hR eq34
              have hF := frm_tr hF hFc34 (fun k hk => by unfold M_KM_writeRounded at hk; unfold M_KM_encrypt_0; omega)
              refine W.widen (k := 0) (n := 0) (by omega) (by omega) ?_
              refine mi_iinc (k := 1) (x := i22) (d := 1) (y := i22 + 1) (lv' := [(4, .int (nI (i22 + 1))), (5, .int (nI i24)), (0, .ref h0), (1, .ref st), (2, .ref pk), (3, .ref to)]) hx hb dKM_encrypt_190 hl rfl (by decide) rfl (by decide) rfl (fun ls hl => ?_)
              refine lv_goto (tgt := 52) hx hb dKM_encrypt_193 (by decide) ?_
              exact ih22 (i22 + 1) s38 pl ls H locs (by omega) hF hR (lv_sub hl [0, 2, 3, 4, 5] rfl) hO hP hD hS
            | succ n24 ih24 =>
              intro i24 s34 pl ls H locs hm24 hF hR hl hO hP hD hS
              refine lv_iload hx hb dKM_encrypt_72 (lv_at hl 0 rfl) ?_
              refine lv_aload_n hx hb dKM_encrypt_74 rfl (lv_at hl 3 rfl) ?_
              refine nw_get (C := "LatticeKeys$KemSet") (TT := T_KS) (N := 10) hx hb hts (wg_ft i_KS) hown hK hO k_st (kn := 5) (ci := 1) (fl := [(1, 2), (1, 3), (1, 10), (1, 4), (1, 800), (1, 1632), (1, 768), (1, 768), (1, 1568), (1, 1600)]) rfl hP rfl 0 (by decide) (hts _ (wg_t kw_231)) (fun _ h9 => h9) (cd := (1, 2)) rfl dKM_encrypt_75 (fun v59 hv59 => ?_)
              obtain rfl := (show v59 = .int (nI 2) from hv59)
              refine mi_ge (tgt := 125) hx hb dKM_encrypt_78 (by decide) (by omega) (by omega) (fun h27 => absurd h27 (by omega)) (fun h27 => ?_)
              refine lv_aload_n hx hb dKM_encrypt_81 rfl (lv_at hl 2 rfl) ?_
              refine lv_aload_n hx hb dKM_encrypt_82 rfl (lv_at hl 4 rfl) ?_
              refine lv_aload_n hx hb dKM_encrypt_83 rfl (lv_at hl 3 rfl) ?_
              refine nw_get (C := "LatticeKeys$KemSet") (TT := T_KS) (N := 10) hx hb hts (wg_ft i_KS) hown hK hO k_st (kn := 5) (ci := 1) (fl := [(1, 2), (1, 3), (1, 10), (1, 4), (1, 800), (1, 1632), (1, 768), (1, 768), (1, 1568), (1, 1600)]) rfl hP rfl 4 (by decide) (hts _ (wg_t kw_239)) (fun _ h9 => h9) (cd := (1, 800)) rfl dKM_encrypt_84 (fun v60 hv60 => ?_)
              obtain rfl := (show v60 = .int (nI 800) from hv60)
              refine lv_bipush (v := nI 32) hx hb dKM_encrypt_87 (by decide) ?_
              refine mi_isub hx hb dKM_encrypt_89 (by omega) ?_
              refine mi_as (show nI (800 - 32) = nI 768 from rfl) ?_
              refine lv_iload hx hb dKM_encrypt_90 (lv_at hl 1 rfl) ?_
              refine lv_iload hx hb dKM_encrypt_92 (lv_at hl 0 rfl) ?_
              refine mp_v (cx := []) (wr := []) hP hD hS hA [] [] rfl rfl rfl (by decide) (va_runV (As := [.ref pk, .int (nI 768), .int (nI i22), .int (nI i24)]) (rest := []) F (N_KM_sampleEntry l g _ T s34 pl hO hU h0 pk pp 800 768 (nI i22) (nI i24) k_h0 k_pk n_pk (by omega) (by omega)) (cwV 4 hts (wg_app (wg_c kw_647 (wg_c kw_649 (wg_c ks_8 (wg_c kw_3 wg_n)))) kw_650) rfl rfl rfl (by decide +kernel) ⟨by decide, by decide⟩) (pn_W "LatticeKeys$Kem" (en_ok g) (ci := 5) (kn := 24) (fl := [(3, 14), (3, 20), (3, 25), (3, 30), (3, 31), (3, 32), (3, 33), (3, 34), (3, 35), (3, 36)]) hK hO k_h0 rfl hP hD hS hA hE [] rfl rfl rfl) rfl rfl hl.1 rfl (lv_room (Nat.le_of_ble_eq_true rfl)) dKM_encrypt_94 ⟨by omega, by omega⟩) (fun  u35 H locs hu35 hP hD hS => ?_)
              obtain ⟨s39, pl⟩ := u35
              obtain ⟨⟨eq35, hFc35, -⟩, hO⟩ := hu35
              have hO : okn g T s39 pl := hO
              have hP : va_P g.1 vcl ([] ++ pl) _ := hP
              have hD : va_D _ ([] ++ pl) := hD
              have hFc35 : frm (M_KM_sampleEntry) s34 s39 := hFc35
              replace hR := bnd_step hR eq35
              have hF := frm_tr hF hFc35 (fun k hk => by unfold M_KM_sampleEntry at hk; unfold M_KM_encrypt_0; omega)
              refine W.widen (k := 0) (n := 0) (by omega) (by omega) ?_
              refine lv_aload_n hx hb dKM_encrypt_97 rfl (lv_at hl 2 rfl) ?_
              refine nw_get (C := "LatticeKeys$Kem") (TT := T_KM) (N := 10) hx hb hts (wg_ft i_KM) hown hK hO k_h0 (kn := 24) (ci := 5) (fl := [(3, 14), (3, 20), (3, 25), (3, 30), (3, 31), (3, 32), (3, 33), (3, 34), (3, 35), (3, 36)]) rfl hP rfl 1 (by decide) (hts _ (wg_t kw_108)) (fun _ h9 => h9) (cd := (3, 20)) rfl dKM_encrypt_98 (fun v61 hv61 => ?_)
              obtain ⟨r47, rfl, kr47⟩ := (show ∃ r : Nat, v61 = .ref r ∧ T r = some 20 from hv61)
              refine lv_aload_n hx hb dKM_encrypt_101 rfl (lv_at hl 2 rfl) ?_
              refine nw_get (C := "LatticeKeys$Kem") (TT := T_KM) (N := 10) hx hb hts (wg_ft i_KM) hown hK hO k_h0 (kn := 24) (ci := 5) (fl := [(3, 14), (3, 20), (3, 25), (3, 30), (3, 31), (3, 32), (3, 33), (3, 34), (3, 35), (3, 36)]) rfl hP rfl 3 (by decide) (hts _ (wg_t kw_110)) (fun _ h9 => h9) (cd := (3, 30)) rfl dKM_encrypt_102 (fun v62 hv62 => ?_)
              obtain ⟨r48, rfl, kr48⟩ := (show ∃ r : Nat, v62 = .ref r ∧ T r = some 30 from hv62)
              refine lv_aload_n hx hb dKM_encrypt_105 rfl (lv_at hl 2 rfl) ?_
              refine nw_get (C := "LatticeKeys$Kem") (TT := T_KM) (N := 10) hx hb hts (wg_ft i_KM) hown hK hO k_h0 (kn := 24) (ci := 5) (fl := [(3, 14), (3, 20), (3, 25), (3, 30), (3, 31), (3, 32), (3, 33), (3, 34), (3, 35), (3, 36)]) rfl hP rfl 4 (by decide) (hts _ (wg_t kw_111)) (fun _ h9 => h9) (cd := (3, 31)) rfl dKM_encrypt_106 (fun v63 hv63 => ?_)
              obtain ⟨r49, rfl, kr49⟩ := (show ∃ r : Nat, v63 = .ref r ∧ T r = some 31 from hv63)
              refine lv_aload_n hx hb dKM_encrypt_109 rfl (lv_at hl 2 rfl) ?_
              refine nw_get (C := "LatticeKeys$Kem") (TT := T_KM) (N := 10) hx hb hts (wg_ft i_KM) hown hK hO k_h0 (kn := 24) (ci := 5) (fl := [(3, 14), (3, 20), (3, 25), (3, 30), (3, 31), (3, 32), (3, 33), (3, 34), (3, 35), (3, 36)]) rfl hP rfl 2 (by decide) (hts _ (wg_t kw_109)) (fun _ h9 => h9) (cd := (3, 25)) rfl dKM_encrypt_110 (fun v64 hv64 => ?_)
              obtain ⟨r50, rfl, kr50⟩ := (show ∃ r : Nat, v64 = .ref r ∧ T r = some 25 from hv64)
              refine lv_iload hx hb dKM_encrypt_113 (lv_at hl 0 rfl) ?_
              refine nw_aald3 hx hb hK hO kr50 (k := 25) (b := 26) rfl hP (by omega) (by omega) dKM_encrypt_115 (fun r51 kr51 => ?_)
              have hn22 : nsp (26 + i24) = (0, 256, []) := rows_ok 26 4 (by decide) _ (by omega)
              refine mp_v (cx := []) (wr := []) hP hD hS hA [] [] rfl rfl rfl (by decide) (va_runV (As := [.ref r48, .ref r49, .ref r51]) (rest := []) F (N_RG_addProduct_7 l g _ T s39 pl hO hU r47 r48 r49 r51 30 31 (26 + i24) kr47 kr48 rfl kr49 rfl kr51 hn22) (cwV 3 hts (wg_app (wg_c kw_653 (wg_c kw_654 (wg_c kw_655 (wg_c kw_4 wg_n)))) kw_656) rfl rfl rfl (by decide +kernel) ⟨by decide, by decide⟩) (pn_W "LatticeKeys$Ring" (en_ok g) (ci := 4) (kn := 20) (fl := [(1, 3329), (1, 7), (1, 3303), (3, 21)]) hK hO kr47 rfl hP hD hS hA hE [] rfl rfl rfl) rfl rfl hl.1 rfl (lv_room (Nat.le_of_ble_eq_true rfl)) dKM_encrypt_116 ⟨by omega, by omega⟩) (fun  u36 H locs hu36 hP hD hS => ?_)
              obtain ⟨s40, pl⟩ := u36
              obtain ⟨⟨eq36, hFc36, -⟩, hO⟩ := hu36
              have hO : okn g T s40 pl := hO
              have hP : va_P g.1 vcl ([] ++ pl) _ := hP
              have hD : va_D _ ([] ++ pl) := hD
              have hFc36 : frm (M_RG_addProduct_7 30) s39 s40 := hFc36
              replace hR := bnd_step hR eq36
              have hF := frm_tr hF hFc36 (fun k hk => by unfold M_RG_addProduct_7 at hk; unfold M_KM_encrypt_0; omega)
              refine W.widen (k := 0) (n := 0) (by omega) (by omega) ?_
              refine mi_iinc (k := 0) (x := i24) (d := 1) (y := i24 + 1) (lv' := [(5, .int (nI (i24 + 1))), (4, .int (nI i22)), (0, .ref h0), (1, .ref st), (2, .ref pk), (3, .ref to)]) hx hb dKM_encrypt_119 hl rfl (by decide) rfl (by decide) rfl (fun ls hl => ?_)
              refine lv_goto (tgt := 72) hx hb dKM_encrypt_122 (by decide) ?_
              exact ih24 (i24 + 1) s40 pl ls H locs (by omega) hF hR (lv_sub hl [0, 1, 2, 3, 4, 5] rfl) hO hP hD hS
          exact lp24 2 0 s33 pl ls _ _ (by omega) hF hR (lv_sub hl [0, 1, 2, 3, 4, 5] rfl) hO hP hD hS
      exact lp22 2 0 s21 pl ls _ _ (by omega) hF hR (lv_sub hl [0, 1, 2, 3, 4] rfl) hO hP hD hS
    | succ n21 ih21 =>
      intro i21 s21 pl ls H locs hm21 hF hR hl hO hP hD hS
      refine lv_iload hx hb dKM_encrypt_3 (lv_at hl 0 rfl) ?_
      refine lv_aload_n hx hb dKM_encrypt_5 rfl (lv_at hl 2 rfl) ?_
      refine nw_get (C := "LatticeKeys$KemSet") (TT := T_KS) (N := 10) hx hb hts (wg_ft i_KS) hown hK hO k_st (kn := 5) (ci := 1) (fl := [(1, 2), (1, 3), (1, 10), (1, 4), (1, 800), (1, 1632), (1, 768), (1, 768), (1, 1568), (1, 1600)]) rfl hP rfl 0 (by decide) (hts _ (wg_t kw_231)) (fun _ h9 => h9) (cd := (1, 2)) rfl dKM_encrypt_6 (fun v65 hv65 => ?_)
      obtain rfl := (show v65 = .int (nI 2) from hv65)
      refine mi_ge (tgt := 49) hx hb dKM_encrypt_9 (by decide) (by omega) (by omega) (fun h28 => absurd h28 (by omega)) (fun h28 => ?_)
      refine lv_aload_n hx hb dKM_encrypt_12 rfl (lv_at hl 1 rfl) ?_
      refine lv_aload_n hx hb dKM_encrypt_13 rfl (lv_at hl 1 rfl) ?_
      refine nw_get (C := "LatticeKeys$Kem") (TT := T_KM) (N := 10) hx hb hts (wg_ft i_KM) hown hK hO k_h0 (kn := 24) (ci := 5) (fl := [(3, 14), (3, 20), (3, 25), (3, 30), (3, 31), (3, 32), (3, 33), (3, 34), (3, 35), (3, 36)]) rfl hP rfl 2 (by decide) (hts _ (wg_t kw_109)) (fun _ h9 => h9) (cd := (3, 25)) rfl dKM_encrypt_14 (fun v66 hv66 => ?_)
      obtain ⟨r52, rfl, kr52⟩ := (show ∃ r : Nat, v66 = .ref r ∧ T r = some 25 from hv66)
      refine lv_iload hx hb dKM_encrypt_17 (lv_at hl 0 rfl) ?_
      refine nw_aald3 hx hb hK hO kr52 (k := 25) (b := 26) rfl hP (by omega) (by omega) dKM_encrypt_19 (fun r53 kr53 => ?_)
      have hn23 : nsp (26 + i21) = (0, 256, []) := rows_ok 26 4 (by decide) _ (by omega)
      refine lv_aload_n hx hb dKM_encrypt_20 rfl (lv_at hl 2 rfl) ?_
      refine nw_get (C := "LatticeKeys$KemSet") (TT := T_KS) (N := 10) hx hb hts (wg_ft i_KS) hown hK hO k_st (kn := 5) (ci := 1) (fl := [(1, 2), (1, 3), (1, 10), (1, 4), (1, 800), (1, 1632), (1, 768), (1, 768), (1, 1568), (1, 1600)]) rfl hP rfl 1 (by decide) (hts _ (wg_t kw_233)) (fun _ h9 => h9) (cd := (1, 3)) rfl dKM_encrypt_21 (fun v67 hv67 => ?_)
      obtain rfl := (show v67 = .int (nI 3) from hv67)
      refine lv_iload hx hb dKM_encrypt_24 (lv_at hl 0 rfl) ?_
      refine mp_v (cx := []) (wr := []) hP hD hS hA [] [] rfl rfl rfl (by decide) (va_runV (As := [.ref r53, .int (nI 3), .int (nI i21)]) (rest := []) F (N_KM_sampleNoise_3 l g _ T s21 pl hO hU h0 r53 (26 + i21) (nI i21) k_h0 kr53 hn23) (cwV 3 hts (wg_app (wg_c kw_623 (wg_c kw_625 (wg_c ks_6 (wg_c kw_3 wg_n)))) kw_626) rfl rfl rfl (by decide +kernel) ⟨by decide, by decide⟩) (pn_W "LatticeKeys$Kem" (en_ok g) (ci := 5) (kn := 24) (fl := [(3, 14), (3, 20), (3, 25), (3, 30), (3, 31), (3, 32), (3, 33), (3, 34), (3, 35), (3, 36)]) hK hO k_h0 rfl hP hD hS hA hE [] rfl rfl rfl) rfl rfl hl.1 rfl (lv_room (Nat.le_of_ble_eq_true rfl)) dKM_encrypt_26 ⟨by omega, by omega⟩) (fun  u37 H locs hu37 hP hD hS => ?_)
      obtain ⟨s41, pl⟩ := u37
      obtain ⟨⟨eq37, hFc37, -⟩, hO⟩ := hu37
      have hO : okn g T s41 pl := hO
      have hP : va_P g.1 vcl ([] ++ pl) _ := hP
      have hD : va_D _ ([] ++ pl) := hD
      have hFc37 : frm (M_KM_sampleNoise_3 (26 + i21)) s21 s41 := hFc37
      replace hR := bnd_step hR eq37
      have hF := frm_tr hF hFc37 (fun k hk => by unfold M_KM_sampleNoise_3 at hk; unfold M_KM_encrypt_0; omega)
      refine W.widen (k := 0) (n := 0) (by omega) (by omega) ?_
      refine lv_aload_n hx hb dKM_encrypt_29 rfl (lv_at hl 1 rfl) ?_
      refine nw_get (C := "LatticeKeys$Kem") (TT := T_KM) (N := 10) hx hb hts (wg_ft i_KM) hown hK hO k_h0 (kn := 24) (ci := 5) (fl := [(3, 14), (3, 20), (3, 25), (3, 30), (3, 31), (3, 32), (3, 33), (3, 34), (3, 35), (3, 36)]) rfl hP rfl 1 (by decide) (hts _ (wg_t kw_108)) (fun _ h9 => h9) (cd := (3, 20)) rfl dKM_encrypt_30 (fun v68 hv68 => ?_)
      obtain ⟨r54, rfl, kr54⟩ := (show ∃ r : Nat, v68 = .ref r ∧ T r = some 20 from hv68)
      refine lv_aload_n hx hb dKM_encrypt_33 rfl (lv_at hl 1 rfl) ?_
      refine nw_get (C := "LatticeKeys$Kem") (TT := T_KM) (N := 10) hx hb hts (wg_ft i_KM) hown hK hO k_h0 (kn := 24) (ci := 5) (fl := [(3, 14), (3, 20), (3, 25), (3, 30), (3, 31), (3, 32), (3, 33), (3, 34), (3, 35), (3, 36)]) rfl hP rfl 2 (by decide) (hts _ (wg_t kw_109)) (fun _ h9 => h9) (cd := (3, 25)) rfl dKM_encrypt_34 (fun v69 hv69 => ?_)
      obtain ⟨r55, rfl, kr55⟩ := (show ∃ r : Nat, v69 = .ref r ∧ T r = some 25 from hv69)
      refine lv_iload hx hb dKM_encrypt_37 (lv_at hl 0 rfl) ?_
      refine nw_aald3 hx hb hK hO kr55 (k := 25) (b := 26) rfl hP (by omega) (by omega) dKM_encrypt_39 (fun r56 kr56 => ?_)
      have hn24 : nsp (26 + i21) = (0, 256, []) := rows_ok 26 4 (by decide) _ (by omega)
      refine mp_v (cx := []) (wr := []) hP hD hS hA [] [] rfl rfl rfl (by decide) (va_runV (As := [.ref r56]) (rest := []) F (N_RG_transform_7 l g _ T s41 pl hO hU r54 r56 (26 + i21) kr54 kr56 hn24) (cwV 1 hts (wg_app (wg_c kw_636 (wg_c kw_637 (wg_c kw_638 (wg_c kw_4 wg_n)))) kw_639) rfl rfl rfl (by decide +kernel) ⟨by decide, by decide⟩) (pn_W "LatticeKeys$Ring" (en_ok g) (ci := 4) (kn := 20) (fl := [(1, 3329), (1, 7), (1, 3303), (3, 21)]) hK hO kr54 rfl hP hD hS hA hE [] rfl rfl rfl) rfl rfl hl.1 rfl (lv_room (Nat.le_of_ble_eq_true rfl)) dKM_encrypt_40 ⟨by omega, by omega⟩) (fun  u38 H locs hu38 hP hD hS => ?_)
      obtain ⟨s42, pl⟩ := u38
      obtain ⟨⟨eq38, hFc38, -⟩, hO⟩ := hu38
      have hO : okn g T s42 pl := hO
      have hP : va_P g.1 vcl ([] ++ pl) _ := hP
      have hD : va_D _ ([] ++ pl) := hD
      have hFc38 : frm (M_RG_transform_7 (26 + i21)) s41 s42 := hFc38
      replace hR := bnd_step hR eq38
      have hF := frm_tr hF hFc38 (fun k hk => by unfold M_RG_transform_7 at hk; unfold M_KM_encrypt_0; omega)
      refine W.widen (k := 0) (n := 0) (by omega) (by omega) ?_
      refine mi_iinc (k := 0) (x := i21) (d := 1) (y := i21 + 1) (lv' := [(4, .int (nI (i21 + 1))), (0, .ref h0), (1, .ref st), (2, .ref pk), (3, .ref to)]) hx hb dKM_encrypt_43 hl rfl (by decide) rfl (by decide) rfl (fun ls hl => ?_)
      refine lv_goto (tgt := 3) hx hb dKM_encrypt_46 (by decide) ?_
      exact ih21 (i21 + 1) s42 pl ls H locs (by omega) hF hR (lv_sub hl [0, 1, 2, 3, 4] rfl) hO hP hD hS
  exact lp21 2 0 s pl ls _ _ (by omega) hF hR (lv_sub hl [0, 1, 2, 3, 4] rfl) hO hP hD hS
def M_KM_encrypt_1 (pt : Nat) (k : Nat) : Prop := (26 ≤ k ∧ k < 30) ∨ k = 14 ∨ k = 30 ∨ k = 31 ∨ k = 35 ∨ k = pt ∨ (0 : Nat) = 1
noncomputable def F_KM_encrypt_1_L3 (pp : Nat) (pt : Nat) (n : Nat) (i22 : Nat) (kk : Nat → Sto → Sto) : Nat → Nat → Sto → Sto
  | 0, i24, s34 => bnd (F_RG_restore_7 30 s34) fun s35 => bnd (F_KM_sampleNoise_2 31 (nI (3 + i22)) s35) fun s36 => bnd (F_RG_add_7 30 31 s36) fun s37 => bnd (F_KM_writeRounded 30 10 pt n (320 * i22) s37) fun s38 => kk (i22 + 1) s38
  | n24 + 1, i24, s34 => bnd (F_KM_sampleEntry pp 1184 1152 (nI i22) (nI i24) s34) fun s39 => bnd (F_RG_addProduct_7 30 31 (26 + i24) s39) fun s40 => F_KM_encrypt_1_L3 pp pt n i22 kk n24 (i24 + 1) s40
noncomputable def F_KM_encrypt_1_L2 (pp : Nat) (pt : Nat) (n : Nat) : Nat → Nat → Sto → Sto
  | 0, i23, s24 => bnd (F_RG_restore_7 30 s24) fun s25 => bnd (F_KM_sampleNoise_2 31 (nI 6) s25) fun s26 => bnd (F_RG_add_7 30 31 s26) fun s27 => bnd (F_KM_readRounded 31 1 32 32 0 s27) fun s28 => bnd (F_RG_add_7 30 31 s28) fun s29 => bnd (F_KM_writeRounded 30 4 pt n 960 s29) fun s30 => s30
  | n23 + 1, i23, s24 => bnd (F_KM_readReduced pp 1184 (384 * i23) s24) fun s31 => bnd (F_RG_addProduct_7 30 31 (26 + i23) s31) fun s32 => F_KM_encrypt_1_L2 pp pt n n23 (i23 + 1) s32
noncomputable def F_KM_encrypt_1_L1 (pp : Nat) (pt : Nat) (n : Nat) : Nat → Nat → Sto → Sto
  | 0, i22, s22 => bnd (F_AR_fillI 30 256 (nI 0) s22) fun s23 => F_KM_encrypt_1_L2 pp pt n 3 0 s23
  | n22 + 1, i22, s22 => bnd (F_AR_fillI 30 256 (nI 0) s22) fun s33 => F_KM_encrypt_1_L3 pp pt n i22 (F_KM_encrypt_1_L1 pp pt n n22) 3 0 s33
noncomputable def F_KM_encrypt_1_L0 (pp : Nat) (pt : Nat) (n : Nat) : Nat → Nat → Sto → Sto
  | 0, i21, s21 => F_KM_encrypt_1_L1 pp pt n 3 0 s21
  | n21 + 1, i21, s21 => bnd (F_KM_sampleNoise_2 (26 + i21) (nI i21) s21) fun s41 => bnd (F_RG_transform_7 (26 + i21) s41) fun s42 => F_KM_encrypt_1_L0 pp pt n n21 (i21 + 1) s42
noncomputable def F_KM_encrypt_1 (pp : Nat) (pt : Nat) (n : Nat) (s : Sto) : Sto := F_KM_encrypt_1_L0 pp pt n 3 0 s
set_option maxHeartbeats 400000 in
set_option maxRecDepth 100000 in
theorem N_KM_encrypt_1 (l : Launch) (g : Gd) (sz : Nat) (T : TyN) (s : Sto) (pl : va_W) (hO : okn g T s pl) (hU : inj T) (h0 st pk to : Nat) (pp : Nat) (pt : Nat) (n : Nat) (k_h0 : T h0 = some 24) (k_st : T st = some 6) (k_pk : T pk = some pp) (n_pk : nsp pp = (1, 1184, [])) (k_to : T to = some pt) (n_to : nsp pt = (1, n, [])) (h1 : 1088 ≤ n) (h2 : n < 65536)  : Met l y_KM_encrypt w_KM_encrypt ({ frames := 4, cells := 0, slots := 0, locals := 131 } : Room) (va_Pc [.ref h0, .ref st, .ref pk, .ref to] (pr (en g) g.1 vcl sz ([] ++ pl))) (va_Qv (fun (u : (Sto) × va_W) => (u.1 = F_KM_encrypt_1 pp pt n s ∧ frm (M_KM_encrypt_1 pt) s u.1 ∧ True) ∧ okn g T u.1 u.2) (po g.1 vcl (va_A ([] ++ pl) sz) (fun (u : (Sto) × va_W) => [] ++ u.2)) (va_A ([] ++ pl) sz)) 0 0 (va_A ([] ++ pl) sz) := by
  refine mc_entry (cc := c_KM_encrypt) (maxL := 6) (ret := none) (by decide) rfl (Nat.le_of_ble_eq_true rfl) ?_
  intro p e s0 m args below meth c ls F hr hlk hnm hsz hP hD hE hA hl
  obtain ⟨hx, hb, hml, hown, hts⟩ := id F
  have hK := hE.1
  generalize va_A ([] ++ pl) sz = A at hD hE hA ⊢
  have hS : va_S A s0.heap s0.heap [] := va_S.rf
  have hl : lv_has ls 6 [(0, .ref h0), (1, .ref st), (2, .ref pk), (3, .ref to)] := hl
  have hR : F_KM_encrypt_1 pp pt n s = F_KM_encrypt_1 pp pt n s := rfl
  have hF : frm (M_KM_encrypt_1 pt) s s := frm_rf
  refine lv_iconst (v := nI 0) hx hb dKM_encrypt_0 (by decide) ?_
  refine lv_istore (lv' := [(4, .int (nI 0)), (0, .ref h0), (1, .ref st), (2, .ref pk), (3, .ref to)]) hx hb dKM_encrypt_1 hl (by decide) rfl (fun ls hl => ?_)
  have lp21 : ∀ (n21 : Nat) (i21 : Nat) (s21 : Sto) (pl : va_W) (ls : Array Slot) (H : Heap) (locs : List Loc), n21 + i21 = 3 → frm (M_KM_encrypt_1 pt) s s21 → F_KM_encrypt_1 pp pt n s = F_KM_encrypt_1_L0 pp pt n n21 i21 s21 → lv_has ls 6 [(4, .int (nI i21)), (0, .ref h0), (1, .ref st), (2, .ref pk), (3, .ref to)] → okn g T s21 pl → va_P g.1 vcl ([] ++ pl) H → va_D A ([] ++ pl) → va_S A s0.heap H locs → W p l e ({ frames := 4, cells := 0, slots := 0, locals := 131 } : Room) s0 m args below meth c H locs 0 0 (MQ below (va_Qv (fun (u : (Sto) × va_W) => (u.1 = F_KM_encrypt_1 pp pt n s ∧ frm (M_KM_encrypt_1 pt) s u.1 ∧ True) ∧ okn g T u.1 u.2) (po g.1 vcl A (fun (u : (Sto) × va_W) => [] ++ u.2)) A) args s0 0 0 A) (F0 m 3 ls []) := by
    intro n21
    induction n21 with
    | zero =>
      intro i21 s21 pl ls H locs hm21 hF hR hl hO hP hD hS
      refine lv_iload hx hb dKM_encrypt_3 (lv_at hl 0 rfl) ?_
      refine lv_aload_n hx hb dKM_encrypt_5 rfl (lv_at hl 2 rfl) ?_
      refine nw_get (C := "LatticeKeys$KemSet") (TT := T_KS) (N := 10) hx hb hts (wg_ft i_KS) hown hK hO k_st (kn := 6) (ci := 1) (fl := [(1, 3), (1, 2), (1, 10), (1, 4), (1, 1184), (1, 2400), (1, 1088), (1, 1152), (1, 2336), (1, 2368)]) rfl hP rfl 0 (by decide) (hts _ (wg_t kw_231)) (fun _ h9 => h9) (cd := (1, 3)) rfl dKM_encrypt_6 (fun v21 hv21 => ?_)
      obtain rfl := (show v21 = .int (nI 3) from hv21)
      refine mi_ge (tgt := 49) hx hb dKM_encrypt_9 (by decide) (by omega) (by omega) (fun h21 => ?_) (fun h21 => absurd h21 (by omega))
      refine lv_iconst (v := nI 0) hx hb dKM_encrypt_49 (by decide) ?_
      refine lv_istore (lv' := [(4, .int (nI 0)), (0, .ref h0), (1, .ref st), (2, .ref pk), (3, .ref to)]) hx hb dKM_encrypt_50 hl (by decide) rfl (fun ls hl => ?_)
      have lp22 : ∀ (n22 : Nat) (i22 : Nat) (s22 : Sto) (pl : va_W) (ls : Array Slot) (H : Heap) (locs : List Loc), n22 + i22 = 3 → frm (M_KM_encrypt_1 pt) s s22 → F_KM_encrypt_1 pp pt n s = F_KM_encrypt_1_L1 pp pt n n22 i22 s22 → lv_has ls 6 [(4, .int (nI i22)), (0, .ref h0), (1, .ref st), (2, .ref pk), (3, .ref to)] → okn g T s22 pl → va_P g.1 vcl ([] ++ pl) H → va_D A ([] ++ pl) → va_S A s0.heap H locs → W p l e ({ frames := 4, cells := 0, slots := 0, locals := 131 } : Room) s0 m args below meth c H locs 0 0 (MQ below (va_Qv (fun (u : (Sto) × va_W) => (u.1 = F_KM_encrypt_1 pp pt n s ∧ frm (M_KM_encrypt_1 pt) s u.1 ∧ True) ∧ okn g T u.1 u.2) (po g.1 vcl A (fun (u : (Sto) × va_W) => [] ++ u.2)) A) args s0 0 0 A) (F0 m 52 ls []) := by
        intro n22
        induction n22 with
        | zero =>
          intro i22 s22 pl ls H locs hm22 hF hR hl hO hP hD hS
          refine lv_iload hx hb dKM_encrypt_52 (lv_at hl 0 rfl) ?_
          refine lv_aload_n hx hb dKM_encrypt_54 rfl (lv_at hl 2 rfl) ?_
          refine nw_get (C := "LatticeKeys$KemSet") (TT := T_KS) (N := 10) hx hb hts (wg_ft i_KS) hown hK hO k_st (kn := 6) (ci := 1) (fl := [(1, 3), (1, 2), (1, 10), (1, 4), (1, 1184), (1, 2400), (1, 1088), (1, 1152), (1, 2336), (1, 2368)]) rfl hP rfl 0 (by decide) (hts _ (wg_t kw_231)) (fun _ h9 => h9) (cd := (1, 3)) rfl dKM_encrypt_55 (fun v22 hv22 => ?_)
          obtain rfl := (show v22 = .int (nI 3) from hv22)
          refine mi_ge (tgt := 196) hx hb dKM_encrypt_58 (by decide) (by omega) (by omega) (fun h22 => ?_) (fun h22 => absurd h22 (by omega))
          refine lv_aload_n hx hb dKM_encrypt_196 rfl (lv_at hl 1 rfl) ?_
          refine nw_get (C := "LatticeKeys$Kem") (TT := T_KM) (N := 10) hx hb hts (wg_ft i_KM) hown hK hO k_h0 (kn := 24) (ci := 5) (fl := [(3, 14), (3, 20), (3, 25), (3, 30), (3, 31), (3, 32), (3, 33), (3, 34), (3, 35), (3, 36)]) rfl hP rfl 3 (by decide) (hts _ (wg_t kw_110)) (fun _ h9 => h9) (cd := (3, 30)) rfl dKM_encrypt_197 (fun v23 hv23 => ?_)
          obtain ⟨r21, rfl, kr21⟩ := (show ∃ r : Nat, v23 = .ref r ∧ T r = some 30 from hv23)
          refine lv_iconst (v := nI 0) hx hb dKM_encrypt_200 (by decide) ?_
          refine mp_v (cx := []) (wr := []) hP hD hS hA [] [] rfl rfl rfl (by decide) (va_runS (As := [.ref r21, .int (nI 0)]) (rest := []) F (N_AR_fillI l g _ T s22 pl hO hU r21 30 256 (nI 0) kr21 rfl (by omega)) (va_cwS 2 hts (wg_app (wg_c kw_1122 (wg_c kw_717 (wg_c kw_21 wg_n))) kw_718) rfl rfl rfl (by decide +kernel) ⟨by decide, by decide⟩) (pp_S (en_ok g) hP hD hS hA hE [] rfl rfl) rfl rfl hl.1 rfl (lv_room (Nat.le_of_ble_eq_true rfl)) dKM_encrypt_201 ⟨by omega, by omega⟩) (fun  u21 H locs hu21 hP hD hS => ?_)
          obtain ⟨s23, pl⟩ := u21
          obtain ⟨⟨eq21, hFc21, -⟩, hO⟩ := hu21
          have hO : okn g T s23 pl := hO
          have hP : va_P g.1 vcl ([] ++ pl) _ := hP
          have hD : va_D _ ([] ++ pl) := hD
          have hFc21 : frm (M_AR_fillI 30) s22 s23 := hFc21
          replace hR := bnd_step hR eq21
          have hF := frm_tr hF hFc21 (fun k hk => by unfold M_AR_fillI at hk; unfold M_KM_encrypt_1; omega)
          refine W.widen (k := 0) (n := 0) (by omega) (by omega) ?_
          refine lv_iconst (v := nI 0) hx hb dKM_encrypt_204 (by decide) ?_
          refine lv_istore (lv' := [(4, .int (nI 0)), (0, .ref h0), (1, .ref st), (2, .ref pk), (3, .ref to)]) hx hb dKM_encrypt_205 hl (by decide) rfl (fun ls hl => ?_)
          have lp23 : ∀ (n23 : Nat) (i23 : Nat) (s24 : Sto) (pl : va_W) (ls : Array Slot) (H : Heap) (locs : List Loc), n23 + i23 = 3 → frm (M_KM_encrypt_1 pt) s s24 → F_KM_encrypt_1 pp pt n s = F_KM_encrypt_1_L2 pp pt n n23 i23 s24 → lv_has ls 6 [(4, .int (nI i23)), (0, .ref h0), (1, .ref st), (2, .ref pk), (3, .ref to)] → okn g T s24 pl → va_P g.1 vcl ([] ++ pl) H → va_D A ([] ++ pl) → va_S A s0.heap H locs → W p l e ({ frames := 4, cells := 0, slots := 0, locals := 131 } : Room) s0 m args below meth c H locs 0 0 (MQ below (va_Qv (fun (u : (Sto) × va_W) => (u.1 = F_KM_encrypt_1 pp pt n s ∧ frm (M_KM_encrypt_1 pt) s u.1 ∧ True) ∧ okn g T u.1 u.2) (po g.1 vcl A (fun (u : (Sto) × va_W) => [] ++ u.2)) A) args s0 0 0 A) (F0 m 207 ls []) := by
            intro n23
            induction n23 with
            | zero =>
              intro i23 s24 pl ls H locs hm23 hF hR hl hO hP hD hS
              refine lv_iload hx hb dKM_encrypt_207 (lv_at hl 0 rfl) ?_
              refine lv_aload_n hx hb dKM_encrypt_209 rfl (lv_at hl 2 rfl) ?_
              refine nw_get (C := "LatticeKeys$KemSet") (TT := T_KS) (N := 10) hx hb hts (wg_ft i_KS) hown hK hO k_st (kn := 6) (ci := 1) (fl := [(1, 3), (1, 2), (1, 10), (1, 4), (1, 1184), (1, 2400), (1, 1088), (1, 1152), (1, 2336), (1, 2368)]) rfl hP rfl 0 (by decide) (hts _ (wg_t kw_231)) (fun _ h9 => h9) (cd := (1, 3)) rfl dKM_encrypt_210 (fun v24 hv24 => ?_)
              obtain rfl := (show v24 = .int (nI 3) from hv24)
              refine mi_ge (tgt := 255) hx hb dKM_encrypt_213 (by decide) (by omega) (by omega) (fun h23 => ?_) (fun h23 => absurd h23 (by omega))
              refine lv_aload_n hx hb dKM_encrypt_255 rfl (lv_at hl 1 rfl) ?_
              refine nw_get (C := "LatticeKeys$Kem") (TT := T_KM) (N := 10) hx hb hts (wg_ft i_KM) hown hK hO k_h0 (kn := 24) (ci := 5) (fl := [(3, 14), (3, 20), (3, 25), (3, 30), (3, 31), (3, 32), (3, 33), (3, 34), (3, 35), (3, 36)]) rfl hP rfl 1 (by decide) (hts _ (wg_t kw_108)) (fun _ h9 => h9) (cd := (3, 20)) rfl dKM_encrypt_256 (fun v25 hv25 => ?_)
              obtain ⟨r22, rfl, kr22⟩ := (show ∃ r : Nat, v25 = .ref r ∧ T r = some 20 from hv25)
              refine lv_aload_n hx hb dKM_encrypt_259 rfl (lv_at hl 1 rfl) ?_
              refine nw_get (C := "LatticeKeys$Kem") (TT := T_KM) (N := 10) hx hb hts (wg_ft i_KM) hown hK hO k_h0 (kn := 24) (ci := 5) (fl := [(3, 14), (3, 20), (3, 25), (3, 30), (3, 31), (3, 32), (3, 33), (3, 34), (3, 35), (3, 36)]) rfl hP rfl 3 (by decide) (hts _ (wg_t kw_110)) (fun _ h9 => h9) (cd := (3, 30)) rfl dKM_encrypt_260 (fun v26 hv26 => ?_)
              obtain ⟨r23, rfl, kr23⟩ := (show ∃ r : Nat, v26 = .ref r ∧ T r = some 30 from hv26)
              refine mp_v (cx := []) (wr := []) hP hD hS hA [] [] rfl rfl rfl (by decide) (va_runV (As := [.ref r23]) (rest := []) F (N_RG_restore_7 l g _ T s24 pl hO hU r22 r23 30 kr22 kr23 rfl) (cwV 1 hts (wg_app (wg_c kw_1123 (wg_c kw_721 (wg_c kw_722 (wg_c kw_4 wg_n)))) kw_723) rfl rfl rfl (by decide +kernel) ⟨by decide, by decide⟩) (pn_W "LatticeKeys$Ring" (en_ok g) (ci := 4) (kn := 20) (fl := [(1, 3329), (1, 7), (1, 3303), (3, 21)]) hK hO kr22 rfl hP hD hS hA hE [] rfl rfl rfl) rfl rfl hl.1 rfl (lv_room (Nat.le_of_ble_eq_true rfl)) dKM_encrypt_263 ⟨by omega, by omega⟩) (fun  u22 H locs hu22 hP hD hS => ?_)
              obtain ⟨s25, pl⟩ := u22
              obtain ⟨⟨eq22, hFc22, -⟩, hO⟩ := hu22
              have hO : okn g T s25 pl := hO
              have hP : va_P g.1 vcl ([] ++ pl) _ := hP
              have hD : va_D _ ([] ++ pl) := hD
              have hFc22 : frm (M_RG_restore_7 30) s24 s25 := hFc22
              replace hR := bnd_step hR eq22
              have hF := frm_tr hF hFc22 (fun k hk => by unfold M_RG_restore_7 at hk; unfold M_KM_encrypt_1; omega)
              refine W.widen (k := 0) (n := 0) (by omega) (by omega) ?_
              refine lv_aload_n hx hb dKM_encrypt_266 rfl (lv_at hl 1 rfl) ?_
              refine lv_aload_n hx hb dKM_encrypt_267 rfl (lv_at hl 1 rfl) ?_
              refine nw_get (C := "LatticeKeys$Kem") (TT := T_KM) (N := 10) hx hb hts (wg_ft i_KM) hown hK hO k_h0 (kn := 24) (ci := 5) (fl := [(3, 14), (3, 20), (3, 25), (3, 30), (3, 31), (3, 32), (3, 33), (3, 34), (3, 35), (3, 36)]) rfl hP rfl 4 (by decide) (hts _ (wg_t kw_111)) (fun _ h9 => h9) (cd := (3, 31)) rfl dKM_encrypt_268 (fun v27 hv27 => ?_)
              obtain ⟨r24, rfl, kr24⟩ := (show ∃ r : Nat, v27 = .ref r ∧ T r = some 31 from hv27)
              refine lv_iconst (v := nI 2) hx hb dKM_encrypt_271 (by decide) ?_
              refine lv_iconst (v := nI 2) hx hb dKM_encrypt_272 (by decide) ?_
              refine lv_aload_n hx hb dKM_encrypt_273 rfl (lv_at hl 2 rfl) ?_
              refine nw_get (C := "LatticeKeys$KemSet") (TT := T_KS) (N := 10) hx hb hts (wg_ft i_KS) hown hK hO k_st (kn := 6) (ci := 1) (fl := [(1, 3), (1, 2), (1, 10), (1, 4), (1, 1184), (1, 2400), (1, 1088), (1, 1152), (1, 2336), (1, 2368)]) rfl hP rfl 0 (by decide) (hts _ (wg_t kw_231)) (fun _ h9 => h9) (cd := (1, 3)) rfl dKM_encrypt_274 (fun v28 hv28 => ?_)
              obtain rfl := (show v28 = .int (nI 3) from hv28)
              refine mi_imul hx hb dKM_encrypt_277 ?_
              refine mi_as (show nI (2 * 3) = nI 6 from rfl) ?_
              refine mp_v (cx := []) (wr := []) hP hD hS hA [] [] rfl rfl rfl (by decide) (va_runV (As := [.ref r24, .int (nI 2), .int (nI 6)]) (rest := []) F (N_KM_sampleNoise_2 l g _ T s25 pl hO hU h0 r24 31 (nI 6) k_h0 kr24 rfl) (cwV 3 hts (wg_app (wg_c kw_623 (wg_c kw_625 (wg_c ks_6 (wg_c kw_3 wg_n)))) kw_626) rfl rfl rfl (by decide +kernel) ⟨by decide, by decide⟩) (pn_W "LatticeKeys$Kem" (en_ok g) (ci := 5) (kn := 24) (fl := [(3, 14), (3, 20), (3, 25), (3, 30), (3, 31), (3, 32), (3, 33), (3, 34), (3, 35), (3, 36)]) hK hO k_h0 rfl hP hD hS hA hE [] rfl rfl rfl) rfl rfl hl.1 rfl (lv_room (Nat.le_of_ble_eq_true rfl)) dKM_encrypt_278 ⟨by omega, by omega⟩) (fun  u23 H locs hu23 hP hD hS => ?_)
              obtain ⟨s26, pl⟩ := u23
              obtain ⟨⟨eq23, hFc23, -⟩, hO⟩ := hu23
              have hO : okn g T s26 pl := hO
              have hP : va_P g.1 vcl ([] ++ pl) _ := hP
              have hD : va_D _ ([] ++ pl) := hD
              have hFc23 : frm (M_KM_sampleNoise_2 31) s25 s26 := hFc23
              replace hR := bnd_step hR eq23
              have hF := frm_tr hF hFc23 (fun k hk => by unfold M_KM_sampleNoise_2 at hk; unfold M_KM_encrypt_1; omega)
              refine W.widen (k := 0) (n := 0) (by omega) (by omega) ?_
              refine lv_aload_n hx hb dKM_encrypt_281 rfl (lv_at hl 1 rfl) ?_
              refine nw_get (C := "LatticeKeys$Kem") (TT := T_KM) (N := 10) hx hb hts (wg_ft i_KM) hown hK hO k_h0 (kn := 24) (ci := 5) (fl := [(3, 14), (3, 20), (3, 25), (3, 30), (3, 31), (3, 32), (3, 33), (3, 34), (3, 35), (3, 36)]) rfl hP rfl 1 (by decide) (hts _ (wg_t kw_108)) (fun _ h9 => h9) (cd := (3, 20)) rfl dKM_encrypt_282 (fun v29 hv29 => ?_)
              obtain ⟨r25, rfl, kr25⟩ := (show ∃ r : Nat, v29 = .ref r ∧ T r = some 20 from hv29)
              refine lv_aload_n hx hb dKM_encrypt_285 rfl (lv_at hl 1 rfl) ?_
              refine nw_get (C := "LatticeKeys$Kem") (TT := T_KM) (N := 10) hx hb hts (wg_ft i_KM) hown hK hO k_h0 (kn := 24) (ci := 5) (fl := [(3, 14), (3, 20), (3, 25), (3, 30), (3, 31), (3, 32), (3, 33), (3, 34), (3, 35), (3, 36)]) rfl hP rfl 3 (by decide) (hts _ (wg_t kw_110)) (fun _ h9 => h9) (cd := (3, 30)) rfl dKM_encrypt_286 (fun v30 hv30 => ?_)
              obtain ⟨r26, rfl, kr26⟩ := (show ∃ r : Nat, v30 = .ref r ∧ T r = some 30 from hv30)
              refine lv_aload_n hx hb dKM_encrypt_289 rfl (lv_at hl 1 rfl) ?_
              refine nw_get (C := "LatticeKeys$Kem") (TT := T_KM) (N := 10) hx hb hts (wg_ft i_KM) hown hK hO k_h0 (kn := 24) (ci := 5) (fl := [(3, 14), (3, 20), (3, 25), (3, 30), (3, 31), (3, 32), (3, 33), (3, 34), (3, 35), (3, 36)]) rfl hP rfl 4 (by decide) (hts _ (wg_t kw_111)) (fun _ h9 => h9) (cd := (3, 31)) rfl dKM_encrypt_290 (fun v31 hv31 => ?_)
              obtain ⟨r27, rfl, kr27⟩ := (show ∃ r : Nat, v31 = .ref r ∧ T r = some 31 from hv31)
              refine mp_v (cx := []) (wr := []) hP hD hS hA [] [] rfl rfl rfl (by decide) (va_runV (As := [.ref r26, .ref r27]) (rest := []) F (N_RG_add_7 l g _ T s26 pl hO hU r25 r26 r27 30 31 kr25 kr26 rfl kr27 rfl) (cwV 2 hts (wg_app (wg_c kw_1124 (wg_c kw_729 (wg_c kw_730 (wg_c kw_4 wg_n)))) kw_731) rfl rfl rfl (by decide +kernel) ⟨by decide, by decide⟩) (pn_W "LatticeKeys$Ring" (en_ok g) (ci := 4) (kn := 20) (fl := [(1, 3329), (1, 7), (1, 3303), (3, 21)]) hK hO kr25 rfl hP hD hS hA hE [] rfl rfl rfl) rfl rfl hl.1 rfl (lv_room (Nat.le_of_ble_eq_true rfl)) dKM_encrypt_293 ⟨by omega, by omega⟩) (fun  u24 H locs hu24 hP hD hS => ?_)
              obtain ⟨s27, pl⟩ := u24
              obtain ⟨⟨eq24, hFc24, -⟩, hO⟩ := hu24
              have hO : okn g T s27 pl := hO
              have hP : va_P g.1 vcl ([] ++ pl) _ := hP
              have hD : va_D _ ([] ++ pl) := hD
              have hFc24 : frm (M_RG_add_7 30) s26 s27 := hFc24
              replace hR := bnd_step hR eq24
              have hF := frm_tr hF hFc24 (fun k hk => by unfold M_RG_add_7 at hk; unfold M_KM_encrypt_1; omega)
              refine W.widen (k := 0) (n := 0) (by omega) (by omega) ?_
              refine lv_aload_n hx hb dKM_encrypt_296 rfl (lv_at hl 1 rfl) ?_
              refine lv_aload_n hx hb dKM_encrypt_297 rfl (lv_at hl 1 rfl) ?_
              refine nw_get (C := "LatticeKeys$Kem") (TT := T_KM) (N := 10) hx hb hts (wg_ft i_KM) hown hK hO k_h0 (kn := 24) (ci := 5) (fl := [(3, 14), (3, 20), (3, 25), (3, 30), (3, 31), (3, 32), (3, 33), (3, 34), (3, 35), (3, 36)]) rfl hP rfl 4 (by decide) (hts _ (wg_t kw_111)) (fun _ h9 => h9) (cd := (3, 31)) rfl dKM_encrypt_298 (fun v32 hv32 => ?_)
              obtain ⟨r28, rfl, kr28⟩ := (show ∃ r : Nat, v32 = .ref r ∧ T r = some 31 from hv32)
              refine lv_iconst (v := nI 1) hx hb dKM_encrypt_301 (by decide) ?_
              refine lv_aload_n hx hb dKM_encrypt_302 rfl (lv_at hl 1 rfl) ?_
              refine nw_get (C := "LatticeKeys$Kem") (TT := T_KM) (N := 10) hx hb hts (wg_ft i_KM) hown hK hO k_h0 (kn := 24) (ci := 5) (fl := [(3, 14), (3, 20), (3, 25), (3, 30), (3, 31), (3, 32), (3, 33), (3, 34), (3, 35), (3, 36)]) rfl hP rfl 5 (by decide) (hts _ (wg_t kw_112)) (fun _ h9 => h9) (cd := (3, 32)) rfl dKM_encrypt_303 (fun v33 hv33 => ?_)
              obtain ⟨r29, rfl, kr29⟩ := (show ∃ r : Nat, v33 = .ref r ∧ T r = some 32 from hv33)
              refine lv_iconst (v := nI 0) hx hb dKM_encrypt_306 (by decide) ?_
              refine mp_v (cx := []) (wr := []) hP hD hS hA [] [] rfl rfl rfl (by decide) (va_runV (As := [.ref r28, .int (nI 1), .ref r29, .int (nI 0)]) (rest := []) F (N_KM_readRounded l g _ T s27 pl hO hU h0 r28 r29 31 1 32 32 0 k_h0 kr28 rfl kr29 rfl (by omega) (by omega) (by omega) (by omega)) (cwV 4 hts (wg_app (wg_c kw_1133 (wg_c kw_1135 (wg_c ks_30 (wg_c kw_3 wg_n)))) kw_1136) rfl rfl rfl (by decide +kernel) ⟨by decide, by decide⟩) (pn_W "LatticeKeys$Kem" (en_ok g) (ci := 5) (kn := 24) (fl := [(3, 14), (3, 20), (3, 25), (3, 30), (3, 31), (3, 32), (3, 33), (3, 34), (3, 35), (3, 36)]) hK hO k_h0 rfl hP hD hS hA hE [] rfl rfl rfl) rfl rfl hl.1 rfl (lv_room (Nat.le_of_ble_eq_true rfl)) dKM_encrypt_307 ⟨by omega, by omega⟩) (fun  u25 H locs hu25 hP hD hS => ?_)
              obtain ⟨s28, pl⟩ := u25
              obtain ⟨⟨eq25, hFc25, -⟩, hO⟩ := hu25
              have hO : okn g T s28 pl := hO
              have hP : va_P g.1 vcl ([] ++ pl) _ := hP
              have hD : va_D _ ([] ++ pl) := hD
              have hFc25 : frm (M_KM_readRounded 31) s27 s28 := hFc25
              replace hR := bnd_step hR eq25
              have hF := frm_tr hF hFc25 (fun k hk => by unfold M_KM_readRounded at hk; unfold M_KM_encrypt_1; omega)
              refine W.widen (k := 0) (n := 0) (by omega) (by omega) ?_
              refine lv_aload_n hx hb dKM_encrypt_310 rfl (lv_at hl 1 rfl) ?_
              refine nw_get (C := "LatticeKeys$Kem") (TT := T_KM) (N := 10) hx hb hts (wg_ft i_KM) hown hK hO k_h0 (kn := 24) (ci := 5) (fl := [(3, 14), (3, 20), (3, 25), (3, 30), (3, 31), (3, 32), (3, 33), (3, 34), (3, 35), (3, 36)]) rfl hP rfl 1 (by decide) (hts _ (wg_t kw_108)) (fun _ h9 => h9) (cd := (3, 20)) rfl dKM_encrypt_311 (fun v34 hv34 => ?_)
              obtain ⟨r30, rfl, kr30⟩ := (show ∃ r : Nat, v34 = .ref r ∧ T r = some 20 from hv34)
              refine lv_aload_n hx hb dKM_encrypt_314 rfl (lv_at hl 1 rfl) ?_
              refine nw_get (C := "LatticeKeys$Kem") (TT := T_KM) (N := 10) hx hb hts (wg_ft i_KM) hown hK hO k_h0 (kn := 24) (ci := 5) (fl := [(3, 14), (3, 20), (3, 25), (3, 30), (3, 31), (3, 32), (3, 33), (3, 34), (3, 35), (3, 36)]) rfl hP rfl 3 (by decide) (hts _ (wg_t kw_110)) (fun _ h9 => h9) (cd := (3, 30)) rfl dKM_encrypt_315 (fun v35 hv35 => ?_)
              obtain ⟨r31, rfl, kr31⟩ := (show ∃ r : Nat, v35 = .ref r ∧ T r = some 30 from hv35)
              refine lv_aload_n hx hb dKM_encrypt_318 rfl (lv_at hl 1 rfl) ?_
              refine nw_get (C := "LatticeKeys$Kem") (TT := T_KM) (N := 10) hx hb hts (wg_ft i_KM) hown hK hO k_h0 (kn := 24) (ci := 5) (fl := [(3, 14), (3, 20), (3, 25), (3, 30), (3, 31), (3, 32), (3, 33), (3, 34), (3, 35), (3, 36)]) rfl hP rfl 4 (by decide) (hts _ (wg_t kw_111)) (fun _ h9 => h9) (cd := (3, 31)) rfl dKM_encrypt_319 (fun v36 hv36 => ?_)
              obtain ⟨r32, rfl, kr32⟩ := (show ∃ r : Nat, v36 = .ref r ∧ T r = some 31 from hv36)
              refine mp_v (cx := []) (wr := []) hP hD hS hA [] [] rfl rfl rfl (by decide) (va_runV (As := [.ref r31, .ref r32]) (rest := []) F (N_RG_add_7 l g _ T s28 pl hO hU r30 r31 r32 30 31 kr30 kr31 rfl kr32 rfl) (cwV 2 hts (wg_app (wg_c kw_1124 (wg_c kw_729 (wg_c kw_730 (wg_c kw_4 wg_n)))) kw_731) rfl rfl rfl (by decide +kernel) ⟨by decide, by decide⟩) (pn_W "LatticeKeys$Ring" (en_ok g) (ci := 4) (kn := 20) (fl := [(1, 3329), (1, 7), (1, 3303), (3, 21)]) hK hO kr30 rfl hP hD hS hA hE [] rfl rfl rfl) rfl rfl hl.1 rfl (lv_room (Nat.le_of_ble_eq_true rfl)) dKM_encrypt_322 ⟨by omega, by omega⟩) (fun  u26 H locs hu26 hP hD hS => ?_)
              obtain ⟨s29, pl⟩ := u26
              obtain ⟨⟨eq26, hFc26, -⟩, hO⟩ := hu26
              have hO : okn g T s29 pl := hO
              have hP : va_P g.1 vcl ([] ++ pl) _ := hP
              have hD : va_D _ ([] ++ pl) := hD
              have hFc26 : frm (M_RG_add_7 30) s28 s29 := hFc26
              replace hR := bnd_step hR eq26
              have hF := frm_tr hF hFc26 (fun k hk => by unfold M_RG_add_7 at hk; unfold M_KM_encrypt_1; omega)
              refine W.widen (k := 0) (n := 0) (by omega) (by omega) ?_
              refine lv_aload_n hx hb dKM_encrypt_325 rfl (lv_at hl 1 rfl) ?_
              refine lv_aload_n hx hb dKM_encrypt_326 rfl (lv_at hl 1 rfl) ?_
              refine nw_get (C := "LatticeKeys$Kem") (TT := T_KM) (N := 10) hx hb hts (wg_ft i_KM) hown hK hO k_h0 (kn := 24) (ci := 5) (fl := [(3, 14), (3, 20), (3, 25), (3, 30), (3, 31), (3, 32), (3, 33), (3, 34), (3, 35), (3, 36)]) rfl hP rfl 3 (by decide) (hts _ (wg_t kw_110)) (fun _ h9 => h9) (cd := (3, 30)) rfl dKM_encrypt_327 (fun v37 hv37 => ?_)
              obtain ⟨r33, rfl, kr33⟩ := (show ∃ r : Nat, v37 = .ref r ∧ T r = some 30 from hv37)
              refine lv_aload_n hx hb dKM_encrypt_330 rfl (lv_at hl 2 rfl) ?_
              refine nw_get (C := "LatticeKeys$KemSet") (TT := T_KS) (N := 10) hx hb hts (wg_ft i_KS) hown hK hO k_st (kn := 6) (ci := 1) (fl := [(1, 3), (1, 2), (1, 10), (1, 4), (1, 1184), (1, 2400), (1, 1088), (1, 1152), (1, 2336), (1, 2368)]) rfl hP rfl 3 (by decide) (hts _ (wg_t kw_237)) (fun _ h9 => h9) (cd := (1, 4)) rfl dKM_encrypt_331 (fun v38 hv38 => ?_)
              obtain rfl := (show v38 = .int (nI 4) from hv38)
              refine lv_aload_n hx hb dKM_encrypt_334 rfl (lv_at hl 4 rfl) ?_
              refine lv_bipush (v := nI 32) hx hb dKM_encrypt_335 (by decide) ?_
              refine lv_aload_n hx hb dKM_encrypt_337 rfl (lv_at hl 2 rfl) ?_
              refine nw_get (C := "LatticeKeys$KemSet") (TT := T_KS) (N := 10) hx hb hts (wg_ft i_KS) hown hK hO k_st (kn := 6) (ci := 1) (fl := [(1, 3), (1, 2), (1, 10), (1, 4), (1, 1184), (1, 2400), (1, 1088), (1, 1152), (1, 2336), (1, 2368)]) rfl hP rfl 2 (by decide) (hts _ (wg_t kw_235)) (fun _ h9 => h9) (cd := (1, 10)) rfl dKM_encrypt_338 (fun v39 hv39 => ?_)
              obtain rfl := (show v39 = .int (nI 10) from hv39)
              refine mi_imul hx hb dKM_encrypt_341 ?_
              refine mi_as (show nI (32 * 10) = nI 320 from rfl) ?_
              refine lv_aload_n hx hb dKM_encrypt_342 rfl (lv_at hl 2 rfl) ?_
              refine nw_get (C := "LatticeKeys$KemSet") (TT := T_KS) (N := 10) hx hb hts (wg_ft i_KS) hown hK hO k_st (kn := 6) (ci := 1) (fl := [(1, 3), (1, 2), (1, 10), (1, 4), (1, 1184), (1, 2400), (1, 1088), (1, 1152), (1, 2336), (1, 2368)]) rfl hP rfl 0 (by decide) (hts _ (wg_t kw_231)) (fun _ h9 => h9) (cd := (1, 3)) rfl dKM_encrypt_343 (fun v40 hv40 => ?_)
              obtain rfl := (show v40 = .int (nI 3) from hv40)
              refine mi_imul hx hb dKM_encrypt_346 ?_
              refine mi_as (show nI (320 * 3) = nI 960 from rfl) ?_
              refine mp_v (cx := []) (wr := []) hP hD hS hA [] [] rfl rfl rfl (by decide) (va_runV (As := [.ref r33, .int (nI 4), .ref to, .int (nI 960)]) (rest := []) F (N_KM_writeRounded l g _ T s29 pl hO hU h0 r33 to 30 4 pt n 960 k_h0 kr33 rfl k_to n_to (by omega) (by omega) (by omega)) (cwV 4 hts (wg_app (wg_c kw_1125 (wg_c kw_1127 (wg_c ks_28 (wg_c kw_3 wg_n)))) kw_1128) rfl rfl rfl (by decide +kernel) ⟨by decide, by decide⟩) (pn_W "LatticeKeys$Kem" (en_ok g) (ci := 5) (kn := 24) (fl := [(3, 14), (3, 20), (3, 25), (3, 30), (3, 31), (3, 32), (3, 33), (3, 34), (3, 35), (3, 36)]) hK hO k_h0 rfl hP hD hS hA hE [] rfl rfl rfl) rfl rfl hl.1 rfl (lv_room (Nat.le_of_ble_eq_true rfl)) dKM_encrypt_347 ⟨by omega, by omega⟩) (fun  u27 H locs hu27 hP hD hS => ?_)
              obtain ⟨s30, pl⟩ := u27
              obtain ⟨⟨eq27, hFc27, -⟩, hO⟩ := hu27
              have hO : okn g T s30 pl := hO
              have hP : va_P g.1 vcl ([] ++ pl) _ := hP
              have hD : va_D _ ([] ++ pl) := hD
              have hFc27 : frm (M_KM_writeRounded 30 pt) s29 s30 := hFc27
              replace hR := bnd_step hR eq27
              have hF := frm_tr hF hFc27 (fun k hk => by unfold M_KM_writeRounded at hk; unfold M_KM_encrypt_1; omega)
              refine W.widen (k := 0) (n := 0) (by omega) (by omega) ?_
              exact mp_vret hx hb hr hlk hP hD hS (s30, pl) ⟨⟨hR.symm, hF, trivial⟩, hO⟩ [] rfl rfl rfl (by omega) (by omega) dKM_encrypt_350
            | succ n23 ih23 =>
              intro i23 s24 pl ls H locs hm23 hF hR hl hO hP hD hS
              refine lv_iload hx hb dKM_encrypt_207 (lv_at hl 0 rfl) ?_
              refine lv_aload_n hx hb dKM_encrypt_209 rfl (lv_at hl 2 rfl) ?_
              refine nw_get (C := "LatticeKeys$KemSet") (TT := T_KS) (N := 10) hx hb hts (wg_ft i_KS) hown hK hO k_st (kn := 6) (ci := 1) (fl := [(1, 3), (1, 2), (1, 10), (1, 4), (1, 1184), (1, 2400), (1, 1088), (1, 1152), (1, 2336), (1, 2368)]) rfl hP rfl 0 (by decide) (hts _ (wg_t kw_231)) (fun _ h9 => h9) (cd := (1, 3)) rfl dKM_encrypt_210 (fun v41 hv41 => ?_)
              obtain rfl := (show v41 = .int (nI 3) from hv41)
              refine mi_ge (tgt := 255) hx hb dKM_encrypt_213 (by decide) (by omega) (by omega) (fun h24 => absurd h24 (by omega)) (fun h24 => ?_)
              refine lv_aload_n hx hb dKM_encrypt_216 rfl (lv_at hl 1 rfl) ?_
              refine lv_aload_n hx hb dKM_encrypt_217 rfl (lv_at hl 3 rfl) ?_
              refine lv_sipush (v := nI 384) hx hb dKM_encrypt_218 (by decide) ?_
              refine lv_iload hx hb dKM_encrypt_221 (lv_at hl 0 rfl) ?_
              refine mi_imul hx hb dKM_encrypt_223 ?_
              refine mp_v (cx := []) (wr := []) hP hD hS hA [] [] rfl rfl rfl (by decide) (va_runV (As := [.ref pk, .int (nI (384 * i23))]) (rest := []) F (N_KM_readReduced l g _ T s24 pl hO hU h0 pk pp 1184 (384 * i23) k_h0 k_pk n_pk (by omega) (by omega)) (cwV 2 hts (wg_app (wg_c kw_1129 (wg_c kw_1131 (wg_c ks_29 (wg_c kw_3 wg_n)))) kw_1132) rfl rfl rfl (by decide +kernel) ⟨by decide, by decide⟩) (pn_W "LatticeKeys$Kem" (en_ok g) (ci := 5) (kn := 24) (fl := [(3, 14), (3, 20), (3, 25), (3, 30), (3, 31), (3, 32), (3, 33), (3, 34), (3, 35), (3, 36)]) hK hO k_h0 rfl hP hD hS hA hE [] rfl rfl rfl) rfl rfl hl.1 rfl (lv_room (Nat.le_of_ble_eq_true rfl)) dKM_encrypt_224 ⟨by omega, by omega⟩) (fun  u28 H locs hu28 hP hD hS => ?_)
              obtain ⟨s31, pl⟩ := u28
              obtain ⟨⟨eq28, hFc28, -⟩, hO⟩ := hu28
              have hO : okn g T s31 pl := hO
              have hP : va_P g.1 vcl ([] ++ pl) _ := hP
              have hD : va_D _ ([] ++ pl) := hD
              have hFc28 : frm (M_KM_readReduced) s24 s31 := hFc28
              replace hR := bnd_step hR eq28
              have hF := frm_tr hF hFc28 (fun k hk => by unfold M_KM_readReduced at hk; unfold M_KM_encrypt_1; omega)
              refine W.widen (k := 0) (n := 0) (by omega) (by omega) ?_
              refine lv_aload_n hx hb dKM_encrypt_227 rfl (lv_at hl 1 rfl) ?_
              refine nw_get (C := "LatticeKeys$Kem") (TT := T_KM) (N := 10) hx hb hts (wg_ft i_KM) hown hK hO k_h0 (kn := 24) (ci := 5) (fl := [(3, 14), (3, 20), (3, 25), (3, 30), (3, 31), (3, 32), (3, 33), (3, 34), (3, 35), (3, 36)]) rfl hP rfl 1 (by decide) (hts _ (wg_t kw_108)) (fun _ h9 => h9) (cd := (3, 20)) rfl dKM_encrypt_228 (fun v42 hv42 => ?_)
              obtain ⟨r34, rfl, kr34⟩ := (show ∃ r : Nat, v42 = .ref r ∧ T r = some 20 from hv42)
              refine lv_aload_n hx hb dKM_encrypt_231 rfl (lv_at hl 1 rfl) ?_
              refine nw_get (C := "LatticeKeys$Kem") (TT := T_KM) (N := 10) hx hb hts (wg_ft i_KM) hown hK hO k_h0 (kn := 24) (ci := 5) (fl := [(3, 14), (3, 20), (3, 25), (3, 30), (3, 31), (3, 32), (3, 33), (3, 34), (3, 35), (3, 36)]) rfl hP rfl 3 (by decide) (hts _ (wg_t kw_110)) (fun _ h9 => h9) (cd := (3, 30)) rfl dKM_encrypt_232 (fun v43 hv43 => ?_)
              obtain ⟨r35, rfl, kr35⟩ := (show ∃ r : Nat, v43 = .ref r ∧ T r = some 30 from hv43)
              refine lv_aload_n hx hb dKM_encrypt_235 rfl (lv_at hl 1 rfl) ?_
              refine nw_get (C := "LatticeKeys$Kem") (TT := T_KM) (N := 10) hx hb hts (wg_ft i_KM) hown hK hO k_h0 (kn := 24) (ci := 5) (fl := [(3, 14), (3, 20), (3, 25), (3, 30), (3, 31), (3, 32), (3, 33), (3, 34), (3, 35), (3, 36)]) rfl hP rfl 4 (by decide) (hts _ (wg_t kw_111)) (fun _ h9 => h9) (cd := (3, 31)) rfl dKM_encrypt_236 (fun v44 hv44 => ?_)
              obtain ⟨r36, rfl, kr36⟩ := (show ∃ r : Nat, v44 = .ref r ∧ T r = some 31 from hv44)
              refine lv_aload_n hx hb dKM_encrypt_239 rfl (lv_at hl 1 rfl) ?_
              refine nw_get (C := "LatticeKeys$Kem") (TT := T_KM) (N := 10) hx hb hts (wg_ft i_KM) hown hK hO k_h0 (kn := 24) (ci := 5) (fl := [(3, 14), (3, 20), (3, 25), (3, 30), (3, 31), (3, 32), (3, 33), (3, 34), (3, 35), (3, 36)]) rfl hP rfl 2 (by decide) (hts _ (wg_t kw_109)) (fun _ h9 => h9) (cd := (3, 25)) rfl dKM_encrypt_240 (fun v45 hv45 => ?_)
              obtain ⟨r37, rfl, kr37⟩ := (show ∃ r : Nat, v45 = .ref r ∧ T r = some 25 from hv45)
              refine lv_iload hx hb dKM_encrypt_243 (lv_at hl 0 rfl) ?_
              refine nw_aald3 hx hb hK hO kr37 (k := 25) (b := 26) rfl hP (by omega) (by omega) dKM_encrypt_245 (fun r38 kr38 => ?_)
              have hn21 : nsp (26 + i23) = (0, 256, []) := rows_ok 26 4 (by decide) _ (by omega)
              refine mp_v (cx := []) (wr := []) hP hD hS hA [] [] rfl rfl rfl (by decide) (va_runV (As := [.ref r35, .ref r36, .ref r38]) (rest := []) F (N_RG_addProduct_7 l g _ T s31 pl hO hU r34 r35 r36 r38 30 31 (26 + i23) kr34 kr35 rfl kr36 rfl kr38 hn21) (cwV 3 hts (wg_app (wg_c kw_653 (wg_c kw_654 (wg_c kw_655 (wg_c kw_4 wg_n)))) kw_656) rfl rfl rfl (by decide +kernel) ⟨by decide, by decide⟩) (pn_W "LatticeKeys$Ring" (en_ok g) (ci := 4) (kn := 20) (fl := [(1, 3329), (1, 7), (1, 3303), (3, 21)]) hK hO kr34 rfl hP hD hS hA hE [] rfl rfl rfl) rfl rfl hl.1 rfl (lv_room (Nat.le_of_ble_eq_true rfl)) dKM_encrypt_246 ⟨by omega, by omega⟩) (fun  u29 H locs hu29 hP hD hS => ?_)
              obtain ⟨s32, pl⟩ := u29
              obtain ⟨⟨eq29, hFc29, -⟩, hO⟩ := hu29
              have hO : okn g T s32 pl := hO
              have hP : va_P g.1 vcl ([] ++ pl) _ := hP
              have hD : va_D _ ([] ++ pl) := hD
              have hFc29 : frm (M_RG_addProduct_7 30) s31 s32 := hFc29
              replace hR := bnd_step hR eq29
              have hF := frm_tr hF hFc29 (fun k hk => by unfold M_RG_addProduct_7 at hk; unfold M_KM_encrypt_1; omega)
              refine W.widen (k := 0) (n := 0) (by omega) (by omega) ?_
              refine mi_iinc (k := 0) (x := i23) (d := 1) (y := i23 + 1) (lv' := [(4, .int (nI (i23 + 1))), (0, .ref h0), (1, .ref st), (2, .ref pk), (3, .ref to)]) hx hb dKM_encrypt_249 hl rfl (by decide) rfl (by decide) rfl (fun ls hl => ?_)
              refine lv_goto (tgt := 207) hx hb dKM_encrypt_252 (by decide) ?_
              exact ih23 (i23 + 1) s32 pl ls H locs (by omega) hF hR (lv_sub hl [0, 1, 2, 3, 4] rfl) hO hP hD hS
          exact lp23 3 0 s23 pl ls _ _ (by omega) hF hR (lv_sub hl [0, 1, 2, 3, 4] rfl) hO hP hD hS
        | succ n22 ih22 =>
          intro i22 s22 pl ls H locs hm22 hF hR hl hO hP hD hS
          refine lv_iload hx hb dKM_encrypt_52 (lv_at hl 0 rfl) ?_
          refine lv_aload_n hx hb dKM_encrypt_54 rfl (lv_at hl 2 rfl) ?_
          refine nw_get (C := "LatticeKeys$KemSet") (TT := T_KS) (N := 10) hx hb hts (wg_ft i_KS) hown hK hO k_st (kn := 6) (ci := 1) (fl := [(1, 3), (1, 2), (1, 10), (1, 4), (1, 1184), (1, 2400), (1, 1088), (1, 1152), (1, 2336), (1, 2368)]) rfl hP rfl 0 (by decide) (hts _ (wg_t kw_231)) (fun _ h9 => h9) (cd := (1, 3)) rfl dKM_encrypt_55 (fun v46 hv46 => ?_)
          obtain rfl := (show v46 = .int (nI 3) from hv46)
          refine mi_ge (tgt := 196) hx hb dKM_encrypt_58 (by decide) (by omega) (by omega) (fun h25 => absurd h25 (by omega)) (fun h25 => ?_)
          refine lv_aload_n hx hb dKM_encrypt_61 rfl (lv_at hl 1 rfl) ?_
          refine nw_get (C := "LatticeKeys$Kem") (TT := T_KM) (N := 10) hx hb hts (wg_ft i_KM) hown hK hO k_h0 (kn := 24) (ci := 5) (fl := [(3, 14), (3, 20), (3, 25), (3, 30), (3, 31), (3, 32), (3, 33), (3, 34), (3, 35), (3, 36)]) rfl hP rfl 3 (by decide) (hts _ (wg_t kw_110)) (fun _ h9 => h9) (cd := (3, 30)) rfl dKM_encrypt_62 (fun v47 hv47 => ?_)
          obtain ⟨r39, rfl, kr39⟩ := (show ∃ r : Nat, v47 = .ref r ∧ T r = some 30 from hv47)
          refine lv_iconst (v := nI 0) hx hb dKM_encrypt_65 (by decide) ?_
          refine mp_v (cx := []) (wr := []) hP hD hS hA [] [] rfl rfl rfl (by decide) (va_runS (As := [.ref r39, .int (nI 0)]) (rest := []) F (N_AR_fillI l g _ T s22 pl hO hU r39 30 256 (nI 0) kr39 rfl (by omega)) (va_cwS 2 hts (wg_app (wg_c kw_1122 (wg_c kw_717 (wg_c kw_21 wg_n))) kw_718) rfl rfl rfl (by decide +kernel) ⟨by decide, by decide⟩) (pp_S (en_ok g) hP hD hS hA hE [] rfl rfl) rfl rfl hl.1 rfl (lv_room (Nat.le_of_ble_eq_true rfl)) dKM_encrypt_66 ⟨by omega, by omega⟩) (fun  u30 H locs hu30 hP hD hS => ?_)
          obtain ⟨s33, pl⟩ := u30
          obtain ⟨⟨eq30, hFc30, -⟩, hO⟩ := hu30
          have hO : okn g T s33 pl := hO
          have hP : va_P g.1 vcl ([] ++ pl) _ := hP
          have hD : va_D _ ([] ++ pl) := hD
          have hFc30 : frm (M_AR_fillI 30) s22 s33 := hFc30
          replace hR := bnd_step hR eq30
          have hF := frm_tr hF hFc30 (fun k hk => by unfold M_AR_fillI at hk; unfold M_KM_encrypt_1; omega)
          refine W.widen (k := 0) (n := 0) (by omega) (by omega) ?_
          refine lv_iconst (v := nI 0) hx hb dKM_encrypt_69 (by decide) ?_
          refine lv_istore (lv' := [(5, .int (nI 0)), (4, .int (nI i22)), (0, .ref h0), (1, .ref st), (2, .ref pk), (3, .ref to)]) hx hb dKM_encrypt_70 hl (by decide) rfl (fun ls hl => ?_)
          have lp24 : ∀ (n24 : Nat) (i24 : Nat) (s34 : Sto) (pl : va_W) (ls : Array Slot) (H : Heap) (locs : List Loc), n24 + i24 = 3 → frm (M_KM_encrypt_1 pt) s s34 → F_KM_encrypt_1 pp pt n s = F_KM_encrypt_1_L3 pp pt n i22 (F_KM_encrypt_1_L1 pp pt n n22) n24 i24 s34 → lv_has ls 6 [(5, .int (nI i24)), (4, .int (nI i22)), (0, .ref h0), (1, .ref st), (2, .ref pk), (3, .ref to)] → okn g T s34 pl → va_P g.1 vcl ([] ++ pl) H → va_D A ([] ++ pl) → va_S A s0.heap H locs → W p l e ({ frames := 4, cells := 0, slots := 0, locals := 131 } : Room) s0 m args below meth c H locs 0 0 (MQ below (va_Qv (fun (u : (Sto) × va_W) => (u.1 = F_KM_encrypt_1 pp pt n s ∧ frm (M_KM_encrypt_1 pt) s u.1 ∧ True) ∧ okn g T u.1 u.2) (po g.1 vcl A (fun (u : (Sto) × va_W) => [] ++ u.2)) A) args s0 0 0 A) (F0 m 72 ls []) := by
            intro n24
            induction n24 with
            | zero =>
              intro i24 s34 pl ls H locs hm24 hF hR hl hO hP hD hS
              refine lv_iload hx hb dKM_encrypt_72 (lv_at hl 0 rfl) ?_
              refine lv_aload_n hx hb dKM_encrypt_74 rfl (lv_at hl 3 rfl) ?_
              refine nw_get (C := "LatticeKeys$KemSet") (TT := T_KS) (N := 10) hx hb hts (wg_ft i_KS) hown hK hO k_st (kn := 6) (ci := 1) (fl := [(1, 3), (1, 2), (1, 10), (1, 4), (1, 1184), (1, 2400), (1, 1088), (1, 1152), (1, 2336), (1, 2368)]) rfl hP rfl 0 (by decide) (hts _ (wg_t kw_231)) (fun _ h9 => h9) (cd := (1, 3)) rfl dKM_encrypt_75 (fun v48 hv48 => ?_)
              obtain rfl := (show v48 = .int (nI 3) from hv48)
              refine mi_ge (tgt := 125) hx hb dKM_encrypt_78 (by decide) (by omega) (by omega) (fun h26 => ?_) (fun h26 => absurd h26 (by omega))
              refine lv_aload_n hx hb dKM_encrypt_125 rfl (lv_at hl 2 rfl) ?_
              refine nw_get (C := "LatticeKeys$Kem") (TT := T_KM) (N := 10) hx hb hts (wg_ft i_KM) hown hK hO k_h0 (kn := 24) (ci := 5) (fl := [(3, 14), (3, 20), (3, 25), (3, 30), (3, 31), (3, 32), (3, 33), (3, 34), (3, 35), (3, 36)]) rfl hP rfl 1 (by decide) (hts _ (wg_t kw_108)) (fun _ h9 => h9) (cd := (3, 20)) rfl dKM_encrypt_126 (fun v49 hv49 => ?_)
              obtain ⟨r40, rfl, kr40⟩ := (show ∃ r : Nat, v49 = .ref r ∧ T r = some 20 from hv49)
              refine lv_aload_n hx hb dKM_encrypt_129 rfl (lv_at hl 2 rfl) ?_
              refine nw_get (C := "LatticeKeys$Kem") (TT := T_KM) (N := 10) hx hb hts (wg_ft i_KM) hown hK hO k_h0 (kn := 24) (ci := 5) (fl := [(3, 14), (3, 20), (3, 25), (3, 30), (3, 31), (3, 32), (3, 33), (3, 34), (3, 35), (3, 36)]) rfl hP rfl 3 (by decide) (hts _ (wg_t kw_110)) (fun _ h9 => h9) (cd := (3, 30)) rfl dKM_encrypt_130 (fun v50 hv50 => ?_)
              obtain ⟨r41, rfl, kr41⟩ := (show ∃ r : Nat, v50 = .ref r ∧ T r = some 30 from hv50)
              refine mp_v (cx := []) (wr := []) hP hD hS hA [] [] rfl rfl rfl (by decide) (va_runV (As := [.ref r41]) (rest := []) F (N_RG_restore_7 l g _ T s34 pl hO hU r40 r41 30 kr40 kr41 rfl) (cwV 1 hts (wg_app (wg_c kw_1123 (wg_c kw_721 (wg_c kw_722 (wg_c kw_4 wg_n)))) kw_723) rfl rfl rfl (by decide +kernel) ⟨by decide, by decide⟩) (pn_W "LatticeKeys$Ring" (en_ok g) (ci := 4) (kn := 20) (fl := [(1, 3329), (1, 7), (1, 3303), (3, 21)]) hK hO kr40 rfl hP hD hS hA hE [] rfl rfl rfl) rfl rfl hl.1 rfl (lv_room (Nat.le_of_ble_eq_true rfl)) dKM_encrypt_133 ⟨by omega, by omega⟩) (fun  u31 H locs hu31 hP hD hS => ?_)
              obtain ⟨s35, pl⟩ := u31
              obtain ⟨⟨eq31, hFc31, -⟩, hO⟩ := hu31
              have hO : okn g T s35 pl := hO
              have hP : va_P g.1 vcl ([] ++ pl) _ := hP
              have hD : va_D _ ([] ++ pl) := hD
              have hFc31 : frm (M_RG_restore_7 30) s34 s35 := hFc31
              replace hR := bnd_step hR eq31
              have hF := frm_tr hF hFc31 (fun k hk => by unfold M_RG_restore_7 at hk; unfold M_KM_encrypt_1; omega)
              refine W.widen (k := 0) (n := 0) (by omega) (by omega) ?_
              refine lv_aload_n hx hb dKM_encrypt_136 rfl (lv_at hl 2 rfl) ?_
              refine lv_aload_n hx hb dKM_encrypt_137 rfl (lv_at hl 2 rfl) ?_
              refine nw_get (C := "LatticeKeys$Kem") (TT := T_KM) (N := 10) hx hb hts (wg_ft i_KM) hown hK hO k_h0 (kn := 24) (ci := 5) (fl := [(3, 14), (3, 20), (3, 25), (3, 30), (3, 31), (3, 32), (3, 33), (3, 34), (3, 35), (3, 36)]) rfl hP rfl 4 (by decide) (hts _ (wg_t kw_111)) (fun _ h9 => h9) (cd := (3, 31)) rfl dKM_encrypt_138 (fun v51 hv51 => ?_)
              obtain ⟨r42, rfl, kr42⟩ := (show ∃ r : Nat, v51 = .ref r ∧ T r = some 31 from hv51)
              refine lv_iconst (v := nI 2) hx hb dKM_encrypt_141 (by decide) ?_
              refine lv_aload_n hx hb dKM_encrypt_142 rfl (lv_at hl 3 rfl) ?_
              refine nw_get (C := "LatticeKeys$KemSet") (TT := T_KS) (N := 10) hx hb hts (wg_ft i_KS) hown hK hO k_st (kn := 6) (ci := 1) (fl := [(1, 3), (1, 2), (1, 10), (1, 4), (1, 1184), (1, 2400), (1, 1088), (1, 1152), (1, 2336), (1, 2368)]) rfl hP rfl 0 (by decide) (hts _ (wg_t kw_231)) (fun _ h9 => h9) (cd := (1, 3)) rfl dKM_encrypt_143 (fun v52 hv52 => ?_)
              obtain rfl := (show v52 = .int (nI 3) from hv52)
              refine lv_iload hx hb dKM_encrypt_146 (lv_at hl 1 rfl) ?_
              refine mi_iadd hx hb dKM_encrypt_148 ?_
              refine mp_v (cx := []) (wr := []) hP hD hS hA [] [] rfl rfl rfl (by decide) (va_runV (As := [.ref r42, .int (nI 2), .int (nI (3 + i22))]) (rest := []) F (N_KM_sampleNoise_2 l g _ T s35 pl hO hU h0 r42 31 (nI (3 + i22)) k_h0 kr42 rfl) (cwV 3 hts (wg_app (wg_c kw_623 (wg_c kw_625 (wg_c ks_6 (wg_c kw_3 wg_n)))) kw_626) rfl rfl rfl (by decide +kernel) ⟨by decide, by decide⟩) (pn_W "LatticeKeys$Kem" (en_ok g) (ci := 5) (kn := 24) (fl := [(3, 14), (3, 20), (3, 25), (3, 30), (3, 31), (3, 32), (3, 33), (3, 34), (3, 35), (3, 36)]) hK hO k_h0 rfl hP hD hS hA hE [] rfl rfl rfl) rfl rfl hl.1 rfl (lv_room (Nat.le_of_ble_eq_true rfl)) dKM_encrypt_149 ⟨by omega, by omega⟩) (fun  u32 H locs hu32 hP hD hS => ?_)
              obtain ⟨s36, pl⟩ := u32
              obtain ⟨⟨eq32, hFc32, -⟩, hO⟩ := hu32
              have hO : okn g T s36 pl := hO
              have hP : va_P g.1 vcl ([] ++ pl) _ := hP
              have hD : va_D _ ([] ++ pl) := hD
              have hFc32 : frm (M_KM_sampleNoise_2 31) s35 s36 := hFc32
              replace hR := bnd_step hR eq32
              have hF := frm_tr hF hFc32 (fun k hk => by unfold M_KM_sampleNoise_2 at hk; unfold M_KM_encrypt_1; omega)
              refine W.widen (k := 0) (n := 0) (by omega) (by omega) ?_
              refine lv_aload_n hx hb dKM_encrypt_152 rfl (lv_at hl 2 rfl) ?_
              refine nw_get (C := "LatticeKeys$Kem") (TT := T_KM) (N := 10) hx hb hts (wg_ft i_KM) hown hK hO k_h0 (kn := 24) (ci := 5) (fl := [(3, 14), (3, 20), (3, 25), (3, 30), (3, 31), (3, 32), (3, 33), (3, 34), (3, 35), (3, 36)]) rfl hP rfl 1 (by decide) (hts _ (wg_t kw_108)) (fun _ h9 => h9) (cd := (3, 20)) rfl dKM_encrypt_153 (fun v53 hv53 => ?_)
              obtain ⟨r43, rfl, kr43⟩ := (show ∃ r : Nat, v53 = .ref r ∧ T r = some 20 from hv53)
              refine lv_aload_n hx hb dKM_encrypt_156 rfl (lv_at hl 2 rfl) ?_
              refine nw_get (C := "LatticeKeys$Kem") (TT := T_KM) (N := 10) hx hb hts (wg_ft i_KM) hown hK hO k_h0 (kn := 24) (ci := 5) (fl := [(3, 14), (3, 20), (3, 25), (3, 30), (3, 31), (3, 32), (3, 33), (3, 34), (3, 35), (3, 36)]) rfl hP rfl 3 (by decide) (hts _ (wg_t kw_110)) (fun _ h9 => h9) (cd := (3, 30)) rfl dKM_encrypt_157 (fun v54 hv54 => ?_)
              obtain ⟨r44, rfl, kr44⟩ := (show ∃ r : Nat, v54 = .ref r ∧ T r = some 30 from hv54)
              refine lv_aload_n hx hb dKM_encrypt_160 rfl (lv_at hl 2 rfl) ?_
              refine nw_get (C := "LatticeKeys$Kem") (TT := T_KM) (N := 10) hx hb hts (wg_ft i_KM) hown hK hO k_h0 (kn := 24) (ci := 5) (fl := [(3, 14), (3, 20), (3, 25), (3, 30), (3, 31), (3, 32), (3, 33), (3, 34), (3, 35), (3, 36)]) rfl hP rfl 4 (by decide) (hts _ (wg_t kw_111)) (fun _ h9 => h9) (cd := (3, 31)) rfl dKM_encrypt_161 (fun v55 hv55 => ?_)
              obtain ⟨r45, rfl, kr45⟩ := (show ∃ r : Nat, v55 = .ref r ∧ T r = some 31 from hv55)
              refine mp_v (cx := []) (wr := []) hP hD hS hA [] [] rfl rfl rfl (by decide) (va_runV (As := [.ref r44, .ref r45]) (rest := []) F (N_RG_add_7 l g _ T s36 pl hO hU r43 r44 r45 30 31 kr43 kr44 rfl kr45 rfl) (cwV 2 hts (wg_app (wg_c kw_1124 (wg_c kw_729 (wg_c kw_730 (wg_c kw_4 wg_n)))) kw_731) rfl rfl rfl (by decide +kernel) ⟨by decide, by decide⟩) (pn_W "LatticeKeys$Ring" (en_ok g) (ci := 4) (kn := 20) (fl := [(1, 3329), (1, 7), (1, 3303), (3, 21)]) hK hO kr43 rfl hP hD hS hA hE [] rfl rfl rfl) rfl rfl hl.1 rfl (lv_room (Nat.le_of_ble_eq_true rfl)) dKM_encrypt_164 ⟨by omega, by omega⟩) (fun  u33 H locs hu33 hP hD hS => ?_)
              obtain ⟨s37, pl⟩ := u33
              obtain ⟨⟨eq33, hFc33, -⟩, hO⟩ := hu33
              have hO : okn g T s37 pl := hO
              have hP : va_P g.1 vcl ([] ++ pl) _ := hP
              have hD : va_D _ ([] ++ pl) := hD
              have hFc33 : frm (M_RG_add_7 30) s36 s37 := hFc33
              replace hR := bnd_step hR eq33
              have hF := frm_tr hF hFc33 (fun k hk => by unfold M_RG_add_7 at hk; unfold M_KM_encrypt_1; omega)
              refine W.widen (k := 0) (n := 0) (by omega) (by omega) ?_
              refine lv_aload_n hx hb dKM_encrypt_167 rfl (lv_at hl 2 rfl) ?_
              refine lv_aload_n hx hb dKM_encrypt_168 rfl (lv_at hl 2 rfl) ?_
              refine nw_get (C := "LatticeKeys$Kem") (TT := T_KM) (N := 10) hx hb hts (wg_ft i_KM) hown hK hO k_h0 (kn := 24) (ci := 5) (fl := [(3, 14), (3, 20), (3, 25), (3, 30), (3, 31), (3, 32), (3, 33), (3, 34), (3, 35), (3, 36)]) rfl hP rfl 3 (by decide) (hts _ (wg_t kw_110)) (fun _ h9 => h9) (cd := (3, 30)) rfl dKM_encrypt_169 (fun v56 hv56 => ?_)
              obtain ⟨r46, rfl, kr46⟩ := (show ∃ r : Nat, v56 = .ref r ∧ T r = some 30 from hv56)
              refine lv_aload_n hx hb dKM_encrypt_172 rfl (lv_at hl 3 rfl) ?_
              refine nw_get (C := "LatticeKeys$KemSet") (TT := T_KS) (N := 10) hx hb hts (wg_ft i_KS) hown hK hO k_st (kn := 6) (ci := 1) (fl := [(1, 3), (1, 2), (1, 10), (1, 4), (1, 1184), (1, 2400), (1, 1088), (1, 1152), (1, 2336), (1, 2368)]) rfl hP rfl 2 (by decide) (hts _ (wg_t kw_235)) (fun _ h9 => h9) (cd := (1, 10)) rfl dKM_encrypt_173 (fun v57 hv57 => ?_)
              obtain rfl := (show v57 = .int (nI 10) from hv57)
              refine lv_aload_n hx hb dKM_encrypt_176 rfl (lv_at hl 5 rfl) ?_
              refine lv_bipush (v := nI 32) hx hb dKM_encrypt_177 (by decide) ?_
              refine lv_aload_n hx hb dKM_encrypt_179 rfl (lv_at hl 3 rfl) ?_
              refine nw_get (C := "LatticeKeys$KemSet") (TT := T_KS) (N := 10) hx hb hts (wg_ft i_KS) hown hK hO k_st (kn := 6) (ci := 1) (fl := [(1, 3), (1, 2), (1, 10), (1, 4), (1, 1184), (1, 2400), (1, 1088), (1, 1152), (1, 2336), (1, 2368)]) rfl hP rfl 2 (by decide) (hts _ (wg_t kw_235)) (fun _ h9 => h9) (cd := (1, 10)) rfl dKM_encrypt_180 (fun v58 hv58 => ?_)
              obtain rfl := (show v58 = .int (nI 10) from hv58)
              refine mi_imul hx hb dKM_encrypt_183 ?_
              refine mi_as (show nI (32 * 10) = nI 320 from rfl) ?_
              refine lv_iload hx hb dKM_encrypt_184 (lv_at hl 1 rfl) ?_
              refine mi_imul hx hb dKM_encrypt_186 ?_
              refine mp_v (cx := []) (wr := []) hP hD hS hA [] [] rfl rfl rfl (by decide) (va_runV (As := [.ref r46, .int (nI 10), .ref to, .int (nI (320 * i22))]) (rest := []) F (N_KM_writeRounded l g _ T s37 pl hO hU h0 r46 to 30 10 pt n (320 * i22) k_h0 kr46 rfl k_to n_to (by omega) (by omega) (by omega)) (cwV 4 hts (wg_app (wg_c kw_1125 (wg_c kw_1127 (wg_c ks_28 (wg_c kw_3 wg_n)))) kw_1128) rfl rfl rfl (by decide +kernel) ⟨by decide, by decide⟩) (pn_W "LatticeKeys$Kem" (en_ok g) (ci := 5) (kn := 24) (fl := [(3, 14), (3, 20), (3, 25), (3, 30), (3, 31), (3, 32), (3, 33), (3, 34), (3, 35), (3, 36)]) hK hO k_h0 rfl hP hD hS hA hE [] rfl rfl rfl) rfl rfl hl.1 rfl (lv_room (Nat.le_of_ble_eq_true rfl)) dKM_encrypt_187 ⟨by omega, by omega⟩) (fun  u34 H locs hu34 hP hD hS => ?_)
              obtain ⟨s38, pl⟩ := u34
              obtain ⟨⟨eq34, hFc34, -⟩, hO⟩ := hu34
              have hO : okn g T s38 pl := hO
              have hP : va_P g.1 vcl ([] ++ pl) _ := hP
              have hD : va_D _ ([] ++ pl) := hD
              have hFc34 : frm (M_KM_writeRounded 30 pt) s37 s38 := hFc34
              replace hR := bnd_step hR eq34
              have hF := frm_tr hF hFc34 (fun k hk => by unfold M_KM_writeRounded at hk; unfold M_KM_encrypt_1; omega)
              refine W.widen (k := 0) (n := 0) (by omega) (by omega) ?_
              refine mi_iinc (k := 1) (x := i22) (d := 1) (y := i22 + 1) (lv' := [(4, .int (nI (i22 + 1))), (5, .int (nI i24)), (0, .ref h0), (1, .ref st), (2, .ref pk), (3, .ref to)]) hx hb dKM_encrypt_190 hl rfl (by decide) rfl (by decide) rfl (fun ls hl => ?_)
              refine lv_goto (tgt := 52) hx hb dKM_encrypt_193 (by decide) ?_
              exact ih22 (i22 + 1) s38 pl ls H locs (by omega) hF hR (lv_sub hl [0, 2, 3, 4, 5] rfl) hO hP hD hS
            | succ n24 ih24 =>
              intro i24 s34 pl ls H locs hm24 hF hR hl hO hP hD hS
              refine lv_iload hx hb dKM_encrypt_72 (lv_at hl 0 rfl) ?_
              refine lv_aload_n hx hb dKM_encrypt_74 rfl (lv_at hl 3 rfl) ?_
              refine nw_get (C := "LatticeKeys$KemSet") (TT := T_KS) (N := 10) hx hb hts (wg_ft i_KS) hown hK hO k_st (kn := 6) (ci := 1) (fl := [(1, 3), (1, 2), (1, 10), (1, 4), (1, 1184), (1, 2400), (1, 1088), (1, 1152), (1, 2336), (1, 2368)]) rfl hP rfl 0 (by decide) (hts _ (wg_t kw_231)) (fun _ h9 => h9) (cd := (1, 3)) rfl dKM_encrypt_75 (fun v59 hv59 => ?_)
              obtain rfl := (show v59 = .int (nI 3) from hv59)
              refine mi_ge (tgt := 125) hx hb dKM_encrypt_78 (by decide) (by omega) (by omega) (fun h27 => absurd h27 (by omega)) (fun h27 => ?_)
              refine lv_aload_n hx hb dKM_encrypt_81 rfl (lv_at hl 2 rfl) ?_
              refine lv_aload_n hx hb dKM_encrypt_82 rfl (lv_at hl 4 rfl) ?_
              refine lv_aload_n hx hb dKM_encrypt_83 rfl (lv_at hl 3 rfl) ?_
              refine nw_get (C := "LatticeKeys$KemSet") (TT := T_KS) (N := 10) hx hb hts (wg_ft i_KS) hown hK hO k_st (kn := 6) (ci := 1) (fl := [(1, 3), (1, 2), (1, 10), (1, 4), (1, 1184), (1, 2400), (1, 1088), (1, 1152), (1, 2336), (1, 2368)]) rfl hP rfl 4 (by decide) (hts _ (wg_t kw_239)) (fun _ h9 => h9) (cd := (1, 1184)) rfl dKM_encrypt_84 (fun v60 hv60 => ?_)
              obtain rfl := (show v60 = .int (nI 1184) from hv60)
              refine lv_bipush (v := nI 32) hx hb dKM_encrypt_87 (by decide) ?_
              refine mi_isub hx hb dKM_encrypt_89 (by omega) ?_
              refine mi_as (show nI (1184 - 32) = nI 1152 from rfl) ?_
              refine lv_iload hx hb dKM_encrypt_90 (lv_at hl 1 rfl) ?_
              refine lv_iload hx hb dKM_encrypt_92 (lv_at hl 0 rfl) ?_
              refine mp_v (cx := []) (wr := []) hP hD hS hA [] [] rfl rfl rfl (by decide) (va_runV (As := [.ref pk, .int (nI 1152), .int (nI i22), .int (nI i24)]) (rest := []) F (N_KM_sampleEntry l g _ T s34 pl hO hU h0 pk pp 1184 1152 (nI i22) (nI i24) k_h0 k_pk n_pk (by omega) (by omega)) (cwV 4 hts (wg_app (wg_c kw_647 (wg_c kw_649 (wg_c ks_8 (wg_c kw_3 wg_n)))) kw_650) rfl rfl rfl (by decide +kernel) ⟨by decide, by decide⟩) (pn_W "LatticeKeys$Kem" (en_ok g) (ci := 5) (kn := 24) (fl := [(3, 14), (3, 20), (3, 25), (3, 30), (3, 31), (3, 32), (3, 33), (3, 34), (3, 35), (3, 36)]) hK hO k_h0 rfl hP hD hS hA hE [] rfl rfl rfl) rfl rfl hl.1 rfl (lv_room (Nat.le_of_ble_eq_true rfl)) dKM_encrypt_94 ⟨by omega, by omega⟩) (fun  u35 H locs hu35 hP hD hS => ?_)
              obtain ⟨s39, pl⟩ := u35
              obtain ⟨⟨eq35, hFc35, -⟩, hO⟩ := hu35
              have hO : okn g T s39 pl := hO
              have hP : va_P g.1 vcl ([] ++ pl) _ := hP
              have hD : va_D _ ([] ++ pl) := hD
              have hFc35 : frm (M_KM_sampleEntry) s34 s39 := hFc35
              replace hR := bnd_step hR eq35
              have hF := frm_tr hF hFc35 (fun k hk => by unfold M_KM_sampleEntry at hk; unfold M_KM_encrypt_1; omega)
              refine W.widen (k := 0) (n := 0) (by omega) (by omega) ?_
              refine lv_aload_n hx hb dKM_encrypt_97 rfl (lv_at hl 2 rfl) ?_
              refine nw_get (C := "LatticeKeys$Kem") (TT := T_KM) (N := 10) hx hb hts (wg_ft i_KM) hown hK hO k_h0 (kn := 24) (ci := 5) (fl := [(3, 14), (3, 20), (3, 25), (3, 30), (3, 31), (3, 32), (3, 33), (3, 34), (3, 35), (3, 36)]) rfl hP rfl 1 (by decide) (hts _ (wg_t kw_108)) (fun _ h9 => h9) (cd := (3, 20)) rfl dKM_encrypt_98 (fun v61 hv61 => ?_)
              obtain ⟨r47, rfl, kr47⟩ := (show ∃ r : Nat, v61 = .ref r ∧ T r = some 20 from hv61)
              refine lv_aload_n hx hb dKM_encrypt_101 rfl (lv_at hl 2 rfl) ?_
              refine nw_get (C := "LatticeKeys$Kem") (TT := T_KM) (N := 10) hx hb hts (wg_ft i_KM) hown hK hO k_h0 (kn := 24) (ci := 5) (fl := [(3, 14), (3, 20), (3, 25), (3, 30), (3, 31), (3, 32), (3, 33), (3, 34), (3, 35), (3, 36)]) rfl hP rfl 3 (by decide) (hts _ (wg_t kw_110)) (fun _ h9 => h9) (cd := (3, 30)) rfl dKM_encrypt_102 (fun v62 hv62 => ?_)
              obtain ⟨r48, rfl, kr48⟩ := (show ∃ r : Nat, v62 = .ref r ∧ T r = some 30 from hv62)
              refine lv_aload_n hx hb dKM_encrypt_105 rfl (lv_at hl 2 rfl) ?_
              refine nw_get (C := "LatticeKeys$Kem") (TT := T_KM) (N := 10) hx hb hts (wg_ft i_KM) hown hK hO k_h0 (kn := 24) (ci := 5) (fl := [(3, 14), (3, 20), (3, 25), (3, 30), (3, 31), (3, 32), (3, 33), (3, 34), (3, 35), (3, 36)]) rfl hP rfl 4 (by decide) (hts _ (wg_t kw_111)) (fun _ h9 => h9) (cd := (3, 31)) rfl dKM_encrypt_106 (fun v63 hv63 => ?_)
              obtain ⟨r49, rfl, kr49⟩ := (show ∃ r : Nat, v63 = .ref r ∧ T r = some 31 from hv63)
              refine lv_aload_n hx hb dKM_encrypt_109 rfl (lv_at hl 2 rfl) ?_
              refine nw_get (C := "LatticeKeys$Kem") (TT := T_KM) (N := 10) hx hb hts (wg_ft i_KM) hown hK hO k_h0 (kn := 24) (ci := 5) (fl := [(3, 14), (3, 20), (3, 25), (3, 30), (3, 31), (3, 32), (3, 33), (3, 34), (3, 35), (3, 36)]) rfl hP rfl 2 (by decide) (hts _ (wg_t kw_109)) (fun _ h9 => h9) (cd := (3, 25)) rfl dKM_encrypt_110 (fun v64 hv64 => ?_)
              obtain ⟨r50, rfl, kr50⟩ := (show ∃ r : Nat, v64 = .ref r ∧ T r = some 25 from hv64)
              refine lv_iload hx hb dKM_encrypt_113 (lv_at hl 0 rfl) ?_
              refine nw_aald3 hx hb hK hO kr50 (k := 25) (b := 26) rfl hP (by omega) (by omega) dKM_encrypt_115 (fun r51 kr51 => ?_)
              have hn22 : nsp (26 + i24) = (0, 256, []) := rows_ok 26 4 (by decide) _ (by omega)
              refine mp_v (cx := []) (wr := []) hP hD hS hA [] [] rfl rfl rfl (by decide) (va_runV (As := [.ref r48, .ref r49, .ref r51]) (rest := []) F (N_RG_addProduct_7 l g _ T s39 pl hO hU r47 r48 r49 r51 30 31 (26 + i24) kr47 kr48 rfl kr49 rfl kr51 hn22) (cwV 3 hts (wg_app (wg_c kw_653 (wg_c kw_654 (wg_c kw_655 (wg_c kw_4 wg_n)))) kw_656) rfl rfl rfl (by decide +kernel) ⟨by decide, by decide⟩) (pn_W "LatticeKeys$Ring" (en_ok g) (ci := 4) (kn := 20) (fl := [(1, 3329), (1, 7), (1, 3303), (3, 21)]) hK hO kr47 rfl hP hD hS hA hE [] rfl rfl rfl) rfl rfl hl.1 rfl (lv_room (Nat.le_of_ble_eq_true rfl)) dKM_encrypt_116 ⟨by omega, by omega⟩) (fun  u36 H locs hu36 hP hD hS => ?_)
              obtain ⟨s40, pl⟩ := u36
              obtain ⟨⟨eq36, hFc36, -⟩, hO⟩ := hu36
              have hO : okn g T s40 pl := hO
              have hP : va_P g.1 vcl ([] ++ pl) _ := hP
              have hD : va_D _ ([] ++ pl) := hD
              have hFc36 : frm (M_RG_addProduct_7 30) s39 s40 := hFc36
              replace hR := bnd_step hR eq36
              have hF := frm_tr hF hFc36 (fun k hk => by unfold M_RG_addProduct_7 at hk; unfold M_KM_encrypt_1; omega)
              refine W.widen (k := 0) (n := 0) (by omega) (by omega) ?_
              refine mi_iinc (k := 0) (x := i24) (d := 1) (y := i24 + 1) (lv' := [(5, .int (nI (i24 + 1))), (4, .int (nI i22)), (0, .ref h0), (1, .ref st), (2, .ref pk), (3, .ref to)]) hx hb dKM_encrypt_119 hl rfl (by decide) rfl (by decide) rfl (fun ls hl => ?_)
              refine lv_goto (tgt := 72) hx hb dKM_encrypt_122 (by decide) ?_
              exact ih24 (i24 + 1) s40 pl ls H locs (by omega) hF hR (lv_sub hl [0, 1, 2, 3, 4, 5] rfl) hO hP hD hS
          exact lp24 3 0 s33 pl ls _ _ (by omega) hF hR (lv_sub hl [0, 1, 2, 3, 4, 5] rfl) hO hP hD hS
      exact lp22 3 0 s21 pl ls _ _ (by omega) hF hR (lv_sub hl [0, 1, 2, 3, 4] rfl) hO hP hD hS
    | succ n21 ih21 =>
      intro i21 s21 pl ls H locs hm21 hF hR hl hO hP hD hS
      refine lv_iload hx hb dKM_encrypt_3 (lv_at hl 0 rfl) ?_
      refine lv_aload_n hx hb dKM_encrypt_5 rfl (lv_at hl 2 rfl) ?_
      refine nw_get (C := "LatticeKeys$KemSet") (TT := T_KS) (N := 10) hx hb hts (wg_ft i_KS) hown hK hO k_st (kn := 6) (ci := 1) (fl := [(1, 3), (1, 2), (1, 10), (1, 4), (1, 1184), (1, 2400), (1, 1088), (1, 1152), (1, 2336), (1, 2368)]) rfl hP rfl 0 (by decide) (hts _ (wg_t kw_231)) (fun _ h9 => h9) (cd := (1, 3)) rfl dKM_encrypt_6 (fun v65 hv65 => ?_)
      obtain rfl := (show v65 = .int (nI 3) from hv65)
      refine mi_ge (tgt := 49) hx hb dKM_encrypt_9 (by decide) (by omega) (by omega) (fun h28 => absurd h28 (by omega)) (fun h28 => ?_)
      refine lv_aload_n hx hb dKM_encrypt_12 rfl (lv_at hl 1 rfl) ?_
      refine lv_aload_n hx hb dKM_encrypt_13 rfl (lv_at hl 1 rfl) ?_
      refine nw_get (C := "LatticeKeys$Kem") (TT := T_KM) (N := 10) hx hb hts (wg_ft i_KM) hown hK hO k_h0 (kn := 24) (ci := 5) (fl := [(3, 14), (3, 20), (3, 25), (3, 30), (3, 31), (3, 32), (3, 33), (3, 34), (3, 35), (3, 36)]) rfl hP rfl 2 (by decide) (hts _ (wg_t kw_109)) (fun _ h9 => h9) (cd := (3, 25)) rfl dKM_encrypt_14 (fun v66 hv66 => ?_)
      obtain ⟨r52, rfl, kr52⟩ := (show ∃ r : Nat, v66 = .ref r ∧ T r = some 25 from hv66)
      refine lv_iload hx hb dKM_encrypt_17 (lv_at hl 0 rfl) ?_
      refine nw_aald3 hx hb hK hO kr52 (k := 25) (b := 26) rfl hP (by omega) (by omega) dKM_encrypt_19 (fun r53 kr53 => ?_)
      have hn23 : nsp (26 + i21) = (0, 256, []) := rows_ok 26 4 (by decide) _ (by omega)
      refine lv_aload_n hx hb dKM_encrypt_20 rfl (lv_at hl 2 rfl) ?_
      refine nw_get (C := "LatticeKeys$KemSet") (TT := T_KS) (N := 10) hx hb hts (wg_ft i_KS) hown hK hO k_st (kn := 6) (ci := 1) (fl := [(1, 3), (1, 2), (1, 10), (1, 4), (1, 1184), (1, 2400), (1, 1088), (1, 1152), (1, 2336), (1, 2368)]) rfl hP rfl 1 (by decide) (hts _ (wg_t kw_233)) (fun _ h9 => h9) (cd := (1, 2)) rfl dKM_encrypt_21 (fun v67 hv67 => ?_)
      obtain rfl := (show v67 = .int (nI 2) from hv67)
      refine lv_iload hx hb dKM_encrypt_24 (lv_at hl 0 rfl) ?_
      refine mp_v (cx := []) (wr := []) hP hD hS hA [] [] rfl rfl rfl (by decide) (va_runV (As := [.ref r53, .int (nI 2), .int (nI i21)]) (rest := []) F (N_KM_sampleNoise_2 l g _ T s21 pl hO hU h0 r53 (26 + i21) (nI i21) k_h0 kr53 hn23) (cwV 3 hts (wg_app (wg_c kw_623 (wg_c kw_625 (wg_c ks_6 (wg_c kw_3 wg_n)))) kw_626) rfl rfl rfl (by decide +kernel) ⟨by decide, by decide⟩) (pn_W "LatticeKeys$Kem" (en_ok g) (ci := 5) (kn := 24) (fl := [(3, 14), (3, 20), (3, 25), (3, 30), (3, 31), (3, 32), (3, 33), (3, 34), (3, 35), (3, 36)]) hK hO k_h0 rfl hP hD hS hA hE [] rfl rfl rfl) rfl rfl hl.1 rfl (lv_room (Nat.le_of_ble_eq_true rfl)) dKM_encrypt_26 ⟨by omega, by omega⟩) (fun  u37 H locs hu37 hP hD hS => ?_)
      obtain ⟨s41, pl⟩ := u37
      obtain ⟨⟨eq37, hFc37, -⟩, hO⟩ := hu37
      have hO : okn g T s41 pl := hO
      have hP : va_P g.1 vcl ([] ++ pl) _ := hP
      have hD : va_D _ ([] ++ pl) := hD
      have hFc37 : frm (M_KM_sampleNoise_2 (26 + i21)) s21 s41 := hFc37
      replace hR := bnd_step hR eq37
      have hF := frm_tr hF hFc37 (fun k hk => by unfold M_KM_sampleNoise_2 at hk; unfold M_KM_encrypt_1; omega)
      refine W.widen (k := 0) (n := 0) (by omega) (by omega) ?_
      refine lv_aload_n hx hb dKM_encrypt_29 rfl (lv_at hl 1 rfl) ?_
      refine nw_get (C := "LatticeKeys$Kem") (TT := T_KM) (N := 10) hx hb hts (wg_ft i_KM) hown hK hO k_h0 (kn := 24) (ci := 5) (fl := [(3, 14), (3, 20), (3, 25), (3, 30), (3, 31), (3, 32), (3, 33), (3, 34), (3, 35), (3, 36)]) rfl hP rfl 1 (by decide) (hts _ (wg_t kw_108)) (fun _ h9 => h9) (cd := (3, 20)) rfl dKM_encrypt_30 (fun v68 hv68 => ?_)
      obtain ⟨r54, rfl, kr54⟩ := (show ∃ r : Nat, v68 = .ref r ∧ T r = some 20 from hv68)
      refine lv_aload_n hx hb dKM_encrypt_33 rfl (lv_at hl 1 rfl) ?_
      refine nw_get (C := "LatticeKeys$Kem") (TT := T_KM) (N := 10) hx hb hts (wg_ft i_KM) hown hK hO k_h0 (kn := 24) (ci := 5) (fl := [(3, 14), (3, 20), (3, 25), (3, 30), (3, 31), (3, 32), (3, 33), (3, 34), (3, 35), (3, 36)]) rfl hP rfl 2 (by decide) (hts _ (wg_t kw_109)) (fun _ h9 => h9) (cd := (3, 25)) rfl dKM_encrypt_34 (fun v69 hv69 => ?_)
      obtain ⟨r55, rfl, kr55⟩ := (show ∃ r : Nat, v69 = .ref r ∧ T r = some 25 from hv69)
      refine lv_iload hx hb dKM_encrypt_37 (lv_at hl 0 rfl) ?_
      refine nw_aald3 hx hb hK hO kr55 (k := 25) (b := 26) rfl hP (by omega) (by omega) dKM_encrypt_39 (fun r56 kr56 => ?_)
      have hn24 : nsp (26 + i21) = (0, 256, []) := rows_ok 26 4 (by decide) _ (by omega)
      refine mp_v (cx := []) (wr := []) hP hD hS hA [] [] rfl rfl rfl (by decide) (va_runV (As := [.ref r56]) (rest := []) F (N_RG_transform_7 l g _ T s41 pl hO hU r54 r56 (26 + i21) kr54 kr56 hn24) (cwV 1 hts (wg_app (wg_c kw_636 (wg_c kw_637 (wg_c kw_638 (wg_c kw_4 wg_n)))) kw_639) rfl rfl rfl (by decide +kernel) ⟨by decide, by decide⟩) (pn_W "LatticeKeys$Ring" (en_ok g) (ci := 4) (kn := 20) (fl := [(1, 3329), (1, 7), (1, 3303), (3, 21)]) hK hO kr54 rfl hP hD hS hA hE [] rfl rfl rfl) rfl rfl hl.1 rfl (lv_room (Nat.le_of_ble_eq_true rfl)) dKM_encrypt_40 ⟨by omega, by omega⟩) (fun  u38 H locs hu38 hP hD hS => ?_)
      obtain ⟨s42, pl⟩ := u38
      obtain ⟨⟨eq38, hFc38, -⟩, hO⟩ := hu38
      have hO : okn g T s42 pl := hO
      have hP : va_P g.1 vcl ([] ++ pl) _ := hP
      have hD : va_D _ ([] ++ pl) := hD
      have hFc38 : frm (M_RG_transform_7 (26 + i21)) s41 s42 := hFc38
      replace hR := bnd_step hR eq38
      have hF := frm_tr hF hFc38 (fun k hk => by unfold M_RG_transform_7 at hk; unfold M_KM_encrypt_1; omega)
      refine W.widen (k := 0) (n := 0) (by omega) (by omega) ?_
      refine mi_iinc (k := 0) (x := i21) (d := 1) (y := i21 + 1) (lv' := [(4, .int (nI (i21 + 1))), (0, .ref h0), (1, .ref st), (2, .ref pk), (3, .ref to)]) hx hb dKM_encrypt_43 hl rfl (by decide) rfl (by decide) rfl (fun ls hl => ?_)
      refine lv_goto (tgt := 3) hx hb dKM_encrypt_46 (by decide) ?_
      exact ih21 (i21 + 1) s42 pl ls H locs (by omega) hF hR (lv_sub hl [0, 1, 2, 3, 4] rfl) hO hP hD hS
  exact lp21 3 0 s pl ls _ _ (by omega) hF hR (lv_sub hl [0, 1, 2, 3, 4] rfl) hO hP hD hS
def M_KM_encrypt_2 (pt : Nat) (k : Nat) : Prop := (26 ≤ k ∧ k < 30) ∨ k = 14 ∨ k = 30 ∨ k = 31 ∨ k = 35 ∨ k = pt ∨ (0 : Nat) = 1
noncomputable def F_KM_encrypt_2_L3 (pp : Nat) (pt : Nat) (n : Nat) (i22 : Nat) (kk : Nat → Sto → Sto) : Nat → Nat → Sto → Sto
  | 0, i24, s34 => bnd (F_RG_restore_7 30 s34) fun s35 => bnd (F_KM_sampleNoise_2 31 (nI (4 + i22)) s35) fun s36 => bnd (F_RG_add_7 30 31 s36) fun s37 => bnd (F_KM_writeRounded 30 11 pt n (352 * i22) s37) fun s38 => kk (i22 + 1) s38
  | n24 + 1, i24, s34 => bnd (F_KM_sampleEntry pp 1568 1536 (nI i22) (nI i24) s34) fun s39 => bnd (F_RG_addProduct_7 30 31 (26 + i24) s39) fun s40 => F_KM_encrypt_2_L3 pp pt n i22 kk n24 (i24 + 1) s40
noncomputable def F_KM_encrypt_2_L2 (pp : Nat) (pt : Nat) (n : Nat) : Nat → Nat → Sto → Sto
  | 0, i23, s24 => bnd (F_RG_restore_7 30 s24) fun s25 => bnd (F_KM_sampleNoise_2 31 (nI 8) s25) fun s26 => bnd (F_RG_add_7 30 31 s26) fun s27 => bnd (F_KM_readRounded 31 1 32 32 0 s27) fun s28 => bnd (F_RG_add_7 30 31 s28) fun s29 => bnd (F_KM_writeRounded 30 5 pt n 1408 s29) fun s30 => s30
  | n23 + 1, i23, s24 => bnd (F_KM_readReduced pp 1568 (384 * i23) s24) fun s31 => bnd (F_RG_addProduct_7 30 31 (26 + i23) s31) fun s32 => F_KM_encrypt_2_L2 pp pt n n23 (i23 + 1) s32
noncomputable def F_KM_encrypt_2_L1 (pp : Nat) (pt : Nat) (n : Nat) : Nat → Nat → Sto → Sto
  | 0, i22, s22 => bnd (F_AR_fillI 30 256 (nI 0) s22) fun s23 => F_KM_encrypt_2_L2 pp pt n 4 0 s23
  | n22 + 1, i22, s22 => bnd (F_AR_fillI 30 256 (nI 0) s22) fun s33 => F_KM_encrypt_2_L3 pp pt n i22 (F_KM_encrypt_2_L1 pp pt n n22) 4 0 s33
noncomputable def F_KM_encrypt_2_L0 (pp : Nat) (pt : Nat) (n : Nat) : Nat → Nat → Sto → Sto
  | 0, i21, s21 => F_KM_encrypt_2_L1 pp pt n 4 0 s21
  | n21 + 1, i21, s21 => bnd (F_KM_sampleNoise_2 (26 + i21) (nI i21) s21) fun s41 => bnd (F_RG_transform_7 (26 + i21) s41) fun s42 => F_KM_encrypt_2_L0 pp pt n n21 (i21 + 1) s42
noncomputable def F_KM_encrypt_2 (pp : Nat) (pt : Nat) (n : Nat) (s : Sto) : Sto := F_KM_encrypt_2_L0 pp pt n 4 0 s
set_option maxHeartbeats 400000 in
set_option maxRecDepth 100000 in
theorem N_KM_encrypt_2 (l : Launch) (g : Gd) (sz : Nat) (T : TyN) (s : Sto) (pl : va_W) (hO : okn g T s pl) (hU : inj T) (h0 st pk to : Nat) (pp : Nat) (pt : Nat) (n : Nat) (k_h0 : T h0 = some 24) (k_st : T st = some 7) (k_pk : T pk = some pp) (n_pk : nsp pp = (1, 1568, [])) (k_to : T to = some pt) (n_to : nsp pt = (1, n, [])) (h1 : 1568 ≤ n) (h2 : n < 65536)  : Met l y_KM_encrypt w_KM_encrypt ({ frames := 4, cells := 0, slots := 0, locals := 131 } : Room) (va_Pc [.ref h0, .ref st, .ref pk, .ref to] (pr (en g) g.1 vcl sz ([] ++ pl))) (va_Qv (fun (u : (Sto) × va_W) => (u.1 = F_KM_encrypt_2 pp pt n s ∧ frm (M_KM_encrypt_2 pt) s u.1 ∧ True) ∧ okn g T u.1 u.2) (po g.1 vcl (va_A ([] ++ pl) sz) (fun (u : (Sto) × va_W) => [] ++ u.2)) (va_A ([] ++ pl) sz)) 0 0 (va_A ([] ++ pl) sz) := by
  refine mc_entry (cc := c_KM_encrypt) (maxL := 6) (ret := none) (by decide) rfl (Nat.le_of_ble_eq_true rfl) ?_
  intro p e s0 m args below meth c ls F hr hlk hnm hsz hP hD hE hA hl
  obtain ⟨hx, hb, hml, hown, hts⟩ := id F
  have hK := hE.1
  generalize va_A ([] ++ pl) sz = A at hD hE hA ⊢
  have hS : va_S A s0.heap s0.heap [] := va_S.rf
  have hl : lv_has ls 6 [(0, .ref h0), (1, .ref st), (2, .ref pk), (3, .ref to)] := hl
  have hR : F_KM_encrypt_2 pp pt n s = F_KM_encrypt_2 pp pt n s := rfl
  have hF : frm (M_KM_encrypt_2 pt) s s := frm_rf
  refine lv_iconst (v := nI 0) hx hb dKM_encrypt_0 (by decide) ?_
  refine lv_istore (lv' := [(4, .int (nI 0)), (0, .ref h0), (1, .ref st), (2, .ref pk), (3, .ref to)]) hx hb dKM_encrypt_1 hl (by decide) rfl (fun ls hl => ?_)
  have lp21 : ∀ (n21 : Nat) (i21 : Nat) (s21 : Sto) (pl : va_W) (ls : Array Slot) (H : Heap) (locs : List Loc), n21 + i21 = 4 → frm (M_KM_encrypt_2 pt) s s21 → F_KM_encrypt_2 pp pt n s = F_KM_encrypt_2_L0 pp pt n n21 i21 s21 → lv_has ls 6 [(4, .int (nI i21)), (0, .ref h0), (1, .ref st), (2, .ref pk), (3, .ref to)] → okn g T s21 pl → va_P g.1 vcl ([] ++ pl) H → va_D A ([] ++ pl) → va_S A s0.heap H locs → W p l e ({ frames := 4, cells := 0, slots := 0, locals := 131 } : Room) s0 m args below meth c H locs 0 0 (MQ below (va_Qv (fun (u : (Sto) × va_W) => (u.1 = F_KM_encrypt_2 pp pt n s ∧ frm (M_KM_encrypt_2 pt) s u.1 ∧ True) ∧ okn g T u.1 u.2) (po g.1 vcl A (fun (u : (Sto) × va_W) => [] ++ u.2)) A) args s0 0 0 A) (F0 m 3 ls []) := by
    intro n21
    induction n21 with
    | zero =>
      intro i21 s21 pl ls H locs hm21 hF hR hl hO hP hD hS
      refine lv_iload hx hb dKM_encrypt_3 (lv_at hl 0 rfl) ?_
      refine lv_aload_n hx hb dKM_encrypt_5 rfl (lv_at hl 2 rfl) ?_
      refine nw_get (C := "LatticeKeys$KemSet") (TT := T_KS) (N := 10) hx hb hts (wg_ft i_KS) hown hK hO k_st (kn := 7) (ci := 1) (fl := [(1, 4), (1, 2), (1, 11), (1, 5), (1, 1568), (1, 3168), (1, 1568), (1, 1536), (1, 3104), (1, 3136)]) rfl hP rfl 0 (by decide) (hts _ (wg_t kw_231)) (fun _ h9 => h9) (cd := (1, 4)) rfl dKM_encrypt_6 (fun v21 hv21 => ?_)
      obtain rfl := (show v21 = .int (nI 4) from hv21)
      refine mi_ge (tgt := 49) hx hb dKM_encrypt_9 (by decide) (by omega) (by omega) (fun h21 => ?_) (fun h21 => absurd h21 (by omega))
      refine lv_iconst (v := nI 0) hx hb dKM_encrypt_49 (by decide) ?_
      refine lv_istore (lv' := [(4, .int (nI 0)), (0, .ref h0), (1, .ref st), (2, .ref pk), (3, .ref to)]) hx hb dKM_encrypt_50 hl (by decide) rfl (fun ls hl => ?_)
      have lp22 : ∀ (n22 : Nat) (i22 : Nat) (s22 : Sto) (pl : va_W) (ls : Array Slot) (H : Heap) (locs : List Loc), n22 + i22 = 4 → frm (M_KM_encrypt_2 pt) s s22 → F_KM_encrypt_2 pp pt n s = F_KM_encrypt_2_L1 pp pt n n22 i22 s22 → lv_has ls 6 [(4, .int (nI i22)), (0, .ref h0), (1, .ref st), (2, .ref pk), (3, .ref to)] → okn g T s22 pl → va_P g.1 vcl ([] ++ pl) H → va_D A ([] ++ pl) → va_S A s0.heap H locs → W p l e ({ frames := 4, cells := 0, slots := 0, locals := 131 } : Room) s0 m args below meth c H locs 0 0 (MQ below (va_Qv (fun (u : (Sto) × va_W) => (u.1 = F_KM_encrypt_2 pp pt n s ∧ frm (M_KM_encrypt_2 pt) s u.1 ∧ True) ∧ okn g T u.1 u.2) (po g.1 vcl A (fun (u : (Sto) × va_W) => [] ++ u.2)) A) args s0 0 0 A) (F0 m 52 ls []) := by
        intro n22
        induction n22 with
        | zero =>
          intro i22 s22 pl ls H locs hm22 hF hR hl hO hP hD hS
          refine lv_iload hx hb dKM_encrypt_52 (lv_at hl 0 rfl) ?_
          refine lv_aload_n hx hb dKM_encrypt_54 rfl (lv_at hl 2 rfl) ?_
          refine nw_get (C := "LatticeKeys$KemSet") (TT := T_KS) (N := 10) hx hb hts (wg_ft i_KS) hown hK hO k_st (kn := 7) (ci := 1) (fl := [(1, 4), (1, 2), (1, 11), (1, 5), (1, 1568), (1, 3168), (1, 1568), (1, 1536), (1, 3104), (1, 3136)]) rfl hP rfl 0 (by decide) (hts _ (wg_t kw_231)) (fun _ h9 => h9) (cd := (1, 4)) rfl dKM_encrypt_55 (fun v22 hv22 => ?_)
          obtain rfl := (show v22 = .int (nI 4) from hv22)
          refine mi_ge (tgt := 196) hx hb dKM_encrypt_58 (by decide) (by omega) (by omega) (fun h22 => ?_) (fun h22 => absurd h22 (by omega))
          refine lv_aload_n hx hb dKM_encrypt_196 rfl (lv_at hl 1 rfl) ?_
          refine nw_get (C := "LatticeKeys$Kem") (TT := T_KM) (N := 10) hx hb hts (wg_ft i_KM) hown hK hO k_h0 (kn := 24) (ci := 5) (fl := [(3, 14), (3, 20), (3, 25), (3, 30), (3, 31), (3, 32), (3, 33), (3, 34), (3, 35), (3, 36)]) rfl hP rfl 3 (by decide) (hts _ (wg_t kw_110)) (fun _ h9 => h9) (cd := (3, 30)) rfl dKM_encrypt_197 (fun v23 hv23 => ?_)
          obtain ⟨r21, rfl, kr21⟩ := (show ∃ r : Nat, v23 = .ref r ∧ T r = some 30 from hv23)
          refine lv_iconst (v := nI 0) hx hb dKM_encrypt_200 (by decide) ?_
          refine mp_v (cx := []) (wr := []) hP hD hS hA [] [] rfl rfl rfl (by decide) (va_runS (As := [.ref r21, .int (nI 0)]) (rest := []) F (N_AR_fillI l g _ T s22 pl hO hU r21 30 256 (nI 0) kr21 rfl (by omega)) (va_cwS 2 hts (wg_app (wg_c kw_1122 (wg_c kw_717 (wg_c kw_21 wg_n))) kw_718) rfl rfl rfl (by decide +kernel) ⟨by decide, by decide⟩) (pp_S (en_ok g) hP hD hS hA hE [] rfl rfl) rfl rfl hl.1 rfl (lv_room (Nat.le_of_ble_eq_true rfl)) dKM_encrypt_201 ⟨by omega, by omega⟩) (fun  u21 H locs hu21 hP hD hS => ?_)
          obtain ⟨s23, pl⟩ := u21
          obtain ⟨⟨eq21, hFc21, -⟩, hO⟩ := hu21
          have hO : okn g T s23 pl := hO
          have hP : va_P g.1 vcl ([] ++ pl) _ := hP
          have hD : va_D _ ([] ++ pl) := hD
          have hFc21 : frm (M_AR_fillI 30) s22 s23 := hFc21
          replace hR := bnd_step hR eq21
          have hF := frm_tr hF hFc21 (fun k hk => by unfold M_AR_fillI at hk; unfold M_KM_encrypt_2; omega)
          refine W.widen (k := 0) (n := 0) (by omega) (by omega) ?_
          refine lv_iconst (v := nI 0) hx hb dKM_encrypt_204 (by decide) ?_
          refine lv_istore (lv' := [(4, .int (nI 0)), (0, .ref h0), (1, .ref st), (2, .ref pk), (3, .ref to)]) hx hb dKM_encrypt_205 hl (by decide) rfl (fun ls hl => ?_)
          have lp23 : ∀ (n23 : Nat) (i23 : Nat) (s24 : Sto) (pl : va_W) (ls : Array Slot) (H : Heap) (locs : List Loc), n23 + i23 = 4 → frm (M_KM_encrypt_2 pt) s s24 → F_KM_encrypt_2 pp pt n s = F_KM_encrypt_2_L2 pp pt n n23 i23 s24 → lv_has ls 6 [(4, .int (nI i23)), (0, .ref h0), (1, .ref st), (2, .ref pk), (3, .ref to)] → okn g T s24 pl → va_P g.1 vcl ([] ++ pl) H → va_D A ([] ++ pl) → va_S A s0.heap H locs → W p l e ({ frames := 4, cells := 0, slots := 0, locals := 131 } : Room) s0 m args below meth c H locs 0 0 (MQ below (va_Qv (fun (u : (Sto) × va_W) => (u.1 = F_KM_encrypt_2 pp pt n s ∧ frm (M_KM_encrypt_2 pt) s u.1 ∧ True) ∧ okn g T u.1 u.2) (po g.1 vcl A (fun (u : (Sto) × va_W) => [] ++ u.2)) A) args s0 0 0 A) (F0 m 207 ls []) := by
            intro n23
            induction n23 with
            | zero =>
              intro i23 s24 pl ls H locs hm23 hF hR hl hO hP hD hS
              refine lv_iload hx hb dKM_encrypt_207 (lv_at hl 0 rfl) ?_
              refine lv_aload_n hx hb dKM_encrypt_209 rfl (lv_at hl 2 rfl) ?_
              refine nw_get (C := "LatticeKeys$KemSet") (TT := T_KS) (N := 10) hx hb hts (wg_ft i_KS) hown hK hO k_st (kn := 7) (ci := 1) (fl := [(1, 4), (1, 2), (1, 11), (1, 5), (1, 1568), (1, 3168), (1, 1568), (1, 1536), (1, 3104), (1, 3136)]) rfl hP rfl 0 (by decide) (hts _ (wg_t kw_231)) (fun _ h9 => h9) (cd := (1, 4)) rfl dKM_encrypt_210 (fun v24 hv24 => ?_)
              obtain rfl := (show v24 = .int (nI 4) from hv24)
              refine mi_ge (tgt := 255) hx hb dKM_encrypt_213 (by decide) (by omega) (by omega) (fun h23 => ?_) (fun h23 => absurd h23 (by omega))
              refine lv_aload_n hx hb dKM_encrypt_255 rfl (lv_at hl 1 rfl) ?_
              refine nw_get (C := "LatticeKeys$Kem") (TT := T_KM) (N := 10) hx hb hts (wg_ft i_KM) hown hK hO k_h0 (kn := 24) (ci := 5) (fl := [(3, 14), (3, 20), (3, 25), (3, 30), (3, 31), (3, 32), (3, 33), (3, 34), (3, 35), (3, 36)]) rfl hP rfl 1 (by decide) (hts _ (wg_t kw_108)) (fun _ h9 => h9) (cd := (3, 20)) rfl dKM_encrypt_256 (fun v25 hv25 => ?_)
              obtain ⟨r22, rfl, kr22⟩ := (show ∃ r : Nat, v25 = .ref r ∧ T r = some 20 from hv25)
              refine lv_aload_n hx hb dKM_encrypt_259 rfl (lv_at hl 1 rfl) ?_
              refine nw_get (C := "LatticeKeys$Kem") (TT := T_KM) (N := 10) hx hb hts (wg_ft i_KM) hown hK hO k_h0 (kn := 24) (ci := 5) (fl := [(3, 14), (3, 20), (3, 25), (3, 30), (3, 31), (3, 32), (3, 33), (3, 34), (3, 35), (3, 36)]) rfl hP rfl 3 (by decide) (hts _ (wg_t kw_110)) (fun _ h9 => h9) (cd := (3, 30)) rfl dKM_encrypt_260 (fun v26 hv26 => ?_)
              obtain ⟨r23, rfl, kr23⟩ := (show ∃ r : Nat, v26 = .ref r ∧ T r = some 30 from hv26)
              refine mp_v (cx := []) (wr := []) hP hD hS hA [] [] rfl rfl rfl (by decide) (va_runV (As := [.ref r23]) (rest := []) F (N_RG_restore_7 l g _ T s24 pl hO hU r22 r23 30 kr22 kr23 rfl) (cwV 1 hts (wg_app (wg_c kw_1123 (wg_c kw_721 (wg_c kw_722 (wg_c kw_4 wg_n)))) kw_723) rfl rfl rfl (by decide +kernel) ⟨by decide, by decide⟩) (pn_W "LatticeKeys$Ring" (en_ok g) (ci := 4) (kn := 20) (fl := [(1, 3329), (1, 7), (1, 3303), (3, 21)]) hK hO kr22 rfl hP hD hS hA hE [] rfl rfl rfl) rfl rfl hl.1 rfl (lv_room (Nat.le_of_ble_eq_true rfl)) dKM_encrypt_263 ⟨by omega, by omega⟩) (fun  u22 H locs hu22 hP hD hS => ?_)
              obtain ⟨s25, pl⟩ := u22
              obtain ⟨⟨eq22, hFc22, -⟩, hO⟩ := hu22
              have hO : okn g T s25 pl := hO
              have hP : va_P g.1 vcl ([] ++ pl) _ := hP
              have hD : va_D _ ([] ++ pl) := hD
              have hFc22 : frm (M_RG_restore_7 30) s24 s25 := hFc22
              replace hR := bnd_step hR eq22
              have hF := frm_tr hF hFc22 (fun k hk => by unfold M_RG_restore_7 at hk; unfold M_KM_encrypt_2; omega)
              refine W.widen (k := 0) (n := 0) (by omega) (by omega) ?_
              refine lv_aload_n hx hb dKM_encrypt_266 rfl (lv_at hl 1 rfl) ?_
              refine lv_aload_n hx hb dKM_encrypt_267 rfl (lv_at hl 1 rfl) ?_
              refine nw_get (C := "LatticeKeys$Kem") (TT := T_KM) (N := 10) hx hb hts (wg_ft i_KM) hown hK hO k_h0 (kn := 24) (ci := 5) (fl := [(3, 14), (3, 20), (3, 25), (3, 30), (3, 31), (3, 32), (3, 33), (3, 34), (3, 35), (3, 36)]) rfl hP rfl 4 (by decide) (hts _ (wg_t kw_111)) (fun _ h9 => h9) (cd := (3, 31)) rfl dKM_encrypt_268 (fun v27 hv27 => ?_)
              obtain ⟨r24, rfl, kr24⟩ := (show ∃ r : Nat, v27 = .ref r ∧ T r = some 31 from hv27)
              refine lv_iconst (v := nI 2) hx hb dKM_encrypt_271 (by decide) ?_
              refine lv_iconst (v := nI 2) hx hb dKM_encrypt_272 (by decide) ?_
              refine lv_aload_n hx hb dKM_encrypt_273 rfl (lv_at hl 2 rfl) ?_
              refine nw_get (C := "LatticeKeys$KemSet") (TT := T_KS) (N := 10) hx hb hts (wg_ft i_KS) hown hK hO k_st (kn := 7) (ci := 1) (fl := [(1, 4), (1, 2), (1, 11), (1, 5), (1, 1568), (1, 3168), (1, 1568), (1, 1536), (1, 3104), (1, 3136)]) rfl hP rfl 0 (by decide) (hts _ (wg_t kw_231)) (fun _ h9 => h9) (cd := (1, 4)) rfl dKM_encrypt_274 (fun v28 hv28 => ?_)
              obtain rfl := (show v28 = .int (nI 4) from hv28)
              refine mi_imul hx hb dKM_encrypt_277 ?_
              refine mi_as (show nI (2 * 4) = nI 8 from rfl) ?_
              refine mp_v (cx := []) (wr := []) hP hD hS hA [] [] rfl rfl rfl (by decide) (va_runV (As := [.ref r24, .int (nI 2), .int (nI 8)]) (rest := []) F (N_KM_sampleNoise_2 l g _ T s25 pl hO hU h0 r24 31 (nI 8) k_h0 kr24 rfl) (cwV 3 hts (wg_app (wg_c kw_623 (wg_c kw_625 (wg_c ks_6 (wg_c kw_3 wg_n)))) kw_626) rfl rfl rfl (by decide +kernel) ⟨by decide, by decide⟩) (pn_W "LatticeKeys$Kem" (en_ok g) (ci := 5) (kn := 24) (fl := [(3, 14), (3, 20), (3, 25), (3, 30), (3, 31), (3, 32), (3, 33), (3, 34), (3, 35), (3, 36)]) hK hO k_h0 rfl hP hD hS hA hE [] rfl rfl rfl) rfl rfl hl.1 rfl (lv_room (Nat.le_of_ble_eq_true rfl)) dKM_encrypt_278 ⟨by omega, by omega⟩) (fun  u23 H locs hu23 hP hD hS => ?_)
              obtain ⟨s26, pl⟩ := u23
              obtain ⟨⟨eq23, hFc23, -⟩, hO⟩ := hu23
              have hO : okn g T s26 pl := hO
              have hP : va_P g.1 vcl ([] ++ pl) _ := hP
              have hD : va_D _ ([] ++ pl) := hD
              have hFc23 : frm (M_KM_sampleNoise_2 31) s25 s26 := hFc23
              replace hR := bnd_step hR eq23
              have hF := frm_tr hF hFc23 (fun k hk => by unfold M_KM_sampleNoise_2 at hk; unfold M_KM_encrypt_2; omega)
              refine W.widen (k := 0) (n := 0) (by omega) (by omega) ?_
              refine lv_aload_n hx hb dKM_encrypt_281 rfl (lv_at hl 1 rfl) ?_
              refine nw_get (C := "LatticeKeys$Kem") (TT := T_KM) (N := 10) hx hb hts (wg_ft i_KM) hown hK hO k_h0 (kn := 24) (ci := 5) (fl := [(3, 14), (3, 20), (3, 25), (3, 30), (3, 31), (3, 32), (3, 33), (3, 34), (3, 35), (3, 36)]) rfl hP rfl 1 (by decide) (hts _ (wg_t kw_108)) (fun _ h9 => h9) (cd := (3, 20)) rfl dKM_encrypt_282 (fun v29 hv29 => ?_)
              obtain ⟨r25, rfl, kr25⟩ := (show ∃ r : Nat, v29 = .ref r ∧ T r = some 20 from hv29)
              refine lv_aload_n hx hb dKM_encrypt_285 rfl (lv_at hl 1 rfl) ?_
              refine nw_get (C := "LatticeKeys$Kem") (TT := T_KM) (N := 10) hx hb hts (wg_ft i_KM) hown hK hO k_h0 (kn := 24) (ci := 5) (fl := [(3, 14), (3, 20), (3, 25), (3, 30), (3, 31), (3, 32), (3, 33), (3, 34), (3, 35), (3, 36)]) rfl hP rfl 3 (by decide) (hts _ (wg_t kw_110)) (fun _ h9 => h9) (cd := (3, 30)) rfl dKM_encrypt_286 (fun v30 hv30 => ?_)
              obtain ⟨r26, rfl, kr26⟩ := (show ∃ r : Nat, v30 = .ref r ∧ T r = some 30 from hv30)
              refine lv_aload_n hx hb dKM_encrypt_289 rfl (lv_at hl 1 rfl) ?_
              refine nw_get (C := "LatticeKeys$Kem") (TT := T_KM) (N := 10) hx hb hts (wg_ft i_KM) hown hK hO k_h0 (kn := 24) (ci := 5) (fl := [(3, 14), (3, 20), (3, 25), (3, 30), (3, 31), (3, 32), (3, 33), (3, 34), (3, 35), (3, 36)]) rfl hP rfl 4 (by decide) (hts _ (wg_t kw_111)) (fun _ h9 => h9) (cd := (3, 31)) rfl dKM_encrypt_290 (fun v31 hv31 => ?_)
              obtain ⟨r27, rfl, kr27⟩ := (show ∃ r : Nat, v31 = .ref r ∧ T r = some 31 from hv31)
              refine mp_v (cx := []) (wr := []) hP hD hS hA [] [] rfl rfl rfl (by decide) (va_runV (As := [.ref r26, .ref r27]) (rest := []) F (N_RG_add_7 l g _ T s26 pl hO hU r25 r26 r27 30 31 kr25 kr26 rfl kr27 rfl) (cwV 2 hts (wg_app (wg_c kw_1124 (wg_c kw_729 (wg_c kw_730 (wg_c kw_4 wg_n)))) kw_731) rfl rfl rfl (by decide +kernel) ⟨by decide, by decide⟩) (pn_W "LatticeKeys$Ring" (en_ok g) (ci := 4) (kn := 20) (fl := [(1, 3329), (1, 7), (1, 3303), (3, 21)]) hK hO kr25 rfl hP hD hS hA hE [] rfl rfl rfl) rfl rfl hl.1 rfl (lv_room (Nat.le_of_ble_eq_true rfl)) dKM_encrypt_293 ⟨by omega, by omega⟩) (fun  u24 H locs hu24 hP hD hS => ?_)
              obtain ⟨s27, pl⟩ := u24
              obtain ⟨⟨eq24, hFc24, -⟩, hO⟩ := hu24
              have hO : okn g T s27 pl := hO
              have hP : va_P g.1 vcl ([] ++ pl) _ := hP
              have hD : va_D _ ([] ++ pl) := hD
              have hFc24 : frm (M_RG_add_7 30) s26 s27 := hFc24
              replace hR := bnd_step hR eq24
              have hF := frm_tr hF hFc24 (fun k hk => by unfold M_RG_add_7 at hk; unfold M_KM_encrypt_2; omega)
              refine W.widen (k := 0) (n := 0) (by omega) (by omega) ?_
              refine lv_aload_n hx hb dKM_encrypt_296 rfl (lv_at hl 1 rfl) ?_
              refine lv_aload_n hx hb dKM_encrypt_297 rfl (lv_at hl 1 rfl) ?_
              refine nw_get (C := "LatticeKeys$Kem") (TT := T_KM) (N := 10) hx hb hts (wg_ft i_KM) hown hK hO k_h0 (kn := 24) (ci := 5) (fl := [(3, 14), (3, 20), (3, 25), (3, 30), (3, 31), (3, 32), (3, 33), (3, 34), (3, 35), (3, 36)]) rfl hP rfl 4 (by decide) (hts _ (wg_t kw_111)) (fun _ h9 => h9) (cd := (3, 31)) rfl dKM_encrypt_298 (fun v32 hv32 => ?_)
              obtain ⟨r28, rfl, kr28⟩ := (show ∃ r : Nat, v32 = .ref r ∧ T r = some 31 from hv32)
              refine lv_iconst (v := nI 1) hx hb dKM_encrypt_301 (by decide) ?_
              refine lv_aload_n hx hb dKM_encrypt_302 rfl (lv_at hl 1 rfl) ?_
              refine nw_get (C := "LatticeKeys$Kem") (TT := T_KM) (N := 10) hx hb hts (wg_ft i_KM) hown hK hO k_h0 (kn := 24) (ci := 5) (fl := [(3, 14), (3, 20), (3, 25), (3, 30), (3, 31), (3, 32), (3, 33), (3, 34), (3, 35), (3, 36)]) rfl hP rfl 5 (by decide) (hts _ (wg_t kw_112)) (fun _ h9 => h9) (cd := (3, 32)) rfl dKM_encrypt_303 (fun v33 hv33 => ?_)
              obtain ⟨r29, rfl, kr29⟩ := (show ∃ r : Nat, v33 = .ref r ∧ T r = some 32 from hv33)
              refine lv_iconst (v := nI 0) hx hb dKM_encrypt_306 (by decide) ?_
              refine mp_v (cx := []) (wr := []) hP hD hS hA [] [] rfl rfl rfl (by decide) (va_runV (As := [.ref r28, .int (nI 1), .ref r29, .int (nI 0)]) (rest := []) F (N_KM_readRounded l g _ T s27 pl hO hU h0 r28 r29 31 1 32 32 0 k_h0 kr28 rfl kr29 rfl (by omega) (by omega) (by omega) (by omega)) (cwV 4 hts (wg_app (wg_c kw_1133 (wg_c kw_1135 (wg_c ks_30 (wg_c kw_3 wg_n)))) kw_1136) rfl rfl rfl (by decide +kernel) ⟨by decide, by decide⟩) (pn_W "LatticeKeys$Kem" (en_ok g) (ci := 5) (kn := 24) (fl := [(3, 14), (3, 20), (3, 25), (3, 30), (3, 31), (3, 32), (3, 33), (3, 34), (3, 35), (3, 36)]) hK hO k_h0 rfl hP hD hS hA hE [] rfl rfl rfl) rfl rfl hl.1 rfl (lv_room (Nat.le_of_ble_eq_true rfl)) dKM_encrypt_307 ⟨by omega, by omega⟩) (fun  u25 H locs hu25 hP hD hS => ?_)
              obtain ⟨s28, pl⟩ := u25
              obtain ⟨⟨eq25, hFc25, -⟩, hO⟩ := hu25
              have hO : okn g T s28 pl := hO
              have hP : va_P g.1 vcl ([] ++ pl) _ := hP
              have hD : va_D _ ([] ++ pl) := hD
              have hFc25 : frm (M_KM_readRounded 31) s27 s28 := hFc25
              replace hR := bnd_step hR eq25
              have hF := frm_tr hF hFc25 (fun k hk => by unfold M_KM_readRounded at hk; unfold M_KM_encrypt_2; omega)
              refine W.widen (k := 0) (n := 0) (by omega) (by omega) ?_
              refine lv_aload_n hx hb dKM_encrypt_310 rfl (lv_at hl 1 rfl) ?_
              refine nw_get (C := "LatticeKeys$Kem") (TT := T_KM) (N := 10) hx hb hts (wg_ft i_KM) hown hK hO k_h0 (kn := 24) (ci := 5) (fl := [(3, 14), (3, 20), (3, 25), (3, 30), (3, 31), (3, 32), (3, 33), (3, 34), (3, 35), (3, 36)]) rfl hP rfl 1 (by decide) (hts _ (wg_t kw_108)) (fun _ h9 => h9) (cd := (3, 20)) rfl dKM_encrypt_311 (fun v34 hv34 => ?_)
              obtain ⟨r30, rfl, kr30⟩ := (show ∃ r : Nat, v34 = .ref r ∧ T r = some 20 from hv34)
              refine lv_aload_n hx hb dKM_encrypt_314 rfl (lv_at hl 1 rfl) ?_
              refine nw_get (C := "LatticeKeys$Kem") (TT := T_KM) (N := 10) hx hb hts (wg_ft i_KM) hown hK hO k_h0 (kn := 24) (ci := 5) (fl := [(3, 14), (3, 20), (3, 25), (3, 30), (3, 31), (3, 32), (3, 33), (3, 34), (3, 35), (3, 36)]) rfl hP rfl 3 (by decide) (hts _ (wg_t kw_110)) (fun _ h9 => h9) (cd := (3, 30)) rfl dKM_encrypt_315 (fun v35 hv35 => ?_)
              obtain ⟨r31, rfl, kr31⟩ := (show ∃ r : Nat, v35 = .ref r ∧ T r = some 30 from hv35)
              refine lv_aload_n hx hb dKM_encrypt_318 rfl (lv_at hl 1 rfl) ?_
              refine nw_get (C := "LatticeKeys$Kem") (TT := T_KM) (N := 10) hx hb hts (wg_ft i_KM) hown hK hO k_h0 (kn := 24) (ci := 5) (fl := [(3, 14), (3, 20), (3, 25), (3, 30), (3, 31), (3, 32), (3, 33), (3, 34), (3, 35), (3, 36)]) rfl hP rfl 4 (by decide) (hts _ (wg_t kw_111)) (fun _ h9 => h9) (cd := (3, 31)) rfl dKM_encrypt_319 (fun v36 hv36 => ?_)
              obtain ⟨r32, rfl, kr32⟩ := (show ∃ r : Nat, v36 = .ref r ∧ T r = some 31 from hv36)
              refine mp_v (cx := []) (wr := []) hP hD hS hA [] [] rfl rfl rfl (by decide) (va_runV (As := [.ref r31, .ref r32]) (rest := []) F (N_RG_add_7 l g _ T s28 pl hO hU r30 r31 r32 30 31 kr30 kr31 rfl kr32 rfl) (cwV 2 hts (wg_app (wg_c kw_1124 (wg_c kw_729 (wg_c kw_730 (wg_c kw_4 wg_n)))) kw_731) rfl rfl rfl (by decide +kernel) ⟨by decide, by decide⟩) (pn_W "LatticeKeys$Ring" (en_ok g) (ci := 4) (kn := 20) (fl := [(1, 3329), (1, 7), (1, 3303), (3, 21)]) hK hO kr30 rfl hP hD hS hA hE [] rfl rfl rfl) rfl rfl hl.1 rfl (lv_room (Nat.le_of_ble_eq_true rfl)) dKM_encrypt_322 ⟨by omega, by omega⟩) (fun  u26 H locs hu26 hP hD hS => ?_)
              obtain ⟨s29, pl⟩ := u26
              obtain ⟨⟨eq26, hFc26, -⟩, hO⟩ := hu26
              have hO : okn g T s29 pl := hO
              have hP : va_P g.1 vcl ([] ++ pl) _ := hP
              have hD : va_D _ ([] ++ pl) := hD
              have hFc26 : frm (M_RG_add_7 30) s28 s29 := hFc26
              replace hR := bnd_step hR eq26
              have hF := frm_tr hF hFc26 (fun k hk => by unfold M_RG_add_7 at hk; unfold M_KM_encrypt_2; omega)
              refine W.widen (k := 0) (n := 0) (by omega) (by omega) ?_
              refine lv_aload_n hx hb dKM_encrypt_325 rfl (lv_at hl 1 rfl) ?_
              refine lv_aload_n hx hb dKM_encrypt_326 rfl (lv_at hl 1 rfl) ?_
              refine nw_get (C := "LatticeKeys$Kem") (TT := T_KM) (N := 10) hx hb hts (wg_ft i_KM) hown hK hO k_h0 (kn := 24) (ci := 5) (fl := [(3, 14), (3, 20), (3, 25), (3, 30), (3, 31), (3, 32), (3, 33), (3, 34), (3, 35), (3, 36)]) rfl hP rfl 3 (by decide) (hts _ (wg_t kw_110)) (fun _ h9 => h9) (cd := (3, 30)) rfl dKM_encrypt_327 (fun v37 hv37 => ?_)
              obtain ⟨r33, rfl, kr33⟩ := (show ∃ r : Nat, v37 = .ref r ∧ T r = some 30 from hv37)
              refine lv_aload_n hx hb dKM_encrypt_330 rfl (lv_at hl 2 rfl) ?_
              refine nw_get (C := "LatticeKeys$KemSet") (TT := T_KS) (N := 10) hx hb hts (wg_ft i_KS) hown hK hO k_st (kn := 7) (ci := 1) (fl := [(1, 4), (1, 2), (1, 11), (1, 5), (1, 1568), (1, 3168), (1, 1568), (1, 1536), (1, 3104), (1, 3136)]) rfl hP rfl 3 (by decide) (hts _ (wg_t kw_237)) (fun _ h9 => h9) (cd := (1, 5)) rfl dKM_encrypt_331 (fun v38 hv38 => ?_)
              obtain rfl := (show v38 = .int (nI 5) from hv38)
              refine lv_aload_n hx hb dKM_encrypt_334 rfl (lv_at hl 4 rfl) ?_
              refine lv_bipush (v := nI 32) hx hb dKM_encrypt_335 (by decide) ?_
              refine lv_aload_n hx hb dKM_encrypt_337 rfl (lv_at hl 2 rfl) ?_
              refine nw_get (C := "LatticeKeys$KemSet") (TT := T_KS) (N := 10) hx hb hts (wg_ft i_KS) hown hK hO k_st (kn := 7) (ci := 1) (fl := [(1, 4), (1, 2), (1, 11), (1, 5), (1, 1568), (1, 3168), (1, 1568), (1, 1536), (1, 3104), (1, 3136)]) rfl hP rfl 2 (by decide) (hts _ (wg_t kw_235)) (fun _ h9 => h9) (cd := (1, 11)) rfl dKM_encrypt_338 (fun v39 hv39 => ?_)
              obtain rfl := (show v39 = .int (nI 11) from hv39)
              refine mi_imul hx hb dKM_encrypt_341 ?_
              refine mi_as (show nI (32 * 11) = nI 352 from rfl) ?_
              refine lv_aload_n hx hb dKM_encrypt_342 rfl (lv_at hl 2 rfl) ?_
              refine nw_get (C := "LatticeKeys$KemSet") (TT := T_KS) (N := 10) hx hb hts (wg_ft i_KS) hown hK hO k_st (kn := 7) (ci := 1) (fl := [(1, 4), (1, 2), (1, 11), (1, 5), (1, 1568), (1, 3168), (1, 1568), (1, 1536), (1, 3104), (1, 3136)]) rfl hP rfl 0 (by decide) (hts _ (wg_t kw_231)) (fun _ h9 => h9) (cd := (1, 4)) rfl dKM_encrypt_343 (fun v40 hv40 => ?_)
              obtain rfl := (show v40 = .int (nI 4) from hv40)
              refine mi_imul hx hb dKM_encrypt_346 ?_
              refine mi_as (show nI (352 * 4) = nI 1408 from rfl) ?_
              refine mp_v (cx := []) (wr := []) hP hD hS hA [] [] rfl rfl rfl (by decide) (va_runV (As := [.ref r33, .int (nI 5), .ref to, .int (nI 1408)]) (rest := []) F (N_KM_writeRounded l g _ T s29 pl hO hU h0 r33 to 30 5 pt n 1408 k_h0 kr33 rfl k_to n_to (by omega) (by omega) (by omega)) (cwV 4 hts (wg_app (wg_c kw_1125 (wg_c kw_1127 (wg_c ks_28 (wg_c kw_3 wg_n)))) kw_1128) rfl rfl rfl (by decide +kernel) ⟨by decide, by decide⟩) (pn_W "LatticeKeys$Kem" (en_ok g) (ci := 5) (kn := 24) (fl := [(3, 14), (3, 20), (3, 25), (3, 30), (3, 31), (3, 32), (3, 33), (3, 34), (3, 35), (3, 36)]) hK hO k_h0 rfl hP hD hS hA hE [] rfl rfl rfl) rfl rfl hl.1 rfl (lv_room (Nat.le_of_ble_eq_true rfl)) dKM_encrypt_347 ⟨by omega, by omega⟩) (fun  u27 H locs hu27 hP hD hS => ?_)
              obtain ⟨s30, pl⟩ := u27
              obtain ⟨⟨eq27, hFc27, -⟩, hO⟩ := hu27
              have hO : okn g T s30 pl := hO
              have hP : va_P g.1 vcl ([] ++ pl) _ := hP
              have hD : va_D _ ([] ++ pl) := hD
              have hFc27 : frm (M_KM_writeRounded 30 pt) s29 s30 := hFc27
              replace hR := bnd_step hR eq27
              have hF := frm_tr hF hFc27 (fun k hk => by unfold M_KM_writeRounded at hk; unfold M_KM_encrypt_2; omega)
              refine W.widen (k := 0) (n := 0) (by omega) (by omega) ?_
              exact mp_vret hx hb hr hlk hP hD hS (s30, pl) ⟨⟨hR.symm, hF, trivial⟩, hO⟩ [] rfl rfl rfl (by omega) (by omega) dKM_encrypt_350
            | succ n23 ih23 =>
              intro i23 s24 pl ls H locs hm23 hF hR hl hO hP hD hS
              refine lv_iload hx hb dKM_encrypt_207 (lv_at hl 0 rfl) ?_
              refine lv_aload_n hx hb dKM_encrypt_209 rfl (lv_at hl 2 rfl) ?_
              refine nw_get (C := "LatticeKeys$KemSet") (TT := T_KS) (N := 10) hx hb hts (wg_ft i_KS) hown hK hO k_st (kn := 7) (ci := 1) (fl := [(1, 4), (1, 2), (1, 11), (1, 5), (1, 1568), (1, 3168), (1, 1568), (1, 1536), (1, 3104), (1, 3136)]) rfl hP rfl 0 (by decide) (hts _ (wg_t kw_231)) (fun _ h9 => h9) (cd := (1, 4)) rfl dKM_encrypt_210 (fun v41 hv41 => ?_)
              obtain rfl := (show v41 = .int (nI 4) from hv41)
              refine mi_ge (tgt := 255) hx hb dKM_encrypt_213 (by decide) (by omega) (by omega) (fun h24 => absurd h24 (by omega)) (fun h24 => ?_)
              refine lv_aload_n hx hb dKM_encrypt_216 rfl (lv_at hl 1 rfl) ?_
              refine lv_aload_n hx hb dKM_encrypt_217 rfl (lv_at hl 3 rfl) ?_
              refine lv_sipush (v := nI 384) hx hb dKM_encrypt_218 (by decide) ?_
              refine lv_iload hx hb dKM_encrypt_221 (lv_at hl 0 rfl) ?_
              refine mi_imul hx hb dKM_encrypt_223 ?_
              refine mp_v (cx := []) (wr := []) hP hD hS hA [] [] rfl rfl rfl (by decide) (va_runV (As := [.ref pk, .int (nI (384 * i23))]) (rest := []) F (N_KM_readReduced l g _ T s24 pl hO hU h0 pk pp 1568 (384 * i23) k_h0 k_pk n_pk (by omega) (by omega)) (cwV 2 hts (wg_app (wg_c kw_1129 (wg_c kw_1131 (wg_c ks_29 (wg_c kw_3 wg_n)))) kw_1132) rfl rfl rfl (by decide +kernel) ⟨by decide, by decide⟩) (pn_W "LatticeKeys$Kem" (en_ok g) (ci := 5) (kn := 24) (fl := [(3, 14), (3, 20), (3, 25), (3, 30), (3, 31), (3, 32), (3, 33), (3, 34), (3, 35), (3, 36)]) hK hO k_h0 rfl hP hD hS hA hE [] rfl rfl rfl) rfl rfl hl.1 rfl (lv_room (Nat.le_of_ble_eq_true rfl)) dKM_encrypt_224 ⟨by omega, by omega⟩) (fun  u28 H locs hu28 hP hD hS => ?_)
              obtain ⟨s31, pl⟩ := u28
              obtain ⟨⟨eq28, hFc28, -⟩, hO⟩ := hu28
              have hO : okn g T s31 pl := hO
              have hP : va_P g.1 vcl ([] ++ pl) _ := hP
              have hD : va_D _ ([] ++ pl) := hD
              have hFc28 : frm (M_KM_readReduced) s24 s31 := hFc28
              replace hR := bnd_step hR eq28
              have hF := frm_tr hF hFc28 (fun k hk => by unfold M_KM_readReduced at hk; unfold M_KM_encrypt_2; omega)
              refine W.widen (k := 0) (n := 0) (by omega) (by omega) ?_
              refine lv_aload_n hx hb dKM_encrypt_227 rfl (lv_at hl 1 rfl) ?_
              refine nw_get (C := "LatticeKeys$Kem") (TT := T_KM) (N := 10) hx hb hts (wg_ft i_KM) hown hK hO k_h0 (kn := 24) (ci := 5) (fl := [(3, 14), (3, 20), (3, 25), (3, 30), (3, 31), (3, 32), (3, 33), (3, 34), (3, 35), (3, 36)]) rfl hP rfl 1 (by decide) (hts _ (wg_t kw_108)) (fun _ h9 => h9) (cd := (3, 20)) rfl dKM_encrypt_228 (fun v42 hv42 => ?_)
              obtain ⟨r34, rfl, kr34⟩ := (show ∃ r : Nat, v42 = .ref r ∧ T r = some 20 from hv42)
              refine lv_aload_n hx hb dKM_encrypt_231 rfl (lv_at hl 1 rfl) ?_
              refine nw_get (C := "LatticeKeys$Kem") (TT := T_KM) (N := 10) hx hb hts (wg_ft i_KM) hown hK hO k_h0 (kn := 24) (ci := 5) (fl := [(3, 14), (3, 20), (3, 25), (3, 30), (3, 31), (3, 32), (3, 33), (3, 34), (3, 35), (3, 36)]) rfl hP rfl 3 (by decide) (hts _ (wg_t kw_110)) (fun _ h9 => h9) (cd := (3, 30)) rfl dKM_encrypt_232 (fun v43 hv43 => ?_)
              obtain ⟨r35, rfl, kr35⟩ := (show ∃ r : Nat, v43 = .ref r ∧ T r = some 30 from hv43)
              refine lv_aload_n hx hb dKM_encrypt_235 rfl (lv_at hl 1 rfl) ?_
              refine nw_get (C := "LatticeKeys$Kem") (TT := T_KM) (N := 10) hx hb hts (wg_ft i_KM) hown hK hO k_h0 (kn := 24) (ci := 5) (fl := [(3, 14), (3, 20), (3, 25), (3, 30), (3, 31), (3, 32), (3, 33), (3, 34), (3, 35), (3, 36)]) rfl hP rfl 4 (by decide) (hts _ (wg_t kw_111)) (fun _ h9 => h9) (cd := (3, 31)) rfl dKM_encrypt_236 (fun v44 hv44 => ?_)
              obtain ⟨r36, rfl, kr36⟩ := (show ∃ r : Nat, v44 = .ref r ∧ T r = some 31 from hv44)
              refine lv_aload_n hx hb dKM_encrypt_239 rfl (lv_at hl 1 rfl) ?_
              refine nw_get (C := "LatticeKeys$Kem") (TT := T_KM) (N := 10) hx hb hts (wg_ft i_KM) hown hK hO k_h0 (kn := 24) (ci := 5) (fl := [(3, 14), (3, 20), (3, 25), (3, 30), (3, 31), (3, 32), (3, 33), (3, 34), (3, 35), (3, 36)]) rfl hP rfl 2 (by decide) (hts _ (wg_t kw_109)) (fun _ h9 => h9) (cd := (3, 25)) rfl dKM_encrypt_240 (fun v45 hv45 => ?_)
              obtain ⟨r37, rfl, kr37⟩ := (show ∃ r : Nat, v45 = .ref r ∧ T r = some 25 from hv45)
              refine lv_iload hx hb dKM_encrypt_243 (lv_at hl 0 rfl) ?_
              refine nw_aald3 hx hb hK hO kr37 (k := 25) (b := 26) rfl hP (by omega) (by omega) dKM_encrypt_245 (fun r38 kr38 => ?_)
              have hn21 : nsp (26 + i23) = (0, 256, []) := rows_ok 26 4 (by decide) _ (by omega)
              refine mp_v (cx := []) (wr := []) hP hD hS hA [] [] rfl rfl rfl (by decide) (va_runV (As := [.ref r35, .ref r36, .ref r38]) (rest := []) F (N_RG_addProduct_7 l g _ T s31 pl hO hU r34 r35 r36 r38 30 31 (26 + i23) kr34 kr35 rfl kr36 rfl kr38 hn21) (cwV 3 hts (wg_app (wg_c kw_653 (wg_c kw_654 (wg_c kw_655 (wg_c kw_4 wg_n)))) kw_656) rfl rfl rfl (by decide +kernel) ⟨by decide, by decide⟩) (pn_W "LatticeKeys$Ring" (en_ok g) (ci := 4) (kn := 20) (fl := [(1, 3329), (1, 7), (1, 3303), (3, 21)]) hK hO kr34 rfl hP hD hS hA hE [] rfl rfl rfl) rfl rfl hl.1 rfl (lv_room (Nat.le_of_ble_eq_true rfl)) dKM_encrypt_246 ⟨by omega, by omega⟩) (fun  u29 H locs hu29 hP hD hS => ?_)
              obtain ⟨s32, pl⟩ := u29
              obtain ⟨⟨eq29, hFc29, -⟩, hO⟩ := hu29
              have hO : okn g T s32 pl := hO
              have hP : va_P g.1 vcl ([] ++ pl) _ := hP
              have hD : va_D _ ([] ++ pl) := hD
              have hFc29 : frm (M_RG_addProduct_7 30) s31 s32 := hFc29
              replace hR := bnd_step hR eq29
              have hF := frm_tr hF hFc29 (fun k hk => by unfold M_RG_addProduct_7 at hk; unfold M_KM_encrypt_2; omega)
              refine W.widen (k := 0) (n := 0) (by omega) (by omega) ?_
              refine mi_iinc (k := 0) (x := i23) (d := 1) (y := i23 + 1) (lv' := [(4, .int (nI (i23 + 1))), (0, .ref h0), (1, .ref st), (2, .ref pk), (3, .ref to)]) hx hb dKM_encrypt_249 hl rfl (by decide) rfl (by decide) rfl (fun ls hl => ?_)
              refine lv_goto (tgt := 207) hx hb dKM_encrypt_252 (by decide) ?_
              exact ih23 (i23 + 1) s32 pl ls H locs (by omega) hF hR (lv_sub hl [0, 1, 2, 3, 4] rfl) hO hP hD hS
          exact lp23 4 0 s23 pl ls _ _ (by omega) hF hR (lv_sub hl [0, 1, 2, 3, 4] rfl) hO hP hD hS
        | succ n22 ih22 =>
          intro i22 s22 pl ls H locs hm22 hF hR hl hO hP hD hS
          refine lv_iload hx hb dKM_encrypt_52 (lv_at hl 0 rfl) ?_
          refine lv_aload_n hx hb dKM_encrypt_54 rfl (lv_at hl 2 rfl) ?_
          refine nw_get (C := "LatticeKeys$KemSet") (TT := T_KS) (N := 10) hx hb hts (wg_ft i_KS) hown hK hO k_st (kn := 7) (ci := 1) (fl := [(1, 4), (1, 2), (1, 11), (1, 5), (1, 1568), (1, 3168), (1, 1568), (1, 1536), (1, 3104), (1, 3136)]) rfl hP rfl 0 (by decide) (hts _ (wg_t kw_231)) (fun _ h9 => h9) (cd := (1, 4)) rfl dKM_encrypt_55 (fun v46 hv46 => ?_)
          obtain rfl := (show v46 = .int (nI 4) from hv46)
          refine mi_ge (tgt := 196) hx hb dKM_encrypt_58 (by decide) (by omega) (by omega) (fun h25 => absurd h25 (by omega)) (fun h25 => ?_)
          refine lv_aload_n hx hb dKM_encrypt_61 rfl (lv_at hl 1 rfl) ?_
          refine nw_get (C := "LatticeKeys$Kem") (TT := T_KM) (N := 10) hx hb hts (wg_ft i_KM) hown hK hO k_h0 (kn := 24) (ci := 5) (fl := [(3, 14), (3, 20), (3, 25), (3, 30), (3, 31), (3, 32), (3, 33), (3, 34), (3, 35), (3, 36)]) rfl hP rfl 3 (by decide) (hts _ (wg_t kw_110)) (fun _ h9 => h9) (cd := (3, 30)) rfl dKM_encrypt_62 (fun v47 hv47 => ?_)
          obtain ⟨r39, rfl, kr39⟩ := (show ∃ r : Nat, v47 = .ref r ∧ T r = some 30 from hv47)
          refine lv_iconst (v := nI 0) hx hb dKM_encrypt_65 (by decide) ?_
          refine mp_v (cx := []) (wr := []) hP hD hS hA [] [] rfl rfl rfl (by decide) (va_runS (As := [.ref r39, .int (nI 0)]) (rest := []) F (N_AR_fillI l g _ T s22 pl hO hU r39 30 256 (nI 0) kr39 rfl (by omega)) (va_cwS 2 hts (wg_app (wg_c kw_1122 (wg_c kw_717 (wg_c kw_21 wg_n))) kw_718) rfl rfl rfl (by decide +kernel) ⟨by decide, by decide⟩) (pp_S (en_ok g) hP hD hS hA hE [] rfl rfl) rfl rfl hl.1 rfl (lv_room (Nat.le_of_ble_eq_true rfl)) dKM_encrypt_66 ⟨by omega, by omega⟩) (fun  u30 H locs hu30 hP hD hS => ?_)
          obtain ⟨s33, pl⟩ := u30
          obtain ⟨⟨eq30, hFc30, -⟩, hO⟩ := hu30
          have hO : okn g T s33 pl := hO
          have hP : va_P g.1 vcl ([] ++ pl) _ := hP
          have hD : va_D _ ([] ++ pl) := hD
          have hFc30 : frm (M_AR_fillI 30) s22 s33 := hFc30
          replace hR := bnd_step hR eq30
          have hF := frm_tr hF hFc30 (fun k hk => by unfold M_AR_fillI at hk; unfold M_KM_encrypt_2; omega)
          refine W.widen (k := 0) (n := 0) (by omega) (by omega) ?_
          refine lv_iconst (v := nI 0) hx hb dKM_encrypt_69 (by decide) ?_
          refine lv_istore (lv' := [(5, .int (nI 0)), (4, .int (nI i22)), (0, .ref h0), (1, .ref st), (2, .ref pk), (3, .ref to)]) hx hb dKM_encrypt_70 hl (by decide) rfl (fun ls hl => ?_)
          have lp24 : ∀ (n24 : Nat) (i24 : Nat) (s34 : Sto) (pl : va_W) (ls : Array Slot) (H : Heap) (locs : List Loc), n24 + i24 = 4 → frm (M_KM_encrypt_2 pt) s s34 → F_KM_encrypt_2 pp pt n s = F_KM_encrypt_2_L3 pp pt n i22 (F_KM_encrypt_2_L1 pp pt n n22) n24 i24 s34 → lv_has ls 6 [(5, .int (nI i24)), (4, .int (nI i22)), (0, .ref h0), (1, .ref st), (2, .ref pk), (3, .ref to)] → okn g T s34 pl → va_P g.1 vcl ([] ++ pl) H → va_D A ([] ++ pl) → va_S A s0.heap H locs → W p l e ({ frames := 4, cells := 0, slots := 0, locals := 131 } : Room) s0 m args below meth c H locs 0 0 (MQ below (va_Qv (fun (u : (Sto) × va_W) => (u.1 = F_KM_encrypt_2 pp pt n s ∧ frm (M_KM_encrypt_2 pt) s u.1 ∧ True) ∧ okn g T u.1 u.2) (po g.1 vcl A (fun (u : (Sto) × va_W) => [] ++ u.2)) A) args s0 0 0 A) (F0 m 72 ls []) := by
            intro n24
            induction n24 with
            | zero =>
              intro i24 s34 pl ls H locs hm24 hF hR hl hO hP hD hS
              refine lv_iload hx hb dKM_encrypt_72 (lv_at hl 0 rfl) ?_
              refine lv_aload_n hx hb dKM_encrypt_74 rfl (lv_at hl 3 rfl) ?_
              refine nw_get (C := "LatticeKeys$KemSet") (TT := T_KS) (N := 10) hx hb hts (wg_ft i_KS) hown hK hO k_st (kn := 7) (ci := 1) (fl := [(1, 4), (1, 2), (1, 11), (1, 5), (1, 1568), (1, 3168), (1, 1568), (1, 1536), (1, 3104), (1, 3136)]) rfl hP rfl 0 (by decide) (hts _ (wg_t kw_231)) (fun _ h9 => h9) (cd := (1, 4)) rfl dKM_encrypt_75 (fun v48 hv48 => ?_)
              obtain rfl := (show v48 = .int (nI 4) from hv48)
              refine mi_ge (tgt := 125) hx hb dKM_encrypt_78 (by decide) (by omega) (by omega) (fun h26 => ?_) (fun h26 => absurd h26 (by omega))
              refine lv_aload_n hx hb dKM_encrypt_125 rfl (lv_at hl 2 rfl) ?_
              refine nw_get (C := "LatticeKeys$Kem") (TT := T_KM) (N := 10) hx hb hts (wg_ft i_KM) hown hK hO k_h0 (kn := 24) (ci := 5) (fl := [(3, 14), (3, 20), (3, 25), (3, 30), (3, 31), (3, 32), (3, 33), (3, 34), (3, 35), (3, 36)]) rfl hP rfl 1 (by decide) (hts _ (wg_t kw_108)) (fun _ h9 => h9) (cd := (3, 20)) rfl dKM_encrypt_126 (fun v49 hv49 => ?_)
              obtain ⟨r40, rfl, kr40⟩ := (show ∃ r : Nat, v49 = .ref r ∧ T r = some 20 from hv49)
              refine lv_aload_n hx hb dKM_encrypt_129 rfl (lv_at hl 2 rfl) ?_
              refine nw_get (C := "LatticeKeys$Kem") (TT := T_KM) (N := 10) hx hb hts (wg_ft i_KM) hown hK hO k_h0 (kn := 24) (ci := 5) (fl := [(3, 14), (3, 20), (3, 25), (3, 30), (3, 31), (3, 32), (3, 33), (3, 34), (3, 35), (3, 36)]) rfl hP rfl 3 (by decide) (hts _ (wg_t kw_110)) (fun _ h9 => h9) (cd := (3, 30)) rfl dKM_encrypt_130 (fun v50 hv50 => ?_)
              obtain ⟨r41, rfl, kr41⟩ := (show ∃ r : Nat, v50 = .ref r ∧ T r = some 30 from hv50)
              refine mp_v (cx := []) (wr := []) hP hD hS hA [] [] rfl rfl rfl (by decide) (va_runV (As := [.ref r41]) (rest := []) F (N_RG_restore_7 l g _ T s34 pl hO hU r40 r41 30 kr40 kr41 rfl) (cwV 1 hts (wg_app (wg_c kw_1123 (wg_c kw_721 (wg_c kw_722 (wg_c kw_4 wg_n)))) kw_723) rfl rfl rfl (by decide +kernel) ⟨by decide, by decide⟩) (pn_W "LatticeKeys$Ring" (en_ok g) (ci := 4) (kn := 20) (fl := [(1, 3329), (1, 7), (1, 3303), (3, 21)]) hK hO kr40 rfl hP hD hS hA hE [] rfl rfl rfl) rfl rfl hl.1 rfl (lv_room (Nat.le_of_ble_eq_true rfl)) dKM_encrypt_133 ⟨by omega, by omega⟩) (fun  u31 H locs hu31 hP hD hS => ?_)
              obtain ⟨s35, pl⟩ := u31
              obtain ⟨⟨eq31, hFc31, -⟩, hO⟩ := hu31
              have hO : okn g T s35 pl := hO
              have hP : va_P g.1 vcl ([] ++ pl) _ := hP
              have hD : va_D _ ([] ++ pl) := hD
              have hFc31 : frm (M_RG_restore_7 30) s34 s35 := hFc31
              replace hR := bnd_step hR eq31
              have hF := frm_tr hF hFc31 (fun k hk => by unfold M_RG_restore_7 at hk; unfold M_KM_encrypt_2; omega)
              refine W.widen (k := 0) (n := 0) (by omega) (by omega) ?_
              refine lv_aload_n hx hb dKM_encrypt_136 rfl (lv_at hl 2 rfl) ?_
              refine lv_aload_n hx hb dKM_encrypt_137 rfl (lv_at hl 2 rfl) ?_
              refine nw_get (C := "LatticeKeys$Kem") (TT := T_KM) (N := 10) hx hb hts (wg_ft i_KM) hown hK hO k_h0 (kn := 24) (ci := 5) (fl := [(3, 14), (3, 20), (3, 25), (3, 30), (3, 31), (3, 32), (3, 33), (3, 34), (3, 35), (3, 36)]) rfl hP rfl 4 (by decide) (hts _ (wg_t kw_111)) (fun _ h9 => h9) (cd := (3, 31)) rfl dKM_encrypt_138 (fun v51 hv51 => ?_)
              obtain ⟨r42, rfl, kr42⟩ := (show ∃ r : Nat, v51 = .ref r ∧ T r = some 31 from hv51)
              refine lv_iconst (v := nI 2) hx hb dKM_encrypt_141 (by decide) ?_
              refine lv_aload_n hx hb dKM_encrypt_142 rfl (lv_at hl 3 rfl) ?_
              refine nw_get (C := "LatticeKeys$KemSet") (TT := T_KS) (N := 10) hx hb hts (wg_ft i_KS) hown hK hO k_st (kn := 7) (ci := 1) (fl := [(1, 4), (1, 2), (1, 11), (1, 5), (1, 1568), (1, 3168), (1, 1568), (1, 1536), (1, 3104), (1, 3136)]) rfl hP rfl 0 (by decide) (hts _ (wg_t kw_231)) (fun _ h9 => h9) (cd := (1, 4)) rfl dKM_encrypt_143 (fun v52 hv52 => ?_)
              obtain rfl := (show v52 = .int (nI 4) from hv52)
              refine lv_iload hx hb dKM_encrypt_146 (lv_at hl 1 rfl) ?_
              refine mi_iadd hx hb dKM_encrypt_148 ?_
              refine mp_v (cx := []) (wr := []) hP hD hS hA [] [] rfl rfl rfl (by decide) (va_runV (As := [.ref r42, .int (nI 2), .int (nI (4 + i22))]) (rest := []) F (N_KM_sampleNoise_2 l g _ T s35 pl hO hU h0 r42 31 (nI (4 + i22)) k_h0 kr42 rfl) (cwV 3 hts (wg_app (wg_c kw_623 (wg_c kw_625 (wg_c ks_6 (wg_c kw_3 wg_n)))) kw_626) rfl rfl rfl (by decide +kernel) ⟨by decide, by decide⟩) (pn_W "LatticeKeys$Kem" (en_ok g) (ci := 5) (kn := 24) (fl := [(3, 14), (3, 20), (3, 25), (3, 30), (3, 31), (3, 32), (3, 33), (3, 34), (3, 35), (3, 36)]) hK hO k_h0 rfl hP hD hS hA hE [] rfl rfl rfl) rfl rfl hl.1 rfl (lv_room (Nat.le_of_ble_eq_true rfl)) dKM_encrypt_149 ⟨by omega, by omega⟩) (fun  u32 H locs hu32 hP hD hS => ?_)
              obtain ⟨s36, pl⟩ := u32
              obtain ⟨⟨eq32, hFc32, -⟩, hO⟩ := hu32
              have hO : okn g T s36 pl := hO
              have hP : va_P g.1 vcl ([] ++ pl) _ := hP
              have hD : va_D _ ([] ++ pl) := hD
              have hFc32 : frm (M_KM_sampleNoise_2 31) s35 s36 := hFc32
              replace hR := bnd_step hR eq32
              have hF := frm_tr hF hFc32 (fun k hk => by unfold M_KM_sampleNoise_2 at hk; unfold M_KM_encrypt_2; omega)
              refine W.widen (k := 0) (n := 0) (by omega) (by omega) ?_
              refine lv_aload_n hx hb dKM_encrypt_152 rfl (lv_at hl 2 rfl) ?_
              refine nw_get (C := "LatticeKeys$Kem") (TT := T_KM) (N := 10) hx hb hts (wg_ft i_KM) hown hK hO k_h0 (kn := 24) (ci := 5) (fl := [(3, 14), (3, 20), (3, 25), (3, 30), (3, 31), (3, 32), (3, 33), (3, 34), (3, 35), (3, 36)]) rfl hP rfl 1 (by decide) (hts _ (wg_t kw_108)) (fun _ h9 => h9) (cd := (3, 20)) rfl dKM_encrypt_153 (fun v53 hv53 => ?_)
              obtain ⟨r43, rfl, kr43⟩ := (show ∃ r : Nat, v53 = .ref r ∧ T r = some 20 from hv53)
              refine lv_aload_n hx hb dKM_encrypt_156 rfl (lv_at hl 2 rfl) ?_
              refine nw_get (C := "LatticeKeys$Kem") (TT := T_KM) (N := 10) hx hb hts (wg_ft i_KM) hown hK hO k_h0 (kn := 24) (ci := 5) (fl := [(3, 14), (3, 20), (3, 25), (3, 30), (3, 31), (3, 32), (3, 33), (3, 34), (3, 35), (3, 36)]) rfl hP rfl 3 (by decide) (hts _ (wg_t kw_110)) (fun _ h9 => h9) (cd := (3, 30)) rfl dKM_encrypt_157 (fun v54 hv54 => ?_)
              obtain ⟨r44, rfl, kr44⟩ := (show ∃ r : Nat, v54 = .ref r ∧ T r = some 30 from hv54)
              refine lv_aload_n hx hb dKM_encrypt_160 rfl (lv_at hl 2 rfl) ?_
              refine nw_get (C := "LatticeKeys$Kem") (TT := T_KM) (N := 10) hx hb hts (wg_ft i_KM) hown hK hO k_h0 (kn := 24) (ci := 5) (fl := [(3, 14), (3, 20), (3, 25), (3, 30), (3, 31), (3, 32), (3, 33), (3, 34), (3, 35), (3, 36)]) rfl hP rfl 4 (by decide) (hts _ (wg_t kw_111)) (fun _ h9 => h9) (cd := (3, 31)) rfl dKM_encrypt_161 (fun v55 hv55 => ?_)
              obtain ⟨r45, rfl, kr45⟩ := (show ∃ r : Nat, v55 = .ref r ∧ T r = some 31 from hv55)
              refine mp_v (cx := []) (wr := []) hP hD hS hA [] [] rfl rfl rfl (by decide) (va_runV (As := [.ref r44, .ref r45]) (rest := []) F (N_RG_add_7 l g _ T s36 pl hO hU r43 r44 r45 30 31 kr43 kr44 rfl kr45 rfl) (cwV 2 hts (wg_app (wg_c kw_1124 (wg_c kw_729 (wg_c kw_730 (wg_c kw_4 wg_n)))) kw_731) rfl rfl rfl (by decide +kernel) ⟨by decide, by decide⟩) (pn_W "LatticeKeys$Ring" (en_ok g) (ci := 4) (kn := 20) (fl := [(1, 3329), (1, 7), (1, 3303), (3, 21)]) hK hO kr43 rfl hP hD hS hA hE [] rfl rfl rfl) rfl rfl hl.1 rfl (lv_room (Nat.le_of_ble_eq_true rfl)) dKM_encrypt_164 ⟨by omega, by omega⟩) (fun  u33 H locs hu33 hP hD hS => ?_)
              obtain ⟨s37, pl⟩ := u33
              obtain ⟨⟨eq33, hFc33, -⟩, hO⟩ := hu33
              have hO : okn g T s37 pl := hO
              have hP : va_P g.1 vcl ([] ++ pl) _ := hP
              have hD : va_D _ ([] ++ pl) := hD
              have hFc33 : frm (M_RG_add_7 30) s36 s37 := hFc33
              replace hR := bnd_step hR eq33
              have hF := frm_tr hF hFc33 (fun k hk => by unfold M_RG_add_7 at hk; unfold M_KM_encrypt_2; omega)
              refine W.widen (k := 0) (n := 0) (by omega) (by omega) ?_
              refine lv_aload_n hx hb dKM_encrypt_167 rfl (lv_at hl 2 rfl) ?_
              refine lv_aload_n hx hb dKM_encrypt_168 rfl (lv_at hl 2 rfl) ?_
              refine nw_get (C := "LatticeKeys$Kem") (TT := T_KM) (N := 10) hx hb hts (wg_ft i_KM) hown hK hO k_h0 (kn := 24) (ci := 5) (fl := [(3, 14), (3, 20), (3, 25), (3, 30), (3, 31), (3, 32), (3, 33), (3, 34), (3, 35), (3, 36)]) rfl hP rfl 3 (by decide) (hts _ (wg_t kw_110)) (fun _ h9 => h9) (cd := (3, 30)) rfl dKM_encrypt_169 (fun v56 hv56 => ?_)
              obtain ⟨r46, rfl, kr46⟩ := (show ∃ r : Nat, v56 = .ref r ∧ T r = some 30 from hv56)
              refine lv_aload_n hx hb dKM_encrypt_172 rfl (lv_at hl 3 rfl) ?_
              refine nw_get (C := "LatticeKeys$KemSet") (TT := T_KS) (N := 10) hx hb hts (wg_ft i_KS) hown hK hO k_st (kn := 7) (ci := 1) (fl := [(1, 4), (1, 2), (1, 11), (1, 5), (1, 1568), (1, 3168), (1, 1568), (1, 1536), (1, 3104), (1, 3136)]) rfl hP rfl 2 (by decide) (hts _ (wg_t kw_235)) (fun _ h9 => h9) (cd := (1, 11)) rfl dKM_encrypt_173 (fun v57 hv57 => ?_)
              obtain rfl := (show v57 = .int (nI 11) from hv57)
              refine lv_aload_n hx hb dKM_encrypt_176 rfl (lv_at hl 5 rfl) ?_
              refine lv_bipush (v := nI 32) hx hb dKM_encrypt_177 (by decide) ?_
              refine lv_aload_n hx hb dKM_encrypt_179 rfl (lv_at hl 3 rfl) ?_
              refine nw_get (C := "LatticeKeys$KemSet") (TT := T_KS) (N := 10) hx hb hts (wg_ft i_KS) hown hK hO k_st (kn := 7) (ci := 1) (fl := [(1, 4), (1, 2), (1, 11), (1, 5), (1, 1568), (1, 3168), (1, 1568), (1, 1536), (1, 3104), (1, 3136)]) rfl hP rfl 2 (by decide) (hts _ (wg_t kw_235)) (fun _ h9 => h9) (cd := (1, 11)) rfl dKM_encrypt_180 (fun v58 hv58 => ?_)
              obtain rfl := (show v58 = .int (nI 11) from hv58)
              refine mi_imul hx hb dKM_encrypt_183 ?_
              refine mi_as (show nI (32 * 11) = nI 352 from rfl) ?_
              refine lv_iload hx hb dKM_encrypt_184 (lv_at hl 1 rfl) ?_
              refine mi_imul hx hb dKM_encrypt_186 ?_
              refine mp_v (cx := []) (wr := []) hP hD hS hA [] [] rfl rfl rfl (by decide) (va_runV (As := [.ref r46, .int (nI 11), .ref to, .int (nI (352 * i22))]) (rest := []) F (N_KM_writeRounded l g _ T s37 pl hO hU h0 r46 to 30 11 pt n (352 * i22) k_h0 kr46 rfl k_to n_to (by omega) (by omega) (by omega)) (cwV 4 hts (wg_app (wg_c kw_1125 (wg_c kw_1127 (wg_c ks_28 (wg_c kw_3 wg_n)))) kw_1128) rfl rfl rfl (by decide +kernel) ⟨by decide, by decide⟩) (pn_W "LatticeKeys$Kem" (en_ok g) (ci := 5) (kn := 24) (fl := [(3, 14), (3, 20), (3, 25), (3, 30), (3, 31), (3, 32), (3, 33), (3, 34), (3, 35), (3, 36)]) hK hO k_h0 rfl hP hD hS hA hE [] rfl rfl rfl) rfl rfl hl.1 rfl (lv_room (Nat.le_of_ble_eq_true rfl)) dKM_encrypt_187 ⟨by omega, by omega⟩) (fun  u34 H locs hu34 hP hD hS => ?_)
              obtain ⟨s38, pl⟩ := u34
              obtain ⟨⟨eq34, hFc34, -⟩, hO⟩ := hu34
              have hO : okn g T s38 pl := hO
              have hP : va_P g.1 vcl ([] ++ pl) _ := hP
              have hD : va_D _ ([] ++ pl) := hD
              have hFc34 : frm (M_KM_writeRounded 30 pt) s37 s38 := hFc34
              replace hR := bnd_step hR eq34
              have hF := frm_tr hF hFc34 (fun k hk => by unfold M_KM_writeRounded at hk; unfold M_KM_encrypt_2; omega)
              refine W.widen (k := 0) (n := 0) (by omega) (by omega) ?_
              refine mi_iinc (k := 1) (x := i22) (d := 1) (y := i22 + 1) (lv' := [(4, .int (nI (i22 + 1))), (5, .int (nI i24)), (0, .ref h0), (1, .ref st), (2, .ref pk), (3, .ref to)]) hx hb dKM_encrypt_190 hl rfl (by decide) rfl (by decide) rfl (fun ls hl => ?_)
              refine lv_goto (tgt := 52) hx hb dKM_encrypt_193 (by decide) ?_
              exact ih22 (i22 + 1) s38 pl ls H locs (by omega) hF hR (lv_sub hl [0, 2, 3, 4, 5] rfl) hO hP hD hS
            | succ n24 ih24 =>
              intro i24 s34 pl ls H locs hm24 hF hR hl hO hP hD hS
              refine lv_iload hx hb dKM_encrypt_72 (lv_at hl 0 rfl) ?_
              refine lv_aload_n hx hb dKM_encrypt_74 rfl (lv_at hl 3 rfl) ?_
              refine nw_get (C := "LatticeKeys$KemSet") (TT := T_KS) (N := 10) hx hb hts (wg_ft i_KS) hown hK hO k_st (kn := 7) (ci := 1) (fl := [(1, 4), (1, 2), (1, 11), (1, 5), (1, 1568), (1, 3168), (1, 1568), (1, 1536), (1, 3104), (1, 3136)]) rfl hP rfl 0 (by decide) (hts _ (wg_t kw_231)) (fun _ h9 => h9) (cd := (1, 4)) rfl dKM_encrypt_75 (fun v59 hv59 => ?_)
              obtain rfl := (show v59 = .int (nI 4) from hv59)
              refine mi_ge (tgt := 125) hx hb dKM_encrypt_78 (by decide) (by omega) (by omega) (fun h27 => absurd h27 (by omega)) (fun h27 => ?_)
              refine lv_aload_n hx hb dKM_encrypt_81 rfl (lv_at hl 2 rfl) ?_
              refine lv_aload_n hx hb dKM_encrypt_82 rfl (lv_at hl 4 rfl) ?_
              refine lv_aload_n hx hb dKM_encrypt_83 rfl (lv_at hl 3 rfl) ?_
              refine nw_get (C := "LatticeKeys$KemSet") (TT := T_KS) (N := 10) hx hb hts (wg_ft i_KS) hown hK hO k_st (kn := 7) (ci := 1) (fl := [(1, 4), (1, 2), (1, 11), (1, 5), (1, 1568), (1, 3168), (1, 1568), (1, 1536), (1, 3104), (1, 3136)]) rfl hP rfl 4 (by decide) (hts _ (wg_t kw_239)) (fun _ h9 => h9) (cd := (1, 1568)) rfl dKM_encrypt_84 (fun v60 hv60 => ?_)
              obtain rfl := (show v60 = .int (nI 1568) from hv60)
              refine lv_bipush (v := nI 32) hx hb dKM_encrypt_87 (by decide) ?_
              refine mi_isub hx hb dKM_encrypt_89 (by omega) ?_
              refine mi_as (show nI (1568 - 32) = nI 1536 from rfl) ?_
              refine lv_iload hx hb dKM_encrypt_90 (lv_at hl 1 rfl) ?_
              refine lv_iload hx hb dKM_encrypt_92 (lv_at hl 0 rfl) ?_
              refine mp_v (cx := []) (wr := []) hP hD hS hA [] [] rfl rfl rfl (by decide) (va_runV (As := [.ref pk, .int (nI 1536), .int (nI i22), .int (nI i24)]) (rest := []) F (N_KM_sampleEntry l g _ T s34 pl hO hU h0 pk pp 1568 1536 (nI i22) (nI i24) k_h0 k_pk n_pk (by omega) (by omega)) (cwV 4 hts (wg_app (wg_c kw_647 (wg_c kw_649 (wg_c ks_8 (wg_c kw_3 wg_n)))) kw_650) rfl rfl rfl (by decide +kernel) ⟨by decide, by decide⟩) (pn_W "LatticeKeys$Kem" (en_ok g) (ci := 5) (kn := 24) (fl := [(3, 14), (3, 20), (3, 25), (3, 30), (3, 31), (3, 32), (3, 33), (3, 34), (3, 35), (3, 36)]) hK hO k_h0 rfl hP hD hS hA hE [] rfl rfl rfl) rfl rfl hl.1 rfl (lv_room (Nat.le_of_ble_eq_true rfl)) dKM_encrypt_94 ⟨by omega, by omega⟩) (fun  u35 H locs hu35 hP hD hS => ?_)
              obtain ⟨s39, pl⟩ := u35
              obtain ⟨⟨eq35, hFc35, -⟩, hO⟩ := hu35
              have hO : okn g T s39 pl := hO
              have hP : va_P g.1 vcl ([] ++ pl) _ := hP
              have hD : va_D _ ([] ++ pl) := hD
              have hFc35 : frm (M_KM_sampleEntry) s34 s39 := hFc35
              replace hR := bnd_step hR eq35
              have hF := frm_tr hF hFc35 (fun k hk => by unfold M_KM_sampleEntry at hk; unfold M_KM_encrypt_2; omega)
              refine W.widen (k := 0) (n := 0) (by omega) (by omega) ?_
              refine lv_aload_n hx hb dKM_encrypt_97 rfl (lv_at hl 2 rfl) ?_
              refine nw_get (C := "LatticeKeys$Kem") (TT := T_KM) (N := 10) hx hb hts (wg_ft i_KM) hown hK hO k_h0 (kn := 24) (ci := 5) (fl := [(3, 14), (3, 20), (3, 25), (3, 30), (3, 31), (3, 32), (3, 33), (3, 34), (3, 35), (3, 36)]) rfl hP rfl 1 (by decide) (hts _ (wg_t kw_108)) (fun _ h9 => h9) (cd := (3, 20)) rfl dKM_encrypt_98 (fun v61 hv61 => ?_)
              obtain ⟨r47, rfl, kr47⟩ := (show ∃ r : Nat, v61 = .ref r ∧ T r = some 20 from hv61)
              refine lv_aload_n hx hb dKM_encrypt_101 rfl (lv_at hl 2 rfl) ?_
              refine nw_get (C := "LatticeKeys$Kem") (TT := T_KM) (N := 10) hx hb hts (wg_ft i_KM) hown hK hO k_h0 (kn := 24) (ci := 5) (fl := [(3, 14), (3, 20), (3, 25), (3, 30), (3, 31), (3, 32), (3, 33), (3, 34), (3, 35), (3, 36)]) rfl hP rfl 3 (by decide) (hts _ (wg_t kw_110)) (fun _ h9 => h9) (cd := (3, 30)) rfl dKM_encrypt_102 (fun v62 hv62 => ?_)
              obtain ⟨r48, rfl, kr48⟩ := (show ∃ r : Nat, v62 = .ref r ∧ T r = some 30 from hv62)
              refine lv_aload_n hx hb dKM_encrypt_105 rfl (lv_at hl 2 rfl) ?_
              refine nw_get (C := "LatticeKeys$Kem") (TT := T_KM) (N := 10) hx hb hts (wg_ft i_KM) hown hK hO k_h0 (kn := 24) (ci := 5) (fl := [(3, 14), (3, 20), (3, 25), (3, 30), (3, 31), (3, 32), (3, 33), (3, 34), (3, 35), (3, 36)]) rfl hP rfl 4 (by decide) (hts _ (wg_t kw_111)) (fun _ h9 => h9) (cd := (3, 31)) rfl dKM_encrypt_106 (fun v63 hv63 => ?_)
              obtain ⟨r49, rfl, kr49⟩ := (show ∃ r : Nat, v63 = .ref r ∧ T r = some 31 from hv63)
              refine lv_aload_n hx hb dKM_encrypt_109 rfl (lv_at hl 2 rfl) ?_
              refine nw_get (C := "LatticeKeys$Kem") (TT := T_KM) (N := 10) hx hb hts (wg_ft i_KM) hown hK hO k_h0 (kn := 24) (ci := 5) (fl := [(3, 14), (3, 20), (3, 25), (3, 30), (3, 31), (3, 32), (3, 33), (3, 34), (3, 35), (3, 36)]) rfl hP rfl 2 (by decide) (hts _ (wg_t kw_109)) (fun _ h9 => h9) (cd := (3, 25)) rfl dKM_encrypt_110 (fun v64 hv64 => ?_)
              obtain ⟨r50, rfl, kr50⟩ := (show ∃ r : Nat, v64 = .ref r ∧ T r = some 25 from hv64)
              refine lv_iload hx hb dKM_encrypt_113 (lv_at hl 0 rfl) ?_
              refine nw_aald3 hx hb hK hO kr50 (k := 25) (b := 26) rfl hP (by omega) (by omega) dKM_encrypt_115 (fun r51 kr51 => ?_)
              have hn22 : nsp (26 + i24) = (0, 256, []) := rows_ok 26 4 (by decide) _ (by omega)
              refine mp_v (cx := []) (wr := []) hP hD hS hA [] [] rfl rfl rfl (by decide) (va_runV (As := [.ref r48, .ref r49, .ref r51]) (rest := []) F (N_RG_addProduct_7 l g _ T s39 pl hO hU r47 r48 r49 r51 30 31 (26 + i24) kr47 kr48 rfl kr49 rfl kr51 hn22) (cwV 3 hts (wg_app (wg_c kw_653 (wg_c kw_654 (wg_c kw_655 (wg_c kw_4 wg_n)))) kw_656) rfl rfl rfl (by decide +kernel) ⟨by decide, by decide⟩) (pn_W "LatticeKeys$Ring" (en_ok g) (ci := 4) (kn := 20) (fl := [(1, 3329), (1, 7), (1, 3303), (3, 21)]) hK hO kr47 rfl hP hD hS hA hE [] rfl rfl rfl) rfl rfl hl.1 rfl (lv_room (Nat.le_of_ble_eq_true rfl)) dKM_encrypt_116 ⟨by omega, by omega⟩) (fun  u36 H locs hu36 hP hD hS => ?_)
              obtain ⟨s40, pl⟩ := u36
              obtain ⟨⟨eq36, hFc36, -⟩, hO⟩ := hu36
              have hO : okn g T s40 pl := hO
              have hP : va_P g.1 vcl ([] ++ pl) _ := hP
              have hD : va_D _ ([] ++ pl) := hD
              have hFc36 : frm (M_RG_addProduct_7 30) s39 s40 := hFc36
              replace hR := bnd_step hR eq36
              have hF := frm_tr hF hFc36 (fun k hk => by unfold M_RG_addProduct_7 at hk; unfold M_KM_encrypt_2; omega)
              refine W.widen (k := 0) (n := 0) (by omega) (by omega) ?_
              refine mi_iinc (k := 0) (x := i24) (d := 1) (y := i24 + 1) (lv' := [(5, .int (nI (i24 + 1))), (4, .int (nI i22)), (0, .ref h0), (1, .ref st), (2, .ref pk), (3, .ref to)]) hx hb dKM_encrypt_119 hl rfl (by decide) rfl (by decide) rfl (fun ls hl => ?_)
              refine lv_goto (tgt := 72) hx hb dKM_encrypt_122 (by decide) ?_
              exact ih24 (i24 + 1) s40 pl ls H locs (by omega) hF hR (lv_sub hl [0, 1, 2, 3, 4, 5] rfl) hO hP hD hS
          exact lp24 4 0 s33 pl ls _ _ (by omega) hF hR (lv_sub hl [0, 1, 2, 3, 4, 5] rfl) hO hP hD hS
      exact lp22 4 0 s21 pl ls _ _ (by omega) hF hR (lv_sub hl [0, 1, 2, 3, 4] rfl) hO hP hD hS
    | succ n21 ih21 =>
      intro i21 s21 pl ls H locs hm21 hF hR hl hO hP hD hS
      refine lv_iload hx hb dKM_encrypt_3 (lv_at hl 0 rfl) ?_
      refine lv_aload_n hx hb dKM_encrypt_5 rfl (lv_at hl 2 rfl) ?_
      refine nw_get (C := "LatticeKeys$KemSet") (TT := T_KS) (N := 10) hx hb hts (wg_ft i_KS) hown hK hO k_st (kn := 7) (ci := 1) (fl := [(1, 4), (1, 2), (1, 11), (1, 5), (1, 1568), (1, 3168), (1, 1568), (1, 1536), (1, 3104), (1, 3136)]) rfl hP rfl 0 (by decide) (hts _ (wg_t kw_231)) (fun _ h9 => h9) (cd := (1, 4)) rfl dKM_encrypt_6 (fun v65 hv65 => ?_)
      obtain rfl := (show v65 = .int (nI 4) from hv65)
      refine mi_ge (tgt := 49) hx hb dKM_encrypt_9 (by decide) (by omega) (by omega) (fun h28 => absurd h28 (by omega)) (fun h28 => ?_)
      refine lv_aload_n hx hb dKM_encrypt_12 rfl (lv_at hl 1 rfl) ?_
      refine lv_aload_n hx hb dKM_encrypt_13 rfl (lv_at hl 1 rfl) ?_
      refine nw_get (C := "LatticeKeys$Kem") (TT := T_KM) (N := 10) hx hb hts (wg_ft i_KM) hown hK hO k_h0 (kn := 24) (ci := 5) (fl := [(3, 14), (3, 20), (3, 25), (3, 30), (3, 31), (3, 32), (3, 33), (3, 34), (3, 35), (3, 36)]) rfl hP rfl 2 (by decide) (hts _ (wg_t kw_109)) (fun _ h9 => h9) (cd := (3, 25)) rfl dKM_encrypt_14 (fun v66 hv66 => ?_)
      obtain ⟨r52, rfl, kr52⟩ := (show ∃ r : Nat, v66 = .ref r ∧ T r = some 25 from hv66)
      refine lv_iload hx hb dKM_encrypt_17 (lv_at hl 0 rfl) ?_
      refine nw_aald3 hx hb hK hO kr52 (k := 25) (b := 26) rfl hP (by omega) (by omega) dKM_encrypt_19 (fun r53 kr53 => ?_)
      have hn23 : nsp (26 + i21) = (0, 256, []) := rows_ok 26 4 (by decide) _ (by omega)
      refine lv_aload_n hx hb dKM_encrypt_20 rfl (lv_at hl 2 rfl) ?_
      refine nw_get (C := "LatticeKeys$KemSet") (TT := T_KS) (N := 10) hx hb hts (wg_ft i_KS) hown hK hO k_st (kn := 7) (ci := 1) (fl := [(1, 4), (1, 2), (1, 11), (1, 5), (1, 1568), (1, 3168), (1, 1568), (1, 1536), (1, 3104), (1, 3136)]) rfl hP rfl 1 (by decide) (hts _ (wg_t kw_233)) (fun _ h9 => h9) (cd := (1, 2)) rfl dKM_encrypt_21 (fun v67 hv67 => ?_)
      obtain rfl := (show v67 = .int (nI 2) from hv67)
      refine lv_iload hx hb dKM_encrypt_24 (lv_at hl 0 rfl) ?_
      refine mp_v (cx := []) (wr := []) hP hD hS hA [] [] rfl rfl rfl (by decide) (va_runV (As := [.ref r53, .int (nI 2), .int (nI i21)]) (rest := []) F (N_KM_sampleNoise_2 l g _ T s21 pl hO hU h0 r53 (26 + i21) (nI i21) k_h0 kr53 hn23) (cwV 3 hts (wg_app (wg_c kw_623 (wg_c kw_625 (wg_c ks_6 (wg_c kw_3 wg_n)))) kw_626) rfl rfl rfl (by decide +kernel) ⟨by decide, by decide⟩) (pn_W "LatticeKeys$Kem" (en_ok g) (ci := 5) (kn := 24) (fl := [(3, 14), (3, 20), (3, 25), (3, 30), (3, 31), (3, 32), (3, 33), (3, 34), (3, 35), (3, 36)]) hK hO k_h0 rfl hP hD hS hA hE [] rfl rfl rfl) rfl rfl hl.1 rfl (lv_room (Nat.le_of_ble_eq_true rfl)) dKM_encrypt_26 ⟨by omega, by omega⟩) (fun  u37 H locs hu37 hP hD hS => ?_)
      obtain ⟨s41, pl⟩ := u37
      obtain ⟨⟨eq37, hFc37, -⟩, hO⟩ := hu37
      have hO : okn g T s41 pl := hO
      have hP : va_P g.1 vcl ([] ++ pl) _ := hP
      have hD : va_D _ ([] ++ pl) := hD
      have hFc37 : frm (M_KM_sampleNoise_2 (26 + i21)) s21 s41 := hFc37
      replace hR := bnd_step hR eq37
      have hF := frm_tr hF hFc37 (fun k hk => by unfold M_KM_sampleNoise_2 at hk; unfold M_KM_encrypt_2; omega)
      refine W.widen (k := 0) (n := 0) (by omega) (by omega) ?_
      refine lv_aload_n hx hb dKM_encrypt_29 rfl (lv_at hl 1 rfl) ?_
      refine nw_get (C := "LatticeKeys$Kem") (TT := T_KM) (N := 10) hx hb hts (wg_ft i_KM) hown hK hO k_h0 (kn := 24) (ci := 5) (fl := [(3, 14), (3, 20), (3, 25), (3, 30), (3, 31), (3, 32), (3, 33), (3, 34), (3, 35), (3, 36)]) rfl hP rfl 1 (by decide) (hts _ (wg_t kw_108)) (fun _ h9 => h9) (cd := (3, 20)) rfl dKM_encrypt_30 (fun v68 hv68 => ?_)
      obtain ⟨r54, rfl, kr54⟩ := (show ∃ r : Nat, v68 = .ref r ∧ T r = some 20 from hv68)
      refine lv_aload_n hx hb dKM_encrypt_33 rfl (lv_at hl 1 rfl) ?_
      refine nw_get (C := "LatticeKeys$Kem") (TT := T_KM) (N := 10) hx hb hts (wg_ft i_KM) hown hK hO k_h0 (kn := 24) (ci := 5) (fl := [(3, 14), (3, 20), (3, 25), (3, 30), (3, 31), (3, 32), (3, 33), (3, 34), (3, 35), (3, 36)]) rfl hP rfl 2 (by decide) (hts _ (wg_t kw_109)) (fun _ h9 => h9) (cd := (3, 25)) rfl dKM_encrypt_34 (fun v69 hv69 => ?_)
      obtain ⟨r55, rfl, kr55⟩ := (show ∃ r : Nat, v69 = .ref r ∧ T r = some 25 from hv69)
      refine lv_iload hx hb dKM_encrypt_37 (lv_at hl 0 rfl) ?_
      refine nw_aald3 hx hb hK hO kr55 (k := 25) (b := 26) rfl hP (by omega) (by omega) dKM_encrypt_39 (fun r56 kr56 => ?_)
      have hn24 : nsp (26 + i21) = (0, 256, []) := rows_ok 26 4 (by decide) _ (by omega)
      refine mp_v (cx := []) (wr := []) hP hD hS hA [] [] rfl rfl rfl (by decide) (va_runV (As := [.ref r56]) (rest := []) F (N_RG_transform_7 l g _ T s41 pl hO hU r54 r56 (26 + i21) kr54 kr56 hn24) (cwV 1 hts (wg_app (wg_c kw_636 (wg_c kw_637 (wg_c kw_638 (wg_c kw_4 wg_n)))) kw_639) rfl rfl rfl (by decide +kernel) ⟨by decide, by decide⟩) (pn_W "LatticeKeys$Ring" (en_ok g) (ci := 4) (kn := 20) (fl := [(1, 3329), (1, 7), (1, 3303), (3, 21)]) hK hO kr54 rfl hP hD hS hA hE [] rfl rfl rfl) rfl rfl hl.1 rfl (lv_room (Nat.le_of_ble_eq_true rfl)) dKM_encrypt_40 ⟨by omega, by omega⟩) (fun  u38 H locs hu38 hP hD hS => ?_)
      obtain ⟨s42, pl⟩ := u38
      obtain ⟨⟨eq38, hFc38, -⟩, hO⟩ := hu38
      have hO : okn g T s42 pl := hO
      have hP : va_P g.1 vcl ([] ++ pl) _ := hP
      have hD : va_D _ ([] ++ pl) := hD
      have hFc38 : frm (M_RG_transform_7 (26 + i21)) s41 s42 := hFc38
      replace hR := bnd_step hR eq38
      have hF := frm_tr hF hFc38 (fun k hk => by unfold M_RG_transform_7 at hk; unfold M_KM_encrypt_2; omega)
      refine W.widen (k := 0) (n := 0) (by omega) (by omega) ?_
      refine mi_iinc (k := 0) (x := i21) (d := 1) (y := i21 + 1) (lv' := [(4, .int (nI (i21 + 1))), (0, .ref h0), (1, .ref st), (2, .ref pk), (3, .ref to)]) hx hb dKM_encrypt_43 hl rfl (by decide) rfl (by decide) rfl (fun ls hl => ?_)
      refine lv_goto (tgt := 3) hx hb dKM_encrypt_46 (by decide) ?_
      exact ih21 (i21 + 1) s42 pl ls H locs (by omega) hF hR (lv_sub hl [0, 1, 2, 3, 4] rfl) hO hP hD hS
  exact lp21 4 0 s pl ls _ _ (by omega) hF hR (lv_sub hl [0, 1, 2, 3, 4] rfl) hO hP hD hS
def M_KM_decrypt_0 (k : Nat) : Prop := (26 ≤ k ∧ k < 30) ∨ k = 30 ∨ k = 31 ∨ k = 32 ∨ (0 : Nat) = 1
noncomputable def F_KM_decrypt_0_L0 (psk : Nat) (pc_ : Nat) (n : Nat) : Nat → Nat → Sto → Sto
  | 0, i21, s22 => bnd (F_RG_restore_7 30 s22) fun s23 => bnd (F_KM_readRounded 31 4 pc_ n 640 s23) fun s24 => bnd (F_RG_subtract_7 31 30 s24) fun s25 => bnd (F_KM_writeRounded 31 1 32 32 0 s25) fun s26 => s26
  | n21 + 1, i21, s22 => bnd (F_KM_readRounded (26 + i21) 10 pc_ n (320 * i21) s22) fun s27 => bnd (F_RG_transform_7 (26 + i21) s27) fun s28 => bnd (F_KM_readReduced psk 1632 (384 * i21) s28) fun s29 => bnd (F_RG_addProduct_7 30 31 (26 + i21) s29) fun s30 => F_KM_decrypt_0_L0 psk pc_ n n21 (i21 + 1) s30
noncomputable def F_KM_decrypt_0 (psk : Nat) (pc_ : Nat) (n : Nat) (s : Sto) : Sto := bnd (F_AR_fillI 30 256 (nI 0) s) fun s21 => F_KM_decrypt_0_L0 psk pc_ n 2 0 s21
set_option maxHeartbeats 400000 in
set_option maxRecDepth 100000 in
theorem N_KM_decrypt_0 (l : Launch) (g : Gd) (sz : Nat) (T : TyN) (s : Sto) (pl : va_W) (hO : okn g T s pl) (hU : inj T) (h0 st sk ct : Nat) (psk : Nat) (pc_ : Nat) (n : Nat) (k_h0 : T h0 = some 24) (k_st : T st = some 5) (k_sk : T sk = some psk) (n_sk : nsp psk = (1, 1632, [])) (k_ct : T ct = some pc_) (n_ct : nsp pc_ = (1, n, [])) (h1 : 768 ≤ n) (h2 : n < 65536)  : Met l y_KM_decrypt w_KM_decrypt ({ frames := 2, cells := 0, slots := 0, locals := 57 } : Room) (va_Pc [.ref h0, .ref st, .ref sk, .ref ct] (pr (en g) g.1 vcl sz ([] ++ pl))) (va_Qv (fun (u : (Sto) × va_W) => (u.1 = F_KM_decrypt_0 psk pc_ n s ∧ frm (M_KM_decrypt_0) s u.1 ∧ True) ∧ okn g T u.1 u.2) (po g.1 vcl (va_A ([] ++ pl) sz) (fun (u : (Sto) × va_W) => [] ++ u.2)) (va_A ([] ++ pl) sz)) 0 0 (va_A ([] ++ pl) sz) := by
  refine mc_entry (cc := c_KM_decrypt) (maxL := 5) (ret := none) (by decide) rfl (Nat.le_of_ble_eq_true rfl) ?_
  intro p e s0 m args below meth c ls F hr hlk hnm hsz hP hD hE hA hl
  obtain ⟨hx, hb, hml, hown, hts⟩ := id F
  have hK := hE.1
  generalize va_A ([] ++ pl) sz = A at hD hE hA ⊢
  have hS : va_S A s0.heap s0.heap [] := va_S.rf
  have hl : lv_has ls 5 [(0, .ref h0), (1, .ref st), (2, .ref sk), (3, .ref ct)] := hl
  have hR : F_KM_decrypt_0 psk pc_ n s = F_KM_decrypt_0 psk pc_ n s := rfl
  have hF : frm (M_KM_decrypt_0) s s := frm_rf
  refine lv_aload_n hx hb dKM_decrypt_0 rfl (lv_at hl 0 rfl) ?_
  refine nw_get (C := "LatticeKeys$Kem") (TT := T_KM) (N := 10) hx hb hts (wg_ft i_KM) hown hK hO k_h0 (kn := 24) (ci := 5) (fl := [(3, 14), (3, 20), (3, 25), (3, 30), (3, 31), (3, 32), (3, 33), (3, 34), (3, 35), (3, 36)]) rfl hP rfl 3 (by decide) (hts _ (wg_t kw_110)) (fun _ h9 => h9) (cd := (3, 30)) rfl dKM_decrypt_1 (fun v21 hv21 => ?_)
  obtain ⟨r21, rfl, kr21⟩ := (show ∃ r : Nat, v21 = .ref r ∧ T r = some 30 from hv21)
  refine lv_iconst (v := nI 0) hx hb dKM_decrypt_4 (by decide) ?_
  refine mp_v (cx := []) (wr := []) hP hD hS hA [] [] rfl rfl rfl (by decide) (va_runS (As := [.ref r21, .int (nI 0)]) (rest := []) F (N_AR_fillI l g _ T s pl hO hU r21 30 256 (nI 0) kr21 rfl (by omega)) (va_cwS 2 hts (wg_app (wg_c kw_1122 (wg_c kw_717 (wg_c kw_21 wg_n))) kw_718) rfl rfl rfl (by decide +kernel) ⟨by decide, by decide⟩) (pp_S (en_ok g) hP hD hS hA hE [] rfl rfl) rfl rfl hl.1 rfl (lv_room (Nat.le_of_ble_eq_true rfl)) dKM_decrypt_5 ⟨by omega, by omega⟩) (fun  u21 H locs hu21 hP hD hS => ?_)
  obtain ⟨s21, pl⟩ := u21
  obtain ⟨⟨eq21, hFc21, -⟩, hO⟩ := hu21
  have hO : okn g T s21 pl := hO
  have hP : va_P g.1 vcl ([] ++ pl) _ := hP
  have hD : va_D _ ([] ++ pl) := hD
  have hFc21 : frm (M_AR_fillI 30) s s21 := hFc21
  replace hR := bnd_step hR eq21
  have hF := frm_tr hF hFc21 (fun k hk => by unfold M_AR_fillI at hk; unfold M_KM_decrypt_0; omega)
  refine W.widen (k := 0) (n := 0) (by omega) (by omega) ?_
  refine lv_iconst (v := nI 0) hx hb dKM_decrypt_8 (by decide) ?_
  refine lv_istore (lv' := [(4, .int (nI 0)), (0, .ref h0), (1, .ref st), (2, .ref sk), (3, .ref ct)]) hx hb dKM_decrypt_9 hl (by decide) rfl (fun ls hl => ?_)
  have lp21 : ∀ (n21 : Nat) (i21 : Nat) (s22 : Sto) (pl : va_W) (ls : Array Slot) (H : Heap) (locs : List Loc), n21 + i21 = 2 → frm (M_KM_decrypt_0) s s22 → F_KM_decrypt_0 psk pc_ n s = F_KM_decrypt_0_L0 psk pc_ n n21 i21 s22 → lv_has ls 5 [(4, .int (nI i21)), (0, .ref h0), (1, .ref st), (2, .ref sk), (3, .ref ct)] → okn g T s22 pl → va_P g.1 vcl ([] ++ pl) H → va_D A ([] ++ pl) → va_S A s0.heap H locs → W p l e ({ frames := 2, cells := 0, slots := 0, locals := 57 } : Room) s0 m args below meth c H locs 0 0 (MQ below (va_Qv (fun (u : (Sto) × va_W) => (u.1 = F_KM_decrypt_0 psk pc_ n s ∧ frm (M_KM_decrypt_0) s u.1 ∧ True) ∧ okn g T u.1 u.2) (po g.1 vcl A (fun (u : (Sto) × va_W) => [] ++ u.2)) A) args s0 0 0 A) (F0 m 11 ls []) := by
    intro n21
    induction n21 with
    | zero =>
      intro i21 s22 pl ls H locs hm21 hF hR hl hO hP hD hS
      refine lv_iload hx hb dKM_decrypt_11 (lv_at hl 0 rfl) ?_
      refine lv_aload_n hx hb dKM_decrypt_13 rfl (lv_at hl 2 rfl) ?_
      refine nw_get (C := "LatticeKeys$KemSet") (TT := T_KS) (N := 10) hx hb hts (wg_ft i_KS) hown hK hO k_st (kn := 5) (ci := 1) (fl := [(1, 2), (1, 3), (1, 10), (1, 4), (1, 800), (1, 1632), (1, 768), (1, 768), (1, 1568), (1, 1600)]) rfl hP rfl 0 (by decide) (hts _ (wg_t kw_231)) (fun _ h9 => h9) (cd := (1, 2)) rfl dKM_decrypt_14 (fun v22 hv22 => ?_)
      obtain rfl := (show v22 = .int (nI 2) from hv22)
      refine mi_ge (tgt := 99) hx hb dKM_decrypt_17 (by decide) (by omega) (by omega) (fun h21 => ?_) (fun h21 => absurd h21 (by omega))
      refine lv_aload_n hx hb dKM_decrypt_99 rfl (lv_at hl 1 rfl) ?_
      refine nw_get (C := "LatticeKeys$Kem") (TT := T_KM) (N := 10) hx hb hts (wg_ft i_KM) hown hK hO k_h0 (kn := 24) (ci := 5) (fl := [(3, 14), (3, 20), (3, 25), (3, 30), (3, 31), (3, 32), (3, 33), (3, 34), (3, 35), (3, 36)]) rfl hP rfl 1 (by decide) (hts _ (wg_t kw_108)) (fun _ h9 => h9) (cd := (3, 20)) rfl dKM_decrypt_100 (fun v23 hv23 => ?_)
      obtain ⟨r22, rfl, kr22⟩ := (show ∃ r : Nat, v23 = .ref r ∧ T r = some 20 from hv23)
      refine lv_aload_n hx hb dKM_decrypt_103 rfl (lv_at hl 1 rfl) ?_
      refine nw_get (C := "LatticeKeys$Kem") (TT := T_KM) (N := 10) hx hb hts (wg_ft i_KM) hown hK hO k_h0 (kn := 24) (ci := 5) (fl := [(3, 14), (3, 20), (3, 25), (3, 30), (3, 31), (3, 32), (3, 33), (3, 34), (3, 35), (3, 36)]) rfl hP rfl 3 (by decide) (hts _ (wg_t kw_110)) (fun _ h9 => h9) (cd := (3, 30)) rfl dKM_decrypt_104 (fun v24 hv24 => ?_)
      obtain ⟨r23, rfl, kr23⟩ := (show ∃ r : Nat, v24 = .ref r ∧ T r = some 30 from hv24)
      refine mp_v (cx := []) (wr := []) hP hD hS hA [] [] rfl rfl rfl (by decide) (va_runV (As := [.ref r23]) (rest := []) F (N_RG_restore_7 l g _ T s22 pl hO hU r22 r23 30 kr22 kr23 rfl) (cwV 1 hts (wg_app (wg_c kw_1123 (wg_c kw_721 (wg_c kw_722 (wg_c kw_4 wg_n)))) kw_723) rfl rfl rfl (by decide +kernel) ⟨by decide, by decide⟩) (pn_W "LatticeKeys$Ring" (en_ok g) (ci := 4) (kn := 20) (fl := [(1, 3329), (1, 7), (1, 3303), (3, 21)]) hK hO kr22 rfl hP hD hS hA hE [] rfl rfl rfl) rfl rfl hl.1 rfl (lv_room (Nat.le_of_ble_eq_true rfl)) dKM_decrypt_107 ⟨by omega, by omega⟩) (fun  u22 H locs hu22 hP hD hS => ?_)
      obtain ⟨s23, pl⟩ := u22
      obtain ⟨⟨eq22, hFc22, -⟩, hO⟩ := hu22
      have hO : okn g T s23 pl := hO
      have hP : va_P g.1 vcl ([] ++ pl) _ := hP
      have hD : va_D _ ([] ++ pl) := hD
      have hFc22 : frm (M_RG_restore_7 30) s22 s23 := hFc22
      replace hR := bnd_step hR eq22
      have hF := frm_tr hF hFc22 (fun k hk => by unfold M_RG_restore_7 at hk; unfold M_KM_decrypt_0; omega)
      refine W.widen (k := 0) (n := 0) (by omega) (by omega) ?_
      refine lv_aload_n hx hb dKM_decrypt_110 rfl (lv_at hl 1 rfl) ?_
      refine lv_aload_n hx hb dKM_decrypt_111 rfl (lv_at hl 1 rfl) ?_
      refine nw_get (C := "LatticeKeys$Kem") (TT := T_KM) (N := 10) hx hb hts (wg_ft i_KM) hown hK hO k_h0 (kn := 24) (ci := 5) (fl := [(3, 14), (3, 20), (3, 25), (3, 30), (3, 31), (3, 32), (3, 33), (3, 34), (3, 35), (3, 36)]) rfl hP rfl 4 (by decide) (hts _ (wg_t kw_111)) (fun _ h9 => h9) (cd := (3, 31)) rfl dKM_decrypt_112 (fun v25 hv25 => ?_)
      obtain ⟨r24, rfl, kr24⟩ := (show ∃ r : Nat, v25 = .ref r ∧ T r = some 31 from hv25)
      refine lv_aload_n hx hb dKM_decrypt_115 rfl (lv_at hl 2 rfl) ?_
      refine nw_get (C := "LatticeKeys$KemSet") (TT := T_KS) (N := 10) hx hb hts (wg_ft i_KS) hown hK hO k_st (kn := 5) (ci := 1) (fl := [(1, 2), (1, 3), (1, 10), (1, 4), (1, 800), (1, 1632), (1, 768), (1, 768), (1, 1568), (1, 1600)]) rfl hP rfl 3 (by decide) (hts _ (wg_t kw_237)) (fun _ h9 => h9) (cd := (1, 4)) rfl dKM_decrypt_116 (fun v26 hv26 => ?_)
      obtain rfl := (show v26 = .int (nI 4) from hv26)
      refine lv_aload_n hx hb dKM_decrypt_119 rfl (lv_at hl 4 rfl) ?_
      refine lv_bipush (v := nI 32) hx hb dKM_decrypt_120 (by decide) ?_
      refine lv_aload_n hx hb dKM_decrypt_122 rfl (lv_at hl 2 rfl) ?_
      refine nw_get (C := "LatticeKeys$KemSet") (TT := T_KS) (N := 10) hx hb hts (wg_ft i_KS) hown hK hO k_st (kn := 5) (ci := 1) (fl := [(1, 2), (1, 3), (1, 10), (1, 4), (1, 800), (1, 1632), (1, 768), (1, 768), (1, 1568), (1, 1600)]) rfl hP rfl 2 (by decide) (hts _ (wg_t kw_235)) (fun _ h9 => h9) (cd := (1, 10)) rfl dKM_decrypt_123 (fun v27 hv27 => ?_)
      obtain rfl := (show v27 = .int (nI 10) from hv27)
      refine mi_imul hx hb dKM_decrypt_126 ?_
      refine mi_as (show nI (32 * 10) = nI 320 from rfl) ?_
      refine lv_aload_n hx hb dKM_decrypt_127 rfl (lv_at hl 2 rfl) ?_
      refine nw_get (C := "LatticeKeys$KemSet") (TT := T_KS) (N := 10) hx hb hts (wg_ft i_KS) hown hK hO k_st (kn := 5) (ci := 1) (fl := [(1, 2), (1, 3), (1, 10), (1, 4), (1, 800), (1, 1632), (1, 768), (1, 768), (1, 1568), (1, 1600)]) rfl hP rfl 0 (by decide) (hts _ (wg_t kw_231)) (fun _ h9 => h9) (cd := (1, 2)) rfl dKM_decrypt_128 (fun v28 hv28 => ?_)
      obtain rfl := (show v28 = .int (nI 2) from hv28)
      refine mi_imul hx hb dKM_decrypt_131 ?_
      refine mi_as (show nI (320 * 2) = nI 640 from rfl) ?_
      refine mp_v (cx := []) (wr := []) hP hD hS hA [] [] rfl rfl rfl (by decide) (va_runV (As := [.ref r24, .int (nI 4), .ref ct, .int (nI 640)]) (rest := []) F (N_KM_readRounded l g _ T s23 pl hO hU h0 r24 ct 31 4 pc_ n 640 k_h0 kr24 rfl k_ct n_ct (by omega) (by omega) (by omega) (by omega)) (cwV 4 hts (wg_app (wg_c kw_1133 (wg_c kw_1135 (wg_c ks_30 (wg_c kw_3 wg_n)))) kw_1136) rfl rfl rfl (by decide +kernel) ⟨by decide, by decide⟩) (pn_W "LatticeKeys$Kem" (en_ok g) (ci := 5) (kn := 24) (fl := [(3, 14), (3, 20), (3, 25), (3, 30), (3, 31), (3, 32), (3, 33), (3, 34), (3, 35), (3, 36)]) hK hO k_h0 rfl hP hD hS hA hE [] rfl rfl rfl) rfl rfl hl.1 rfl (lv_room (Nat.le_of_ble_eq_true rfl)) dKM_decrypt_132 ⟨by omega, by omega⟩) (fun  u23 H locs hu23 hP hD hS => ?_)
      obtain ⟨s24, pl⟩ := u23
      obtain ⟨⟨eq23, hFc23, -⟩, hO⟩ := hu23
      have hO : okn g T s24 pl := hO
      have hP : va_P g.1 vcl ([] ++ pl) _ := hP
      have hD : va_D _ ([] ++ pl) := hD
      have hFc23 : frm (M_KM_readRounded 31) s23 s24 := hFc23
      replace hR := bnd_step hR eq23
      have hF := frm_tr hF hFc23 (fun k hk => by unfold M_KM_readRounded at hk; unfold M_KM_decrypt_0; omega)
      refine W.widen (k := 0) (n := 0) (by omega) (by omega) ?_
      refine lv_aload_n hx hb dKM_decrypt_135 rfl (lv_at hl 1 rfl) ?_
      refine nw_get (C := "LatticeKeys$Kem") (TT := T_KM) (N := 10) hx hb hts (wg_ft i_KM) hown hK hO k_h0 (kn := 24) (ci := 5) (fl := [(3, 14), (3, 20), (3, 25), (3, 30), (3, 31), (3, 32), (3, 33), (3, 34), (3, 35), (3, 36)]) rfl hP rfl 1 (by decide) (hts _ (wg_t kw_108)) (fun _ h9 => h9) (cd := (3, 20)) rfl dKM_decrypt_136 (fun v29 hv29 => ?_)
      obtain ⟨r25, rfl, kr25⟩ := (show ∃ r : Nat, v29 = .ref r ∧ T r = some 20 from hv29)
      refine lv_aload_n hx hb dKM_decrypt_139 rfl (lv_at hl 1 rfl) ?_
      refine nw_get (C := "LatticeKeys$Kem") (TT := T_KM) (N := 10) hx hb hts (wg_ft i_KM) hown hK hO k_h0 (kn := 24) (ci := 5) (fl := [(3, 14), (3, 20), (3, 25), (3, 30), (3, 31), (3, 32), (3, 33), (3, 34), (3, 35), (3, 36)]) rfl hP rfl 4 (by decide) (hts _ (wg_t kw_111)) (fun _ h9 => h9) (cd := (3, 31)) rfl dKM_decrypt_140 (fun v30 hv30 => ?_)
      obtain ⟨r26, rfl, kr26⟩ := (show ∃ r : Nat, v30 = .ref r ∧ T r = some 31 from hv30)
      refine lv_aload_n hx hb dKM_decrypt_143 rfl (lv_at hl 1 rfl) ?_
      refine nw_get (C := "LatticeKeys$Kem") (TT := T_KM) (N := 10) hx hb hts (wg_ft i_KM) hown hK hO k_h0 (kn := 24) (ci := 5) (fl := [(3, 14), (3, 20), (3, 25), (3, 30), (3, 31), (3, 32), (3, 33), (3, 34), (3, 35), (3, 36)]) rfl hP rfl 3 (by decide) (hts _ (wg_t kw_110)) (fun _ h9 => h9) (cd := (3, 30)) rfl dKM_decrypt_144 (fun v31 hv31 => ?_)
      obtain ⟨r27, rfl, kr27⟩ := (show ∃ r : Nat, v31 = .ref r ∧ T r = some 30 from hv31)
      refine mp_v (cx := []) (wr := []) hP hD hS hA [] [] rfl rfl rfl (by decide) (va_runV (As := [.ref r26, .ref r27]) (rest := []) F (N_RG_subtract_7 l g _ T s24 pl hO hU r25 r26 r27 31 30 kr25 kr26 rfl kr27 rfl) (cwV 2 hts (wg_app (wg_c kw_1154 (wg_c kw_1155 (wg_c kw_1156 (wg_c kw_4 wg_n)))) kw_1157) rfl rfl rfl (by decide +kernel) ⟨by decide, by decide⟩) (pn_W "LatticeKeys$Ring" (en_ok g) (ci := 4) (kn := 20) (fl := [(1, 3329), (1, 7), (1, 3303), (3, 21)]) hK hO kr25 rfl hP hD hS hA hE [] rfl rfl rfl) rfl rfl hl.1 rfl (lv_room (Nat.le_of_ble_eq_true rfl)) dKM_decrypt_147 ⟨by omega, by omega⟩) (fun  u24 H locs hu24 hP hD hS => ?_)
      obtain ⟨s25, pl⟩ := u24
      obtain ⟨⟨eq24, hFc24, -⟩, hO⟩ := hu24
      have hO : okn g T s25 pl := hO
      have hP : va_P g.1 vcl ([] ++ pl) _ := hP
      have hD : va_D _ ([] ++ pl) := hD
      have hFc24 : frm (M_RG_subtract_7 31) s24 s25 := hFc24
      replace hR := bnd_step hR eq24
      have hF := frm_tr hF hFc24 (fun k hk => by unfold M_RG_subtract_7 at hk; unfold M_KM_decrypt_0; omega)
      refine W.widen (k := 0) (n := 0) (by omega) (by omega) ?_
      refine lv_aload_n hx hb dKM_decrypt_150 rfl (lv_at hl 1 rfl) ?_
      refine lv_aload_n hx hb dKM_decrypt_151 rfl (lv_at hl 1 rfl) ?_
      refine nw_get (C := "LatticeKeys$Kem") (TT := T_KM) (N := 10) hx hb hts (wg_ft i_KM) hown hK hO k_h0 (kn := 24) (ci := 5) (fl := [(3, 14), (3, 20), (3, 25), (3, 30), (3, 31), (3, 32), (3, 33), (3, 34), (3, 35), (3, 36)]) rfl hP rfl 4 (by decide) (hts _ (wg_t kw_111)) (fun _ h9 => h9) (cd := (3, 31)) rfl dKM_decrypt_152 (fun v32 hv32 => ?_)
      obtain ⟨r28, rfl, kr28⟩ := (show ∃ r : Nat, v32 = .ref r ∧ T r = some 31 from hv32)
      refine lv_iconst (v := nI 1) hx hb dKM_decrypt_155 (by decide) ?_
      refine lv_aload_n hx hb dKM_decrypt_156 rfl (lv_at hl 1 rfl) ?_
      refine nw_get (C := "LatticeKeys$Kem") (TT := T_KM) (N := 10) hx hb hts (wg_ft i_KM) hown hK hO k_h0 (kn := 24) (ci := 5) (fl := [(3, 14), (3, 20), (3, 25), (3, 30), (3, 31), (3, 32), (3, 33), (3, 34), (3, 35), (3, 36)]) rfl hP rfl 5 (by decide) (hts _ (wg_t kw_112)) (fun _ h9 => h9) (cd := (3, 32)) rfl dKM_decrypt_157 (fun v33 hv33 => ?_)
      obtain ⟨r29, rfl, kr29⟩ := (show ∃ r : Nat, v33 = .ref r ∧ T r = some 32 from hv33)
      refine lv_iconst (v := nI 0) hx hb dKM_decrypt_160 (by decide) ?_
      refine mp_v (cx := []) (wr := []) hP hD hS hA [] [] rfl rfl rfl (by decide) (va_runV (As := [.ref r28, .int (nI 1), .ref r29, .int (nI 0)]) (rest := []) F (N_KM_writeRounded l g _ T s25 pl hO hU h0 r28 r29 31 1 32 32 0 k_h0 kr28 rfl kr29 rfl (by omega) (by omega) (by omega)) (cwV 4 hts (wg_app (wg_c kw_1125 (wg_c kw_1127 (wg_c ks_28 (wg_c kw_3 wg_n)))) kw_1128) rfl rfl rfl (by decide +kernel) ⟨by decide, by decide⟩) (pn_W "LatticeKeys$Kem" (en_ok g) (ci := 5) (kn := 24) (fl := [(3, 14), (3, 20), (3, 25), (3, 30), (3, 31), (3, 32), (3, 33), (3, 34), (3, 35), (3, 36)]) hK hO k_h0 rfl hP hD hS hA hE [] rfl rfl rfl) rfl rfl hl.1 rfl (lv_room (Nat.le_of_ble_eq_true rfl)) dKM_decrypt_161 ⟨by omega, by omega⟩) (fun  u25 H locs hu25 hP hD hS => ?_)
      obtain ⟨s26, pl⟩ := u25
      obtain ⟨⟨eq25, hFc25, -⟩, hO⟩ := hu25
      have hO : okn g T s26 pl := hO
      have hP : va_P g.1 vcl ([] ++ pl) _ := hP
      have hD : va_D _ ([] ++ pl) := hD
      have hFc25 : frm (M_KM_writeRounded 31 32) s25 s26 := hFc25
      replace hR := bnd_step hR eq25
      have hF := frm_tr hF hFc25 (fun k hk => by unfold M_KM_writeRounded at hk; unfold M_KM_decrypt_0; omega)
      refine W.widen (k := 0) (n := 0) (by omega) (by omega) ?_
      exact mp_vret hx hb hr hlk hP hD hS (s26, pl) ⟨⟨hR.symm, hF, trivial⟩, hO⟩ [] rfl rfl rfl (by omega) (by omega) dKM_decrypt_164
    | succ n21 ih21 =>
      intro i21 s22 pl ls H locs hm21 hF hR hl hO hP hD hS
      refine lv_iload hx hb dKM_decrypt_11 (lv_at hl 0 rfl) ?_
      refine lv_aload_n hx hb dKM_decrypt_13 rfl (lv_at hl 2 rfl) ?_
      refine nw_get (C := "LatticeKeys$KemSet") (TT := T_KS) (N := 10) hx hb hts (wg_ft i_KS) hown hK hO k_st (kn := 5) (ci := 1) (fl := [(1, 2), (1, 3), (1, 10), (1, 4), (1, 800), (1, 1632), (1, 768), (1, 768), (1, 1568), (1, 1600)]) rfl hP rfl 0 (by decide) (hts _ (wg_t kw_231)) (fun _ h9 => h9) (cd := (1, 2)) rfl dKM_decrypt_14 (fun v34 hv34 => ?_)
      obtain rfl := (show v34 = .int (nI 2) from hv34)
      refine mi_ge (tgt := 99) hx hb dKM_decrypt_17 (by decide) (by omega) (by omega) (fun h22 => absurd h22 (by omega)) (fun h22 => ?_)
      refine lv_aload_n hx hb dKM_decrypt_20 rfl (lv_at hl 1 rfl) ?_
      refine lv_aload_n hx hb dKM_decrypt_21 rfl (lv_at hl 1 rfl) ?_
      refine nw_get (C := "LatticeKeys$Kem") (TT := T_KM) (N := 10) hx hb hts (wg_ft i_KM) hown hK hO k_h0 (kn := 24) (ci := 5) (fl := [(3, 14), (3, 20), (3, 25), (3, 30), (3, 31), (3, 32), (3, 33), (3, 34), (3, 35), (3, 36)]) rfl hP rfl 2 (by decide) (hts _ (wg_t kw_109)) (fun _ h9 => h9) (cd := (3, 25)) rfl dKM_decrypt_22 (fun v35 hv35 => ?_)
      obtain ⟨r30, rfl, kr30⟩ := (show ∃ r : Nat, v35 = .ref r ∧ T r = some 25 from hv35)
      refine lv_iload hx hb dKM_decrypt_25 (lv_at hl 0 rfl) ?_
      refine nw_aald3 hx hb hK hO kr30 (k := 25) (b := 26) rfl hP (by omega) (by omega) dKM_decrypt_27 (fun r31 kr31 => ?_)
      have hn21 : nsp (26 + i21) = (0, 256, []) := rows_ok 26 4 (by decide) _ (by omega)
      refine lv_aload_n hx hb dKM_decrypt_28 rfl (lv_at hl 2 rfl) ?_
      refine nw_get (C := "LatticeKeys$KemSet") (TT := T_KS) (N := 10) hx hb hts (wg_ft i_KS) hown hK hO k_st (kn := 5) (ci := 1) (fl := [(1, 2), (1, 3), (1, 10), (1, 4), (1, 800), (1, 1632), (1, 768), (1, 768), (1, 1568), (1, 1600)]) rfl hP rfl 2 (by decide) (hts _ (wg_t kw_235)) (fun _ h9 => h9) (cd := (1, 10)) rfl dKM_decrypt_29 (fun v36 hv36 => ?_)
      obtain rfl := (show v36 = .int (nI 10) from hv36)
      refine lv_aload_n hx hb dKM_decrypt_32 rfl (lv_at hl 4 rfl) ?_
      refine lv_bipush (v := nI 32) hx hb dKM_decrypt_33 (by decide) ?_
      refine lv_aload_n hx hb dKM_decrypt_35 rfl (lv_at hl 2 rfl) ?_
      refine nw_get (C := "LatticeKeys$KemSet") (TT := T_KS) (N := 10) hx hb hts (wg_ft i_KS) hown hK hO k_st (kn := 5) (ci := 1) (fl := [(1, 2), (1, 3), (1, 10), (1, 4), (1, 800), (1, 1632), (1, 768), (1, 768), (1, 1568), (1, 1600)]) rfl hP rfl 2 (by decide) (hts _ (wg_t kw_235)) (fun _ h9 => h9) (cd := (1, 10)) rfl dKM_decrypt_36 (fun v37 hv37 => ?_)
      obtain rfl := (show v37 = .int (nI 10) from hv37)
      refine mi_imul hx hb dKM_decrypt_39 ?_
      refine mi_as (show nI (32 * 10) = nI 320 from rfl) ?_
      refine lv_iload hx hb dKM_decrypt_40 (lv_at hl 0 rfl) ?_
      refine mi_imul hx hb dKM_decrypt_42 ?_
      refine mp_v (cx := []) (wr := []) hP hD hS hA [] [] rfl rfl rfl (by decide) (va_runV (As := [.ref r31, .int (nI 10), .ref ct, .int (nI (320 * i21))]) (rest := []) F (N_KM_readRounded l g _ T s22 pl hO hU h0 r31 ct (26 + i21) 10 pc_ n (320 * i21) k_h0 kr31 hn21 k_ct n_ct (by omega) (by omega) (by omega) (by omega)) (cwV 4 hts (wg_app (wg_c kw_1133 (wg_c kw_1135 (wg_c ks_30 (wg_c kw_3 wg_n)))) kw_1136) rfl rfl rfl (by decide +kernel) ⟨by decide, by decide⟩) (pn_W "LatticeKeys$Kem" (en_ok g) (ci := 5) (kn := 24) (fl := [(3, 14), (3, 20), (3, 25), (3, 30), (3, 31), (3, 32), (3, 33), (3, 34), (3, 35), (3, 36)]) hK hO k_h0 rfl hP hD hS hA hE [] rfl rfl rfl) rfl rfl hl.1 rfl (lv_room (Nat.le_of_ble_eq_true rfl)) dKM_decrypt_43 ⟨by omega, by omega⟩) (fun  u26 H locs hu26 hP hD hS => ?_)
      obtain ⟨s27, pl⟩ := u26
      obtain ⟨⟨eq26, hFc26, -⟩, hO⟩ := hu26
      have hO : okn g T s27 pl := hO
      have hP : va_P g.1 vcl ([] ++ pl) _ := hP
      have hD : va_D _ ([] ++ pl) := hD
      have hFc26 : frm (M_KM_readRounded (26 + i21)) s22 s27 := hFc26
      replace hR := bnd_step hR eq26
      have hF := frm_tr hF hFc26 (fun k hk => by unfold M_KM_readRounded at hk; unfold M_KM_decrypt_0; omega)
      refine W.widen (k := 0) (n := 0) (by omega) (by omega) ?_
      refine lv_aload_n hx hb dKM_decrypt_46 rfl (lv_at hl 1 rfl) ?_
      refine nw_get (C := "LatticeKeys$Kem") (TT := T_KM) (N := 10) hx hb hts (wg_ft i_KM) hown hK hO k_h0 (kn := 24) (ci := 5) (fl := [(3, 14), (3, 20), (3, 25), (3, 30), (3, 31), (3, 32), (3, 33), (3, 34), (3, 35), (3, 36)]) rfl hP rfl 1 (by decide) (hts _ (wg_t kw_108)) (fun _ h9 => h9) (cd := (3, 20)) rfl dKM_decrypt_47 (fun v38 hv38 => ?_)
      obtain ⟨r32, rfl, kr32⟩ := (show ∃ r : Nat, v38 = .ref r ∧ T r = some 20 from hv38)
      refine lv_aload_n hx hb dKM_decrypt_50 rfl (lv_at hl 1 rfl) ?_
      refine nw_get (C := "LatticeKeys$Kem") (TT := T_KM) (N := 10) hx hb hts (wg_ft i_KM) hown hK hO k_h0 (kn := 24) (ci := 5) (fl := [(3, 14), (3, 20), (3, 25), (3, 30), (3, 31), (3, 32), (3, 33), (3, 34), (3, 35), (3, 36)]) rfl hP rfl 2 (by decide) (hts _ (wg_t kw_109)) (fun _ h9 => h9) (cd := (3, 25)) rfl dKM_decrypt_51 (fun v39 hv39 => ?_)
      obtain ⟨r33, rfl, kr33⟩ := (show ∃ r : Nat, v39 = .ref r ∧ T r = some 25 from hv39)
      refine lv_iload hx hb dKM_decrypt_54 (lv_at hl 0 rfl) ?_
      refine nw_aald3 hx hb hK hO kr33 (k := 25) (b := 26) rfl hP (by omega) (by omega) dKM_decrypt_56 (fun r34 kr34 => ?_)
      have hn22 : nsp (26 + i21) = (0, 256, []) := rows_ok 26 4 (by decide) _ (by omega)
      refine mp_v (cx := []) (wr := []) hP hD hS hA [] [] rfl rfl rfl (by decide) (va_runV (As := [.ref r34]) (rest := []) F (N_RG_transform_7 l g _ T s27 pl hO hU r32 r34 (26 + i21) kr32 kr34 hn22) (cwV 1 hts (wg_app (wg_c kw_636 (wg_c kw_637 (wg_c kw_638 (wg_c kw_4 wg_n)))) kw_639) rfl rfl rfl (by decide +kernel) ⟨by decide, by decide⟩) (pn_W "LatticeKeys$Ring" (en_ok g) (ci := 4) (kn := 20) (fl := [(1, 3329), (1, 7), (1, 3303), (3, 21)]) hK hO kr32 rfl hP hD hS hA hE [] rfl rfl rfl) rfl rfl hl.1 rfl (lv_room (Nat.le_of_ble_eq_true rfl)) dKM_decrypt_57 ⟨by omega, by omega⟩) (fun  u27 H locs hu27 hP hD hS => ?_)
      obtain ⟨s28, pl⟩ := u27
      obtain ⟨⟨eq27, hFc27, -⟩, hO⟩ := hu27
      have hO : okn g T s28 pl := hO
      have hP : va_P g.1 vcl ([] ++ pl) _ := hP
      have hD : va_D _ ([] ++ pl) := hD
      have hFc27 : frm (M_RG_transform_7 (26 + i21)) s27 s28 := hFc27
      replace hR := bnd_step hR eq27
      have hF := frm_tr hF hFc27 (fun k hk => by unfold M_RG_transform_7 at hk; unfold M_KM_decrypt_0; omega)
      refine W.widen (k := 0) (n := 0) (by omega) (by omega) ?_
      refine lv_aload_n hx hb dKM_decrypt_60 rfl (lv_at hl 1 rfl) ?_
      refine lv_aload_n hx hb dKM_decrypt_61 rfl (lv_at hl 3 rfl) ?_
      refine lv_sipush (v := nI 384) hx hb dKM_decrypt_62 (by decide) ?_
      refine lv_iload hx hb dKM_decrypt_65 (lv_at hl 0 rfl) ?_
      refine mi_imul hx hb dKM_decrypt_67 ?_
      refine mp_v (cx := []) (wr := []) hP hD hS hA [] [] rfl rfl rfl (by decide) (va_runV (As := [.ref sk, .int (nI (384 * i21))]) (rest := []) F (N_KM_readReduced l g _ T s28 pl hO hU h0 sk psk 1632 (384 * i21) k_h0 k_sk n_sk (by omega) (by omega)) (cwV 2 hts (wg_app (wg_c kw_1129 (wg_c kw_1131 (wg_c ks_29 (wg_c kw_3 wg_n)))) kw_1132) rfl rfl rfl (by decide +kernel) ⟨by decide, by decide⟩) (pn_W "LatticeKeys$Kem" (en_ok g) (ci := 5) (kn := 24) (fl := [(3, 14), (3, 20), (3, 25), (3, 30), (3, 31), (3, 32), (3, 33), (3, 34), (3, 35), (3, 36)]) hK hO k_h0 rfl hP hD hS hA hE [] rfl rfl rfl) rfl rfl hl.1 rfl (lv_room (Nat.le_of_ble_eq_true rfl)) dKM_decrypt_68 ⟨by omega, by omega⟩) (fun  u28 H locs hu28 hP hD hS => ?_)
      obtain ⟨s29, pl⟩ := u28
      obtain ⟨⟨eq28, hFc28, -⟩, hO⟩ := hu28
      have hO : okn g T s29 pl := hO
      have hP : va_P g.1 vcl ([] ++ pl) _ := hP
      have hD : va_D _ ([] ++ pl) := hD
      have hFc28 : frm (M_KM_readReduced) s28 s29 := hFc28
      replace hR := bnd_step hR eq28
      have hF := frm_tr hF hFc28 (fun k hk => by unfold M_KM_readReduced at hk; unfold M_KM_decrypt_0; omega)
      refine W.widen (k := 0) (n := 0) (by omega) (by omega) ?_
      refine lv_aload_n hx hb dKM_decrypt_71 rfl (lv_at hl 1 rfl) ?_
      refine nw_get (C := "LatticeKeys$Kem") (TT := T_KM) (N := 10) hx hb hts (wg_ft i_KM) hown hK hO k_h0 (kn := 24) (ci := 5) (fl := [(3, 14), (3, 20), (3, 25), (3, 30), (3, 31), (3, 32), (3, 33), (3, 34), (3, 35), (3, 36)]) rfl hP rfl 1 (by decide) (hts _ (wg_t kw_108)) (fun _ h9 => h9) (cd := (3, 20)) rfl dKM_decrypt_72 (fun v40 hv40 => ?_)
      obtain ⟨r35, rfl, kr35⟩ := (show ∃ r : Nat, v40 = .ref r ∧ T r = some 20 from hv40)
      refine lv_aload_n hx hb dKM_decrypt_75 rfl (lv_at hl 1 rfl) ?_
      refine nw_get (C := "LatticeKeys$Kem") (TT := T_KM) (N := 10) hx hb hts (wg_ft i_KM) hown hK hO k_h0 (kn := 24) (ci := 5) (fl := [(3, 14), (3, 20), (3, 25), (3, 30), (3, 31), (3, 32), (3, 33), (3, 34), (3, 35), (3, 36)]) rfl hP rfl 3 (by decide) (hts _ (wg_t kw_110)) (fun _ h9 => h9) (cd := (3, 30)) rfl dKM_decrypt_76 (fun v41 hv41 => ?_)
      obtain ⟨r36, rfl, kr36⟩ := (show ∃ r : Nat, v41 = .ref r ∧ T r = some 30 from hv41)
      refine lv_aload_n hx hb dKM_decrypt_79 rfl (lv_at hl 1 rfl) ?_
      refine nw_get (C := "LatticeKeys$Kem") (TT := T_KM) (N := 10) hx hb hts (wg_ft i_KM) hown hK hO k_h0 (kn := 24) (ci := 5) (fl := [(3, 14), (3, 20), (3, 25), (3, 30), (3, 31), (3, 32), (3, 33), (3, 34), (3, 35), (3, 36)]) rfl hP rfl 4 (by decide) (hts _ (wg_t kw_111)) (fun _ h9 => h9) (cd := (3, 31)) rfl dKM_decrypt_80 (fun v42 hv42 => ?_)
      obtain ⟨r37, rfl, kr37⟩ := (show ∃ r : Nat, v42 = .ref r ∧ T r = some 31 from hv42)
      refine lv_aload_n hx hb dKM_decrypt_83 rfl (lv_at hl 1 rfl) ?_
      refine nw_get (C := "LatticeKeys$Kem") (TT := T_KM) (N := 10) hx hb hts (wg_ft i_KM) hown hK hO k_h0 (kn := 24) (ci := 5) (fl := [(3, 14), (3, 20), (3, 25), (3, 30), (3, 31), (3, 32), (3, 33), (3, 34), (3, 35), (3, 36)]) rfl hP rfl 2 (by decide) (hts _ (wg_t kw_109)) (fun _ h9 => h9) (cd := (3, 25)) rfl dKM_decrypt_84 (fun v43 hv43 => ?_)
      obtain ⟨r38, rfl, kr38⟩ := (show ∃ r : Nat, v43 = .ref r ∧ T r = some 25 from hv43)
      refine lv_iload hx hb dKM_decrypt_87 (lv_at hl 0 rfl) ?_
      refine nw_aald3 hx hb hK hO kr38 (k := 25) (b := 26) rfl hP (by omega) (by omega) dKM_decrypt_89 (fun r39 kr39 => ?_)
      have hn23 : nsp (26 + i21) = (0, 256, []) := rows_ok 26 4 (by decide) _ (by omega)
      refine mp_v (cx := []) (wr := []) hP hD hS hA [] [] rfl rfl rfl (by decide) (va_runV (As := [.ref r36, .ref r37, .ref r39]) (rest := []) F (N_RG_addProduct_7 l g _ T s29 pl hO hU r35 r36 r37 r39 30 31 (26 + i21) kr35 kr36 rfl kr37 rfl kr39 hn23) (cwV 3 hts (wg_app (wg_c kw_653 (wg_c kw_654 (wg_c kw_655 (wg_c kw_4 wg_n)))) kw_656) rfl rfl rfl (by decide +kernel) ⟨by decide, by decide⟩) (pn_W "LatticeKeys$Ring" (en_ok g) (ci := 4) (kn := 20) (fl := [(1, 3329), (1, 7), (1, 3303), (3, 21)]) hK hO kr35 rfl hP hD hS hA hE [] rfl rfl rfl) rfl rfl hl.1 rfl (lv_room (Nat.le_of_ble_eq_true rfl)) dKM_decrypt_90 ⟨by omega, by omega⟩) (fun  u29 H locs hu29 hP hD hS => ?_)
      obtain ⟨s30, pl⟩ := u29
      obtain ⟨⟨eq29, hFc29, -⟩, hO⟩ := hu29
      have hO : okn g T s30 pl := hO
      have hP : va_P g.1 vcl ([] ++ pl) _ := hP
      have hD : va_D _ ([] ++ pl) := hD
      have hFc29 : frm (M_RG_addProduct_7 30) s29 s30 := hFc29
      replace hR := bnd_step hR eq29
      have hF := frm_tr hF hFc29 (fun k hk => by unfold M_RG_addProduct_7 at hk; unfold M_KM_decrypt_0; omega)
      refine W.widen (k := 0) (n := 0) (by omega) (by omega) ?_
      refine mi_iinc (k := 0) (x := i21) (d := 1) (y := i21 + 1) (lv' := [(4, .int (nI (i21 + 1))), (0, .ref h0), (1, .ref st), (2, .ref sk), (3, .ref ct)]) hx hb dKM_decrypt_93 hl rfl (by decide) rfl (by decide) rfl (fun ls hl => ?_)
      refine lv_goto (tgt := 11) hx hb dKM_decrypt_96 (by decide) ?_
      exact ih21 (i21 + 1) s30 pl ls H locs (by omega) hF hR (lv_sub hl [0, 1, 2, 3, 4] rfl) hO hP hD hS
  exact lp21 2 0 s21 pl ls _ _ (by omega) hF hR (lv_sub hl [0, 1, 2, 3, 4] rfl) hO hP hD hS
def M_KM_decrypt_1 (k : Nat) : Prop := (26 ≤ k ∧ k < 30) ∨ k = 30 ∨ k = 31 ∨ k = 32 ∨ (0 : Nat) = 1
noncomputable def F_KM_decrypt_1_L0 (psk : Nat) (pc_ : Nat) (n : Nat) : Nat → Nat → Sto → Sto
  | 0, i21, s22 => bnd (F_RG_restore_7 30 s22) fun s23 => bnd (F_KM_readRounded 31 4 pc_ n 960 s23) fun s24 => bnd (F_RG_subtract_7 31 30 s24) fun s25 => bnd (F_KM_writeRounded 31 1 32 32 0 s25) fun s26 => s26
  | n21 + 1, i21, s22 => bnd (F_KM_readRounded (26 + i21) 10 pc_ n (320 * i21) s22) fun s27 => bnd (F_RG_transform_7 (26 + i21) s27) fun s28 => bnd (F_KM_readReduced psk 2400 (384 * i21) s28) fun s29 => bnd (F_RG_addProduct_7 30 31 (26 + i21) s29) fun s30 => F_KM_decrypt_1_L0 psk pc_ n n21 (i21 + 1) s30
noncomputable def F_KM_decrypt_1 (psk : Nat) (pc_ : Nat) (n : Nat) (s : Sto) : Sto := bnd (F_AR_fillI 30 256 (nI 0) s) fun s21 => F_KM_decrypt_1_L0 psk pc_ n 3 0 s21
set_option maxHeartbeats 400000 in
set_option maxRecDepth 100000 in
theorem N_KM_decrypt_1 (l : Launch) (g : Gd) (sz : Nat) (T : TyN) (s : Sto) (pl : va_W) (hO : okn g T s pl) (hU : inj T) (h0 st sk ct : Nat) (psk : Nat) (pc_ : Nat) (n : Nat) (k_h0 : T h0 = some 24) (k_st : T st = some 6) (k_sk : T sk = some psk) (n_sk : nsp psk = (1, 2400, [])) (k_ct : T ct = some pc_) (n_ct : nsp pc_ = (1, n, [])) (h1 : 1088 ≤ n) (h2 : n < 65536)  : Met l y_KM_decrypt w_KM_decrypt ({ frames := 2, cells := 0, slots := 0, locals := 57 } : Room) (va_Pc [.ref h0, .ref st, .ref sk, .ref ct] (pr (en g) g.1 vcl sz ([] ++ pl))) (va_Qv (fun (u : (Sto) × va_W) => (u.1 = F_KM_decrypt_1 psk pc_ n s ∧ frm (M_KM_decrypt_1) s u.1 ∧ True) ∧ okn g T u.1 u.2) (po g.1 vcl (va_A ([] ++ pl) sz) (fun (u : (Sto) × va_W) => [] ++ u.2)) (va_A ([] ++ pl) sz)) 0 0 (va_A ([] ++ pl) sz) := by
  refine mc_entry (cc := c_KM_decrypt) (maxL := 5) (ret := none) (by decide) rfl (Nat.le_of_ble_eq_true rfl) ?_
  intro p e s0 m args below meth c ls F hr hlk hnm hsz hP hD hE hA hl
  obtain ⟨hx, hb, hml, hown, hts⟩ := id F
  have hK := hE.1
  generalize va_A ([] ++ pl) sz = A at hD hE hA ⊢
  have hS : va_S A s0.heap s0.heap [] := va_S.rf
  have hl : lv_has ls 5 [(0, .ref h0), (1, .ref st), (2, .ref sk), (3, .ref ct)] := hl
  have hR : F_KM_decrypt_1 psk pc_ n s = F_KM_decrypt_1 psk pc_ n s := rfl
  have hF : frm (M_KM_decrypt_1) s s := frm_rf
  refine lv_aload_n hx hb dKM_decrypt_0 rfl (lv_at hl 0 rfl) ?_
  refine nw_get (C := "LatticeKeys$Kem") (TT := T_KM) (N := 10) hx hb hts (wg_ft i_KM) hown hK hO k_h0 (kn := 24) (ci := 5) (fl := [(3, 14), (3, 20), (3, 25), (3, 30), (3, 31), (3, 32), (3, 33), (3, 34), (3, 35), (3, 36)]) rfl hP rfl 3 (by decide) (hts _ (wg_t kw_110)) (fun _ h9 => h9) (cd := (3, 30)) rfl dKM_decrypt_1 (fun v21 hv21 => ?_)
  obtain ⟨r21, rfl, kr21⟩ := (show ∃ r : Nat, v21 = .ref r ∧ T r = some 30 from hv21)
  refine lv_iconst (v := nI 0) hx hb dKM_decrypt_4 (by decide) ?_
  refine mp_v (cx := []) (wr := []) hP hD hS hA [] [] rfl rfl rfl (by decide) (va_runS (As := [.ref r21, .int (nI 0)]) (rest := []) F (N_AR_fillI l g _ T s pl hO hU r21 30 256 (nI 0) kr21 rfl (by omega)) (va_cwS 2 hts (wg_app (wg_c kw_1122 (wg_c kw_717 (wg_c kw_21 wg_n))) kw_718) rfl rfl rfl (by decide +kernel) ⟨by decide, by decide⟩) (pp_S (en_ok g) hP hD hS hA hE [] rfl rfl) rfl rfl hl.1 rfl (lv_room (Nat.le_of_ble_eq_true rfl)) dKM_decrypt_5 ⟨by omega, by omega⟩) (fun  u21 H locs hu21 hP hD hS => ?_)
  obtain ⟨s21, pl⟩ := u21
  obtain ⟨⟨eq21, hFc21, -⟩, hO⟩ := hu21
  have hO : okn g T s21 pl := hO
  have hP : va_P g.1 vcl ([] ++ pl) _ := hP
  have hD : va_D _ ([] ++ pl) := hD
  have hFc21 : frm (M_AR_fillI 30) s s21 := hFc21
  replace hR := bnd_step hR eq21
  have hF := frm_tr hF hFc21 (fun k hk => by unfold M_AR_fillI at hk; unfold M_KM_decrypt_1; omega)
  refine W.widen (k := 0) (n := 0) (by omega) (by omega) ?_
  refine lv_iconst (v := nI 0) hx hb dKM_decrypt_8 (by decide) ?_
  refine lv_istore (lv' := [(4, .int (nI 0)), (0, .ref h0), (1, .ref st), (2, .ref sk), (3, .ref ct)]) hx hb dKM_decrypt_9 hl (by decide) rfl (fun ls hl => ?_)
  have lp21 : ∀ (n21 : Nat) (i21 : Nat) (s22 : Sto) (pl : va_W) (ls : Array Slot) (H : Heap) (locs : List Loc), n21 + i21 = 3 → frm (M_KM_decrypt_1) s s22 → F_KM_decrypt_1 psk pc_ n s = F_KM_decrypt_1_L0 psk pc_ n n21 i21 s22 → lv_has ls 5 [(4, .int (nI i21)), (0, .ref h0), (1, .ref st), (2, .ref sk), (3, .ref ct)] → okn g T s22 pl → va_P g.1 vcl ([] ++ pl) H → va_D A ([] ++ pl) → va_S A s0.heap H locs → W p l e ({ frames := 2, cells := 0, slots := 0, locals := 57 } : Room) s0 m args below meth c H locs 0 0 (MQ below (va_Qv (fun (u : (Sto) × va_W) => (u.1 = F_KM_decrypt_1 psk pc_ n s ∧ frm (M_KM_decrypt_1) s u.1 ∧ True) ∧ okn g T u.1 u.2) (po g.1 vcl A (fun (u : (Sto) × va_W) => [] ++ u.2)) A) args s0 0 0 A) (F0 m 11 ls []) := by
    intro n21
    induction n21 with
    | zero =>
      intro i21 s22 pl ls H locs hm21 hF hR hl hO hP hD hS
      refine lv_iload hx hb dKM_decrypt_11 (lv_at hl 0 rfl) ?_
      refine lv_aload_n hx hb dKM_decrypt_13 rfl (lv_at hl 2 rfl) ?_
      refine nw_get (C := "LatticeKeys$KemSet") (TT := T_KS) (N := 10) hx hb hts (wg_ft i_KS) hown hK hO k_st (kn := 6) (ci := 1) (fl := [(1, 3), (1, 2), (1, 10), (1, 4), (1, 1184), (1, 2400), (1, 1088), (1, 1152), (1, 2336), (1, 2368)]) rfl hP rfl 0 (by decide) (hts _ (wg_t kw_231)) (fun _ h9 => h9) (cd := (1, 3)) rfl dKM_decrypt_14 (fun v22 hv22 => ?_)
      obtain rfl := (show v22 = .int (nI 3) from hv22)
      refine mi_ge (tgt := 99) hx hb dKM_decrypt_17 (by decide) (by omega) (by omega) (fun h21 => ?_) (fun h21 => absurd h21 (by omega))
      refine lv_aload_n hx hb dKM_decrypt_99 rfl (lv_at hl 1 rfl) ?_
      refine nw_get (C := "LatticeKeys$Kem") (TT := T_KM) (N := 10) hx hb hts (wg_ft i_KM) hown hK hO k_h0 (kn := 24) (ci := 5) (fl := [(3, 14), (3, 20), (3, 25), (3, 30), (3, 31), (3, 32), (3, 33), (3, 34), (3, 35), (3, 36)]) rfl hP rfl 1 (by decide) (hts _ (wg_t kw_108)) (fun _ h9 => h9) (cd := (3, 20)) rfl dKM_decrypt_100 (fun v23 hv23 => ?_)
      obtain ⟨r22, rfl, kr22⟩ := (show ∃ r : Nat, v23 = .ref r ∧ T r = some 20 from hv23)
      refine lv_aload_n hx hb dKM_decrypt_103 rfl (lv_at hl 1 rfl) ?_
      refine nw_get (C := "LatticeKeys$Kem") (TT := T_KM) (N := 10) hx hb hts (wg_ft i_KM) hown hK hO k_h0 (kn := 24) (ci := 5) (fl := [(3, 14), (3, 20), (3, 25), (3, 30), (3, 31), (3, 32), (3, 33), (3, 34), (3, 35), (3, 36)]) rfl hP rfl 3 (by decide) (hts _ (wg_t kw_110)) (fun _ h9 => h9) (cd := (3, 30)) rfl dKM_decrypt_104 (fun v24 hv24 => ?_)
      obtain ⟨r23, rfl, kr23⟩ := (show ∃ r : Nat, v24 = .ref r ∧ T r = some 30 from hv24)
      refine mp_v (cx := []) (wr := []) hP hD hS hA [] [] rfl rfl rfl (by decide) (va_runV (As := [.ref r23]) (rest := []) F (N_RG_restore_7 l g _ T s22 pl hO hU r22 r23 30 kr22 kr23 rfl) (cwV 1 hts (wg_app (wg_c kw_1123 (wg_c kw_721 (wg_c kw_722 (wg_c kw_4 wg_n)))) kw_723) rfl rfl rfl (by decide +kernel) ⟨by decide, by decide⟩) (pn_W "LatticeKeys$Ring" (en_ok g) (ci := 4) (kn := 20) (fl := [(1, 3329), (1, 7), (1, 3303), (3, 21)]) hK hO kr22 rfl hP hD hS hA hE [] rfl rfl rfl) rfl rfl hl.1 rfl (lv_room (Nat.le_of_ble_eq_true rfl)) dKM_decrypt_107 ⟨by omega, by omega⟩) (fun  u22 H locs hu22 hP hD hS => ?_)
      obtain ⟨s23, pl⟩ := u22
      obtain ⟨⟨eq22, hFc22, -⟩, hO⟩ := hu22
      have hO : okn g T s23 pl := hO
      have hP : va_P g.1 vcl ([] ++ pl) _ := hP
      have hD : va_D _ ([] ++ pl) := hD
      have hFc22 : frm (M_RG_restore_7 30) s22 s23 := hFc22
      replace hR := bnd_step hR eq22
      have hF := frm_tr hF hFc22 (fun k hk => by unfold M_RG_restore_7 at hk; unfold M_KM_decrypt_1; omega)
      refine W.widen (k := 0) (n := 0) (by omega) (by omega) ?_
      refine lv_aload_n hx hb dKM_decrypt_110 rfl (lv_at hl 1 rfl) ?_
      refine lv_aload_n hx hb dKM_decrypt_111 rfl (lv_at hl 1 rfl) ?_
      refine nw_get (C := "LatticeKeys$Kem") (TT := T_KM) (N := 10) hx hb hts (wg_ft i_KM) hown hK hO k_h0 (kn := 24) (ci := 5) (fl := [(3, 14), (3, 20), (3, 25), (3, 30), (3, 31), (3, 32), (3, 33), (3, 34), (3, 35), (3, 36)]) rfl hP rfl 4 (by decide) (hts _ (wg_t kw_111)) (fun _ h9 => h9) (cd := (3, 31)) rfl dKM_decrypt_112 (fun v25 hv25 => ?_)
      obtain ⟨r24, rfl, kr24⟩ := (show ∃ r : Nat, v25 = .ref r ∧ T r = some 31 from hv25)
      refine lv_aload_n hx hb dKM_decrypt_115 rfl (lv_at hl 2 rfl) ?_
      refine nw_get (C := "LatticeKeys$KemSet") (TT := T_KS) (N := 10) hx hb hts (wg_ft i_KS) hown hK hO k_st (kn := 6) (ci := 1) (fl := [(1, 3), (1, 2), (1, 10), (1, 4), (1, 1184), (1, 2400), (1, 1088), (1, 1152), (1, 2336), (1, 2368)]) rfl hP rfl 3 (by decide) (hts _ (wg_t kw_237)) (fun _ h9 => h9) (cd := (1, 4)) rfl dKM_decrypt_116 (fun v26 hv26 => ?_)
      obtain rfl := (show v26 = .int (nI 4) from hv26)
      refine lv_aload_n hx hb dKM_decrypt_119 rfl (lv_at hl 4 rfl) ?_
      refine lv_bipush (v := nI 32) hx hb dKM_decrypt_120 (by decide) ?_
      refine lv_aload_n hx hb dKM_decrypt_122 rfl (lv_at hl 2 rfl) ?_
      refine nw_get (C := "LatticeKeys$KemSet") (TT := T_KS) (N := 10) hx hb hts (wg_ft i_KS) hown hK hO k_st (kn := 6) (ci := 1) (fl := [(1, 3), (1, 2), (1, 10), (1, 4), (1, 1184), (1, 2400), (1, 1088), (1, 1152), (1, 2336), (1, 2368)]) rfl hP rfl 2 (by decide) (hts _ (wg_t kw_235)) (fun _ h9 => h9) (cd := (1, 10)) rfl dKM_decrypt_123 (fun v27 hv27 => ?_)
      obtain rfl := (show v27 = .int (nI 10) from hv27)
      refine mi_imul hx hb dKM_decrypt_126 ?_
      refine mi_as (show nI (32 * 10) = nI 320 from rfl) ?_
      refine lv_aload_n hx hb dKM_decrypt_127 rfl (lv_at hl 2 rfl) ?_
      refine nw_get (C := "LatticeKeys$KemSet") (TT := T_KS) (N := 10) hx hb hts (wg_ft i_KS) hown hK hO k_st (kn := 6) (ci := 1) (fl := [(1, 3), (1, 2), (1, 10), (1, 4), (1, 1184), (1, 2400), (1, 1088), (1, 1152), (1, 2336), (1, 2368)]) rfl hP rfl 0 (by decide) (hts _ (wg_t kw_231)) (fun _ h9 => h9) (cd := (1, 3)) rfl dKM_decrypt_128 (fun v28 hv28 => ?_)
      obtain rfl := (show v28 = .int (nI 3) from hv28)
      refine mi_imul hx hb dKM_decrypt_131 ?_
      refine mi_as (show nI (320 * 3) = nI 960 from rfl) ?_
      refine mp_v (cx := []) (wr := []) hP hD hS hA [] [] rfl rfl rfl (by decide) (va_runV (As := [.ref r24, .int (nI 4), .ref ct, .int (nI 960)]) (rest := []) F (N_KM_readRounded l g _ T s23 pl hO hU h0 r24 ct 31 4 pc_ n 960 k_h0 kr24 rfl k_ct n_ct (by omega) (by omega) (by omega) (by omega)) (cwV 4 hts (wg_app (wg_c kw_1133 (wg_c kw_1135 (wg_c ks_30 (wg_c kw_3 wg_n)))) kw_1136) rfl rfl rfl (by decide +kernel) ⟨by decide, by decide⟩) (pn_W "LatticeKeys$Kem" (en_ok g) (ci := 5) (kn := 24) (fl := [(3, 14), (3, 20), (3, 25), (3, 30), (3, 31), (3, 32), (3, 33), (3, 34), (3, 35), (3, 36)]) hK hO k_h0 rfl hP hD hS hA hE [] rfl rfl rfl) rfl rfl hl.1 rfl (lv_room (Nat.le_of_ble_eq_true rfl)) dKM_decrypt_132 ⟨by omega, by omega⟩) (fun  u23 H locs hu23 hP hD hS => ?_)
      obtain ⟨s24, pl⟩ := u23
      obtain ⟨⟨eq23, hFc23, -⟩, hO⟩ := hu23
      have hO : okn g T s24 pl := hO
      have hP : va_P g.1 vcl ([] ++ pl) _ := hP
      have hD : va_D _ ([] ++ pl) := hD
      have hFc23 : frm (M_KM_readRounded 31) s23 s24 := hFc23
      replace hR := bnd_step hR eq23
      have hF := frm_tr hF hFc23 (fun k hk => by unfold M_KM_readRounded at hk; unfold M_KM_decrypt_1; omega)
      refine W.widen (k := 0) (n := 0) (by omega) (by omega) ?_
      refine lv_aload_n hx hb dKM_decrypt_135 rfl (lv_at hl 1 rfl) ?_
      refine nw_get (C := "LatticeKeys$Kem") (TT := T_KM) (N := 10) hx hb hts (wg_ft i_KM) hown hK hO k_h0 (kn := 24) (ci := 5) (fl := [(3, 14), (3, 20), (3, 25), (3, 30), (3, 31), (3, 32), (3, 33), (3, 34), (3, 35), (3, 36)]) rfl hP rfl 1 (by decide) (hts _ (wg_t kw_108)) (fun _ h9 => h9) (cd := (3, 20)) rfl dKM_decrypt_136 (fun v29 hv29 => ?_)
      obtain ⟨r25, rfl, kr25⟩ := (show ∃ r : Nat, v29 = .ref r ∧ T r = some 20 from hv29)
      refine lv_aload_n hx hb dKM_decrypt_139 rfl (lv_at hl 1 rfl) ?_
      refine nw_get (C := "LatticeKeys$Kem") (TT := T_KM) (N := 10) hx hb hts (wg_ft i_KM) hown hK hO k_h0 (kn := 24) (ci := 5) (fl := [(3, 14), (3, 20), (3, 25), (3, 30), (3, 31), (3, 32), (3, 33), (3, 34), (3, 35), (3, 36)]) rfl hP rfl 4 (by decide) (hts _ (wg_t kw_111)) (fun _ h9 => h9) (cd := (3, 31)) rfl dKM_decrypt_140 (fun v30 hv30 => ?_)
      obtain ⟨r26, rfl, kr26⟩ := (show ∃ r : Nat, v30 = .ref r ∧ T r = some 31 from hv30)
      refine lv_aload_n hx hb dKM_decrypt_143 rfl (lv_at hl 1 rfl) ?_
      refine nw_get (C := "LatticeKeys$Kem") (TT := T_KM) (N := 10) hx hb hts (wg_ft i_KM) hown hK hO k_h0 (kn := 24) (ci := 5) (fl := [(3, 14), (3, 20), (3, 25), (3, 30), (3, 31), (3, 32), (3, 33), (3, 34), (3, 35), (3, 36)]) rfl hP rfl 3 (by decide) (hts _ (wg_t kw_110)) (fun _ h9 => h9) (cd := (3, 30)) rfl dKM_decrypt_144 (fun v31 hv31 => ?_)
      obtain ⟨r27, rfl, kr27⟩ := (show ∃ r : Nat, v31 = .ref r ∧ T r = some 30 from hv31)
      refine mp_v (cx := []) (wr := []) hP hD hS hA [] [] rfl rfl rfl (by decide) (va_runV (As := [.ref r26, .ref r27]) (rest := []) F (N_RG_subtract_7 l g _ T s24 pl hO hU r25 r26 r27 31 30 kr25 kr26 rfl kr27 rfl) (cwV 2 hts (wg_app (wg_c kw_1154 (wg_c kw_1155 (wg_c kw_1156 (wg_c kw_4 wg_n)))) kw_1157) rfl rfl rfl (by decide +kernel) ⟨by decide, by decide⟩) (pn_W "LatticeKeys$Ring" (en_ok g) (ci := 4) (kn := 20) (fl := [(1, 3329), (1, 7), (1, 3303), (3, 21)]) hK hO kr25 rfl hP hD hS hA hE [] rfl rfl rfl) rfl rfl hl.1 rfl (lv_room (Nat.le_of_ble_eq_true rfl)) dKM_decrypt_147 ⟨by omega, by omega⟩) (fun  u24 H locs hu24 hP hD hS => ?_)
      obtain ⟨s25, pl⟩ := u24
      obtain ⟨⟨eq24, hFc24, -⟩, hO⟩ := hu24
      have hO : okn g T s25 pl := hO
      have hP : va_P g.1 vcl ([] ++ pl) _ := hP
      have hD : va_D _ ([] ++ pl) := hD
      have hFc24 : frm (M_RG_subtract_7 31) s24 s25 := hFc24
      replace hR := bnd_step hR eq24
      have hF := frm_tr hF hFc24 (fun k hk => by unfold M_RG_subtract_7 at hk; unfold M_KM_decrypt_1; omega)
      refine W.widen (k := 0) (n := 0) (by omega) (by omega) ?_
      refine lv_aload_n hx hb dKM_decrypt_150 rfl (lv_at hl 1 rfl) ?_
      refine lv_aload_n hx hb dKM_decrypt_151 rfl (lv_at hl 1 rfl) ?_
      refine nw_get (C := "LatticeKeys$Kem") (TT := T_KM) (N := 10) hx hb hts (wg_ft i_KM) hown hK hO k_h0 (kn := 24) (ci := 5) (fl := [(3, 14), (3, 20), (3, 25), (3, 30), (3, 31), (3, 32), (3, 33), (3, 34), (3, 35), (3, 36)]) rfl hP rfl 4 (by decide) (hts _ (wg_t kw_111)) (fun _ h9 => h9) (cd := (3, 31)) rfl dKM_decrypt_152 (fun v32 hv32 => ?_)
      obtain ⟨r28, rfl, kr28⟩ := (show ∃ r : Nat, v32 = .ref r ∧ T r = some 31 from hv32)
      refine lv_iconst (v := nI 1) hx hb dKM_decrypt_155 (by decide) ?_
      refine lv_aload_n hx hb dKM_decrypt_156 rfl (lv_at hl 1 rfl) ?_
      refine nw_get (C := "LatticeKeys$Kem") (TT := T_KM) (N := 10) hx hb hts (wg_ft i_KM) hown hK hO k_h0 (kn := 24) (ci := 5) (fl := [(3, 14), (3, 20), (3, 25), (3, 30), (3, 31), (3, 32), (3, 33), (3, 34), (3, 35), (3, 36)]) rfl hP rfl 5 (by decide) (hts _ (wg_t kw_112)) (fun _ h9 => h9) (cd := (3, 32)) rfl dKM_decrypt_157 (fun v33 hv33 => ?_)
      obtain ⟨r29, rfl, kr29⟩ := (show ∃ r : Nat, v33 = .ref r ∧ T r = some 32 from hv33)
      refine lv_iconst (v := nI 0) hx hb dKM_decrypt_160 (by decide) ?_
      refine mp_v (cx := []) (wr := []) hP hD hS hA [] [] rfl rfl rfl (by decide) (va_runV (As := [.ref r28, .int (nI 1), .ref r29, .int (nI 0)]) (rest := []) F (N_KM_writeRounded l g _ T s25 pl hO hU h0 r28 r29 31 1 32 32 0 k_h0 kr28 rfl kr29 rfl (by omega) (by omega) (by omega)) (cwV 4 hts (wg_app (wg_c kw_1125 (wg_c kw_1127 (wg_c ks_28 (wg_c kw_3 wg_n)))) kw_1128) rfl rfl rfl (by decide +kernel) ⟨by decide, by decide⟩) (pn_W "LatticeKeys$Kem" (en_ok g) (ci := 5) (kn := 24) (fl := [(3, 14), (3, 20), (3, 25), (3, 30), (3, 31), (3, 32), (3, 33), (3, 34), (3, 35), (3, 36)]) hK hO k_h0 rfl hP hD hS hA hE [] rfl rfl rfl) rfl rfl hl.1 rfl (lv_room (Nat.le_of_ble_eq_true rfl)) dKM_decrypt_161 ⟨by omega, by omega⟩) (fun  u25 H locs hu25 hP hD hS => ?_)
      obtain ⟨s26, pl⟩ := u25
      obtain ⟨⟨eq25, hFc25, -⟩, hO⟩ := hu25
      have hO : okn g T s26 pl := hO
      have hP : va_P g.1 vcl ([] ++ pl) _ := hP
      have hD : va_D _ ([] ++ pl) := hD
      have hFc25 : frm (M_KM_writeRounded 31 32) s25 s26 := hFc25
      replace hR := bnd_step hR eq25
      have hF := frm_tr hF hFc25 (fun k hk => by unfold M_KM_writeRounded at hk; unfold M_KM_decrypt_1; omega)
      refine W.widen (k := 0) (n := 0) (by omega) (by omega) ?_
      exact mp_vret hx hb hr hlk hP hD hS (s26, pl) ⟨⟨hR.symm, hF, trivial⟩, hO⟩ [] rfl rfl rfl (by omega) (by omega) dKM_decrypt_164
    | succ n21 ih21 =>
      intro i21 s22 pl ls H locs hm21 hF hR hl hO hP hD hS
      refine lv_iload hx hb dKM_decrypt_11 (lv_at hl 0 rfl) ?_
      refine lv_aload_n hx hb dKM_decrypt_13 rfl (lv_at hl 2 rfl) ?_
      refine nw_get (C := "LatticeKeys$KemSet") (TT := T_KS) (N := 10) hx hb hts (wg_ft i_KS) hown hK hO k_st (kn := 6) (ci := 1) (fl := [(1, 3), (1, 2), (1, 10), (1, 4), (1, 1184), (1, 2400), (1, 1088), (1, 1152), (1, 2336), (1, 2368)]) rfl hP rfl 0 (by decide) (hts _ (wg_t kw_231)) (fun _ h9 => h9) (cd := (1, 3)) rfl dKM_decrypt_14 (fun v34 hv34 => ?_)
      obtain rfl := (show v34 = .int (nI 3) from hv34)
      refine mi_ge (tgt := 99) hx hb dKM_decrypt_17 (by decide) (by omega) (by omega) (fun h22 => absurd h22 (by omega)) (fun h22 => ?_)
      refine lv_aload_n hx hb dKM_decrypt_20 rfl (lv_at hl 1 rfl) ?_
      refine lv_aload_n hx hb dKM_decrypt_21 rfl (lv_at hl 1 rfl) ?_
      refine nw_get (C := "LatticeKeys$Kem") (TT := T_KM) (N := 10) hx hb hts (wg_ft i_KM) hown hK hO k_h0 (kn := 24) (ci := 5) (fl := [(3, 14), (3, 20), (3, 25), (3, 30), (3, 31), (3, 32), (3, 33), (3, 34), (3, 35), (3, 36)]) rfl hP rfl 2 (by decide) (hts _ (wg_t kw_109)) (fun _ h9 => h9) (cd := (3, 25)) rfl dKM_decrypt_22 (fun v35 hv35 => ?_)
      obtain ⟨r30, rfl, kr30⟩ := (show ∃ r : Nat, v35 = .ref r ∧ T r = some 25 from hv35)
      refine lv_iload hx hb dKM_decrypt_25 (lv_at hl 0 rfl) ?_
      refine nw_aald3 hx hb hK hO kr30 (k := 25) (b := 26) rfl hP (by omega) (by omega) dKM_decrypt_27 (fun r31 kr31 => ?_)
      have hn21 : nsp (26 + i21) = (0, 256, []) := rows_ok 26 4 (by decide) _ (by omega)
      refine lv_aload_n hx hb dKM_decrypt_28 rfl (lv_at hl 2 rfl) ?_
      refine nw_get (C := "LatticeKeys$KemSet") (TT := T_KS) (N := 10) hx hb hts (wg_ft i_KS) hown hK hO k_st (kn := 6) (ci := 1) (fl := [(1, 3), (1, 2), (1, 10), (1, 4), (1, 1184), (1, 2400), (1, 1088), (1, 1152), (1, 2336), (1, 2368)]) rfl hP rfl 2 (by decide) (hts _ (wg_t kw_235)) (fun _ h9 => h9) (cd := (1, 10)) rfl dKM_decrypt_29 (fun v36 hv36 => ?_)
      obtain rfl := (show v36 = .int (nI 10) from hv36)
      refine lv_aload_n hx hb dKM_decrypt_32 rfl (lv_at hl 4 rfl) ?_
      refine lv_bipush (v := nI 32) hx hb dKM_decrypt_33 (by decide) ?_
      refine lv_aload_n hx hb dKM_decrypt_35 rfl (lv_at hl 2 rfl) ?_
      refine nw_get (C := "LatticeKeys$KemSet") (TT := T_KS) (N := 10) hx hb hts (wg_ft i_KS) hown hK hO k_st (kn := 6) (ci := 1) (fl := [(1, 3), (1, 2), (1, 10), (1, 4), (1, 1184), (1, 2400), (1, 1088), (1, 1152), (1, 2336), (1, 2368)]) rfl hP rfl 2 (by decide) (hts _ (wg_t kw_235)) (fun _ h9 => h9) (cd := (1, 10)) rfl dKM_decrypt_36 (fun v37 hv37 => ?_)
      obtain rfl := (show v37 = .int (nI 10) from hv37)
      refine mi_imul hx hb dKM_decrypt_39 ?_
      refine mi_as (show nI (32 * 10) = nI 320 from rfl) ?_
      refine lv_iload hx hb dKM_decrypt_40 (lv_at hl 0 rfl) ?_
      refine mi_imul hx hb dKM_decrypt_42 ?_
      refine mp_v (cx := []) (wr := []) hP hD hS hA [] [] rfl rfl rfl (by decide) (va_runV (As := [.ref r31, .int (nI 10), .ref ct, .int (nI (320 * i21))]) (rest := []) F (N_KM_readRounded l g _ T s22 pl hO hU h0 r31 ct (26 + i21) 10 pc_ n (320 * i21) k_h0 kr31 hn21 k_ct n_ct (by omega) (by omega) (by omega) (by omega)) (cwV 4 hts (wg_app (wg_c kw_1133 (wg_c kw_1135 (wg_c ks_30 (wg_c kw_3 wg_n)))) kw_1136) rfl rfl rfl (by decide +kernel) ⟨by decide, by decide⟩) (pn_W "LatticeKeys$Kem" (en_ok g) (ci := 5) (kn := 24) (fl := [(3, 14), (3, 20), (3, 25), (3, 30), (3, 31), (3, 32), (3, 33), (3, 34), (3, 35), (3, 36)]) hK hO k_h0 rfl hP hD hS hA hE [] rfl rfl rfl) rfl rfl hl.1 rfl (lv_room (Nat.le_of_ble_eq_true rfl)) dKM_decrypt_43 ⟨by omega, by omega⟩) (fun  u26 H locs hu26 hP hD hS => ?_)
      obtain ⟨s27, pl⟩ := u26
      obtain ⟨⟨eq26, hFc26, -⟩, hO⟩ := hu26
      have hO : okn g T s27 pl := hO
      have hP : va_P g.1 vcl ([] ++ pl) _ := hP
      have hD : va_D _ ([] ++ pl) := hD
      have hFc26 : frm (M_KM_readRounded (26 + i21)) s22 s27 := hFc26
      replace hR := bnd_step hR eq26
      have hF := frm_tr hF hFc26 (fun k hk => by unfold M_KM_readRounded at hk; unfold M_KM_decrypt_1; omega)
      refine W.widen (k := 0) (n := 0) (by omega) (by omega) ?_
      refine lv_aload_n hx hb dKM_decrypt_46 rfl (lv_at hl 1 rfl) ?_
      refine nw_get (C := "LatticeKeys$Kem") (TT := T_KM) (N := 10) hx hb hts (wg_ft i_KM) hown hK hO k_h0 (kn := 24) (ci := 5) (fl := [(3, 14), (3, 20), (3, 25), (3, 30), (3, 31), (3, 32), (3, 33), (3, 34), (3, 35), (3, 36)]) rfl hP rfl 1 (by decide) (hts _ (wg_t kw_108)) (fun _ h9 => h9) (cd := (3, 20)) rfl dKM_decrypt_47 (fun v38 hv38 => ?_)
      obtain ⟨r32, rfl, kr32⟩ := (show ∃ r : Nat, v38 = .ref r ∧ T r = some 20 from hv38)
      refine lv_aload_n hx hb dKM_decrypt_50 rfl (lv_at hl 1 rfl) ?_
      refine nw_get (C := "LatticeKeys$Kem") (TT := T_KM) (N := 10) hx hb hts (wg_ft i_KM) hown hK hO k_h0 (kn := 24) (ci := 5) (fl := [(3, 14), (3, 20), (3, 25), (3, 30), (3, 31), (3, 32), (3, 33), (3, 34), (3, 35), (3, 36)]) rfl hP rfl 2 (by decide) (hts _ (wg_t kw_109)) (fun _ h9 => h9) (cd := (3, 25)) rfl dKM_decrypt_51 (fun v39 hv39 => ?_)
      obtain ⟨r33, rfl, kr33⟩ := (show ∃ r : Nat, v39 = .ref r ∧ T r = some 25 from hv39)
      refine lv_iload hx hb dKM_decrypt_54 (lv_at hl 0 rfl) ?_
      refine nw_aald3 hx hb hK hO kr33 (k := 25) (b := 26) rfl hP (by omega) (by omega) dKM_decrypt_56 (fun r34 kr34 => ?_)
      have hn22 : nsp (26 + i21) = (0, 256, []) := rows_ok 26 4 (by decide) _ (by omega)
      refine mp_v (cx := []) (wr := []) hP hD hS hA [] [] rfl rfl rfl (by decide) (va_runV (As := [.ref r34]) (rest := []) F (N_RG_transform_7 l g _ T s27 pl hO hU r32 r34 (26 + i21) kr32 kr34 hn22) (cwV 1 hts (wg_app (wg_c kw_636 (wg_c kw_637 (wg_c kw_638 (wg_c kw_4 wg_n)))) kw_639) rfl rfl rfl (by decide +kernel) ⟨by decide, by decide⟩) (pn_W "LatticeKeys$Ring" (en_ok g) (ci := 4) (kn := 20) (fl := [(1, 3329), (1, 7), (1, 3303), (3, 21)]) hK hO kr32 rfl hP hD hS hA hE [] rfl rfl rfl) rfl rfl hl.1 rfl (lv_room (Nat.le_of_ble_eq_true rfl)) dKM_decrypt_57 ⟨by omega, by omega⟩) (fun  u27 H locs hu27 hP hD hS => ?_)
      obtain ⟨s28, pl⟩ := u27
      obtain ⟨⟨eq27, hFc27, -⟩, hO⟩ := hu27
      have hO : okn g T s28 pl := hO
      have hP : va_P g.1 vcl ([] ++ pl) _ := hP
      have hD : va_D _ ([] ++ pl) := hD
      have hFc27 : frm (M_RG_transform_7 (26 + i21)) s27 s28 := hFc27
      replace hR := bnd_step hR eq27
      have hF := frm_tr hF hFc27 (fun k hk => by unfold M_RG_transform_7 at hk; unfold M_KM_decrypt_1; omega)
      refine W.widen (k := 0) (n := 0) (by omega) (by omega) ?_
      refine lv_aload_n hx hb dKM_decrypt_60 rfl (lv_at hl 1 rfl) ?_
      refine lv_aload_n hx hb dKM_decrypt_61 rfl (lv_at hl 3 rfl) ?_
      refine lv_sipush (v := nI 384) hx hb dKM_decrypt_62 (by decide) ?_
      refine lv_iload hx hb dKM_decrypt_65 (lv_at hl 0 rfl) ?_
      refine mi_imul hx hb dKM_decrypt_67 ?_
      refine mp_v (cx := []) (wr := []) hP hD hS hA [] [] rfl rfl rfl (by decide) (va_runV (As := [.ref sk, .int (nI (384 * i21))]) (rest := []) F (N_KM_readReduced l g _ T s28 pl hO hU h0 sk psk 2400 (384 * i21) k_h0 k_sk n_sk (by omega) (by omega)) (cwV 2 hts (wg_app (wg_c kw_1129 (wg_c kw_1131 (wg_c ks_29 (wg_c kw_3 wg_n)))) kw_1132) rfl rfl rfl (by decide +kernel) ⟨by decide, by decide⟩) (pn_W "LatticeKeys$Kem" (en_ok g) (ci := 5) (kn := 24) (fl := [(3, 14), (3, 20), (3, 25), (3, 30), (3, 31), (3, 32), (3, 33), (3, 34), (3, 35), (3, 36)]) hK hO k_h0 rfl hP hD hS hA hE [] rfl rfl rfl) rfl rfl hl.1 rfl (lv_room (Nat.le_of_ble_eq_true rfl)) dKM_decrypt_68 ⟨by omega, by omega⟩) (fun  u28 H locs hu28 hP hD hS => ?_)
      obtain ⟨s29, pl⟩ := u28
      obtain ⟨⟨eq28, hFc28, -⟩, hO⟩ := hu28
      have hO : okn g T s29 pl := hO
      have hP : va_P g.1 vcl ([] ++ pl) _ := hP
      have hD : va_D _ ([] ++ pl) := hD
      have hFc28 : frm (M_KM_readReduced) s28 s29 := hFc28
      replace hR := bnd_step hR eq28
      have hF := frm_tr hF hFc28 (fun k hk => by unfold M_KM_readReduced at hk; unfold M_KM_decrypt_1; omega)
      refine W.widen (k := 0) (n := 0) (by omega) (by omega) ?_
      refine lv_aload_n hx hb dKM_decrypt_71 rfl (lv_at hl 1 rfl) ?_
      refine nw_get (C := "LatticeKeys$Kem") (TT := T_KM) (N := 10) hx hb hts (wg_ft i_KM) hown hK hO k_h0 (kn := 24) (ci := 5) (fl := [(3, 14), (3, 20), (3, 25), (3, 30), (3, 31), (3, 32), (3, 33), (3, 34), (3, 35), (3, 36)]) rfl hP rfl 1 (by decide) (hts _ (wg_t kw_108)) (fun _ h9 => h9) (cd := (3, 20)) rfl dKM_decrypt_72 (fun v40 hv40 => ?_)
      obtain ⟨r35, rfl, kr35⟩ := (show ∃ r : Nat, v40 = .ref r ∧ T r = some 20 from hv40)
      refine lv_aload_n hx hb dKM_decrypt_75 rfl (lv_at hl 1 rfl) ?_
      refine nw_get (C := "LatticeKeys$Kem") (TT := T_KM) (N := 10) hx hb hts (wg_ft i_KM) hown hK hO k_h0 (kn := 24) (ci := 5) (fl := [(3, 14), (3, 20), (3, 25), (3, 30), (3, 31), (3, 32), (3, 33), (3, 34), (3, 35), (3, 36)]) rfl hP rfl 3 (by decide) (hts _ (wg_t kw_110)) (fun _ h9 => h9) (cd := (3, 30)) rfl dKM_decrypt_76 (fun v41 hv41 => ?_)
      obtain ⟨r36, rfl, kr36⟩ := (show ∃ r : Nat, v41 = .ref r ∧ T r = some 30 from hv41)
      refine lv_aload_n hx hb dKM_decrypt_79 rfl (lv_at hl 1 rfl) ?_
      refine nw_get (C := "LatticeKeys$Kem") (TT := T_KM) (N := 10) hx hb hts (wg_ft i_KM) hown hK hO k_h0 (kn := 24) (ci := 5) (fl := [(3, 14), (3, 20), (3, 25), (3, 30), (3, 31), (3, 32), (3, 33), (3, 34), (3, 35), (3, 36)]) rfl hP rfl 4 (by decide) (hts _ (wg_t kw_111)) (fun _ h9 => h9) (cd := (3, 31)) rfl dKM_decrypt_80 (fun v42 hv42 => ?_)
      obtain ⟨r37, rfl, kr37⟩ := (show ∃ r : Nat, v42 = .ref r ∧ T r = some 31 from hv42)
      refine lv_aload_n hx hb dKM_decrypt_83 rfl (lv_at hl 1 rfl) ?_
      refine nw_get (C := "LatticeKeys$Kem") (TT := T_KM) (N := 10) hx hb hts (wg_ft i_KM) hown hK hO k_h0 (kn := 24) (ci := 5) (fl := [(3, 14), (3, 20), (3, 25), (3, 30), (3, 31), (3, 32), (3, 33), (3, 34), (3, 35), (3, 36)]) rfl hP rfl 2 (by decide) (hts _ (wg_t kw_109)) (fun _ h9 => h9) (cd := (3, 25)) rfl dKM_decrypt_84 (fun v43 hv43 => ?_)
      obtain ⟨r38, rfl, kr38⟩ := (show ∃ r : Nat, v43 = .ref r ∧ T r = some 25 from hv43)
      refine lv_iload hx hb dKM_decrypt_87 (lv_at hl 0 rfl) ?_
      refine nw_aald3 hx hb hK hO kr38 (k := 25) (b := 26) rfl hP (by omega) (by omega) dKM_decrypt_89 (fun r39 kr39 => ?_)
      have hn23 : nsp (26 + i21) = (0, 256, []) := rows_ok 26 4 (by decide) _ (by omega)
      refine mp_v (cx := []) (wr := []) hP hD hS hA [] [] rfl rfl rfl (by decide) (va_runV (As := [.ref r36, .ref r37, .ref r39]) (rest := []) F (N_RG_addProduct_7 l g _ T s29 pl hO hU r35 r36 r37 r39 30 31 (26 + i21) kr35 kr36 rfl kr37 rfl kr39 hn23) (cwV 3 hts (wg_app (wg_c kw_653 (wg_c kw_654 (wg_c kw_655 (wg_c kw_4 wg_n)))) kw_656) rfl rfl rfl (by decide +kernel) ⟨by decide, by decide⟩) (pn_W "LatticeKeys$Ring" (en_ok g) (ci := 4) (kn := 20) (fl := [(1, 3329), (1, 7), (1, 3303), (3, 21)]) hK hO kr35 rfl hP hD hS hA hE [] rfl rfl rfl) rfl rfl hl.1 rfl (lv_room (Nat.le_of_ble_eq_true rfl)) dKM_decrypt_90 ⟨by omega, by omega⟩) (fun  u29 H locs hu29 hP hD hS => ?_)
      obtain ⟨s30, pl⟩ := u29
      obtain ⟨⟨eq29, hFc29, -⟩, hO⟩ := hu29
      have hO : okn g T s30 pl := hO
      have hP : va_P g.1 vcl ([] ++ pl) _ := hP
      have hD : va_D _ ([] ++ pl) := hD
      have hFc29 : frm (M_RG_addProduct_7 30) s29 s30 := hFc29
      replace hR := bnd_step hR eq29
      have hF := frm_tr hF hFc29 (fun k hk => by unfold M_RG_addProduct_7 at hk; unfold M_KM_decrypt_1; omega)
      refine W.widen (k := 0) (n := 0) (by omega) (by omega) ?_
      refine mi_iinc (k := 0) (x := i21) (d := 1) (y := i21 + 1) (lv' := [(4, .int (nI (i21 + 1))), (0, .ref h0), (1, .ref st), (2, .ref sk), (3, .ref ct)]) hx hb dKM_decrypt_93 hl rfl (by decide) rfl (by decide) rfl (fun ls hl => ?_)
      refine lv_goto (tgt := 11) hx hb dKM_decrypt_96 (by decide) ?_
      exact ih21 (i21 + 1) s30 pl ls H locs (by omega) hF hR (lv_sub hl [0, 1, 2, 3, 4] rfl) hO hP hD hS
  exact lp21 3 0 s21 pl ls _ _ (by omega) hF hR (lv_sub hl [0, 1, 2, 3, 4] rfl) hO hP hD hS
def M_KM_decrypt_2 (k : Nat) : Prop := (26 ≤ k ∧ k < 30) ∨ k = 30 ∨ k = 31 ∨ k = 32 ∨ (0 : Nat) = 1
noncomputable def F_KM_decrypt_2_L0 (psk : Nat) (pc_ : Nat) (n : Nat) : Nat → Nat → Sto → Sto
  | 0, i21, s22 => bnd (F_RG_restore_7 30 s22) fun s23 => bnd (F_KM_readRounded 31 5 pc_ n 1408 s23) fun s24 => bnd (F_RG_subtract_7 31 30 s24) fun s25 => bnd (F_KM_writeRounded 31 1 32 32 0 s25) fun s26 => s26
  | n21 + 1, i21, s22 => bnd (F_KM_readRounded (26 + i21) 11 pc_ n (352 * i21) s22) fun s27 => bnd (F_RG_transform_7 (26 + i21) s27) fun s28 => bnd (F_KM_readReduced psk 3168 (384 * i21) s28) fun s29 => bnd (F_RG_addProduct_7 30 31 (26 + i21) s29) fun s30 => F_KM_decrypt_2_L0 psk pc_ n n21 (i21 + 1) s30
noncomputable def F_KM_decrypt_2 (psk : Nat) (pc_ : Nat) (n : Nat) (s : Sto) : Sto := bnd (F_AR_fillI 30 256 (nI 0) s) fun s21 => F_KM_decrypt_2_L0 psk pc_ n 4 0 s21
set_option maxHeartbeats 400000 in
set_option maxRecDepth 100000 in
theorem N_KM_decrypt_2 (l : Launch) (g : Gd) (sz : Nat) (T : TyN) (s : Sto) (pl : va_W) (hO : okn g T s pl) (hU : inj T) (h0 st sk ct : Nat) (psk : Nat) (pc_ : Nat) (n : Nat) (k_h0 : T h0 = some 24) (k_st : T st = some 7) (k_sk : T sk = some psk) (n_sk : nsp psk = (1, 3168, [])) (k_ct : T ct = some pc_) (n_ct : nsp pc_ = (1, n, [])) (h1 : 1568 ≤ n) (h2 : n < 65536)  : Met l y_KM_decrypt w_KM_decrypt ({ frames := 2, cells := 0, slots := 0, locals := 57 } : Room) (va_Pc [.ref h0, .ref st, .ref sk, .ref ct] (pr (en g) g.1 vcl sz ([] ++ pl))) (va_Qv (fun (u : (Sto) × va_W) => (u.1 = F_KM_decrypt_2 psk pc_ n s ∧ frm (M_KM_decrypt_2) s u.1 ∧ True) ∧ okn g T u.1 u.2) (po g.1 vcl (va_A ([] ++ pl) sz) (fun (u : (Sto) × va_W) => [] ++ u.2)) (va_A ([] ++ pl) sz)) 0 0 (va_A ([] ++ pl) sz) := by
  refine mc_entry (cc := c_KM_decrypt) (maxL := 5) (ret := none) (by decide) rfl (Nat.le_of_ble_eq_true rfl) ?_
  intro p e s0 m args below meth c ls F hr hlk hnm hsz hP hD hE hA hl
  obtain ⟨hx, hb, hml, hown, hts⟩ := id F
  have hK := hE.1
  generalize va_A ([] ++ pl) sz = A at hD hE hA ⊢
  have hS : va_S A s0.heap s0.heap [] := va_S.rf
  have hl : lv_has ls 5 [(0, .ref h0), (1, .ref st), (2, .ref sk), (3, .ref ct)] := hl
  have hR : F_KM_decrypt_2 psk pc_ n s = F_KM_decrypt_2 psk pc_ n s := rfl
  have hF : frm (M_KM_decrypt_2) s s := frm_rf
  refine lv_aload_n hx hb dKM_decrypt_0 rfl (lv_at hl 0 rfl) ?_
  refine nw_get (C := "LatticeKeys$Kem") (TT := T_KM) (N := 10) hx hb hts (wg_ft i_KM) hown hK hO k_h0 (kn := 24) (ci := 5) (fl := [(3, 14), (3, 20), (3, 25), (3, 30), (3, 31), (3, 32), (3, 33), (3, 34), (3, 35), (3, 36)]) rfl hP rfl 3 (by decide) (hts _ (wg_t kw_110)) (fun _ h9 => h9) (cd := (3, 30)) rfl dKM_decrypt_1 (fun v21 hv21 => ?_)
  obtain ⟨r21, rfl, kr21⟩ := (show ∃ r : Nat, v21 = .ref r ∧ T r = some 30 from hv21)
  refine lv_iconst (v := nI 0) hx hb dKM_decrypt_4 (by decide) ?_
  refine mp_v (cx := []) (wr := []) hP hD hS hA [] [] rfl rfl rfl (by decide) (va_runS (As := [.ref r21, .int (nI 0)]) (rest := []) F (N_AR_fillI l g _ T s pl hO hU r21 30 256 (nI 0) kr21 rfl (by omega)) (va_cwS 2 hts (wg_app (wg_c kw_1122 (wg_c kw_717 (wg_c kw_21 wg_n))) kw_718) rfl rfl rfl (by decide +kernel) ⟨by decide, by decide⟩) (pp_S (en_ok g) hP hD hS hA hE [] rfl rfl) rfl rfl hl.1 rfl (lv_room (Nat.le_of_ble_eq_true rfl)) dKM_decrypt_5 ⟨by omega, by omega⟩) (fun  u21 H locs hu21 hP hD hS => ?_)
  obtain ⟨s21, pl⟩ := u21
  obtain ⟨⟨eq21, hFc21, -⟩, hO⟩ := hu21
  have hO : okn g T s21 pl := hO
  have hP : va_P g.1 vcl ([] ++ pl) _ := hP
  have hD : va_D _ ([] ++ pl) := hD
  have hFc21 : frm (M_AR_fillI 30) s s21 := hFc21
  replace hR := bnd_step hR eq21
  have hF := frm_tr hF hFc21 (fun k hk => by unfold M_AR_fillI at hk; unfold M_KM_decrypt_2; omega)
  refine W.widen (k := 0) (n := 0) (by omega) (by omega) ?_
  refine lv_iconst (v := nI 0) hx hb dKM_decrypt_8 (by decide) ?_
  refine lv_istore (lv' := [(4, .int (nI 0)), (0, .ref h0), (1, .ref st), (2, .ref sk), (3, .ref ct)]) hx hb dKM_decrypt_9 hl (by decide) rfl (fun ls hl => ?_)
  have lp21 : ∀ (n21 : Nat) (i21 : Nat) (s22 : Sto) (pl : va_W) (ls : Array Slot) (H : Heap) (locs : List Loc), n21 + i21 = 4 → frm (M_KM_decrypt_2) s s22 → F_KM_decrypt_2 psk pc_ n s = F_KM_decrypt_2_L0 psk pc_ n n21 i21 s22 → lv_has ls 5 [(4, .int (nI i21)), (0, .ref h0), (1, .ref st), (2, .ref sk), (3, .ref ct)] → okn g T s22 pl → va_P g.1 vcl ([] ++ pl) H → va_D A ([] ++ pl) → va_S A s0.heap H locs → W p l e ({ frames := 2, cells := 0, slots := 0, locals := 57 } : Room) s0 m args below meth c H locs 0 0 (MQ below (va_Qv (fun (u : (Sto) × va_W) => (u.1 = F_KM_decrypt_2 psk pc_ n s ∧ frm (M_KM_decrypt_2) s u.1 ∧ True) ∧ okn g T u.1 u.2) (po g.1 vcl A (fun (u : (Sto) × va_W) => [] ++ u.2)) A) args s0 0 0 A) (F0 m 11 ls []) := by
    intro n21
    induction n21 with
    | zero =>
      intro i21 s22 pl ls H locs hm21 hF hR hl hO hP hD hS
      refine lv_iload hx hb dKM_decrypt_11 (lv_at hl 0 rfl) ?_
      refine lv_aload_n hx hb dKM_decrypt_13 rfl (lv_at hl 2 rfl) ?_
      refine nw_get (C := "LatticeKeys$KemSet") (TT := T_KS) (N := 10) hx hb hts (wg_ft i_KS) hown hK hO k_st (kn := 7) (ci := 1) (fl := [(1, 4), (1, 2), (1, 11), (1, 5), (1, 1568), (1, 3168), (1, 1568), (1, 1536), (1, 3104), (1, 3136)]) rfl hP rfl 0 (by decide) (hts _ (wg_t kw_231)) (fun _ h9 => h9) (cd := (1, 4)) rfl dKM_decrypt_14 (fun v22 hv22 => ?_)
      obtain rfl := (show v22 = .int (nI 4) from hv22)
      refine mi_ge (tgt := 99) hx hb dKM_decrypt_17 (by decide) (by omega) (by omega) (fun h21 => ?_) (fun h21 => absurd h21 (by omega))
      refine lv_aload_n hx hb dKM_decrypt_99 rfl (lv_at hl 1 rfl) ?_
      refine nw_get (C := "LatticeKeys$Kem") (TT := T_KM) (N := 10) hx hb hts (wg_ft i_KM) hown hK hO k_h0 (kn := 24) (ci := 5) (fl := [(3, 14), (3, 20), (3, 25), (3, 30), (3, 31), (3, 32), (3, 33), (3, 34), (3, 35), (3, 36)]) rfl hP rfl 1 (by decide) (hts _ (wg_t kw_108)) (fun _ h9 => h9) (cd := (3, 20)) rfl dKM_decrypt_100 (fun v23 hv23 => ?_)
      obtain ⟨r22, rfl, kr22⟩ := (show ∃ r : Nat, v23 = .ref r ∧ T r = some 20 from hv23)
      refine lv_aload_n hx hb dKM_decrypt_103 rfl (lv_at hl 1 rfl) ?_
      refine nw_get (C := "LatticeKeys$Kem") (TT := T_KM) (N := 10) hx hb hts (wg_ft i_KM) hown hK hO k_h0 (kn := 24) (ci := 5) (fl := [(3, 14), (3, 20), (3, 25), (3, 30), (3, 31), (3, 32), (3, 33), (3, 34), (3, 35), (3, 36)]) rfl hP rfl 3 (by decide) (hts _ (wg_t kw_110)) (fun _ h9 => h9) (cd := (3, 30)) rfl dKM_decrypt_104 (fun v24 hv24 => ?_)
      obtain ⟨r23, rfl, kr23⟩ := (show ∃ r : Nat, v24 = .ref r ∧ T r = some 30 from hv24)
      refine mp_v (cx := []) (wr := []) hP hD hS hA [] [] rfl rfl rfl (by decide) (va_runV (As := [.ref r23]) (rest := []) F (N_RG_restore_7 l g _ T s22 pl hO hU r22 r23 30 kr22 kr23 rfl) (cwV 1 hts (wg_app (wg_c kw_1123 (wg_c kw_721 (wg_c kw_722 (wg_c kw_4 wg_n)))) kw_723) rfl rfl rfl (by decide +kernel) ⟨by decide, by decide⟩) (pn_W "LatticeKeys$Ring" (en_ok g) (ci := 4) (kn := 20) (fl := [(1, 3329), (1, 7), (1, 3303), (3, 21)]) hK hO kr22 rfl hP hD hS hA hE [] rfl rfl rfl) rfl rfl hl.1 rfl (lv_room (Nat.le_of_ble_eq_true rfl)) dKM_decrypt_107 ⟨by omega, by omega⟩) (fun  u22 H locs hu22 hP hD hS => ?_)
      obtain ⟨s23, pl⟩ := u22
      obtain ⟨⟨eq22, hFc22, -⟩, hO⟩ := hu22
      have hO : okn g T s23 pl := hO
      have hP : va_P g.1 vcl ([] ++ pl) _ := hP
      have hD : va_D _ ([] ++ pl) := hD
      have hFc22 : frm (M_RG_restore_7 30) s22 s23 := hFc22
      replace hR := bnd_step hR eq22
      have hF := frm_tr hF hFc22 (fun k hk => by unfold M_RG_restore_7 at hk; unfold M_KM_decrypt_2; omega)
      refine W.widen (k := 0) (n := 0) (by omega) (by omega) ?_
      refine lv_aload_n hx hb dKM_decrypt_110 rfl (lv_at hl 1 rfl) ?_
      refine lv_aload_n hx hb dKM_decrypt_111 rfl (lv_at hl 1 rfl) ?_
      refine nw_get (C := "LatticeKeys$Kem") (TT := T_KM) (N := 10) hx hb hts (wg_ft i_KM) hown hK hO k_h0 (kn := 24) (ci := 5) (fl := [(3, 14), (3, 20), (3, 25), (3, 30), (3, 31), (3, 32), (3, 33), (3, 34), (3, 35), (3, 36)]) rfl hP rfl 4 (by decide) (hts _ (wg_t kw_111)) (fun _ h9 => h9) (cd := (3, 31)) rfl dKM_decrypt_112 (fun v25 hv25 => ?_)
      obtain ⟨r24, rfl, kr24⟩ := (show ∃ r : Nat, v25 = .ref r ∧ T r = some 31 from hv25)
      refine lv_aload_n hx hb dKM_decrypt_115 rfl (lv_at hl 2 rfl) ?_
      refine nw_get (C := "LatticeKeys$KemSet") (TT := T_KS) (N := 10) hx hb hts (wg_ft i_KS) hown hK hO k_st (kn := 7) (ci := 1) (fl := [(1, 4), (1, 2), (1, 11), (1, 5), (1, 1568), (1, 3168), (1, 1568), (1, 1536), (1, 3104), (1, 3136)]) rfl hP rfl 3 (by decide) (hts _ (wg_t kw_237)) (fun _ h9 => h9) (cd := (1, 5)) rfl dKM_decrypt_116 (fun v26 hv26 => ?_)
      obtain rfl := (show v26 = .int (nI 5) from hv26)
      refine lv_aload_n hx hb dKM_decrypt_119 rfl (lv_at hl 4 rfl) ?_
      refine lv_bipush (v := nI 32) hx hb dKM_decrypt_120 (by decide) ?_
      refine lv_aload_n hx hb dKM_decrypt_122 rfl (lv_at hl 2 rfl) ?_
      refine nw_get (C := "LatticeKeys$KemSet") (TT := T_KS) (N := 10) hx hb hts (wg_ft i_KS) hown hK hO k_st (kn := 7) (ci := 1) (fl := [(1, 4), (1, 2), (1, 11), (1, 5), (1, 1568), (1, 3168), (1, 1568), (1, 1536), (1, 3104), (1, 3136)]) rfl hP rfl 2 (by decide) (hts _ (wg_t kw_235)) (fun _ h9 => h9) (cd := (1, 11)) rfl dKM_decrypt_123 (fun v27 hv27 => ?_)
      obtain rfl := (show v27 = .int (nI 11) from hv27)
      refine mi_imul hx hb dKM_decrypt_126 ?_
      refine mi_as (show nI (32 * 11) = nI 352 from rfl) ?_
      refine lv_aload_n hx hb dKM_decrypt_127 rfl (lv_at hl 2 rfl) ?_
      refine nw_get (C := "LatticeKeys$KemSet") (TT := T_KS) (N := 10) hx hb hts (wg_ft i_KS) hown hK hO k_st (kn := 7) (ci := 1) (fl := [(1, 4), (1, 2), (1, 11), (1, 5), (1, 1568), (1, 3168), (1, 1568), (1, 1536), (1, 3104), (1, 3136)]) rfl hP rfl 0 (by decide) (hts _ (wg_t kw_231)) (fun _ h9 => h9) (cd := (1, 4)) rfl dKM_decrypt_128 (fun v28 hv28 => ?_)
      obtain rfl := (show v28 = .int (nI 4) from hv28)
      refine mi_imul hx hb dKM_decrypt_131 ?_
      refine mi_as (show nI (352 * 4) = nI 1408 from rfl) ?_
      refine mp_v (cx := []) (wr := []) hP hD hS hA [] [] rfl rfl rfl (by decide) (va_runV (As := [.ref r24, .int (nI 5), .ref ct, .int (nI 1408)]) (rest := []) F (N_KM_readRounded l g _ T s23 pl hO hU h0 r24 ct 31 5 pc_ n 1408 k_h0 kr24 rfl k_ct n_ct (by omega) (by omega) (by omega) (by omega)) (cwV 4 hts (wg_app (wg_c kw_1133 (wg_c kw_1135 (wg_c ks_30 (wg_c kw_3 wg_n)))) kw_1136) rfl rfl rfl (by decide +kernel) ⟨by decide, by decide⟩) (pn_W "LatticeKeys$Kem" (en_ok g) (ci := 5) (kn := 24) (fl := [(3, 14), (3, 20), (3, 25), (3, 30), (3, 31), (3, 32), (3, 33), (3, 34), (3, 35), (3, 36)]) hK hO k_h0 rfl hP hD hS hA hE [] rfl rfl rfl) rfl rfl hl.1 rfl (lv_room (Nat.le_of_ble_eq_true rfl)) dKM_decrypt_132 ⟨by omega, by omega⟩) (fun  u23 H locs hu23 hP hD hS => ?_)
      obtain ⟨s24, pl⟩ := u23
      obtain ⟨⟨eq23, hFc23, -⟩, hO⟩ := hu23
      have hO : okn g T s24 pl := hO
      have hP : va_P g.1 vcl ([] ++ pl) _ := hP
      have hD : va_D _ ([] ++ pl) := hD
      have hFc23 : frm (M_KM_readRounded 31) s23 s24 := hFc23
      replace hR := bnd_step hR eq23
      have hF := frm_tr hF hFc23 (fun k hk => by unfold M_KM_readRounded at hk; unfold M_KM_decrypt_2; omega)
      refine W.widen (k := 0) (n := 0) (by omega) (by omega) ?_
      refine lv_aload_n hx hb dKM_decrypt_135 rfl (lv_at hl 1 rfl) ?_
      refine nw_get (C := "LatticeKeys$Kem") (TT := T_KM) (N := 10) hx hb hts (wg_ft i_KM) hown hK hO k_h0 (kn := 24) (ci := 5) (fl := [(3, 14), (3, 20), (3, 25), (3, 30), (3, 31), (3, 32), (3, 33), (3, 34), (3, 35), (3, 36)]) rfl hP rfl 1 (by decide) (hts _ (wg_t kw_108)) (fun _ h9 => h9) (cd := (3, 20)) rfl dKM_decrypt_136 (fun v29 hv29 => ?_)
      obtain ⟨r25, rfl, kr25⟩ := (show ∃ r : Nat, v29 = .ref r ∧ T r = some 20 from hv29)
      refine lv_aload_n hx hb dKM_decrypt_139 rfl (lv_at hl 1 rfl) ?_
      refine nw_get (C := "LatticeKeys$Kem") (TT := T_KM) (N := 10) hx hb hts (wg_ft i_KM) hown hK hO k_h0 (kn := 24) (ci := 5) (fl := [(3, 14), (3, 20), (3, 25), (3, 30), (3, 31), (3, 32), (3, 33), (3, 34), (3, 35), (3, 36)]) rfl hP rfl 4 (by decide) (hts _ (wg_t kw_111)) (fun _ h9 => h9) (cd := (3, 31)) rfl dKM_decrypt_140 (fun v30 hv30 => ?_)
      obtain ⟨r26, rfl, kr26⟩ := (show ∃ r : Nat, v30 = .ref r ∧ T r = some 31 from hv30)
      refine lv_aload_n hx hb dKM_decrypt_143 rfl (lv_at hl 1 rfl) ?_
      refine nw_get (C := "LatticeKeys$Kem") (TT := T_KM) (N := 10) hx hb hts (wg_ft i_KM) hown hK hO k_h0 (kn := 24) (ci := 5) (fl := [(3, 14), (3, 20), (3, 25), (3, 30), (3, 31), (3, 32), (3, 33), (3, 34), (3, 35), (3, 36)]) rfl hP rfl 3 (by decide) (hts _ (wg_t kw_110)) (fun _ h9 => h9) (cd := (3, 30)) rfl dKM_decrypt_144 (fun v31 hv31 => ?_)
      obtain ⟨r27, rfl, kr27⟩ := (show ∃ r : Nat, v31 = .ref r ∧ T r = some 30 from hv31)
      refine mp_v (cx := []) (wr := []) hP hD hS hA [] [] rfl rfl rfl (by decide) (va_runV (As := [.ref r26, .ref r27]) (rest := []) F (N_RG_subtract_7 l g _ T s24 pl hO hU r25 r26 r27 31 30 kr25 kr26 rfl kr27 rfl) (cwV 2 hts (wg_app (wg_c kw_1154 (wg_c kw_1155 (wg_c kw_1156 (wg_c kw_4 wg_n)))) kw_1157) rfl rfl rfl (by decide +kernel) ⟨by decide, by decide⟩) (pn_W "LatticeKeys$Ring" (en_ok g) (ci := 4) (kn := 20) (fl := [(1, 3329), (1, 7), (1, 3303), (3, 21)]) hK hO kr25 rfl hP hD hS hA hE [] rfl rfl rfl) rfl rfl hl.1 rfl (lv_room (Nat.le_of_ble_eq_true rfl)) dKM_decrypt_147 ⟨by omega, by omega⟩) (fun  u24 H locs hu24 hP hD hS => ?_)
      obtain ⟨s25, pl⟩ := u24
      obtain ⟨⟨eq24, hFc24, -⟩, hO⟩ := hu24
      have hO : okn g T s25 pl := hO
      have hP : va_P g.1 vcl ([] ++ pl) _ := hP
      have hD : va_D _ ([] ++ pl) := hD
      have hFc24 : frm (M_RG_subtract_7 31) s24 s25 := hFc24
      replace hR := bnd_step hR eq24
      have hF := frm_tr hF hFc24 (fun k hk => by unfold M_RG_subtract_7 at hk; unfold M_KM_decrypt_2; omega)
      refine W.widen (k := 0) (n := 0) (by omega) (by omega) ?_
      refine lv_aload_n hx hb dKM_decrypt_150 rfl (lv_at hl 1 rfl) ?_
      refine lv_aload_n hx hb dKM_decrypt_151 rfl (lv_at hl 1 rfl) ?_
      refine nw_get (C := "LatticeKeys$Kem") (TT := T_KM) (N := 10) hx hb hts (wg_ft i_KM) hown hK hO k_h0 (kn := 24) (ci := 5) (fl := [(3, 14), (3, 20), (3, 25), (3, 30), (3, 31), (3, 32), (3, 33), (3, 34), (3, 35), (3, 36)]) rfl hP rfl 4 (by decide) (hts _ (wg_t kw_111)) (fun _ h9 => h9) (cd := (3, 31)) rfl dKM_decrypt_152 (fun v32 hv32 => ?_)
      obtain ⟨r28, rfl, kr28⟩ := (show ∃ r : Nat, v32 = .ref r ∧ T r = some 31 from hv32)
      refine lv_iconst (v := nI 1) hx hb dKM_decrypt_155 (by decide) ?_
      refine lv_aload_n hx hb dKM_decrypt_156 rfl (lv_at hl 1 rfl) ?_
      refine nw_get (C := "LatticeKeys$Kem") (TT := T_KM) (N := 10) hx hb hts (wg_ft i_KM) hown hK hO k_h0 (kn := 24) (ci := 5) (fl := [(3, 14), (3, 20), (3, 25), (3, 30), (3, 31), (3, 32), (3, 33), (3, 34), (3, 35), (3, 36)]) rfl hP rfl 5 (by decide) (hts _ (wg_t kw_112)) (fun _ h9 => h9) (cd := (3, 32)) rfl dKM_decrypt_157 (fun v33 hv33 => ?_)
      obtain ⟨r29, rfl, kr29⟩ := (show ∃ r : Nat, v33 = .ref r ∧ T r = some 32 from hv33)
      refine lv_iconst (v := nI 0) hx hb dKM_decrypt_160 (by decide) ?_
      refine mp_v (cx := []) (wr := []) hP hD hS hA [] [] rfl rfl rfl (by decide) (va_runV (As := [.ref r28, .int (nI 1), .ref r29, .int (nI 0)]) (rest := []) F (N_KM_writeRounded l g _ T s25 pl hO hU h0 r28 r29 31 1 32 32 0 k_h0 kr28 rfl kr29 rfl (by omega) (by omega) (by omega)) (cwV 4 hts (wg_app (wg_c kw_1125 (wg_c kw_1127 (wg_c ks_28 (wg_c kw_3 wg_n)))) kw_1128) rfl rfl rfl (by decide +kernel) ⟨by decide, by decide⟩) (pn_W "LatticeKeys$Kem" (en_ok g) (ci := 5) (kn := 24) (fl := [(3, 14), (3, 20), (3, 25), (3, 30), (3, 31), (3, 32), (3, 33), (3, 34), (3, 35), (3, 36)]) hK hO k_h0 rfl hP hD hS hA hE [] rfl rfl rfl) rfl rfl hl.1 rfl (lv_room (Nat.le_of_ble_eq_true rfl)) dKM_decrypt_161 ⟨by omega, by omega⟩) (fun  u25 H locs hu25 hP hD hS => ?_)
      obtain ⟨s26, pl⟩ := u25
      obtain ⟨⟨eq25, hFc25, -⟩, hO⟩ := hu25
      have hO : okn g T s26 pl := hO
      have hP : va_P g.1 vcl ([] ++ pl) _ := hP
      have hD : va_D _ ([] ++ pl) := hD
      have hFc25 : frm (M_KM_writeRounded 31 32) s25 s26 := hFc25
      replace hR := bnd_step hR eq25
      have hF := frm_tr hF hFc25 (fun k hk => by unfold M_KM_writeRounded at hk; unfold M_KM_decrypt_2; omega)
      refine W.widen (k := 0) (n := 0) (by omega) (by omega) ?_
      exact mp_vret hx hb hr hlk hP hD hS (s26, pl) ⟨⟨hR.symm, hF, trivial⟩, hO⟩ [] rfl rfl rfl (by omega) (by omega) dKM_decrypt_164
    | succ n21 ih21 =>
      intro i21 s22 pl ls H locs hm21 hF hR hl hO hP hD hS
      refine lv_iload hx hb dKM_decrypt_11 (lv_at hl 0 rfl) ?_
      refine lv_aload_n hx hb dKM_decrypt_13 rfl (lv_at hl 2 rfl) ?_
      refine nw_get (C := "LatticeKeys$KemSet") (TT := T_KS) (N := 10) hx hb hts (wg_ft i_KS) hown hK hO k_st (kn := 7) (ci := 1) (fl := [(1, 4), (1, 2), (1, 11), (1, 5), (1, 1568), (1, 3168), (1, 1568), (1, 1536), (1, 3104), (1, 3136)]) rfl hP rfl 0 (by decide) (hts _ (wg_t kw_231)) (fun _ h9 => h9) (cd := (1, 4)) rfl dKM_decrypt_14 (fun v34 hv34 => ?_)
      obtain rfl := (show v34 = .int (nI 4) from hv34)
      refine mi_ge (tgt := 99) hx hb dKM_decrypt_17 (by decide) (by omega) (by omega) (fun h22 => absurd h22 (by omega)) (fun h22 => ?_)
      refine lv_aload_n hx hb dKM_decrypt_20 rfl (lv_at hl 1 rfl) ?_
      refine lv_aload_n hx hb dKM_decrypt_21 rfl (lv_at hl 1 rfl) ?_
      refine nw_get (C := "LatticeKeys$Kem") (TT := T_KM) (N := 10) hx hb hts (wg_ft i_KM) hown hK hO k_h0 (kn := 24) (ci := 5) (fl := [(3, 14), (3, 20), (3, 25), (3, 30), (3, 31), (3, 32), (3, 33), (3, 34), (3, 35), (3, 36)]) rfl hP rfl 2 (by decide) (hts _ (wg_t kw_109)) (fun _ h9 => h9) (cd := (3, 25)) rfl dKM_decrypt_22 (fun v35 hv35 => ?_)
      obtain ⟨r30, rfl, kr30⟩ := (show ∃ r : Nat, v35 = .ref r ∧ T r = some 25 from hv35)
      refine lv_iload hx hb dKM_decrypt_25 (lv_at hl 0 rfl) ?_
      refine nw_aald3 hx hb hK hO kr30 (k := 25) (b := 26) rfl hP (by omega) (by omega) dKM_decrypt_27 (fun r31 kr31 => ?_)
      have hn21 : nsp (26 + i21) = (0, 256, []) := rows_ok 26 4 (by decide) _ (by omega)
      refine lv_aload_n hx hb dKM_decrypt_28 rfl (lv_at hl 2 rfl) ?_
      refine nw_get (C := "LatticeKeys$KemSet") (TT := T_KS) (N := 10) hx hb hts (wg_ft i_KS) hown hK hO k_st (kn := 7) (ci := 1) (fl := [(1, 4), (1, 2), (1, 11), (1, 5), (1, 1568), (1, 3168), (1, 1568), (1, 1536), (1, 3104), (1, 3136)]) rfl hP rfl 2 (by decide) (hts _ (wg_t kw_235)) (fun _ h9 => h9) (cd := (1, 11)) rfl dKM_decrypt_29 (fun v36 hv36 => ?_)
      obtain rfl := (show v36 = .int (nI 11) from hv36)
      refine lv_aload_n hx hb dKM_decrypt_32 rfl (lv_at hl 4 rfl) ?_
      refine lv_bipush (v := nI 32) hx hb dKM_decrypt_33 (by decide) ?_
      refine lv_aload_n hx hb dKM_decrypt_35 rfl (lv_at hl 2 rfl) ?_
      refine nw_get (C := "LatticeKeys$KemSet") (TT := T_KS) (N := 10) hx hb hts (wg_ft i_KS) hown hK hO k_st (kn := 7) (ci := 1) (fl := [(1, 4), (1, 2), (1, 11), (1, 5), (1, 1568), (1, 3168), (1, 1568), (1, 1536), (1, 3104), (1, 3136)]) rfl hP rfl 2 (by decide) (hts _ (wg_t kw_235)) (fun _ h9 => h9) (cd := (1, 11)) rfl dKM_decrypt_36 (fun v37 hv37 => ?_)
      obtain rfl := (show v37 = .int (nI 11) from hv37)
      refine mi_imul hx hb dKM_decrypt_39 ?_
      refine mi_as (show nI (32 * 11) = nI 352 from rfl) ?_
      refine lv_iload hx hb dKM_decrypt_40 (lv_at hl 0 rfl) ?_
      refine mi_imul hx hb dKM_decrypt_42 ?_
      refine mp_v (cx := []) (wr := []) hP hD hS hA [] [] rfl rfl rfl (by decide) (va_runV (As := [.ref r31, .int (nI 11), .ref ct, .int (nI (352 * i21))]) (rest := []) F (N_KM_readRounded l g _ T s22 pl hO hU h0 r31 ct (26 + i21) 11 pc_ n (352 * i21) k_h0 kr31 hn21 k_ct n_ct (by omega) (by omega) (by omega) (by omega)) (cwV 4 hts (wg_app (wg_c kw_1133 (wg_c kw_1135 (wg_c ks_30 (wg_c kw_3 wg_n)))) kw_1136) rfl rfl rfl (by decide +kernel) ⟨by decide, by decide⟩) (pn_W "LatticeKeys$Kem" (en_ok g) (ci := 5) (kn := 24) (fl := [(3, 14), (3, 20), (3, 25), (3, 30), (3, 31), (3, 32), (3, 33), (3, 34), (3, 35), (3, 36)]) hK hO k_h0 rfl hP hD hS hA hE [] rfl rfl rfl) rfl rfl hl.1 rfl (lv_room (Nat.le_of_ble_eq_true rfl)) dKM_decrypt_43 ⟨by omega, by omega⟩) (fun  u26 H locs hu26 hP hD hS => ?_)
      obtain ⟨s27, pl⟩ := u26
      obtain ⟨⟨eq26, hFc26, -⟩, hO⟩ := hu26
      have hO : okn g T s27 pl := hO
      have hP : va_P g.1 vcl ([] ++ pl) _ := hP
      have hD : va_D _ ([] ++ pl) := hD
      have hFc26 : frm (M_KM_readRounded (26 + i21)) s22 s27 := hFc26
      replace hR := bnd_step hR eq26
      have hF := frm_tr hF hFc26 (fun k hk => by unfold M_KM_readRounded at hk; unfold M_KM_decrypt_2; omega)
      refine W.widen (k := 0) (n := 0) (by omega) (by omega) ?_
      refine lv_aload_n hx hb dKM_decrypt_46 rfl (lv_at hl 1 rfl) ?_
      refine nw_get (C := "LatticeKeys$Kem") (TT := T_KM) (N := 10) hx hb hts (wg_ft i_KM) hown hK hO k_h0 (kn := 24) (ci := 5) (fl := [(3, 14), (3, 20), (3, 25), (3, 30), (3, 31), (3, 32), (3, 33), (3, 34), (3, 35), (3, 36)]) rfl hP rfl 1 (by decide) (hts _ (wg_t kw_108)) (fun _ h9 => h9) (cd := (3, 20)) rfl dKM_decrypt_47 (fun v38 hv38 => ?_)
      obtain ⟨r32, rfl, kr32⟩ := (show ∃ r : Nat, v38 = .ref r ∧ T r = some 20 from hv38)
      refine lv_aload_n hx hb dKM_decrypt_50 rfl (lv_at hl 1 rfl) ?_
      refine nw_get (C := "LatticeKeys$Kem") (TT := T_KM) (N := 10) hx hb hts (wg_ft i_KM) hown hK hO k_h0 (kn := 24) (ci := 5) (fl := [(3, 14), (3, 20), (3, 25), (3, 30), (3, 31), (3, 32), (3, 33), (3, 34), (3, 35), (3, 36)]) rfl hP rfl 2 (by decide) (hts _ (wg_t kw_109)) (fun _ h9 => h9) (cd := (3, 25)) rfl dKM_decrypt_51 (fun v39 hv39 => ?_)
      obtain ⟨r33, rfl, kr33⟩ := (show ∃ r : Nat, v39 = .ref r ∧ T r = some 25 from hv39)
      refine lv_iload hx hb dKM_decrypt_54 (lv_at hl 0 rfl) ?_
      refine nw_aald3 hx hb hK hO kr33 (k := 25) (b := 26) rfl hP (by omega) (by omega) dKM_decrypt_56 (fun r34 kr34 => ?_)
      have hn22 : nsp (26 + i21) = (0, 256, []) := rows_ok 26 4 (by decide) _ (by omega)
      refine mp_v (cx := []) (wr := []) hP hD hS hA [] [] rfl rfl rfl (by decide) (va_runV (As := [.ref r34]) (rest := []) F (N_RG_transform_7 l g _ T s27 pl hO hU r32 r34 (26 + i21) kr32 kr34 hn22) (cwV 1 hts (wg_app (wg_c kw_636 (wg_c kw_637 (wg_c kw_638 (wg_c kw_4 wg_n)))) kw_639) rfl rfl rfl (by decide +kernel) ⟨by decide, by decide⟩) (pn_W "LatticeKeys$Ring" (en_ok g) (ci := 4) (kn := 20) (fl := [(1, 3329), (1, 7), (1, 3303), (3, 21)]) hK hO kr32 rfl hP hD hS hA hE [] rfl rfl rfl) rfl rfl hl.1 rfl (lv_room (Nat.le_of_ble_eq_true rfl)) dKM_decrypt_57 ⟨by omega, by omega⟩) (fun  u27 H locs hu27 hP hD hS => ?_)
      obtain ⟨s28, pl⟩ := u27
      obtain ⟨⟨eq27, hFc27, -⟩, hO⟩ := hu27
      have hO : okn g T s28 pl := hO
      have hP : va_P g.1 vcl ([] ++ pl) _ := hP
      have hD : va_D _ ([] ++ pl) := hD
      have hFc27 : frm (M_RG_transform_7 (26 + i21)) s27 s28 := hFc27
      replace hR := bnd_step hR eq27
      have hF := frm_tr hF hFc27 (fun k hk => by unfold M_RG_transform_7 at hk; unfold M_KM_decrypt_2; omega)
      refine W.widen (k := 0) (n := 0) (by omega) (by omega) ?_
      refine lv_aload_n hx hb dKM_decrypt_60 rfl (lv_at hl 1 rfl) ?_
      refine lv_aload_n hx hb dKM_decrypt_61 rfl (lv_at hl 3 rfl) ?_
      refine lv_sipush (v := nI 384) hx hb dKM_decrypt_62 (by decide) ?_
      refine lv_iload hx hb dKM_decrypt_65 (lv_at hl 0 rfl) ?_
      refine mi_imul hx hb dKM_decrypt_67 ?_
      refine mp_v (cx := []) (wr := []) hP hD hS hA [] [] rfl rfl rfl (by decide) (va_runV (As := [.ref sk, .int (nI (384 * i21))]) (rest := []) F (N_KM_readReduced l g _ T s28 pl hO hU h0 sk psk 3168 (384 * i21) k_h0 k_sk n_sk (by omega) (by omega)) (cwV 2 hts (wg_app (wg_c kw_1129 (wg_c kw_1131 (wg_c ks_29 (wg_c kw_3 wg_n)))) kw_1132) rfl rfl rfl (by decide +kernel) ⟨by decide, by decide⟩) (pn_W "LatticeKeys$Kem" (en_ok g) (ci := 5) (kn := 24) (fl := [(3, 14), (3, 20), (3, 25), (3, 30), (3, 31), (3, 32), (3, 33), (3, 34), (3, 35), (3, 36)]) hK hO k_h0 rfl hP hD hS hA hE [] rfl rfl rfl) rfl rfl hl.1 rfl (lv_room (Nat.le_of_ble_eq_true rfl)) dKM_decrypt_68 ⟨by omega, by omega⟩) (fun  u28 H locs hu28 hP hD hS => ?_)
      obtain ⟨s29, pl⟩ := u28
      obtain ⟨⟨eq28, hFc28, -⟩, hO⟩ := hu28
      have hO : okn g T s29 pl := hO
      have hP : va_P g.1 vcl ([] ++ pl) _ := hP
      have hD : va_D _ ([] ++ pl) := hD
      have hFc28 : frm (M_KM_readReduced) s28 s29 := hFc28
      replace hR := bnd_step hR eq28
      have hF := frm_tr hF hFc28 (fun k hk => by unfold M_KM_readReduced at hk; unfold M_KM_decrypt_2; omega)
      refine W.widen (k := 0) (n := 0) (by omega) (by omega) ?_
      refine lv_aload_n hx hb dKM_decrypt_71 rfl (lv_at hl 1 rfl) ?_
      refine nw_get (C := "LatticeKeys$Kem") (TT := T_KM) (N := 10) hx hb hts (wg_ft i_KM) hown hK hO k_h0 (kn := 24) (ci := 5) (fl := [(3, 14), (3, 20), (3, 25), (3, 30), (3, 31), (3, 32), (3, 33), (3, 34), (3, 35), (3, 36)]) rfl hP rfl 1 (by decide) (hts _ (wg_t kw_108)) (fun _ h9 => h9) (cd := (3, 20)) rfl dKM_decrypt_72 (fun v40 hv40 => ?_)
      obtain ⟨r35, rfl, kr35⟩ := (show ∃ r : Nat, v40 = .ref r ∧ T r = some 20 from hv40)
      refine lv_aload_n hx hb dKM_decrypt_75 rfl (lv_at hl 1 rfl) ?_
      refine nw_get (C := "LatticeKeys$Kem") (TT := T_KM) (N := 10) hx hb hts (wg_ft i_KM) hown hK hO k_h0 (kn := 24) (ci := 5) (fl := [(3, 14), (3, 20), (3, 25), (3, 30), (3, 31), (3, 32), (3, 33), (3, 34), (3, 35), (3, 36)]) rfl hP rfl 3 (by decide) (hts _ (wg_t kw_110)) (fun _ h9 => h9) (cd := (3, 30)) rfl dKM_decrypt_76 (fun v41 hv41 => ?_)
      obtain ⟨r36, rfl, kr36⟩ := (show ∃ r : Nat, v41 = .ref r ∧ T r = some 30 from hv41)
      refine lv_aload_n hx hb dKM_decrypt_79 rfl (lv_at hl 1 rfl) ?_
      refine nw_get (C := "LatticeKeys$Kem") (TT := T_KM) (N := 10) hx hb hts (wg_ft i_KM) hown hK hO k_h0 (kn := 24) (ci := 5) (fl := [(3, 14), (3, 20), (3, 25), (3, 30), (3, 31), (3, 32), (3, 33), (3, 34), (3, 35), (3, 36)]) rfl hP rfl 4 (by decide) (hts _ (wg_t kw_111)) (fun _ h9 => h9) (cd := (3, 31)) rfl dKM_decrypt_80 (fun v42 hv42 => ?_)
      obtain ⟨r37, rfl, kr37⟩ := (show ∃ r : Nat, v42 = .ref r ∧ T r = some 31 from hv42)
      refine lv_aload_n hx hb dKM_decrypt_83 rfl (lv_at hl 1 rfl) ?_
      refine nw_get (C := "LatticeKeys$Kem") (TT := T_KM) (N := 10) hx hb hts (wg_ft i_KM) hown hK hO k_h0 (kn := 24) (ci := 5) (fl := [(3, 14), (3, 20), (3, 25), (3, 30), (3, 31), (3, 32), (3, 33), (3, 34), (3, 35), (3, 36)]) rfl hP rfl 2 (by decide) (hts _ (wg_t kw_109)) (fun _ h9 => h9) (cd := (3, 25)) rfl dKM_decrypt_84 (fun v43 hv43 => ?_)
      obtain ⟨r38, rfl, kr38⟩ := (show ∃ r : Nat, v43 = .ref r ∧ T r = some 25 from hv43)
      refine lv_iload hx hb dKM_decrypt_87 (lv_at hl 0 rfl) ?_
      refine nw_aald3 hx hb hK hO kr38 (k := 25) (b := 26) rfl hP (by omega) (by omega) dKM_decrypt_89 (fun r39 kr39 => ?_)
      have hn23 : nsp (26 + i21) = (0, 256, []) := rows_ok 26 4 (by decide) _ (by omega)
      refine mp_v (cx := []) (wr := []) hP hD hS hA [] [] rfl rfl rfl (by decide) (va_runV (As := [.ref r36, .ref r37, .ref r39]) (rest := []) F (N_RG_addProduct_7 l g _ T s29 pl hO hU r35 r36 r37 r39 30 31 (26 + i21) kr35 kr36 rfl kr37 rfl kr39 hn23) (cwV 3 hts (wg_app (wg_c kw_653 (wg_c kw_654 (wg_c kw_655 (wg_c kw_4 wg_n)))) kw_656) rfl rfl rfl (by decide +kernel) ⟨by decide, by decide⟩) (pn_W "LatticeKeys$Ring" (en_ok g) (ci := 4) (kn := 20) (fl := [(1, 3329), (1, 7), (1, 3303), (3, 21)]) hK hO kr35 rfl hP hD hS hA hE [] rfl rfl rfl) rfl rfl hl.1 rfl (lv_room (Nat.le_of_ble_eq_true rfl)) dKM_decrypt_90 ⟨by omega, by omega⟩) (fun  u29 H locs hu29 hP hD hS => ?_)
      obtain ⟨s30, pl⟩ := u29
      obtain ⟨⟨eq29, hFc29, -⟩, hO⟩ := hu29
      have hO : okn g T s30 pl := hO
      have hP : va_P g.1 vcl ([] ++ pl) _ := hP
      have hD : va_D _ ([] ++ pl) := hD
      have hFc29 : frm (M_RG_addProduct_7 30) s29 s30 := hFc29
      replace hR := bnd_step hR eq29
      have hF := frm_tr hF hFc29 (fun k hk => by unfold M_RG_addProduct_7 at hk; unfold M_KM_decrypt_2; omega)
      refine W.widen (k := 0) (n := 0) (by omega) (by omega) ?_
      refine mi_iinc (k := 0) (x := i21) (d := 1) (y := i21 + 1) (lv' := [(4, .int (nI (i21 + 1))), (0, .ref h0), (1, .ref st), (2, .ref sk), (3, .ref ct)]) hx hb dKM_decrypt_93 hl rfl (by decide) rfl (by decide) rfl (fun ls hl => ?_)
      refine lv_goto (tgt := 11) hx hb dKM_decrypt_96 (by decide) ?_
      exact ih21 (i21 + 1) s30 pl ls H locs (by omega) hF hR (lv_sub hl [0, 1, 2, 3, 4] rfl) hO hP hD hS
  exact lp21 4 0 s21 pl ls _ _ (by omega) hF hR (lv_sub hl [0, 1, 2, 3, 4] rfl) hO hP hD hS
