abbrev c_KM_encrypt : ByteArray := prog_6_method_9_code
abbrev y_KM_encrypt : MethodName := ⟨"LatticeKeys$Kem", "encrypt", "(LLatticeKeys$KemSet;[B[B)V"⟩
abbrev w_KM_encrypt : List Cond := Cond.code y_KM_encrypt c_KM_encrypt 6 none :: WG
theorem dKM_encrypt_0 : decode c_KM_encrypt 0 = .ok (.iconst 0, 1) := by decide +kernel
theorem dKM_encrypt_1 : decode c_KM_encrypt 1 = .ok (.istore 4, 2) := by decide +kernel
theorem dKM_encrypt_3 : decode c_KM_encrypt 3 = .ok (.iload 4, 2) := by decide +kernel
theorem dKM_encrypt_5 : decode c_KM_encrypt 5 = .ok (.aload_n 1, 1) := by decide +kernel
theorem dKM_encrypt_6 : decode c_KM_encrypt 6 = .ok (.getfield 61, 3) := by decide +kernel
theorem dKM_encrypt_9 : decode c_KM_encrypt 9 = .ok (.if_icmp .ge 40, 3) := by decide +kernel
theorem dKM_encrypt_12 : decode c_KM_encrypt 12 = .ok (.aload_n 0, 1) := by decide +kernel
theorem dKM_encrypt_13 : decode c_KM_encrypt 13 = .ok (.aload_n 0, 1) := by decide +kernel
theorem dKM_encrypt_14 : decode c_KM_encrypt 14 = .ok (.getfield 27, 3) := by decide +kernel
theorem dKM_encrypt_17 : decode c_KM_encrypt 17 = .ok (.iload 4, 2) := by decide +kernel
theorem dKM_encrypt_19 : decode c_KM_encrypt 19 = .ok (.aaload, 1) := by decide +kernel
theorem dKM_encrypt_20 : decode c_KM_encrypt 20 = .ok (.aload_n 1, 1) := by decide +kernel
theorem dKM_encrypt_21 : decode c_KM_encrypt 21 = .ok (.getfield 85, 3) := by decide +kernel
theorem dKM_encrypt_24 : decode c_KM_encrypt 24 = .ok (.iload 4, 2) := by decide +kernel
theorem dKM_encrypt_26 : decode c_KM_encrypt 26 = .ok (.invokevirtual 88, 3) := by decide +kernel
theorem dKM_encrypt_29 : decode c_KM_encrypt 29 = .ok (.aload_n 0, 1) := by decide +kernel
theorem dKM_encrypt_30 : decode c_KM_encrypt 30 = .ok (.getfield 21, 3) := by decide +kernel
theorem dKM_encrypt_33 : decode c_KM_encrypt 33 = .ok (.aload_n 0, 1) := by decide +kernel
theorem dKM_encrypt_34 : decode c_KM_encrypt 34 = .ok (.getfield 27, 3) := by decide +kernel
theorem dKM_encrypt_37 : decode c_KM_encrypt 37 = .ok (.iload 4, 2) := by decide +kernel
theorem dKM_encrypt_39 : decode c_KM_encrypt 39 = .ok (.aaload, 1) := by decide +kernel
theorem dKM_encrypt_40 : decode c_KM_encrypt 40 = .ok (.invokevirtual 92, 3) := by decide +kernel
theorem dKM_encrypt_43 : decode c_KM_encrypt 43 = .ok (.iinc 4 1, 3) := by decide +kernel
theorem dKM_encrypt_46 : decode c_KM_encrypt 46 = .ok (.goto (-43), 3) := by decide +kernel
theorem dKM_encrypt_49 : decode c_KM_encrypt 49 = .ok (.iconst 0, 1) := by decide +kernel
theorem dKM_encrypt_50 : decode c_KM_encrypt 50 = .ok (.istore 4, 2) := by decide +kernel
theorem dKM_encrypt_52 : decode c_KM_encrypt 52 = .ok (.iload 4, 2) := by decide +kernel
theorem dKM_encrypt_54 : decode c_KM_encrypt 54 = .ok (.aload_n 1, 1) := by decide +kernel
theorem dKM_encrypt_55 : decode c_KM_encrypt 55 = .ok (.getfield 61, 3) := by decide +kernel
theorem dKM_encrypt_58 : decode c_KM_encrypt 58 = .ok (.if_icmp .ge 138, 3) := by decide +kernel
theorem dKM_encrypt_61 : decode c_KM_encrypt 61 = .ok (.aload_n 0, 1) := by decide +kernel
theorem dKM_encrypt_62 : decode c_KM_encrypt 62 = .ok (.getfield 30, 3) := by decide +kernel
theorem dKM_encrypt_65 : decode c_KM_encrypt 65 = .ok (.iconst 0, 1) := by decide +kernel
theorem dKM_encrypt_66 : decode c_KM_encrypt 66 = .ok (.invokestatic 147, 3) := by decide +kernel
theorem dKM_encrypt_69 : decode c_KM_encrypt 69 = .ok (.iconst 0, 1) := by decide +kernel
theorem dKM_encrypt_70 : decode c_KM_encrypt 70 = .ok (.istore 5, 2) := by decide +kernel
theorem dKM_encrypt_72 : decode c_KM_encrypt 72 = .ok (.iload 5, 2) := by decide +kernel
theorem dKM_encrypt_74 : decode c_KM_encrypt 74 = .ok (.aload_n 1, 1) := by decide +kernel
theorem dKM_encrypt_75 : decode c_KM_encrypt 75 = .ok (.getfield 61, 3) := by decide +kernel
theorem dKM_encrypt_78 : decode c_KM_encrypt 78 = .ok (.if_icmp .ge 47, 3) := by decide +kernel
theorem dKM_encrypt_81 : decode c_KM_encrypt 81 = .ok (.aload_n 0, 1) := by decide +kernel
theorem dKM_encrypt_82 : decode c_KM_encrypt 82 = .ok (.aload_n 2, 1) := by decide +kernel
theorem dKM_encrypt_83 : decode c_KM_encrypt 83 = .ok (.aload_n 1, 1) := by decide +kernel
theorem dKM_encrypt_84 : decode c_KM_encrypt 84 = .ok (.getfield 76, 3) := by decide +kernel
theorem dKM_encrypt_87 : decode c_KM_encrypt 87 = .ok (.bipush 32, 2) := by decide +kernel
theorem dKM_encrypt_89 : decode c_KM_encrypt 89 = .ok (.isub, 1) := by decide +kernel
theorem dKM_encrypt_90 : decode c_KM_encrypt 90 = .ok (.iload 4, 2) := by decide +kernel
theorem dKM_encrypt_92 : decode c_KM_encrypt 92 = .ok (.iload 5, 2) := by decide +kernel
theorem dKM_encrypt_94 : decode c_KM_encrypt 94 = .ok (.invokevirtual 102, 3) := by decide +kernel
theorem dKM_encrypt_97 : decode c_KM_encrypt 97 = .ok (.aload_n 0, 1) := by decide +kernel
theorem dKM_encrypt_98 : decode c_KM_encrypt 98 = .ok (.getfield 21, 3) := by decide +kernel
theorem dKM_encrypt_101 : decode c_KM_encrypt 101 = .ok (.aload_n 0, 1) := by decide +kernel
theorem dKM_encrypt_102 : decode c_KM_encrypt 102 = .ok (.getfield 30, 3) := by decide +kernel
theorem dKM_encrypt_105 : decode c_KM_encrypt 105 = .ok (.aload_n 0, 1) := by decide +kernel
theorem dKM_encrypt_106 : decode c_KM_encrypt 106 = .ok (.getfield 34, 3) := by decide +kernel
theorem dKM_encrypt_109 : decode c_KM_encrypt 109 = .ok (.aload_n 0, 1) := by decide +kernel
theorem dKM_encrypt_110 : decode c_KM_encrypt 110 = .ok (.getfield 27, 3) := by decide +kernel
theorem dKM_encrypt_113 : decode c_KM_encrypt 113 = .ok (.iload 5, 2) := by decide +kernel
theorem dKM_encrypt_115 : decode c_KM_encrypt 115 = .ok (.aaload, 1) := by decide +kernel
theorem dKM_encrypt_116 : decode c_KM_encrypt 116 = .ok (.invokevirtual 106, 3) := by decide +kernel
theorem dKM_encrypt_119 : decode c_KM_encrypt 119 = .ok (.iinc 5 1, 3) := by decide +kernel
theorem dKM_encrypt_122 : decode c_KM_encrypt 122 = .ok (.goto (-50), 3) := by decide +kernel
theorem dKM_encrypt_125 : decode c_KM_encrypt 125 = .ok (.aload_n 0, 1) := by decide +kernel
theorem dKM_encrypt_126 : decode c_KM_encrypt 126 = .ok (.getfield 21, 3) := by decide +kernel
theorem dKM_encrypt_129 : decode c_KM_encrypt 129 = .ok (.aload_n 0, 1) := by decide +kernel
theorem dKM_encrypt_130 : decode c_KM_encrypt 130 = .ok (.getfield 30, 3) := by decide +kernel
theorem dKM_encrypt_133 : decode c_KM_encrypt 133 = .ok (.invokevirtual 153, 3) := by decide +kernel
theorem dKM_encrypt_136 : decode c_KM_encrypt 136 = .ok (.aload_n 0, 1) := by decide +kernel
theorem dKM_encrypt_137 : decode c_KM_encrypt 137 = .ok (.aload_n 0, 1) := by decide +kernel
theorem dKM_encrypt_138 : decode c_KM_encrypt 138 = .ok (.getfield 34, 3) := by decide +kernel
theorem dKM_encrypt_141 : decode c_KM_encrypt 141 = .ok (.iconst 2, 1) := by decide +kernel
theorem dKM_encrypt_142 : decode c_KM_encrypt 142 = .ok (.aload_n 1, 1) := by decide +kernel
theorem dKM_encrypt_143 : decode c_KM_encrypt 143 = .ok (.getfield 61, 3) := by decide +kernel
theorem dKM_encrypt_146 : decode c_KM_encrypt 146 = .ok (.iload 4, 2) := by decide +kernel
theorem dKM_encrypt_148 : decode c_KM_encrypt 148 = .ok (.iadd, 1) := by decide +kernel
theorem dKM_encrypt_149 : decode c_KM_encrypt 149 = .ok (.invokevirtual 88, 3) := by decide +kernel
theorem dKM_encrypt_152 : decode c_KM_encrypt 152 = .ok (.aload_n 0, 1) := by decide +kernel
theorem dKM_encrypt_153 : decode c_KM_encrypt 153 = .ok (.getfield 21, 3) := by decide +kernel
theorem dKM_encrypt_156 : decode c_KM_encrypt 156 = .ok (.aload_n 0, 1) := by decide +kernel
theorem dKM_encrypt_157 : decode c_KM_encrypt 157 = .ok (.getfield 30, 3) := by decide +kernel
theorem dKM_encrypt_160 : decode c_KM_encrypt 160 = .ok (.aload_n 0, 1) := by decide +kernel
theorem dKM_encrypt_161 : decode c_KM_encrypt 161 = .ok (.getfield 34, 3) := by decide +kernel
theorem dKM_encrypt_164 : decode c_KM_encrypt 164 = .ok (.invokevirtual 156, 3) := by decide +kernel
theorem dKM_encrypt_167 : decode c_KM_encrypt 167 = .ok (.aload_n 0, 1) := by decide +kernel
theorem dKM_encrypt_168 : decode c_KM_encrypt 168 = .ok (.aload_n 0, 1) := by decide +kernel
theorem dKM_encrypt_169 : decode c_KM_encrypt 169 = .ok (.getfield 30, 3) := by decide +kernel
theorem dKM_encrypt_172 : decode c_KM_encrypt 172 = .ok (.aload_n 1, 1) := by decide +kernel
theorem dKM_encrypt_173 : decode c_KM_encrypt 173 = .ok (.getfield 160, 3) := by decide +kernel
theorem dKM_encrypt_176 : decode c_KM_encrypt 176 = .ok (.aload_n 3, 1) := by decide +kernel
theorem dKM_encrypt_177 : decode c_KM_encrypt 177 = .ok (.bipush 32, 2) := by decide +kernel
theorem dKM_encrypt_179 : decode c_KM_encrypt 179 = .ok (.aload_n 1, 1) := by decide +kernel
theorem dKM_encrypt_180 : decode c_KM_encrypt 180 = .ok (.getfield 160, 3) := by decide +kernel
theorem dKM_encrypt_183 : decode c_KM_encrypt 183 = .ok (.imul, 1) := by decide +kernel
theorem dKM_encrypt_184 : decode c_KM_encrypt 184 = .ok (.iload 4, 2) := by decide +kernel
theorem dKM_encrypt_186 : decode c_KM_encrypt 186 = .ok (.imul, 1) := by decide +kernel
theorem dKM_encrypt_187 : decode c_KM_encrypt 187 = .ok (.invokevirtual 163, 3) := by decide +kernel
theorem dKM_encrypt_190 : decode c_KM_encrypt 190 = .ok (.iinc 4 1, 3) := by decide +kernel
theorem dKM_encrypt_193 : decode c_KM_encrypt 193 = .ok (.goto (-141), 3) := by decide +kernel
theorem dKM_encrypt_196 : decode c_KM_encrypt 196 = .ok (.aload_n 0, 1) := by decide +kernel
theorem dKM_encrypt_197 : decode c_KM_encrypt 197 = .ok (.getfield 30, 3) := by decide +kernel
theorem dKM_encrypt_200 : decode c_KM_encrypt 200 = .ok (.iconst 0, 1) := by decide +kernel
theorem dKM_encrypt_201 : decode c_KM_encrypt 201 = .ok (.invokestatic 147, 3) := by decide +kernel
theorem dKM_encrypt_204 : decode c_KM_encrypt 204 = .ok (.iconst 0, 1) := by decide +kernel
theorem dKM_encrypt_205 : decode c_KM_encrypt 205 = .ok (.istore 4, 2) := by decide +kernel
theorem dKM_encrypt_207 : decode c_KM_encrypt 207 = .ok (.iload 4, 2) := by decide +kernel
theorem dKM_encrypt_209 : decode c_KM_encrypt 209 = .ok (.aload_n 1, 1) := by decide +kernel
theorem dKM_encrypt_210 : decode c_KM_encrypt 210 = .ok (.getfield 61, 3) := by decide +kernel
theorem dKM_encrypt_213 : decode c_KM_encrypt 213 = .ok (.if_icmp .ge 42, 3) := by decide +kernel
theorem dKM_encrypt_216 : decode c_KM_encrypt 216 = .ok (.aload_n 0, 1) := by decide +kernel
theorem dKM_encrypt_217 : decode c_KM_encrypt 217 = .ok (.aload_n 2, 1) := by decide +kernel
theorem dKM_encrypt_218 : decode c_KM_encrypt 218 = .ok (.sipush 384, 3) := by decide +kernel
theorem dKM_encrypt_221 : decode c_KM_encrypt 221 = .ok (.iload 4, 2) := by decide +kernel
theorem dKM_encrypt_223 : decode c_KM_encrypt 223 = .ok (.imul, 1) := by decide +kernel
theorem dKM_encrypt_224 : decode c_KM_encrypt 224 = .ok (.invokevirtual 166, 3) := by decide +kernel
theorem dKM_encrypt_227 : decode c_KM_encrypt 227 = .ok (.aload_n 0, 1) := by decide +kernel
theorem dKM_encrypt_228 : decode c_KM_encrypt 228 = .ok (.getfield 21, 3) := by decide +kernel
theorem dKM_encrypt_231 : decode c_KM_encrypt 231 = .ok (.aload_n 0, 1) := by decide +kernel
theorem dKM_encrypt_232 : decode c_KM_encrypt 232 = .ok (.getfield 30, 3) := by decide +kernel
theorem dKM_encrypt_235 : decode c_KM_encrypt 235 = .ok (.aload_n 0, 1) := by decide +kernel
theorem dKM_encrypt_236 : decode c_KM_encrypt 236 = .ok (.getfield 34, 3) := by decide +kernel
theorem dKM_encrypt_239 : decode c_KM_encrypt 239 = .ok (.aload_n 0, 1) := by decide +kernel
theorem dKM_encrypt_240 : decode c_KM_encrypt 240 = .ok (.getfield 27, 3) := by decide +kernel
theorem dKM_encrypt_243 : decode c_KM_encrypt 243 = .ok (.iload 4, 2) := by decide +kernel
theorem dKM_encrypt_245 : decode c_KM_encrypt 245 = .ok (.aaload, 1) := by decide +kernel
theorem dKM_encrypt_246 : decode c_KM_encrypt 246 = .ok (.invokevirtual 106, 3) := by decide +kernel
theorem dKM_encrypt_249 : decode c_KM_encrypt 249 = .ok (.iinc 4 1, 3) := by decide +kernel
theorem dKM_encrypt_252 : decode c_KM_encrypt 252 = .ok (.goto (-45), 3) := by decide +kernel
theorem dKM_encrypt_255 : decode c_KM_encrypt 255 = .ok (.aload_n 0, 1) := by decide +kernel
theorem dKM_encrypt_256 : decode c_KM_encrypt 256 = .ok (.getfield 21, 3) := by decide +kernel
theorem dKM_encrypt_259 : decode c_KM_encrypt 259 = .ok (.aload_n 0, 1) := by decide +kernel
theorem dKM_encrypt_260 : decode c_KM_encrypt 260 = .ok (.getfield 30, 3) := by decide +kernel
theorem dKM_encrypt_263 : decode c_KM_encrypt 263 = .ok (.invokevirtual 153, 3) := by decide +kernel
theorem dKM_encrypt_266 : decode c_KM_encrypt 266 = .ok (.aload_n 0, 1) := by decide +kernel
theorem dKM_encrypt_267 : decode c_KM_encrypt 267 = .ok (.aload_n 0, 1) := by decide +kernel
theorem dKM_encrypt_268 : decode c_KM_encrypt 268 = .ok (.getfield 34, 3) := by decide +kernel
theorem dKM_encrypt_271 : decode c_KM_encrypt 271 = .ok (.iconst 2, 1) := by decide +kernel
theorem dKM_encrypt_272 : decode c_KM_encrypt 272 = .ok (.iconst 2, 1) := by decide +kernel
theorem dKM_encrypt_273 : decode c_KM_encrypt 273 = .ok (.aload_n 1, 1) := by decide +kernel
theorem dKM_encrypt_274 : decode c_KM_encrypt 274 = .ok (.getfield 61, 3) := by decide +kernel
theorem dKM_encrypt_277 : decode c_KM_encrypt 277 = .ok (.imul, 1) := by decide +kernel
theorem dKM_encrypt_278 : decode c_KM_encrypt 278 = .ok (.invokevirtual 88, 3) := by decide +kernel
theorem dKM_encrypt_281 : decode c_KM_encrypt 281 = .ok (.aload_n 0, 1) := by decide +kernel
theorem dKM_encrypt_282 : decode c_KM_encrypt 282 = .ok (.getfield 21, 3) := by decide +kernel
theorem dKM_encrypt_285 : decode c_KM_encrypt 285 = .ok (.aload_n 0, 1) := by decide +kernel
theorem dKM_encrypt_286 : decode c_KM_encrypt 286 = .ok (.getfield 30, 3) := by decide +kernel
theorem dKM_encrypt_289 : decode c_KM_encrypt 289 = .ok (.aload_n 0, 1) := by decide +kernel
theorem dKM_encrypt_290 : decode c_KM_encrypt 290 = .ok (.getfield 34, 3) := by decide +kernel
theorem dKM_encrypt_293 : decode c_KM_encrypt 293 = .ok (.invokevirtual 156, 3) := by decide +kernel
theorem dKM_encrypt_296 : decode c_KM_encrypt 296 = .ok (.aload_n 0, 1) := by decide +kernel
theorem dKM_encrypt_297 : decode c_KM_encrypt 297 = .ok (.aload_n 0, 1) := by decide +kernel
theorem dKM_encrypt_298 : decode c_KM_encrypt 298 = .ok (.getfield 34, 3) := by decide +kernel
theorem dKM_encrypt_301 : decode c_KM_encrypt 301 = .ok (.iconst 1, 1) := by decide +kernel
theorem dKM_encrypt_302 : decode c_KM_encrypt 302 = .ok (.aload_n 0, 1) := by decide +kernel
theorem dKM_encrypt_303 : decode c_KM_encrypt 303 = .ok (.getfield 37, 3) := by decide +kernel
theorem dKM_encrypt_306 : decode c_KM_encrypt 306 = .ok (.iconst 0, 1) := by decide +kernel
theorem dKM_encrypt_307 : decode c_KM_encrypt 307 = .ok (.invokevirtual 169, 3) := by decide +kernel
theorem dKM_encrypt_310 : decode c_KM_encrypt 310 = .ok (.aload_n 0, 1) := by decide +kernel
theorem dKM_encrypt_311 : decode c_KM_encrypt 311 = .ok (.getfield 21, 3) := by decide +kernel
theorem dKM_encrypt_314 : decode c_KM_encrypt 314 = .ok (.aload_n 0, 1) := by decide +kernel
theorem dKM_encrypt_315 : decode c_KM_encrypt 315 = .ok (.getfield 30, 3) := by decide +kernel
theorem dKM_encrypt_318 : decode c_KM_encrypt 318 = .ok (.aload_n 0, 1) := by decide +kernel
theorem dKM_encrypt_319 : decode c_KM_encrypt 319 = .ok (.getfield 34, 3) := by decide +kernel
theorem dKM_encrypt_322 : decode c_KM_encrypt 322 = .ok (.invokevirtual 156, 3) := by decide +kernel
theorem dKM_encrypt_325 : decode c_KM_encrypt 325 = .ok (.aload_n 0, 1) := by decide +kernel
theorem dKM_encrypt_326 : decode c_KM_encrypt 326 = .ok (.aload_n 0, 1) := by decide +kernel
theorem dKM_encrypt_327 : decode c_KM_encrypt 327 = .ok (.getfield 30, 3) := by decide +kernel
theorem dKM_encrypt_330 : decode c_KM_encrypt 330 = .ok (.aload_n 1, 1) := by decide +kernel
theorem dKM_encrypt_331 : decode c_KM_encrypt 331 = .ok (.getfield 172, 3) := by decide +kernel
theorem dKM_encrypt_334 : decode c_KM_encrypt 334 = .ok (.aload_n 3, 1) := by decide +kernel
theorem dKM_encrypt_335 : decode c_KM_encrypt 335 = .ok (.bipush 32, 2) := by decide +kernel
theorem dKM_encrypt_337 : decode c_KM_encrypt 337 = .ok (.aload_n 1, 1) := by decide +kernel
theorem dKM_encrypt_338 : decode c_KM_encrypt 338 = .ok (.getfield 160, 3) := by decide +kernel
theorem dKM_encrypt_341 : decode c_KM_encrypt 341 = .ok (.imul, 1) := by decide +kernel
theorem dKM_encrypt_342 : decode c_KM_encrypt 342 = .ok (.aload_n 1, 1) := by decide +kernel
theorem dKM_encrypt_343 : decode c_KM_encrypt 343 = .ok (.getfield 61, 3) := by decide +kernel
theorem dKM_encrypt_346 : decode c_KM_encrypt 346 = .ok (.imul, 1) := by decide +kernel
theorem dKM_encrypt_347 : decode c_KM_encrypt 347 = .ok (.invokevirtual 163, 3) := by decide +kernel
theorem dKM_encrypt_350 : decode c_KM_encrypt 350 = .ok (.return_, 1) := by decide +kernel
abbrev c_KM_decrypt : ByteArray := prog_6_method_10_code
abbrev y_KM_decrypt : MethodName := ⟨"LatticeKeys$Kem", "decrypt", "(LLatticeKeys$KemSet;[B[B)V"⟩
abbrev w_KM_decrypt : List Cond := Cond.code y_KM_decrypt c_KM_decrypt 5 none :: WG
theorem dKM_decrypt_0 : decode c_KM_decrypt 0 = .ok (.aload_n 0, 1) := by decide +kernel
theorem dKM_decrypt_1 : decode c_KM_decrypt 1 = .ok (.getfield 30, 3) := by decide +kernel
theorem dKM_decrypt_4 : decode c_KM_decrypt 4 = .ok (.iconst 0, 1) := by decide +kernel
theorem dKM_decrypt_5 : decode c_KM_decrypt 5 = .ok (.invokestatic 147, 3) := by decide +kernel
theorem dKM_decrypt_8 : decode c_KM_decrypt 8 = .ok (.iconst 0, 1) := by decide +kernel
theorem dKM_decrypt_9 : decode c_KM_decrypt 9 = .ok (.istore 4, 2) := by decide +kernel
theorem dKM_decrypt_11 : decode c_KM_decrypt 11 = .ok (.iload 4, 2) := by decide +kernel
theorem dKM_decrypt_13 : decode c_KM_decrypt 13 = .ok (.aload_n 1, 1) := by decide +kernel
theorem dKM_decrypt_14 : decode c_KM_decrypt 14 = .ok (.getfield 61, 3) := by decide +kernel
theorem dKM_decrypt_17 : decode c_KM_decrypt 17 = .ok (.if_icmp .ge 82, 3) := by decide +kernel
theorem dKM_decrypt_20 : decode c_KM_decrypt 20 = .ok (.aload_n 0, 1) := by decide +kernel
theorem dKM_decrypt_21 : decode c_KM_decrypt 21 = .ok (.aload_n 0, 1) := by decide +kernel
theorem dKM_decrypt_22 : decode c_KM_decrypt 22 = .ok (.getfield 27, 3) := by decide +kernel
theorem dKM_decrypt_25 : decode c_KM_decrypt 25 = .ok (.iload 4, 2) := by decide +kernel
theorem dKM_decrypt_27 : decode c_KM_decrypt 27 = .ok (.aaload, 1) := by decide +kernel
theorem dKM_decrypt_28 : decode c_KM_decrypt 28 = .ok (.aload_n 1, 1) := by decide +kernel
theorem dKM_decrypt_29 : decode c_KM_decrypt 29 = .ok (.getfield 160, 3) := by decide +kernel
theorem dKM_decrypt_32 : decode c_KM_decrypt 32 = .ok (.aload_n 3, 1) := by decide +kernel
theorem dKM_decrypt_33 : decode c_KM_decrypt 33 = .ok (.bipush 32, 2) := by decide +kernel
theorem dKM_decrypt_35 : decode c_KM_decrypt 35 = .ok (.aload_n 1, 1) := by decide +kernel
theorem dKM_decrypt_36 : decode c_KM_decrypt 36 = .ok (.getfield 160, 3) := by decide +kernel
theorem dKM_decrypt_39 : decode c_KM_decrypt 39 = .ok (.imul, 1) := by decide +kernel
theorem dKM_decrypt_40 : decode c_KM_decrypt 40 = .ok (.iload 4, 2) := by decide +kernel
theorem dKM_decrypt_42 : decode c_KM_decrypt 42 = .ok (.imul, 1) := by decide +kernel
theorem dKM_decrypt_43 : decode c_KM_decrypt 43 = .ok (.invokevirtual 169, 3) := by decide +kernel
theorem dKM_decrypt_46 : decode c_KM_decrypt 46 = .ok (.aload_n 0, 1) := by decide +kernel
theorem dKM_decrypt_47 : decode c_KM_decrypt 47 = .ok (.getfield 21, 3) := by decide +kernel
theorem dKM_decrypt_50 : decode c_KM_decrypt 50 = .ok (.aload_n 0, 1) := by decide +kernel
theorem dKM_decrypt_51 : decode c_KM_decrypt 51 = .ok (.getfield 27, 3) := by decide +kernel
theorem dKM_decrypt_54 : decode c_KM_decrypt 54 = .ok (.iload 4, 2) := by decide +kernel
theorem dKM_decrypt_56 : decode c_KM_decrypt 56 = .ok (.aaload, 1) := by decide +kernel
theorem dKM_decrypt_57 : decode c_KM_decrypt 57 = .ok (.invokevirtual 92, 3) := by decide +kernel
theorem dKM_decrypt_60 : decode c_KM_decrypt 60 = .ok (.aload_n 0, 1) := by decide +kernel
theorem dKM_decrypt_61 : decode c_KM_decrypt 61 = .ok (.aload_n 2, 1) := by decide +kernel
theorem dKM_decrypt_62 : decode c_KM_decrypt 62 = .ok (.sipush 384, 3) := by decide +kernel
theorem dKM_decrypt_65 : decode c_KM_decrypt 65 = .ok (.iload 4, 2) := by decide +kernel
theorem dKM_decrypt_67 : decode c_KM_decrypt 67 = .ok (.imul, 1) := by decide +kernel
theorem dKM_decrypt_68 : decode c_KM_decrypt 68 = .ok (.invokevirtual 166, 3) := by decide +kernel
theorem dKM_decrypt_71 : decode c_KM_decrypt 71 = .ok (.aload_n 0, 1) := by decide +kernel
theorem dKM_decrypt_72 : decode c_KM_decrypt 72 = .ok (.getfield 21, 3) := by decide +kernel
theorem dKM_decrypt_75 : decode c_KM_decrypt 75 = .ok (.aload_n 0, 1) := by decide +kernel
theorem dKM_decrypt_76 : decode c_KM_decrypt 76 = .ok (.getfield 30, 3) := by decide +kernel
theorem dKM_decrypt_79 : decode c_KM_decrypt 79 = .ok (.aload_n 0, 1) := by decide +kernel
theorem dKM_decrypt_80 : decode c_KM_decrypt 80 = .ok (.getfield 34, 3) := by decide +kernel
theorem dKM_decrypt_83 : decode c_KM_decrypt 83 = .ok (.aload_n 0, 1) := by decide +kernel
theorem dKM_decrypt_84 : decode c_KM_decrypt 84 = .ok (.getfield 27, 3) := by decide +kernel
theorem dKM_decrypt_87 : decode c_KM_decrypt 87 = .ok (.iload 4, 2) := by decide +kernel
theorem dKM_decrypt_89 : decode c_KM_decrypt 89 = .ok (.aaload, 1) := by decide +kernel
theorem dKM_decrypt_90 : decode c_KM_decrypt 90 = .ok (.invokevirtual 106, 3) := by decide +kernel
theorem dKM_decrypt_93 : decode c_KM_decrypt 93 = .ok (.iinc 4 1, 3) := by decide +kernel
theorem dKM_decrypt_96 : decode c_KM_decrypt 96 = .ok (.goto (-85), 3) := by decide +kernel
theorem dKM_decrypt_99 : decode c_KM_decrypt 99 = .ok (.aload_n 0, 1) := by decide +kernel
theorem dKM_decrypt_100 : decode c_KM_decrypt 100 = .ok (.getfield 21, 3) := by decide +kernel
theorem dKM_decrypt_103 : decode c_KM_decrypt 103 = .ok (.aload_n 0, 1) := by decide +kernel
theorem dKM_decrypt_104 : decode c_KM_decrypt 104 = .ok (.getfield 30, 3) := by decide +kernel
theorem dKM_decrypt_107 : decode c_KM_decrypt 107 = .ok (.invokevirtual 153, 3) := by decide +kernel
theorem dKM_decrypt_110 : decode c_KM_decrypt 110 = .ok (.aload_n 0, 1) := by decide +kernel
theorem dKM_decrypt_111 : decode c_KM_decrypt 111 = .ok (.aload_n 0, 1) := by decide +kernel
theorem dKM_decrypt_112 : decode c_KM_decrypt 112 = .ok (.getfield 34, 3) := by decide +kernel
theorem dKM_decrypt_115 : decode c_KM_decrypt 115 = .ok (.aload_n 1, 1) := by decide +kernel
theorem dKM_decrypt_116 : decode c_KM_decrypt 116 = .ok (.getfield 172, 3) := by decide +kernel
theorem dKM_decrypt_119 : decode c_KM_decrypt 119 = .ok (.aload_n 3, 1) := by decide +kernel
theorem dKM_decrypt_120 : decode c_KM_decrypt 120 = .ok (.bipush 32, 2) := by decide +kernel
theorem dKM_decrypt_122 : decode c_KM_decrypt 122 = .ok (.aload_n 1, 1) := by decide +kernel
theorem dKM_decrypt_123 : decode c_KM_decrypt 123 = .ok (.getfield 160, 3) := by decide +kernel
theorem dKM_decrypt_126 : decode c_KM_decrypt 126 = .ok (.imul, 1) := by decide +kernel
theorem dKM_decrypt_127 : decode c_KM_decrypt 127 = .ok (.aload_n 1, 1) := by decide +kernel
theorem dKM_decrypt_128 : decode c_KM_decrypt 128 = .ok (.getfield 61, 3) := by decide +kernel
theorem dKM_decrypt_131 : decode c_KM_decrypt 131 = .ok (.imul, 1) := by decide +kernel
theorem dKM_decrypt_132 : decode c_KM_decrypt 132 = .ok (.invokevirtual 169, 3) := by decide +kernel
theorem dKM_decrypt_135 : decode c_KM_decrypt 135 = .ok (.aload_n 0, 1) := by decide +kernel
theorem dKM_decrypt_136 : decode c_KM_decrypt 136 = .ok (.getfield 21, 3) := by decide +kernel
theorem dKM_decrypt_139 : decode c_KM_decrypt 139 = .ok (.aload_n 0, 1) := by decide +kernel
theorem dKM_decrypt_140 : decode c_KM_decrypt 140 = .ok (.getfield 34, 3) := by decide +kernel
theorem dKM_decrypt_143 : decode c_KM_decrypt 143 = .ok (.aload_n 0, 1) := by decide +kernel
theorem dKM_decrypt_144 : decode c_KM_decrypt 144 = .ok (.getfield 30, 3) := by decide +kernel
theorem dKM_decrypt_147 : decode c_KM_decrypt 147 = .ok (.invokevirtual 175, 3) := by decide +kernel
theorem dKM_decrypt_150 : decode c_KM_decrypt 150 = .ok (.aload_n 0, 1) := by decide +kernel
theorem dKM_decrypt_151 : decode c_KM_decrypt 151 = .ok (.aload_n 0, 1) := by decide +kernel
theorem dKM_decrypt_152 : decode c_KM_decrypt 152 = .ok (.getfield 34, 3) := by decide +kernel
theorem dKM_decrypt_155 : decode c_KM_decrypt 155 = .ok (.iconst 1, 1) := by decide +kernel
theorem dKM_decrypt_156 : decode c_KM_decrypt 156 = .ok (.aload_n 0, 1) := by decide +kernel
theorem dKM_decrypt_157 : decode c_KM_decrypt 157 = .ok (.getfield 37, 3) := by decide +kernel
theorem dKM_decrypt_160 : decode c_KM_decrypt 160 = .ok (.iconst 0, 1) := by decide +kernel
theorem dKM_decrypt_161 : decode c_KM_decrypt 161 = .ok (.invokevirtual 163, 3) := by decide +kernel
theorem dKM_decrypt_164 : decode c_KM_decrypt 164 = .ok (.return_, 1) := by decide +kernel
set_option maxHeartbeats 400000 in
set_option maxRecDepth 100000 in
theorem t_KM_encrypt_0 (l : Launch) (g : Gd) (sz : Nat) (T : Ty) (xs : List Nat) (pl : va_W) (hO : okx g T xs pl) (hU : uni T) (hc0 : clo T xs 0) (hc2 : clo T xs 2) (h0 st pk to n : Nat) (k_h0 : T h0 = some (13, 0)) (k_st : T st = some (40, 0)) (k_pk : T pk = some (1, 800)) (k_to : T to = some (1, n)) (h1 : 768 ≤ n) (h2 : n < 65536)  : Met l y_KM_encrypt w_KM_encrypt ({ frames := 4, cells := 0, slots := 0, locals := 131 } : Room) (va_Pc [.ref h0, .ref st, .ref pk, .ref to] (pr (en g) g.1 vcl sz ([] ++ pl))) (va_Qv (fun (u : va_W) => (True) ∧ okx g T xs u) (po g.1 vcl (va_A ([] ++ pl) sz) (fun (u : va_W) => [] ++ u)) (va_A ([] ++ pl) sz)) 0 0 (va_A ([] ++ pl) sz) := by
  sorry
set_option maxHeartbeats 400000 in
set_option maxRecDepth 100000 in
theorem t_KM_encrypt_1 (l : Launch) (g : Gd) (sz : Nat) (T : Ty) (xs : List Nat) (pl : va_W) (hO : okx g T xs pl) (hU : uni T) (hc0 : clo T xs 0) (hc2 : clo T xs 2) (h0 st pk to n : Nat) (k_h0 : T h0 = some (13, 0)) (k_st : T st = some (41, 0)) (k_pk : T pk = some (1, 1184)) (k_to : T to = some (1, n)) (h1 : 1088 ≤ n) (h2 : n < 65536)  : Met l y_KM_encrypt w_KM_encrypt ({ frames := 4, cells := 0, slots := 0, locals := 131 } : Room) (va_Pc [.ref h0, .ref st, .ref pk, .ref to] (pr (en g) g.1 vcl sz ([] ++ pl))) (va_Qv (fun (u : va_W) => (True) ∧ okx g T xs u) (po g.1 vcl (va_A ([] ++ pl) sz) (fun (u : va_W) => [] ++ u)) (va_A ([] ++ pl) sz)) 0 0 (va_A ([] ++ pl) sz) := by
  sorry
set_option maxHeartbeats 400000 in
set_option maxRecDepth 100000 in
theorem t_KM_encrypt_2 (l : Launch) (g : Gd) (sz : Nat) (T : Ty) (xs : List Nat) (pl : va_W) (hO : okx g T xs pl) (hU : uni T) (hc0 : clo T xs 0) (hc2 : clo T xs 2) (h0 st pk to n : Nat) (k_h0 : T h0 = some (13, 0)) (k_st : T st = some (42, 0)) (k_pk : T pk = some (1, 1568)) (k_to : T to = some (1, n)) (h1 : 1568 ≤ n) (h2 : n < 65536)  : Met l y_KM_encrypt w_KM_encrypt ({ frames := 4, cells := 0, slots := 0, locals := 131 } : Room) (va_Pc [.ref h0, .ref st, .ref pk, .ref to] (pr (en g) g.1 vcl sz ([] ++ pl))) (va_Qv (fun (u : va_W) => (True) ∧ okx g T xs u) (po g.1 vcl (va_A ([] ++ pl) sz) (fun (u : va_W) => [] ++ u)) (va_A ([] ++ pl) sz)) 0 0 (va_A ([] ++ pl) sz) := by
  sorry
set_option maxHeartbeats 400000 in
set_option maxRecDepth 100000 in
theorem t_KM_decrypt_0 (l : Launch) (g : Gd) (sz : Nat) (T : Ty) (xs : List Nat) (pl : va_W) (hO : okx g T xs pl) (hU : uni T) (hc0 : clo T xs 0) (h0 st sk ct n : Nat) (k_h0 : T h0 = some (13, 0)) (k_st : T st = some (40, 0)) (k_sk : T sk = some (1, 1632)) (k_ct : T ct = some (1, n)) (h1 : 768 ≤ n) (h2 : n < 65536)  : Met l y_KM_decrypt w_KM_decrypt ({ frames := 2, cells := 0, slots := 0, locals := 57 } : Room) (va_Pc [.ref h0, .ref st, .ref sk, .ref ct] (pr (en g) g.1 vcl sz ([] ++ pl))) (va_Qv (fun (u : va_W) => (True) ∧ okx g T xs u) (po g.1 vcl (va_A ([] ++ pl) sz) (fun (u : va_W) => [] ++ u)) (va_A ([] ++ pl) sz)) 0 0 (va_A ([] ++ pl) sz) := by
  sorry
set_option maxHeartbeats 400000 in
set_option maxRecDepth 100000 in
theorem t_KM_decrypt_1 (l : Launch) (g : Gd) (sz : Nat) (T : Ty) (xs : List Nat) (pl : va_W) (hO : okx g T xs pl) (hU : uni T) (hc0 : clo T xs 0) (h0 st sk ct n : Nat) (k_h0 : T h0 = some (13, 0)) (k_st : T st = some (41, 0)) (k_sk : T sk = some (1, 2400)) (k_ct : T ct = some (1, n)) (h1 : 1088 ≤ n) (h2 : n < 65536)  : Met l y_KM_decrypt w_KM_decrypt ({ frames := 2, cells := 0, slots := 0, locals := 57 } : Room) (va_Pc [.ref h0, .ref st, .ref sk, .ref ct] (pr (en g) g.1 vcl sz ([] ++ pl))) (va_Qv (fun (u : va_W) => (True) ∧ okx g T xs u) (po g.1 vcl (va_A ([] ++ pl) sz) (fun (u : va_W) => [] ++ u)) (va_A ([] ++ pl) sz)) 0 0 (va_A ([] ++ pl) sz) := by
  sorry
set_option maxHeartbeats 400000 in
set_option maxRecDepth 100000 in
theorem t_KM_decrypt_2 (l : Launch) (g : Gd) (sz : Nat) (T : Ty) (xs : List Nat) (pl : va_W) (hO : okx g T xs pl) (hU : uni T) (hc0 : clo T xs 0) (h0 st sk ct n : Nat) (k_h0 : T h0 = some (13, 0)) (k_st : T st = some (42, 0)) (k_sk : T sk = some (1, 3168)) (k_ct : T ct = some (1, n)) (h1 : 1568 ≤ n) (h2 : n < 65536)  : Met l y_KM_decrypt w_KM_decrypt ({ frames := 2, cells := 0, slots := 0, locals := 57 } : Room) (va_Pc [.ref h0, .ref st, .ref sk, .ref ct] (pr (en g) g.1 vcl sz ([] ++ pl))) (va_Qv (fun (u : va_W) => (True) ∧ okx g T xs u) (po g.1 vcl (va_A ([] ++ pl) sz) (fun (u : va_W) => [] ++ u)) (va_A ([] ++ pl) sz)) 0 0 (va_A ([] ++ pl) sz) := by
  sorry
