set_option linter.all false
abbrev c_ME_seal : ByteArray := prog_15_method_22_code
abbrev y_ME_seal : MethodName := ⟨"LatticeKeysModel$Secrets", "seal", "(I[B[B[B)I"⟩
abbrev w_ME_seal : List Cond := Cond.code y_ME_seal c_ME_seal 7 (some .int) :: WG
theorem dME_seal_0 : decode c_ME_seal 0 = .ok (.aload_n 0, 1) := by decide +kernel
theorem dME_seal_1 : decode c_ME_seal 1 = .ok (.aload_n 2, 1) := by decide +kernel
theorem dME_seal_2 : decode c_ME_seal 2 = .ok (.iconst 0, 1) := by decide +kernel
theorem dME_seal_3 : decode c_ME_seal 3 = .ok (.iload_n 1, 1) := by decide +kernel
theorem dME_seal_4 : decode c_ME_seal 4 = .ok (.invokestatic 144, 3) := by decide +kernel
theorem dME_seal_7 : decode c_ME_seal 7 = .ok (.aload_n 0, 1) := by decide +kernel
theorem dME_seal_8 : decode c_ME_seal 8 = .ok (.getfield 49, 3) := by decide +kernel
theorem dME_seal_11 : decode c_ME_seal 11 = .ok (.iconst 0, 1) := by decide +kernel
theorem dME_seal_12 : decode c_ME_seal 12 = .ok (.invokevirtual 148, 3) := by decide +kernel
theorem dME_seal_15 : decode c_ME_seal 15 = .ok (.aload_n 0, 1) := by decide +kernel
theorem dME_seal_16 : decode c_ME_seal 16 = .ok (.aload_n 3, 1) := by decide +kernel
theorem dME_seal_17 : decode c_ME_seal 17 = .ok (.invokevirtual 174, 3) := by decide +kernel
theorem dME_seal_20 : decode c_ME_seal 20 = .ok (.aload_n 0, 1) := by decide +kernel
theorem dME_seal_21 : decode c_ME_seal 21 = .ok (.iload_n 1, 1) := by decide +kernel
theorem dME_seal_22 : decode c_ME_seal 22 = .ok (.aload_n 2, 1) := by decide +kernel
theorem dME_seal_23 : decode c_ME_seal 23 = .ok (.iconst 0, 1) := by decide +kernel
theorem dME_seal_24 : decode c_ME_seal 24 = .ok (.aload_n 3, 1) := by decide +kernel
theorem dME_seal_25 : decode c_ME_seal 25 = .ok (.aload 4, 2) := by decide +kernel
theorem dME_seal_27 : decode c_ME_seal 27 = .ok (.invokevirtual 178, 3) := by decide +kernel
theorem dME_seal_30 : decode c_ME_seal 30 = .ok (.iload_n 1, 1) := by decide +kernel
theorem dME_seal_31 : decode c_ME_seal 31 = .ok (.invokestatic 182, 3) := by decide +kernel
theorem dME_seal_34 : decode c_ME_seal 34 = .ok (.istore 5, 2) := by decide +kernel
theorem dME_seal_36 : decode c_ME_seal 36 = .ok (.iconst 0, 1) := by decide +kernel
theorem dME_seal_37 : decode c_ME_seal 37 = .ok (.istore 6, 2) := by decide +kernel
theorem dME_seal_39 : decode c_ME_seal 39 = .ok (.iload 6, 2) := by decide +kernel
theorem dME_seal_41 : decode c_ME_seal 41 = .ok (.bipush 32, 2) := by decide +kernel
theorem dME_seal_43 : decode c_ME_seal 43 = .ok (.if_icmp .ge 24, 3) := by decide +kernel
theorem dME_seal_46 : decode c_ME_seal 46 = .ok (.aload 4, 2) := by decide +kernel
theorem dME_seal_48 : decode c_ME_seal 48 = .ok (.iload 5, 2) := by decide +kernel
theorem dME_seal_50 : decode c_ME_seal 50 = .ok (.iload 6, 2) := by decide +kernel
theorem dME_seal_52 : decode c_ME_seal 52 = .ok (.iadd, 1) := by decide +kernel
theorem dME_seal_53 : decode c_ME_seal 53 = .ok (.aload_n 0, 1) := by decide +kernel
theorem dME_seal_54 : decode c_ME_seal 54 = .ok (.getfield 42, 3) := by decide +kernel
theorem dME_seal_57 : decode c_ME_seal 57 = .ok (.iload 6, 2) := by decide +kernel
theorem dME_seal_59 : decode c_ME_seal 59 = .ok (.baload, 1) := by decide +kernel
theorem dME_seal_60 : decode c_ME_seal 60 = .ok (.bastore, 1) := by decide +kernel
theorem dME_seal_61 : decode c_ME_seal 61 = .ok (.iinc 6 1, 3) := by decide +kernel
theorem dME_seal_64 : decode c_ME_seal 64 = .ok (.goto (-25), 3) := by decide +kernel
theorem dME_seal_67 : decode c_ME_seal 67 = .ok (.iload 5, 2) := by decide +kernel
theorem dME_seal_69 : decode c_ME_seal 69 = .ok (.bipush 32, 2) := by decide +kernel
theorem dME_seal_71 : decode c_ME_seal 71 = .ok (.iadd, 1) := by decide +kernel
theorem dME_seal_72 : decode c_ME_seal 72 = .ok (.ireturn, 1) := by decide +kernel
abbrev c_ME_open : ByteArray := prog_15_method_23_code
abbrev y_ME_open : MethodName := ⟨"LatticeKeysModel$Secrets", "open", "(I[B[B[B)V"⟩
abbrev w_ME_open : List Cond := Cond.code y_ME_open c_ME_open 9 none :: WG
theorem dME_open_0 : decode c_ME_open 0 = .ok (.getstatic 62, 3) := by decide +kernel
theorem dME_open_3 : decode c_ME_open 3 = .ok (.iload_n 1, 1) := by decide +kernel
theorem dME_open_4 : decode c_ME_open 4 = .ok (.iaload, 1) := by decide +kernel
theorem dME_open_5 : decode c_ME_open 5 = .ok (.istore 5, 2) := by decide +kernel
theorem dME_open_7 : decode c_ME_open 7 = .ok (.iload_n 1, 1) := by decide +kernel
theorem dME_open_8 : decode c_ME_open 8 = .ok (.invokestatic 182, 3) := by decide +kernel
theorem dME_open_11 : decode c_ME_open 11 = .ok (.istore 6, 2) := by decide +kernel
theorem dME_open_13 : decode c_ME_open 13 = .ok (.aload_n 0, 1) := by decide +kernel
theorem dME_open_14 : decode c_ME_open 14 = .ok (.getfield 32, 3) := by decide +kernel
theorem dME_open_17 : decode c_ME_open 17 = .ok (.invokestatic 158, 3) := by decide +kernel
theorem dME_open_20 : decode c_ME_open 20 = .ok (.iconst 0, 1) := by decide +kernel
theorem dME_open_21 : decode c_ME_open 21 = .ok (.istore 7, 2) := by decide +kernel
theorem dME_open_23 : decode c_ME_open 23 = .ok (.iload 7, 2) := by decide +kernel
theorem dME_open_25 : decode c_ME_open 25 = .ok (.iload 5, 2) := by decide +kernel
theorem dME_open_27 : decode c_ME_open 27 = .ok (.if_icmp .ge 113, 3) := by decide +kernel
theorem dME_open_30 : decode c_ME_open 30 = .ok (.aload_n 3, 1) := by decide +kernel
theorem dME_open_31 : decode c_ME_open 31 = .ok (.bipush 32, 2) := by decide +kernel
theorem dME_open_33 : decode c_ME_open 33 = .ok (.getstatic 65, 3) := by decide +kernel
theorem dME_open_36 : decode c_ME_open 36 = .ok (.iload_n 1, 1) := by decide +kernel
theorem dME_open_37 : decode c_ME_open 37 = .ok (.iaload, 1) := by decide +kernel
theorem dME_open_38 : decode c_ME_open 38 = .ok (.imul, 1) := by decide +kernel
theorem dME_open_39 : decode c_ME_open 39 = .ok (.iload 7, 2) := by decide +kernel
theorem dME_open_41 : decode c_ME_open 41 = .ok (.imul, 1) := by decide +kernel
theorem dME_open_42 : decode c_ME_open 42 = .ok (.getstatic 65, 3) := by decide +kernel
theorem dME_open_45 : decode c_ME_open 45 = .ok (.iload_n 1, 1) := by decide +kernel
theorem dME_open_46 : decode c_ME_open 46 = .ok (.iaload, 1) := by decide +kernel
theorem dME_open_47 : decode c_ME_open 47 = .ok (.aload_n 0, 1) := by decide +kernel
theorem dME_open_48 : decode c_ME_open 48 = .ok (.getfield 23, 3) := by decide +kernel
theorem dME_open_51 : decode c_ME_open 51 = .ok (.iload 7, 2) := by decide +kernel
theorem dME_open_53 : decode c_ME_open 53 = .ok (.aaload, 1) := by decide +kernel
theorem dME_open_54 : decode c_ME_open 54 = .ok (.invokestatic 151, 3) := by decide +kernel
theorem dME_open_57 : decode c_ME_open 57 = .ok (.aload_n 0, 1) := by decide +kernel
theorem dME_open_58 : decode c_ME_open 58 = .ok (.getfield 23, 3) := by decide +kernel
theorem dME_open_61 : decode c_ME_open 61 = .ok (.iload 7, 2) := by decide +kernel
theorem dME_open_63 : decode c_ME_open 63 = .ok (.aaload, 1) := by decide +kernel
theorem dME_open_64 : decode c_ME_open 64 = .ok (.getstatic 65, 3) := by decide +kernel
theorem dME_open_67 : decode c_ME_open 67 = .ok (.iload_n 1, 1) := by decide +kernel
theorem dME_open_68 : decode c_ME_open 68 = .ok (.iaload, 1) := by decide +kernel
theorem dME_open_69 : decode c_ME_open 69 = .ok (.invokestatic 171, 3) := by decide +kernel
theorem dME_open_72 : decode c_ME_open 72 = .ok (.aload_n 0, 1) := by decide +kernel
theorem dME_open_73 : decode c_ME_open 73 = .ok (.aload_n 0, 1) := by decide +kernel
theorem dME_open_74 : decode c_ME_open 74 = .ok (.getfield 23, 3) := by decide +kernel
theorem dME_open_77 : decode c_ME_open 77 = .ok (.iload 7, 2) := by decide +kernel
theorem dME_open_79 : decode c_ME_open 79 = .ok (.aaload, 1) := by decide +kernel
theorem dME_open_80 : decode c_ME_open 80 = .ok (.invokevirtual 134, 3) := by decide +kernel
theorem dME_open_83 : decode c_ME_open 83 = .ok (.aload_n 2, 1) := by decide +kernel
theorem dME_open_84 : decode c_ME_open 84 = .ok (.sipush 384, 3) := by decide +kernel
theorem dME_open_87 : decode c_ME_open 87 = .ok (.iload 7, 2) := by decide +kernel
theorem dME_open_89 : decode c_ME_open 89 = .ok (.imul, 1) := by decide +kernel
theorem dME_open_90 : decode c_ME_open 90 = .ok (.bipush 12, 2) := by decide +kernel
theorem dME_open_92 : decode c_ME_open 92 = .ok (.aload_n 0, 1) := by decide +kernel
theorem dME_open_93 : decode c_ME_open 93 = .ok (.getfield 26, 3) := by decide +kernel
theorem dME_open_96 : decode c_ME_open 96 = .ok (.iload 7, 2) := by decide +kernel
theorem dME_open_98 : decode c_ME_open 98 = .ok (.aaload, 1) := by decide +kernel
theorem dME_open_99 : decode c_ME_open 99 = .ok (.invokestatic 151, 3) := by decide +kernel
theorem dME_open_102 : decode c_ME_open 102 = .ok (.aload_n 0, 1) := by decide +kernel
theorem dME_open_103 : decode c_ME_open 103 = .ok (.getfield 26, 3) := by decide +kernel
theorem dME_open_106 : decode c_ME_open 106 = .ok (.iload 7, 2) := by decide +kernel
theorem dME_open_108 : decode c_ME_open 108 = .ok (.aaload, 1) := by decide +kernel
theorem dME_open_109 : decode c_ME_open 109 = .ok (.invokestatic 155, 3) := by decide +kernel
theorem dME_open_112 : decode c_ME_open 112 = .ok (.aload_n 0, 1) := by decide +kernel
theorem dME_open_113 : decode c_ME_open 113 = .ok (.aload_n 0, 1) := by decide +kernel
theorem dME_open_114 : decode c_ME_open 114 = .ok (.getfield 26, 3) := by decide +kernel
theorem dME_open_117 : decode c_ME_open 117 = .ok (.iload 7, 2) := by decide +kernel
theorem dME_open_119 : decode c_ME_open 119 = .ok (.aaload, 1) := by decide +kernel
theorem dME_open_120 : decode c_ME_open 120 = .ok (.aload_n 0, 1) := by decide +kernel
theorem dME_open_121 : decode c_ME_open 121 = .ok (.getfield 23, 3) := by decide +kernel
theorem dME_open_124 : decode c_ME_open 124 = .ok (.iload 7, 2) := by decide +kernel
theorem dME_open_126 : decode c_ME_open 126 = .ok (.aaload, 1) := by decide +kernel
theorem dME_open_127 : decode c_ME_open 127 = .ok (.aload_n 0, 1) := by decide +kernel
theorem dME_open_128 : decode c_ME_open 128 = .ok (.getfield 32, 3) := by decide +kernel
theorem dME_open_131 : decode c_ME_open 131 = .ok (.invokevirtual 136, 3) := by decide +kernel
theorem dME_open_134 : decode c_ME_open 134 = .ok (.iinc 7 1, 3) := by decide +kernel
theorem dME_open_137 : decode c_ME_open 137 = .ok (.goto (-114), 3) := by decide +kernel
theorem dME_open_140 : decode c_ME_open 140 = .ok (.aload_n 0, 1) := by decide +kernel
theorem dME_open_141 : decode c_ME_open 141 = .ok (.aload_n 0, 1) := by decide +kernel
theorem dME_open_142 : decode c_ME_open 142 = .ok (.getfield 32, 3) := by decide +kernel
theorem dME_open_145 : decode c_ME_open 145 = .ok (.invokevirtual 161, 3) := by decide +kernel
theorem dME_open_148 : decode c_ME_open 148 = .ok (.aload_n 3, 1) := by decide +kernel
theorem dME_open_149 : decode c_ME_open 149 = .ok (.bipush 32, 2) := by decide +kernel
theorem dME_open_151 : decode c_ME_open 151 = .ok (.getstatic 65, 3) := by decide +kernel
theorem dME_open_154 : decode c_ME_open 154 = .ok (.iload_n 1, 1) := by decide +kernel
theorem dME_open_155 : decode c_ME_open 155 = .ok (.iaload, 1) := by decide +kernel
theorem dME_open_156 : decode c_ME_open 156 = .ok (.imul, 1) := by decide +kernel
theorem dME_open_157 : decode c_ME_open 157 = .ok (.iload 5, 2) := by decide +kernel
theorem dME_open_159 : decode c_ME_open 159 = .ok (.imul, 1) := by decide +kernel
theorem dME_open_160 : decode c_ME_open 160 = .ok (.getstatic 68, 3) := by decide +kernel
theorem dME_open_163 : decode c_ME_open 163 = .ok (.iload_n 1, 1) := by decide +kernel
theorem dME_open_164 : decode c_ME_open 164 = .ok (.iaload, 1) := by decide +kernel
theorem dME_open_165 : decode c_ME_open 165 = .ok (.aload_n 0, 1) := by decide +kernel
theorem dME_open_166 : decode c_ME_open 166 = .ok (.getfield 36, 3) := by decide +kernel
theorem dME_open_169 : decode c_ME_open 169 = .ok (.invokestatic 151, 3) := by decide +kernel
theorem dME_open_172 : decode c_ME_open 172 = .ok (.aload_n 0, 1) := by decide +kernel
theorem dME_open_173 : decode c_ME_open 173 = .ok (.getfield 36, 3) := by decide +kernel
theorem dME_open_176 : decode c_ME_open 176 = .ok (.getstatic 68, 3) := by decide +kernel
theorem dME_open_179 : decode c_ME_open 179 = .ok (.iload_n 1, 1) := by decide +kernel
theorem dME_open_180 : decode c_ME_open 180 = .ok (.iaload, 1) := by decide +kernel
theorem dME_open_181 : decode c_ME_open 181 = .ok (.invokestatic 171, 3) := by decide +kernel
theorem dME_open_184 : decode c_ME_open 184 = .ok (.iconst 0, 1) := by decide +kernel
theorem dME_open_185 : decode c_ME_open 185 = .ok (.istore 7, 2) := by decide +kernel
theorem dME_open_187 : decode c_ME_open 187 = .ok (.iload 7, 2) := by decide +kernel
theorem dME_open_189 : decode c_ME_open 189 = .ok (.sipush 256, 3) := by decide +kernel
theorem dME_open_192 : decode c_ME_open 192 = .ok (.if_icmp .ge 39, 3) := by decide +kernel
theorem dME_open_195 : decode c_ME_open 195 = .ok (.aload_n 0, 1) := by decide +kernel
theorem dME_open_196 : decode c_ME_open 196 = .ok (.getfield 36, 3) := by decide +kernel
theorem dME_open_199 : decode c_ME_open 199 = .ok (.iload 7, 2) := by decide +kernel
theorem dME_open_201 : decode c_ME_open 201 = .ok (.aload_n 0, 1) := by decide +kernel
theorem dME_open_202 : decode c_ME_open 202 = .ok (.getfield 36, 3) := by decide +kernel
theorem dME_open_205 : decode c_ME_open 205 = .ok (.iload 7, 2) := by decide +kernel
theorem dME_open_207 : decode c_ME_open 207 = .ok (.iaload, 1) := by decide +kernel
theorem dME_open_208 : decode c_ME_open 208 = .ok (.aload_n 0, 1) := by decide +kernel
theorem dME_open_209 : decode c_ME_open 209 = .ok (.getfield 32, 3) := by decide +kernel
theorem dME_open_212 : decode c_ME_open 212 = .ok (.iload 7, 2) := by decide +kernel
theorem dME_open_214 : decode c_ME_open 214 = .ok (.iaload, 1) := by decide +kernel
theorem dME_open_215 : decode c_ME_open 215 = .ok (.isub, 1) := by decide +kernel
theorem dME_open_216 : decode c_ME_open 216 = .ok (.sipush 3329, 3) := by decide +kernel
theorem dME_open_219 : decode c_ME_open 219 = .ok (.iadd, 1) := by decide +kernel
theorem dME_open_220 : decode c_ME_open 220 = .ok (.sipush 3329, 3) := by decide +kernel
theorem dME_open_223 : decode c_ME_open 223 = .ok (.irem, 1) := by decide +kernel
theorem dME_open_224 : decode c_ME_open 224 = .ok (.iastore, 1) := by decide +kernel
theorem dME_open_225 : decode c_ME_open 225 = .ok (.iinc 7 1, 3) := by decide +kernel
theorem dME_open_228 : decode c_ME_open 228 = .ok (.goto (-41), 3) := by decide +kernel
theorem dME_open_231 : decode c_ME_open 231 = .ok (.aload_n 0, 1) := by decide +kernel
theorem dME_open_232 : decode c_ME_open 232 = .ok (.getfield 36, 3) := by decide +kernel
theorem dME_open_235 : decode c_ME_open 235 = .ok (.iconst 1, 1) := by decide +kernel
theorem dME_open_236 : decode c_ME_open 236 = .ok (.invokestatic 167, 3) := by decide +kernel
theorem dME_open_239 : decode c_ME_open 239 = .ok (.aload_n 0, 1) := by decide +kernel
theorem dME_open_240 : decode c_ME_open 240 = .ok (.getfield 36, 3) := by decide +kernel
theorem dME_open_243 : decode c_ME_open 243 = .ok (.aload_n 0, 1) := by decide +kernel
theorem dME_open_244 : decode c_ME_open 244 = .ok (.getfield 52, 3) := by decide +kernel
theorem dME_open_247 : decode c_ME_open 247 = .ok (.iconst 0, 1) := by decide +kernel
theorem dME_open_248 : decode c_ME_open 248 = .ok (.iconst 1, 1) := by decide +kernel
theorem dME_open_249 : decode c_ME_open 249 = .ok (.invokestatic 140, 3) := by decide +kernel
theorem dME_open_252 : decode c_ME_open 252 = .ok (.iconst 0, 1) := by decide +kernel
theorem dME_open_253 : decode c_ME_open 253 = .ok (.istore 7, 2) := by decide +kernel
theorem dME_open_255 : decode c_ME_open 255 = .ok (.iload 7, 2) := by decide +kernel
theorem dME_open_257 : decode c_ME_open 257 = .ok (.bipush 32, 2) := by decide +kernel
theorem dME_open_259 : decode c_ME_open 259 = .ok (.if_icmp .ge 30, 3) := by decide +kernel
theorem dME_open_262 : decode c_ME_open 262 = .ok (.aload_n 0, 1) := by decide +kernel
theorem dME_open_263 : decode c_ME_open 263 = .ok (.getfield 49, 3) := by decide +kernel
theorem dME_open_266 : decode c_ME_open 266 = .ok (.iload 7, 2) := by decide +kernel
theorem dME_open_268 : decode c_ME_open 268 = .ok (.aload_n 2, 1) := by decide +kernel
theorem dME_open_269 : decode c_ME_open 269 = .ok (.sipush 768, 3) := by decide +kernel
theorem dME_open_272 : decode c_ME_open 272 = .ok (.iload 5, 2) := by decide +kernel
theorem dME_open_274 : decode c_ME_open 274 = .ok (.imul, 1) := by decide +kernel
theorem dME_open_275 : decode c_ME_open 275 = .ok (.bipush 32, 2) := by decide +kernel
theorem dME_open_277 : decode c_ME_open 277 = .ok (.iadd, 1) := by decide +kernel
theorem dME_open_278 : decode c_ME_open 278 = .ok (.iload 7, 2) := by decide +kernel
theorem dME_open_280 : decode c_ME_open 280 = .ok (.iadd, 1) := by decide +kernel
theorem dME_open_281 : decode c_ME_open 281 = .ok (.baload, 1) := by decide +kernel
theorem dME_open_282 : decode c_ME_open 282 = .ok (.bastore, 1) := by decide +kernel
theorem dME_open_283 : decode c_ME_open 283 = .ok (.iinc 7 1, 3) := by decide +kernel
theorem dME_open_286 : decode c_ME_open 286 = .ok (.goto (-31), 3) := by decide +kernel
theorem dME_open_289 : decode c_ME_open 289 = .ok (.aload_n 0, 1) := by decide +kernel
theorem dME_open_290 : decode c_ME_open 290 = .ok (.aload_n 0, 1) := by decide +kernel
theorem dME_open_291 : decode c_ME_open 291 = .ok (.getfield 52, 3) := by decide +kernel
theorem dME_open_294 : decode c_ME_open 294 = .ok (.invokevirtual 174, 3) := by decide +kernel
theorem dME_open_297 : decode c_ME_open 297 = .ok (.aload_n 0, 1) := by decide +kernel
theorem dME_open_298 : decode c_ME_open 298 = .ok (.iload_n 1, 1) := by decide +kernel
theorem dME_open_299 : decode c_ME_open 299 = .ok (.aload_n 2, 1) := by decide +kernel
theorem dME_open_300 : decode c_ME_open 300 = .ok (.sipush 384, 3) := by decide +kernel
theorem dME_open_303 : decode c_ME_open 303 = .ok (.iload 5, 2) := by decide +kernel
theorem dME_open_305 : decode c_ME_open 305 = .ok (.imul, 1) := by decide +kernel
theorem dME_open_306 : decode c_ME_open 306 = .ok (.aload_n 0, 1) := by decide +kernel
theorem dME_open_307 : decode c_ME_open 307 = .ok (.getfield 52, 3) := by decide +kernel
theorem dME_open_310 : decode c_ME_open 310 = .ok (.aload_n 0, 1) := by decide +kernel
theorem dME_open_311 : decode c_ME_open 311 = .ok (.getfield 55, 3) := by decide +kernel
theorem dME_open_314 : decode c_ME_open 314 = .ok (.invokevirtual 178, 3) := by decide +kernel
theorem dME_open_317 : decode c_ME_open 317 = .ok (.iconst 1, 1) := by decide +kernel
theorem dME_open_318 : decode c_ME_open 318 = .ok (.istore 7, 2) := by decide +kernel
theorem dME_open_320 : decode c_ME_open 320 = .ok (.iconst 0, 1) := by decide +kernel
theorem dME_open_321 : decode c_ME_open 321 = .ok (.istore 8, 2) := by decide +kernel
theorem dME_open_323 : decode c_ME_open 323 = .ok (.iload 8, 2) := by decide +kernel
theorem dME_open_325 : decode c_ME_open 325 = .ok (.iload 6, 2) := by decide +kernel
theorem dME_open_327 : decode c_ME_open 327 = .ok (.if_icmp .ge 33, 3) := by decide +kernel
theorem dME_open_330 : decode c_ME_open 330 = .ok (.iload 7, 2) := by decide +kernel
theorem dME_open_332 : decode c_ME_open 332 = .ok (.aload_n 0, 1) := by decide +kernel
theorem dME_open_333 : decode c_ME_open 333 = .ok (.getfield 55, 3) := by decide +kernel
theorem dME_open_336 : decode c_ME_open 336 = .ok (.iload 8, 2) := by decide +kernel
theorem dME_open_338 : decode c_ME_open 338 = .ok (.baload, 1) := by decide +kernel
theorem dME_open_339 : decode c_ME_open 339 = .ok (.aload_n 3, 1) := by decide +kernel
theorem dME_open_340 : decode c_ME_open 340 = .ok (.iload 8, 2) := by decide +kernel
theorem dME_open_342 : decode c_ME_open 342 = .ok (.baload, 1) := by decide +kernel
theorem dME_open_343 : decode c_ME_open 343 = .ok (.if_icmp .ne 7, 3) := by decide +kernel
theorem dME_open_346 : decode c_ME_open 346 = .ok (.iconst 1, 1) := by decide +kernel
theorem dME_open_347 : decode c_ME_open 347 = .ok (.goto 4, 3) := by decide +kernel
theorem dME_open_350 : decode c_ME_open 350 = .ok (.iconst 0, 1) := by decide +kernel
theorem dME_open_351 : decode c_ME_open 351 = .ok (.iand, 1) := by decide +kernel
theorem dME_open_352 : decode c_ME_open 352 = .ok (.istore 7, 2) := by decide +kernel
theorem dME_open_354 : decode c_ME_open 354 = .ok (.iinc 8 1, 3) := by decide +kernel
theorem dME_open_357 : decode c_ME_open 357 = .ok (.goto (-34), 3) := by decide +kernel
theorem dME_open_360 : decode c_ME_open 360 = .ok (.iconst 0, 1) := by decide +kernel
theorem dME_open_361 : decode c_ME_open 361 = .ok (.istore 8, 2) := by decide +kernel
theorem dME_open_363 : decode c_ME_open 363 = .ok (.iload 8, 2) := by decide +kernel
theorem dME_open_365 : decode c_ME_open 365 = .ok (.bipush 32, 2) := by decide +kernel
theorem dME_open_367 : decode c_ME_open 367 = .ok (.if_icmp .ge 21, 3) := by decide +kernel
theorem dME_open_370 : decode c_ME_open 370 = .ok (.aload 4, 2) := by decide +kernel
theorem dME_open_372 : decode c_ME_open 372 = .ok (.iload 8, 2) := by decide +kernel
theorem dME_open_374 : decode c_ME_open 374 = .ok (.aload_n 0, 1) := by decide +kernel
theorem dME_open_375 : decode c_ME_open 375 = .ok (.getfield 42, 3) := by decide +kernel
theorem dME_open_378 : decode c_ME_open 378 = .ok (.iload 8, 2) := by decide +kernel
theorem dME_open_380 : decode c_ME_open 380 = .ok (.baload, 1) := by decide +kernel
theorem dME_open_381 : decode c_ME_open 381 = .ok (.bastore, 1) := by decide +kernel
theorem dME_open_382 : decode c_ME_open 382 = .ok (.iinc 8 1, 3) := by decide +kernel
theorem dME_open_385 : decode c_ME_open 385 = .ok (.goto (-22), 3) := by decide +kernel
theorem dME_open_388 : decode c_ME_open 388 = .ok (.iload 7, 2) := by decide +kernel
theorem dME_open_390 : decode c_ME_open 390 = .ok (.ifCond .eq 4, 3) := by decide +kernel
theorem dME_open_393 : decode c_ME_open 393 = .ok (.return_, 1) := by decide +kernel
theorem dME_open_394 : decode c_ME_open 394 = .ok (.aload_n 0, 1) := by decide +kernel
theorem dME_open_395 : decode c_ME_open 395 = .ok (.getfield 58, 3) := by decide +kernel
theorem dME_open_398 : decode c_ME_open 398 = .ok (.invokevirtual 95, 3) := by decide +kernel
theorem dME_open_401 : decode c_ME_open 401 = .ok (.aload_n 0, 1) := by decide +kernel
theorem dME_open_402 : decode c_ME_open 402 = .ok (.getfield 58, 3) := by decide +kernel
theorem dME_open_405 : decode c_ME_open 405 = .ok (.aload_n 2, 1) := by decide +kernel
theorem dME_open_406 : decode c_ME_open 406 = .ok (.sipush 768, 3) := by decide +kernel
theorem dME_open_409 : decode c_ME_open 409 = .ok (.iload 5, 2) := by decide +kernel
theorem dME_open_411 : decode c_ME_open 411 = .ok (.imul, 1) := by decide +kernel
theorem dME_open_412 : decode c_ME_open 412 = .ok (.bipush 64, 2) := by decide +kernel
theorem dME_open_414 : decode c_ME_open 414 = .ok (.iadd, 1) := by decide +kernel
theorem dME_open_415 : decode c_ME_open 415 = .ok (.bipush 32, 2) := by decide +kernel
theorem dME_open_417 : decode c_ME_open 417 = .ok (.invokevirtual 77, 3) := by decide +kernel
theorem dME_open_420 : decode c_ME_open 420 = .ok (.aload_n 0, 1) := by decide +kernel
theorem dME_open_421 : decode c_ME_open 421 = .ok (.getfield 58, 3) := by decide +kernel
theorem dME_open_424 : decode c_ME_open 424 = .ok (.aload_n 3, 1) := by decide +kernel
theorem dME_open_425 : decode c_ME_open 425 = .ok (.iconst 0, 1) := by decide +kernel
theorem dME_open_426 : decode c_ME_open 426 = .ok (.iload 6, 2) := by decide +kernel
theorem dME_open_428 : decode c_ME_open 428 = .ok (.invokevirtual 77, 3) := by decide +kernel
theorem dME_open_431 : decode c_ME_open 431 = .ok (.aload_n 0, 1) := by decide +kernel
theorem dME_open_432 : decode c_ME_open 432 = .ok (.getfield 58, 3) := by decide +kernel
theorem dME_open_435 : decode c_ME_open 435 = .ok (.invokevirtual 84, 3) := by decide +kernel
theorem dME_open_438 : decode c_ME_open 438 = .ok (.aload_n 0, 1) := by decide +kernel
theorem dME_open_439 : decode c_ME_open 439 = .ok (.getfield 58, 3) := by decide +kernel
theorem dME_open_442 : decode c_ME_open 442 = .ok (.aload 4, 2) := by decide +kernel
theorem dME_open_444 : decode c_ME_open 444 = .ok (.iconst 0, 1) := by decide +kernel
theorem dME_open_445 : decode c_ME_open 445 = .ok (.bipush 32, 2) := by decide +kernel
theorem dME_open_447 : decode c_ME_open 447 = .ok (.invokevirtual 98, 3) := by decide +kernel
theorem dME_open_450 : decode c_ME_open 450 = .ok (.return_, 1) := by decide +kernel
abbrev c_ME_goodOpen : ByteArray := prog_15_method_24_code
abbrev y_ME_goodOpen : MethodName := ⟨"LatticeKeysModel$Secrets", "goodOpen", "(I[B)Z"⟩
abbrev w_ME_goodOpen : List Cond := Cond.code y_ME_goodOpen c_ME_goodOpen 4 (some .boolean) :: WG
theorem dME_goodOpen_0 : decode c_ME_goodOpen 0 = .ok (.iconst 0, 1) := by decide +kernel
theorem dME_goodOpen_1 : decode c_ME_goodOpen 1 = .ok (.istore_n 3, 1) := by decide +kernel
theorem dME_goodOpen_2 : decode c_ME_goodOpen 2 = .ok (.iload_n 3, 1) := by decide +kernel
theorem dME_goodOpen_3 : decode c_ME_goodOpen 3 = .ok (.sipush 256, 3) := by decide +kernel
theorem dME_goodOpen_6 : decode c_ME_goodOpen 6 = .ok (.getstatic 62, 3) := by decide +kernel
theorem dME_goodOpen_9 : decode c_ME_goodOpen 9 = .ok (.iload_n 1, 1) := by decide +kernel
theorem dME_goodOpen_10 : decode c_ME_goodOpen 10 = .ok (.iaload, 1) := by decide +kernel
theorem dME_goodOpen_11 : decode c_ME_goodOpen 11 = .ok (.imul, 1) := by decide +kernel
theorem dME_goodOpen_12 : decode c_ME_goodOpen 12 = .ok (.if_icmp .ge 27, 3) := by decide +kernel
theorem dME_goodOpen_15 : decode c_ME_goodOpen 15 = .ok (.aload_n 2, 1) := by decide +kernel
theorem dME_goodOpen_16 : decode c_ME_goodOpen 16 = .ok (.bipush 12, 2) := by decide +kernel
theorem dME_goodOpen_18 : decode c_ME_goodOpen 18 = .ok (.iload_n 3, 1) := by decide +kernel
theorem dME_goodOpen_19 : decode c_ME_goodOpen 19 = .ok (.imul, 1) := by decide +kernel
theorem dME_goodOpen_20 : decode c_ME_goodOpen 20 = .ok (.bipush 12, 2) := by decide +kernel
theorem dME_goodOpen_22 : decode c_ME_goodOpen 22 = .ok (.invokestatic 101, 3) := by decide +kernel
theorem dME_goodOpen_25 : decode c_ME_goodOpen 25 = .ok (.sipush 3329, 3) := by decide +kernel
theorem dME_goodOpen_28 : decode c_ME_goodOpen 28 = .ok (.if_icmp .lt 5, 3) := by decide +kernel
theorem dME_goodOpen_31 : decode c_ME_goodOpen 31 = .ok (.iconst 0, 1) := by decide +kernel
theorem dME_goodOpen_32 : decode c_ME_goodOpen 32 = .ok (.ireturn, 1) := by decide +kernel
theorem dME_goodOpen_33 : decode c_ME_goodOpen 33 = .ok (.iinc 3 1, 3) := by decide +kernel
theorem dME_goodOpen_36 : decode c_ME_goodOpen 36 = .ok (.goto (-34), 3) := by decide +kernel
theorem dME_goodOpen_39 : decode c_ME_goodOpen 39 = .ok (.iconst 1, 1) := by decide +kernel
theorem dME_goodOpen_40 : decode c_ME_goodOpen 40 = .ok (.ireturn, 1) := by decide +kernel
abbrev c_ME_goodHidden : ByteArray := prog_15_method_25_code
abbrev y_ME_goodHidden : MethodName := ⟨"LatticeKeysModel$Secrets", "goodHidden", "(I[B)Z"⟩
abbrev w_ME_goodHidden : List Cond := Cond.code y_ME_goodHidden c_ME_goodHidden 5 (some .boolean) :: WG
theorem dME_goodHidden_0 : decode c_ME_goodHidden 0 = .ok (.getstatic 62, 3) := by decide +kernel
theorem dME_goodHidden_3 : decode c_ME_goodHidden 3 = .ok (.iload_n 1, 1) := by decide +kernel
theorem dME_goodHidden_4 : decode c_ME_goodHidden 4 = .ok (.iaload, 1) := by decide +kernel
theorem dME_goodHidden_5 : decode c_ME_goodHidden 5 = .ok (.istore_n 3, 1) := by decide +kernel
theorem dME_goodHidden_6 : decode c_ME_goodHidden 6 = .ok (.aload_n 0, 1) := by decide +kernel
theorem dME_goodHidden_7 : decode c_ME_goodHidden 7 = .ok (.aload_n 2, 1) := by decide +kernel
theorem dME_goodHidden_8 : decode c_ME_goodHidden 8 = .ok (.sipush 384, 3) := by decide +kernel
theorem dME_goodHidden_11 : decode c_ME_goodHidden 11 = .ok (.iload_n 3, 1) := by decide +kernel
theorem dME_goodHidden_12 : decode c_ME_goodHidden 12 = .ok (.imul, 1) := by decide +kernel
theorem dME_goodHidden_13 : decode c_ME_goodHidden 13 = .ok (.iload_n 1, 1) := by decide +kernel
theorem dME_goodHidden_14 : decode c_ME_goodHidden 14 = .ok (.invokestatic 144, 3) := by decide +kernel
theorem dME_goodHidden_17 : decode c_ME_goodHidden 17 = .ok (.aload_n 0, 1) := by decide +kernel
theorem dME_goodHidden_18 : decode c_ME_goodHidden 18 = .ok (.getfield 49, 3) := by decide +kernel
theorem dME_goodHidden_21 : decode c_ME_goodHidden 21 = .ok (.iconst 0, 1) := by decide +kernel
theorem dME_goodHidden_22 : decode c_ME_goodHidden 22 = .ok (.invokevirtual 148, 3) := by decide +kernel
theorem dME_goodHidden_25 : decode c_ME_goodHidden 25 = .ok (.iconst 0, 1) := by decide +kernel
theorem dME_goodHidden_26 : decode c_ME_goodHidden 26 = .ok (.istore 4, 2) := by decide +kernel
theorem dME_goodHidden_28 : decode c_ME_goodHidden 28 = .ok (.iload 4, 2) := by decide +kernel
theorem dME_goodHidden_30 : decode c_ME_goodHidden 30 = .ok (.bipush 32, 2) := by decide +kernel
theorem dME_goodHidden_32 : decode c_ME_goodHidden 32 = .ok (.if_icmp .ge 34, 3) := by decide +kernel
theorem dME_goodHidden_35 : decode c_ME_goodHidden 35 = .ok (.aload_n 0, 1) := by decide +kernel
theorem dME_goodHidden_36 : decode c_ME_goodHidden 36 = .ok (.getfield 49, 3) := by decide +kernel
theorem dME_goodHidden_39 : decode c_ME_goodHidden 39 = .ok (.iload 4, 2) := by decide +kernel
theorem dME_goodHidden_41 : decode c_ME_goodHidden 41 = .ok (.baload, 1) := by decide +kernel
theorem dME_goodHidden_42 : decode c_ME_goodHidden 42 = .ok (.aload_n 2, 1) := by decide +kernel
theorem dME_goodHidden_43 : decode c_ME_goodHidden 43 = .ok (.sipush 768, 3) := by decide +kernel
theorem dME_goodHidden_46 : decode c_ME_goodHidden 46 = .ok (.iload_n 3, 1) := by decide +kernel
theorem dME_goodHidden_47 : decode c_ME_goodHidden 47 = .ok (.imul, 1) := by decide +kernel
theorem dME_goodHidden_48 : decode c_ME_goodHidden 48 = .ok (.bipush 32, 2) := by decide +kernel
theorem dME_goodHidden_50 : decode c_ME_goodHidden 50 = .ok (.iadd, 1) := by decide +kernel
theorem dME_goodHidden_51 : decode c_ME_goodHidden 51 = .ok (.iload 4, 2) := by decide +kernel
theorem dME_goodHidden_53 : decode c_ME_goodHidden 53 = .ok (.iadd, 1) := by decide +kernel
theorem dME_goodHidden_54 : decode c_ME_goodHidden 54 = .ok (.baload, 1) := by decide +kernel
theorem dME_goodHidden_55 : decode c_ME_goodHidden 55 = .ok (.if_icmp .eq 5, 3) := by decide +kernel
theorem dME_goodHidden_58 : decode c_ME_goodHidden 58 = .ok (.iconst 0, 1) := by decide +kernel
theorem dME_goodHidden_59 : decode c_ME_goodHidden 59 = .ok (.ireturn, 1) := by decide +kernel
theorem dME_goodHidden_60 : decode c_ME_goodHidden 60 = .ok (.iinc 4 1, 3) := by decide +kernel
theorem dME_goodHidden_63 : decode c_ME_goodHidden 63 = .ok (.goto (-35), 3) := by decide +kernel
theorem dME_goodHidden_66 : decode c_ME_goodHidden 66 = .ok (.iconst 1, 1) := by decide +kernel
theorem dME_goodHidden_67 : decode c_ME_goodHidden 67 = .ok (.ireturn, 1) := by decide +kernel
def M_ME_seal_0 (pt : Nat) (k : Nat) : Prop := (186 ≤ k ∧ k < 202) ∨ (203 ≤ k ∧ k < 207) ∨ (208 ≤ k ∧ k < 212) ∨ (213 ≤ k ∧ k < 217) ∨ k = 172 ∨ k = 217 ∨ k = 218 ∨ k = 219 ∨ k = 220 ∨ k = 221 ∨ k = 222 ∨ k = pt ∨ (0 : Nat) = 1
noncomputable def F_ME_seal_0_L0 (pt : Nat) : Nat → Nat → Sto → Int32 × Sto
  | 0, i21, s24 => (nI 800, s24)
  | n21 + 1, i21, s24 => bnd (sB s24 pt (768 + i21) (s24.1 220 i21)) fun s25 => F_ME_seal_0_L0 pt n21 (i21 + 1) s25
noncomputable def E_ME_seal_0_L0 (pt : Nat) : Nat → Nat → Sto → Prop
  | 0, i21, s24 => True
  | n21 + 1, i21, s24 => bnd (sB s24 pt (768 + i21) (s24.1 220 i21)) fun s25 => E_ME_seal_0_L0 pt n21 (i21 + 1) s25
noncomputable def F_ME_seal_0 (pek : Nat) (pms : Nat) (pt : Nat) (s : Sto) : Int32 × Sto := bnd (F_ME_openSize_0  s) fun q21 => bnd (q21.1.toNatClampNeg) fun z21 => bnd (F_ME_hash pek 2592 0 800 222 32 0 q21.2) fun s21 => bnd (F_ME_both pms 16384 s21) fun s22 => bnd (F_ME_encrypt_0 pek 2592 0 pms 16384 pt 8192 s22) fun s23 => bnd (F_ME_sealedSize_0  s23) fun q22 => bnd (q22.1.toNatClampNeg) fun z22 => F_ME_seal_0_L0 pt 32 0 q22.2
noncomputable def E_ME_seal_0 (pek : Nat) (pms : Nat) (pt : Nat) (s : Sto) : Prop := bnd (F_ME_openSize_0  s) fun q21 => bnd (q21.1.toNatClampNeg) fun z21 => bnd (F_ME_hash pek 2592 0 800 222 32 0 q21.2) fun s21 => bnd (F_ME_both pms 16384 s21) fun s22 => (E_ME_encrypt_0 pek 2592 0 pms 16384 pt 8192 s22) ∧ (bnd (F_ME_encrypt_0 pek 2592 0 pms 16384 pt 8192 s22) fun s23 => bnd (F_ME_sealedSize_0  s23) fun q22 => bnd (q22.1.toNatClampNeg) fun z22 => E_ME_seal_0_L0 pt 32 0 q22.2)
set_option maxHeartbeats 8000000 in
set_option maxRecDepth 100000 in
theorem N_ME_seal_0 (l : Launch) (g : Gd) (sz : Nat) (T : TyN) (s : Sto) (pl : va_W) (hO : okn g T s pl) (hU : inj T) (h0 ek ms to : Nat) (pek : Nat) (pms : Nat) (pt : Nat) (k_h0 : T h0 = some 184) (k_ek : T ek = some pek) (n_ek : nsp pek = (1, 2592, [])) (k_ms : T ms = some pms) (n_ms : nsp pms = (1, 16384, [])) (k_to : T to = some pt) (n_to : nsp pt = (1, 8192, [])) (hE : E_ME_seal_0 pek pms pt s)  : Met l y_ME_seal w_ME_seal ({ frames := 6, cells := 0, slots := 0, locals := 146 } : Room) (va_Pc [.ref h0, .int (nI 0), .ref ek, .ref ms, .ref to] (pr (en g) g.1 vcl sz ([] ++ pl))) (va_Qi (fun (r : Int32) (u : (Int32 × Sto) × va_W) => (u.1 = F_ME_seal_0 pek pms pt s ∧ r = u.1.1 ∧ frm (M_ME_seal_0 pt) s u.1.2 ∧ (∃ x : Nat, u.1.1 = nI x ∧ x < 801) ∧ (u.1.1 = nI 800) ∧ True) ∧ okn g T u.1.2 u.2) (po g.1 vcl (va_A ([] ++ pl) sz) (fun (u : (Int32 × Sto) × va_W) => [] ++ u.2)) (va_A ([] ++ pl) sz)) 0 0 (va_A ([] ++ pl) sz) := by
  refine mc_entry (cc := c_ME_seal) (maxL := 7) (ret := (some .int)) (by decide) rfl (Nat.le_of_ble_eq_true rfl) ?_
  intro p e s0 m args below meth c ls F hr hlk hnm hsz hP hD hEn hA hl
  obtain ⟨hx, hb, hml, hown, hts⟩ := id F
  have hK := hEn.1
  generalize va_A ([] ++ pl) sz = A at hD hEn hA ⊢
  have hS : va_S A s0.heap s0.heap [] := va_S.rf
  have hl : lv_has ls 7 [(0, .ref h0), (1, .int (nI 0)), (2, .ref ek), (3, .ref ms), (4, .ref to)] := hl
  have hR : F_ME_seal_0 pek pms pt s = F_ME_seal_0 pek pms pt s := rfl
  have hF : frm (M_ME_seal_0 pt) s s := frm_rf
  refine lv_aload_n hx hb dME_seal_0 rfl (lv_at hl 0 rfl) ?_
  refine lv_aload_n hx hb dME_seal_1 rfl (lv_at hl 2 rfl) ?_
  refine lv_iconst (v := nI 0) hx hb dME_seal_2 (by decide) ?_
  refine lv_iload_n hx hb dME_seal_3 rfl (lv_at hl 1 rfl) ?_
  refine mp_i (cx := []) (wr := []) hP hD hS hA [] [] rfl rfl rfl (by decide) (va_runS (As := [.int (nI 0)]) (rest := [.int (nI 0), .ref ek, .ref h0]) F (N_ME_openSize_0 l g _ T s pl hO hU ) (va_cwS 1 hts (wg_app (wg_c kw_1691 (wg_c kw_1692 (wg_c kw_11 wg_n))) kw_1693) rfl rfl rfl (by decide +kernel) ⟨by decide, by decide⟩) (pp_S (en_ok g) hP hD hS hA hEn [] rfl rfl) rfl rfl hl.1 rfl (lv_room (Nat.le_of_ble_eq_true rfl)) dME_seal_4 ⟨by omega, by omega⟩) (fun r21 u21 H locs hu21 hP hD hS => ?_)
  obtain ⟨q21, pl⟩ := u21
  obtain ⟨⟨eq21, rfl, hFc21, ⟨x21, hx_21, hb_21⟩, hxp21, -⟩, hO⟩ := hu21
  have hO : okn g T q21.2 pl := hO
  have hP : va_P g.1 vcl ([] ++ pl) _ := hP
  have hD : va_D _ ([] ++ pl) := hD
  have hFc21 : frm (M_ME_openSize_0) s q21.2 := hFc21
  have hb_21 : x21 < 801 := hb_21
  replace hR := bnd_step hR eq21
  replace hE := bndP_step hE eq21
  have hF := frm_tr hF hFc21 (fun k hk => by unfold M_ME_openSize_0 at hk; unfold M_ME_seal_0; omega)
  obtain ⟨z21, ez21, hz21, hz22⟩ := cl_of (b := 2147483648) hx_21 (by omega) (by decide)
  replace hR := bnd_step hR ez21
  replace hE := bndP_step hE ez21
  refine mi_as hz21 ?_
  have hsz21 : z21 = 800 := (nI_eq (by omega) (by omega)).mp (hz21.symm.trans hxp21)
  subst hsz21
  refine W.widen (k := 0) (n := 0) (by omega) (by omega) ?_
  refine lv_aload_n hx hb dME_seal_7 rfl (lv_at hl 0 rfl) ?_
  refine nw_get (C := "LatticeKeysModel$Secrets") (TT := T_ME) (N := 14) hx hb hts (wg_ft i_ME) hown hK hO k_h0 (kn := 184) (ci := 11) (fl := [(3, 172), (3, 178), (3, 185), (3, 202), (3, 207), (3, 212), (3, 217), (3, 218), (3, 219), (3, 220), (3, 221), (3, 222), (3, 223), (3, 224)]) rfl hP rfl 11 (by decide) (hts _ (wg_t kw_1390)) (fun _ h9 => h9) (cd := (3, 222)) rfl dME_seal_8 (fun v21 hv21 => ?_)
  obtain ⟨r22, rfl, kr21⟩ := (show ∃ r : Nat, v21 = .ref r ∧ T r = some 222 from hv21)
  refine lv_iconst (v := nI 0) hx hb dME_seal_11 (by decide) ?_
  refine mp_v (cx := []) (wr := []) hP hD hS hA [] [] rfl rfl rfl (by decide) (va_runV (As := [.ref ek, .int (nI 0), .int (nI 800), .ref r22, .int (nI 0)]) (rest := []) F (N_ME_hash l g _ T q21.2 pl hO hU h0 ek r22 pek 2592 0 800 222 32 0 k_h0 k_ek n_ek kr21 rfl (by omega) (by omega) (by omega) (by omega)) (cwV 5 hts (wg_app (wg_c kw_1694 (wg_c kw_1696 (wg_c ks_59 (wg_c kw_11 wg_n)))) kw_1697) rfl rfl rfl (by decide +kernel) ⟨by decide, by decide⟩) (pn_W "LatticeKeysModel$Secrets" (en_ok g) (ci := 11) (kn := 184) (fl := [(3, 172), (3, 178), (3, 185), (3, 202), (3, 207), (3, 212), (3, 217), (3, 218), (3, 219), (3, 220), (3, 221), (3, 222), (3, 223), (3, 224)]) hK hO k_h0 rfl hP hD hS hA hEn [] rfl rfl rfl) rfl rfl hl.1 rfl (lv_room (Nat.le_of_ble_eq_true rfl)) dME_seal_12 ⟨by omega, by omega⟩) (fun  u22 H locs hu22 hP hD hS => ?_)
  obtain ⟨s21, pl⟩ := u22
  obtain ⟨⟨eq22, hFc22, -⟩, hO⟩ := hu22
  have hO : okn g T s21 pl := hO
  have hP : va_P g.1 vcl ([] ++ pl) _ := hP
  have hD : va_D _ ([] ++ pl) := hD
  have hFc22 : frm (M_ME_hash 222) q21.2 s21 := hFc22
  replace hR := bnd_step hR eq22
  replace hE := bndP_step hE eq22
  have hF := frm_tr hF hFc22 (fun k hk => by unfold M_ME_hash at hk; unfold M_ME_seal_0; omega)
  refine W.widen (k := 0) (n := 0) (by omega) (by omega) ?_
  refine lv_aload_n hx hb dME_seal_15 rfl (lv_at hl 0 rfl) ?_
  refine lv_aload_n hx hb dME_seal_16 rfl (lv_at hl 3 rfl) ?_
  refine mp_v (cx := []) (wr := []) hP hD hS hA [] [] rfl rfl rfl (by decide) (va_runV (As := [.ref ms]) (rest := []) F (N_ME_both l g _ T s21 pl hO hU h0 ms pms 16384 k_h0 k_ms n_ms (by omega) (by omega)) (cwV 1 hts (wg_app (wg_c kw_1805 (wg_c kw_1807 (wg_c ks_67 (wg_c kw_11 wg_n)))) kw_1808) rfl rfl rfl (by decide +kernel) ⟨by decide, by decide⟩) (pn_W "LatticeKeysModel$Secrets" (en_ok g) (ci := 11) (kn := 184) (fl := [(3, 172), (3, 178), (3, 185), (3, 202), (3, 207), (3, 212), (3, 217), (3, 218), (3, 219), (3, 220), (3, 221), (3, 222), (3, 223), (3, 224)]) hK hO k_h0 rfl hP hD hS hA hEn [] rfl rfl rfl) rfl rfl hl.1 rfl (lv_room (Nat.le_of_ble_eq_true rfl)) dME_seal_17 ⟨by omega, by omega⟩) (fun  u23 H locs hu23 hP hD hS => ?_)
  obtain ⟨s22, pl⟩ := u23
  obtain ⟨⟨eq23, hFc23, -⟩, hO⟩ := hu23
  have hO : okn g T s22 pl := hO
  have hP : va_P g.1 vcl ([] ++ pl) _ := hP
  have hD : va_D _ ([] ++ pl) := hD
  have hFc23 : frm (M_ME_both) s21 s22 := hFc23
  replace hR := bnd_step hR eq23
  replace hE := bndP_step hE eq23
  have hF := frm_tr hF hFc23 (fun k hk => by unfold M_ME_both at hk; unfold M_ME_seal_0; omega)
  refine W.widen (k := 0) (n := 0) (by omega) (by omega) ?_
  refine lv_aload_n hx hb dME_seal_20 rfl (lv_at hl 0 rfl) ?_
  refine lv_iload_n hx hb dME_seal_21 rfl (lv_at hl 1 rfl) ?_
  refine lv_aload_n hx hb dME_seal_22 rfl (lv_at hl 2 rfl) ?_
  refine lv_iconst (v := nI 0) hx hb dME_seal_23 (by decide) ?_
  refine lv_aload_n hx hb dME_seal_24 rfl (lv_at hl 3 rfl) ?_
  refine lv_aload hx hb dME_seal_25 (lv_at hl 4 rfl) ?_
  refine mp_v (cx := []) (wr := []) hP hD hS hA [] [] rfl rfl rfl (by decide) (va_runV (As := [.int (nI 0), .ref ek, .int (nI 0), .ref ms, .ref to]) (rest := []) F (N_ME_encrypt_0 l g _ T s22 pl hO hU h0 ek ms to pek 2592 0 pms 16384 pt 8192 k_h0 k_ek n_ek k_ms n_ms k_to n_to (by omega) (by omega) (by omega) (by omega) (by omega) (by omega) hE.1) (cwV 5 hts (wg_app (wg_c kw_1809 (wg_c kw_1811 (wg_c ks_68 (wg_c kw_11 wg_n)))) kw_1812) rfl rfl rfl (by decide +kernel) ⟨by decide, by decide⟩) (pn_W "LatticeKeysModel$Secrets" (en_ok g) (ci := 11) (kn := 184) (fl := [(3, 172), (3, 178), (3, 185), (3, 202), (3, 207), (3, 212), (3, 217), (3, 218), (3, 219), (3, 220), (3, 221), (3, 222), (3, 223), (3, 224)]) hK hO k_h0 rfl hP hD hS hA hEn [] rfl rfl rfl) rfl rfl hl.1 rfl (lv_room (Nat.le_of_ble_eq_true rfl)) dME_seal_27 ⟨by omega, by omega⟩) (fun  u24 H locs hu24 hP hD hS => ?_)
  obtain ⟨s23, pl⟩ := u24
  obtain ⟨⟨eq24, hFc24, -⟩, hO⟩ := hu24
  have hO : okn g T s23 pl := hO
  have hP : va_P g.1 vcl ([] ++ pl) _ := hP
  have hD : va_D _ ([] ++ pl) := hD
  have hFc24 : frm (M_ME_encrypt_0 pt) s22 s23 := hFc24
  replace hE := hE.2
  replace hR := bnd_step hR eq24
  replace hE := bndP_step hE eq24
  have hF := frm_tr hF hFc24 (fun k hk => by unfold M_ME_encrypt_0 at hk; unfold M_ME_seal_0; omega)
  refine W.widen (k := 0) (n := 0) (by omega) (by omega) ?_
  refine lv_iload_n hx hb dME_seal_30 rfl (lv_at hl 1 rfl) ?_
  refine mp_i (cx := []) (wr := []) hP hD hS hA [] [] rfl rfl rfl (by decide) (va_runS (As := [.int (nI 0)]) (rest := []) F (N_ME_sealedSize_0 l g _ T s23 pl hO hU ) (va_cwS 1 hts (wg_app (wg_c kw_1840 (wg_c kw_1841 (wg_c kw_11 wg_n))) kw_1842) rfl rfl rfl (by decide +kernel) ⟨by decide, by decide⟩) (pp_S (en_ok g) hP hD hS hA hEn [] rfl rfl) rfl rfl hl.1 rfl (lv_room (Nat.le_of_ble_eq_true rfl)) dME_seal_31 ⟨by omega, by omega⟩) (fun r23 u25 H locs hu25 hP hD hS => ?_)
  obtain ⟨q22, pl⟩ := u25
  obtain ⟨⟨eq25, rfl, hFc25, ⟨x25, hx_25, hb_25⟩, hxp25, -⟩, hO⟩ := hu25
  have hO : okn g T q22.2 pl := hO
  have hP : va_P g.1 vcl ([] ++ pl) _ := hP
  have hD : va_D _ ([] ++ pl) := hD
  have hFc25 : frm (M_ME_sealedSize_0) s23 q22.2 := hFc25
  have hb_25 : x25 < 769 := hb_25
  replace hR := bnd_step hR eq25
  replace hE := bndP_step hE eq25
  have hF := frm_tr hF hFc25 (fun k hk => by unfold M_ME_sealedSize_0 at hk; unfold M_ME_seal_0; omega)
  obtain ⟨z22, ez22, hz23, hz24⟩ := cl_of (b := 2147483648) hx_25 (by omega) (by decide)
  replace hR := bnd_step hR ez22
  replace hE := bndP_step hE ez22
  refine mi_as hz23 ?_
  have hsz22 : z22 = 768 := (nI_eq (by omega) (by omega)).mp (hz23.symm.trans hxp25)
  subst hsz22
  refine W.widen (k := 0) (n := 0) (by omega) (by omega) ?_
  refine lv_istore (lv' := [(5, .int (nI 768)), (0, .ref h0), (1, .int (nI 0)), (2, .ref ek), (3, .ref ms), (4, .ref to)]) hx hb dME_seal_34 hl (by decide) rfl (fun ls hl => ?_)
  refine lv_iconst (v := nI 0) hx hb dME_seal_36 (by decide) ?_
  refine lv_istore (lv' := [(6, .int (nI 0)), (5, .int (nI 768)), (0, .ref h0), (1, .int (nI 0)), (2, .ref ek), (3, .ref ms), (4, .ref to)]) hx hb dME_seal_37 hl (by decide) rfl (fun ls hl => ?_)
  have lp21 : ∀ (n21 : Nat) (i21 : Nat) (s24 : Sto) (pl : va_W) (ls : Array Slot) (H : Heap) (locs : List Loc), n21 + i21 = 32 → frm (M_ME_seal_0 pt) s s24 → E_ME_seal_0_L0 pt n21 i21 s24 → F_ME_seal_0 pek pms pt s = F_ME_seal_0_L0 pt n21 i21 s24 → lv_has ls 7 [(6, .int (nI i21)), (5, .int (nI 768)), (0, .ref h0), (4, .ref to)] → okn g T s24 pl → va_P g.1 vcl ([] ++ pl) H → va_D A ([] ++ pl) → va_S A s0.heap H locs → W p l e ({ frames := 6, cells := 0, slots := 0, locals := 146 } : Room) s0 m args below meth c H locs 0 0 (MQ below (va_Qi (fun (r : Int32) (u : (Int32 × Sto) × va_W) => (u.1 = F_ME_seal_0 pek pms pt s ∧ r = u.1.1 ∧ frm (M_ME_seal_0 pt) s u.1.2 ∧ (∃ x : Nat, u.1.1 = nI x ∧ x < 801) ∧ (u.1.1 = nI 800) ∧ True) ∧ okn g T u.1.2 u.2) (po g.1 vcl A (fun (u : (Int32 × Sto) × va_W) => [] ++ u.2)) A) args s0 0 0 A) (F0 m 39 ls []) := by
    intro n21
    induction n21 with
    | zero =>
      intro i21 s24 pl ls H locs hm21 hF hE hR hl hO hP hD hS
      refine lv_iload hx hb dME_seal_39 (lv_at hl 0 rfl) ?_
      refine lv_bipush (v := nI 32) hx hb dME_seal_41 (by decide) ?_
      refine mi_ge (tgt := 67) hx hb dME_seal_43 (by decide) (by omega) (by omega) (fun h21 => ?_) (fun h21 => absurd h21 (by omega))
      refine lv_iload hx hb dME_seal_67 (lv_at hl 1 rfl) ?_
      refine lv_bipush (v := nI 32) hx hb dME_seal_69 (by decide) ?_
      refine mi_iadd hx hb dME_seal_71 ?_
      refine mi_as (show nI (768 + 32) = nI 800 from rfl) ?_
      exact mp_iret hx hb hr hlk hP hD hS ((nI 800, s24), pl) ⟨⟨hR.symm, rfl, hF, ⟨800, rfl, by omega⟩, rfl, trivial⟩, hO⟩ [] rfl rfl rfl (by omega) (by omega) dME_seal_72
    | succ n21 ih21 =>
      intro i21 s24 pl ls H locs hm21 hF hE hR hl hO hP hD hS
      refine lv_iload hx hb dME_seal_39 (lv_at hl 0 rfl) ?_
      refine lv_bipush (v := nI 32) hx hb dME_seal_41 (by decide) ?_
      refine mi_ge (tgt := 67) hx hb dME_seal_43 (by decide) (by omega) (by omega) (fun h22 => absurd h22 (by omega)) (fun h22 => ?_)
      refine lv_aload hx hb dME_seal_46 (lv_at hl 3 rfl) ?_
      refine lv_iload hx hb dME_seal_48 (lv_at hl 1 rfl) ?_
      refine lv_iload hx hb dME_seal_50 (lv_at hl 0 rfl) ?_
      refine mi_iadd hx hb dME_seal_52 ?_
      refine lv_aload_n hx hb dME_seal_53 rfl (lv_at hl 2 rfl) ?_
      refine nw_get (C := "LatticeKeysModel$Secrets") (TT := T_ME) (N := 14) hx hb hts (wg_ft i_ME) hown hK hO k_h0 (kn := 184) (ci := 11) (fl := [(3, 172), (3, 178), (3, 185), (3, 202), (3, 207), (3, 212), (3, 217), (3, 218), (3, 219), (3, 220), (3, 221), (3, 222), (3, 223), (3, 224)]) rfl hP rfl 9 (by decide) (hts _ (wg_t kw_1388)) (fun _ h9 => h9) (cd := (3, 220)) rfl dME_seal_54 (fun v22 hv22 => ?_)
      obtain ⟨r24, rfl, kr22⟩ := (show ∃ r : Nat, v22 = .ref r ∧ T r = some 220 from hv22)
      refine lv_iload hx hb dME_seal_57 (lv_at hl 0 rfl) ?_
      refine nw_bald hx hb hK hO kr22 (k := 220) rfl hP (by omega) (by omega) dME_seal_59 ?_
      refine nw_bast hx hb hK hO hU k_to (k := pt) n_to hP hD hS (by omega) (by omega) dME_seal_60 (fun s25 pl H locs es21 hO hP hD hS => ?_)
      replace hR := bnd_step hR es21
      replace hE := bndP_step hE es21
      have hF := frm_sB hF es21 (by unfold M_ME_seal_0; omega)
      refine mi_iinc (k := 0) (x := i21) (d := 1) (y := i21 + 1) (lv' := [(6, .int (nI (i21 + 1))), (5, .int (nI 768)), (0, .ref h0), (4, .ref to)]) hx hb dME_seal_61 hl rfl (by decide) rfl (by decide) rfl (fun ls hl => ?_)
      refine lv_goto (tgt := 39) hx hb dME_seal_64 (by decide) ?_
      exact ih21 (i21 + 1) s25 pl ls H locs (by omega) hF hE hR (lv_sub hl [0, 1, 2, 3] rfl) hO hP hD hS
  exact lp21 32 0 q22.2 pl ls _ _ (by omega) hF hE hR (lv_sub hl [0, 1, 2, 6] rfl) hO hP hD hS
def M_ME_seal_1 (pt : Nat) (k : Nat) : Prop := (186 ≤ k ∧ k < 202) ∨ (203 ≤ k ∧ k < 207) ∨ (208 ≤ k ∧ k < 212) ∨ (213 ≤ k ∧ k < 217) ∨ k = 172 ∨ k = 217 ∨ k = 218 ∨ k = 219 ∨ k = 220 ∨ k = 221 ∨ k = 222 ∨ k = pt ∨ (0 : Nat) = 1
noncomputable def F_ME_seal_1_L0 (pt : Nat) : Nat → Nat → Sto → Int32 × Sto
  | 0, i21, s24 => (nI 1120, s24)
  | n21 + 1, i21, s24 => bnd (sB s24 pt (1088 + i21) (s24.1 220 i21)) fun s25 => F_ME_seal_1_L0 pt n21 (i21 + 1) s25
noncomputable def E_ME_seal_1_L0 (pt : Nat) : Nat → Nat → Sto → Prop
  | 0, i21, s24 => True
  | n21 + 1, i21, s24 => bnd (sB s24 pt (1088 + i21) (s24.1 220 i21)) fun s25 => E_ME_seal_1_L0 pt n21 (i21 + 1) s25
noncomputable def F_ME_seal_1 (pek : Nat) (pms : Nat) (pt : Nat) (s : Sto) : Int32 × Sto := bnd (F_ME_openSize_1  s) fun q21 => bnd (q21.1.toNatClampNeg) fun z21 => bnd (F_ME_hash pek 2592 0 1184 222 32 0 q21.2) fun s21 => bnd (F_ME_both pms 16384 s21) fun s22 => bnd (F_ME_encrypt_1 pek 2592 0 pms 16384 pt 8192 s22) fun s23 => bnd (F_ME_sealedSize_1  s23) fun q22 => bnd (q22.1.toNatClampNeg) fun z22 => F_ME_seal_1_L0 pt 32 0 q22.2
noncomputable def E_ME_seal_1 (pek : Nat) (pms : Nat) (pt : Nat) (s : Sto) : Prop := bnd (F_ME_openSize_1  s) fun q21 => bnd (q21.1.toNatClampNeg) fun z21 => bnd (F_ME_hash pek 2592 0 1184 222 32 0 q21.2) fun s21 => bnd (F_ME_both pms 16384 s21) fun s22 => (E_ME_encrypt_1 pek 2592 0 pms 16384 pt 8192 s22) ∧ (bnd (F_ME_encrypt_1 pek 2592 0 pms 16384 pt 8192 s22) fun s23 => bnd (F_ME_sealedSize_1  s23) fun q22 => bnd (q22.1.toNatClampNeg) fun z22 => E_ME_seal_1_L0 pt 32 0 q22.2)
set_option maxHeartbeats 8000000 in
set_option maxRecDepth 100000 in
theorem N_ME_seal_1 (l : Launch) (g : Gd) (sz : Nat) (T : TyN) (s : Sto) (pl : va_W) (hO : okn g T s pl) (hU : inj T) (h0 ek ms to : Nat) (pek : Nat) (pms : Nat) (pt : Nat) (k_h0 : T h0 = some 184) (k_ek : T ek = some pek) (n_ek : nsp pek = (1, 2592, [])) (k_ms : T ms = some pms) (n_ms : nsp pms = (1, 16384, [])) (k_to : T to = some pt) (n_to : nsp pt = (1, 8192, [])) (hE : E_ME_seal_1 pek pms pt s)  : Met l y_ME_seal w_ME_seal ({ frames := 6, cells := 0, slots := 0, locals := 146 } : Room) (va_Pc [.ref h0, .int (nI 1), .ref ek, .ref ms, .ref to] (pr (en g) g.1 vcl sz ([] ++ pl))) (va_Qi (fun (r : Int32) (u : (Int32 × Sto) × va_W) => (u.1 = F_ME_seal_1 pek pms pt s ∧ r = u.1.1 ∧ frm (M_ME_seal_1 pt) s u.1.2 ∧ (∃ x : Nat, u.1.1 = nI x ∧ x < 1121) ∧ (u.1.1 = nI 1120) ∧ True) ∧ okn g T u.1.2 u.2) (po g.1 vcl (va_A ([] ++ pl) sz) (fun (u : (Int32 × Sto) × va_W) => [] ++ u.2)) (va_A ([] ++ pl) sz)) 0 0 (va_A ([] ++ pl) sz) := by
  refine mc_entry (cc := c_ME_seal) (maxL := 7) (ret := (some .int)) (by decide) rfl (Nat.le_of_ble_eq_true rfl) ?_
  intro p e s0 m args below meth c ls F hr hlk hnm hsz hP hD hEn hA hl
  obtain ⟨hx, hb, hml, hown, hts⟩ := id F
  have hK := hEn.1
  generalize va_A ([] ++ pl) sz = A at hD hEn hA ⊢
  have hS : va_S A s0.heap s0.heap [] := va_S.rf
  have hl : lv_has ls 7 [(0, .ref h0), (1, .int (nI 1)), (2, .ref ek), (3, .ref ms), (4, .ref to)] := hl
  have hR : F_ME_seal_1 pek pms pt s = F_ME_seal_1 pek pms pt s := rfl
  have hF : frm (M_ME_seal_1 pt) s s := frm_rf
  refine lv_aload_n hx hb dME_seal_0 rfl (lv_at hl 0 rfl) ?_
  refine lv_aload_n hx hb dME_seal_1 rfl (lv_at hl 2 rfl) ?_
  refine lv_iconst (v := nI 0) hx hb dME_seal_2 (by decide) ?_
  refine lv_iload_n hx hb dME_seal_3 rfl (lv_at hl 1 rfl) ?_
  refine mp_i (cx := []) (wr := []) hP hD hS hA [] [] rfl rfl rfl (by decide) (va_runS (As := [.int (nI 1)]) (rest := [.int (nI 0), .ref ek, .ref h0]) F (N_ME_openSize_1 l g _ T s pl hO hU ) (va_cwS 1 hts (wg_app (wg_c kw_1691 (wg_c kw_1692 (wg_c kw_11 wg_n))) kw_1693) rfl rfl rfl (by decide +kernel) ⟨by decide, by decide⟩) (pp_S (en_ok g) hP hD hS hA hEn [] rfl rfl) rfl rfl hl.1 rfl (lv_room (Nat.le_of_ble_eq_true rfl)) dME_seal_4 ⟨by omega, by omega⟩) (fun r21 u21 H locs hu21 hP hD hS => ?_)
  obtain ⟨q21, pl⟩ := u21
  obtain ⟨⟨eq21, rfl, hFc21, ⟨x21, hx_21, hb_21⟩, hxp21, -⟩, hO⟩ := hu21
  have hO : okn g T q21.2 pl := hO
  have hP : va_P g.1 vcl ([] ++ pl) _ := hP
  have hD : va_D _ ([] ++ pl) := hD
  have hFc21 : frm (M_ME_openSize_1) s q21.2 := hFc21
  have hb_21 : x21 < 1185 := hb_21
  replace hR := bnd_step hR eq21
  replace hE := bndP_step hE eq21
  have hF := frm_tr hF hFc21 (fun k hk => by unfold M_ME_openSize_1 at hk; unfold M_ME_seal_1; omega)
  obtain ⟨z21, ez21, hz21, hz22⟩ := cl_of (b := 2147483648) hx_21 (by omega) (by decide)
  replace hR := bnd_step hR ez21
  replace hE := bndP_step hE ez21
  refine mi_as hz21 ?_
  have hsz21 : z21 = 1184 := (nI_eq (by omega) (by omega)).mp (hz21.symm.trans hxp21)
  subst hsz21
  refine W.widen (k := 0) (n := 0) (by omega) (by omega) ?_
  refine lv_aload_n hx hb dME_seal_7 rfl (lv_at hl 0 rfl) ?_
  refine nw_get (C := "LatticeKeysModel$Secrets") (TT := T_ME) (N := 14) hx hb hts (wg_ft i_ME) hown hK hO k_h0 (kn := 184) (ci := 11) (fl := [(3, 172), (3, 178), (3, 185), (3, 202), (3, 207), (3, 212), (3, 217), (3, 218), (3, 219), (3, 220), (3, 221), (3, 222), (3, 223), (3, 224)]) rfl hP rfl 11 (by decide) (hts _ (wg_t kw_1390)) (fun _ h9 => h9) (cd := (3, 222)) rfl dME_seal_8 (fun v21 hv21 => ?_)
  obtain ⟨r22, rfl, kr21⟩ := (show ∃ r : Nat, v21 = .ref r ∧ T r = some 222 from hv21)
  refine lv_iconst (v := nI 0) hx hb dME_seal_11 (by decide) ?_
  refine mp_v (cx := []) (wr := []) hP hD hS hA [] [] rfl rfl rfl (by decide) (va_runV (As := [.ref ek, .int (nI 0), .int (nI 1184), .ref r22, .int (nI 0)]) (rest := []) F (N_ME_hash l g _ T q21.2 pl hO hU h0 ek r22 pek 2592 0 1184 222 32 0 k_h0 k_ek n_ek kr21 rfl (by omega) (by omega) (by omega) (by omega)) (cwV 5 hts (wg_app (wg_c kw_1694 (wg_c kw_1696 (wg_c ks_59 (wg_c kw_11 wg_n)))) kw_1697) rfl rfl rfl (by decide +kernel) ⟨by decide, by decide⟩) (pn_W "LatticeKeysModel$Secrets" (en_ok g) (ci := 11) (kn := 184) (fl := [(3, 172), (3, 178), (3, 185), (3, 202), (3, 207), (3, 212), (3, 217), (3, 218), (3, 219), (3, 220), (3, 221), (3, 222), (3, 223), (3, 224)]) hK hO k_h0 rfl hP hD hS hA hEn [] rfl rfl rfl) rfl rfl hl.1 rfl (lv_room (Nat.le_of_ble_eq_true rfl)) dME_seal_12 ⟨by omega, by omega⟩) (fun  u22 H locs hu22 hP hD hS => ?_)
  obtain ⟨s21, pl⟩ := u22
  obtain ⟨⟨eq22, hFc22, -⟩, hO⟩ := hu22
  have hO : okn g T s21 pl := hO
  have hP : va_P g.1 vcl ([] ++ pl) _ := hP
  have hD : va_D _ ([] ++ pl) := hD
  have hFc22 : frm (M_ME_hash 222) q21.2 s21 := hFc22
  replace hR := bnd_step hR eq22
  replace hE := bndP_step hE eq22
  have hF := frm_tr hF hFc22 (fun k hk => by unfold M_ME_hash at hk; unfold M_ME_seal_1; omega)
  refine W.widen (k := 0) (n := 0) (by omega) (by omega) ?_
  refine lv_aload_n hx hb dME_seal_15 rfl (lv_at hl 0 rfl) ?_
  refine lv_aload_n hx hb dME_seal_16 rfl (lv_at hl 3 rfl) ?_
  refine mp_v (cx := []) (wr := []) hP hD hS hA [] [] rfl rfl rfl (by decide) (va_runV (As := [.ref ms]) (rest := []) F (N_ME_both l g _ T s21 pl hO hU h0 ms pms 16384 k_h0 k_ms n_ms (by omega) (by omega)) (cwV 1 hts (wg_app (wg_c kw_1805 (wg_c kw_1807 (wg_c ks_67 (wg_c kw_11 wg_n)))) kw_1808) rfl rfl rfl (by decide +kernel) ⟨by decide, by decide⟩) (pn_W "LatticeKeysModel$Secrets" (en_ok g) (ci := 11) (kn := 184) (fl := [(3, 172), (3, 178), (3, 185), (3, 202), (3, 207), (3, 212), (3, 217), (3, 218), (3, 219), (3, 220), (3, 221), (3, 222), (3, 223), (3, 224)]) hK hO k_h0 rfl hP hD hS hA hEn [] rfl rfl rfl) rfl rfl hl.1 rfl (lv_room (Nat.le_of_ble_eq_true rfl)) dME_seal_17 ⟨by omega, by omega⟩) (fun  u23 H locs hu23 hP hD hS => ?_)
  obtain ⟨s22, pl⟩ := u23
  obtain ⟨⟨eq23, hFc23, -⟩, hO⟩ := hu23
  have hO : okn g T s22 pl := hO
  have hP : va_P g.1 vcl ([] ++ pl) _ := hP
  have hD : va_D _ ([] ++ pl) := hD
  have hFc23 : frm (M_ME_both) s21 s22 := hFc23
  replace hR := bnd_step hR eq23
  replace hE := bndP_step hE eq23
  have hF := frm_tr hF hFc23 (fun k hk => by unfold M_ME_both at hk; unfold M_ME_seal_1; omega)
  refine W.widen (k := 0) (n := 0) (by omega) (by omega) ?_
  refine lv_aload_n hx hb dME_seal_20 rfl (lv_at hl 0 rfl) ?_
  refine lv_iload_n hx hb dME_seal_21 rfl (lv_at hl 1 rfl) ?_
  refine lv_aload_n hx hb dME_seal_22 rfl (lv_at hl 2 rfl) ?_
  refine lv_iconst (v := nI 0) hx hb dME_seal_23 (by decide) ?_
  refine lv_aload_n hx hb dME_seal_24 rfl (lv_at hl 3 rfl) ?_
  refine lv_aload hx hb dME_seal_25 (lv_at hl 4 rfl) ?_
  refine mp_v (cx := []) (wr := []) hP hD hS hA [] [] rfl rfl rfl (by decide) (va_runV (As := [.int (nI 1), .ref ek, .int (nI 0), .ref ms, .ref to]) (rest := []) F (N_ME_encrypt_1 l g _ T s22 pl hO hU h0 ek ms to pek 2592 0 pms 16384 pt 8192 k_h0 k_ek n_ek k_ms n_ms k_to n_to (by omega) (by omega) (by omega) (by omega) (by omega) (by omega) hE.1) (cwV 5 hts (wg_app (wg_c kw_1809 (wg_c kw_1811 (wg_c ks_68 (wg_c kw_11 wg_n)))) kw_1812) rfl rfl rfl (by decide +kernel) ⟨by decide, by decide⟩) (pn_W "LatticeKeysModel$Secrets" (en_ok g) (ci := 11) (kn := 184) (fl := [(3, 172), (3, 178), (3, 185), (3, 202), (3, 207), (3, 212), (3, 217), (3, 218), (3, 219), (3, 220), (3, 221), (3, 222), (3, 223), (3, 224)]) hK hO k_h0 rfl hP hD hS hA hEn [] rfl rfl rfl) rfl rfl hl.1 rfl (lv_room (Nat.le_of_ble_eq_true rfl)) dME_seal_27 ⟨by omega, by omega⟩) (fun  u24 H locs hu24 hP hD hS => ?_)
  obtain ⟨s23, pl⟩ := u24
  obtain ⟨⟨eq24, hFc24, -⟩, hO⟩ := hu24
  have hO : okn g T s23 pl := hO
  have hP : va_P g.1 vcl ([] ++ pl) _ := hP
  have hD : va_D _ ([] ++ pl) := hD
  have hFc24 : frm (M_ME_encrypt_1 pt) s22 s23 := hFc24
  replace hE := hE.2
  replace hR := bnd_step hR eq24
  replace hE := bndP_step hE eq24
  have hF := frm_tr hF hFc24 (fun k hk => by unfold M_ME_encrypt_1 at hk; unfold M_ME_seal_1; omega)
  refine W.widen (k := 0) (n := 0) (by omega) (by omega) ?_
  refine lv_iload_n hx hb dME_seal_30 rfl (lv_at hl 1 rfl) ?_
  refine mp_i (cx := []) (wr := []) hP hD hS hA [] [] rfl rfl rfl (by decide) (va_runS (As := [.int (nI 1)]) (rest := []) F (N_ME_sealedSize_1 l g _ T s23 pl hO hU ) (va_cwS 1 hts (wg_app (wg_c kw_1840 (wg_c kw_1841 (wg_c kw_11 wg_n))) kw_1842) rfl rfl rfl (by decide +kernel) ⟨by decide, by decide⟩) (pp_S (en_ok g) hP hD hS hA hEn [] rfl rfl) rfl rfl hl.1 rfl (lv_room (Nat.le_of_ble_eq_true rfl)) dME_seal_31 ⟨by omega, by omega⟩) (fun r23 u25 H locs hu25 hP hD hS => ?_)
  obtain ⟨q22, pl⟩ := u25
  obtain ⟨⟨eq25, rfl, hFc25, ⟨x25, hx_25, hb_25⟩, hxp25, -⟩, hO⟩ := hu25
  have hO : okn g T q22.2 pl := hO
  have hP : va_P g.1 vcl ([] ++ pl) _ := hP
  have hD : va_D _ ([] ++ pl) := hD
  have hFc25 : frm (M_ME_sealedSize_1) s23 q22.2 := hFc25
  have hb_25 : x25 < 1089 := hb_25
  replace hR := bnd_step hR eq25
  replace hE := bndP_step hE eq25
  have hF := frm_tr hF hFc25 (fun k hk => by unfold M_ME_sealedSize_1 at hk; unfold M_ME_seal_1; omega)
  obtain ⟨z22, ez22, hz23, hz24⟩ := cl_of (b := 2147483648) hx_25 (by omega) (by decide)
  replace hR := bnd_step hR ez22
  replace hE := bndP_step hE ez22
  refine mi_as hz23 ?_
  have hsz22 : z22 = 1088 := (nI_eq (by omega) (by omega)).mp (hz23.symm.trans hxp25)
  subst hsz22
  refine W.widen (k := 0) (n := 0) (by omega) (by omega) ?_
  refine lv_istore (lv' := [(5, .int (nI 1088)), (0, .ref h0), (1, .int (nI 1)), (2, .ref ek), (3, .ref ms), (4, .ref to)]) hx hb dME_seal_34 hl (by decide) rfl (fun ls hl => ?_)
  refine lv_iconst (v := nI 0) hx hb dME_seal_36 (by decide) ?_
  refine lv_istore (lv' := [(6, .int (nI 0)), (5, .int (nI 1088)), (0, .ref h0), (1, .int (nI 1)), (2, .ref ek), (3, .ref ms), (4, .ref to)]) hx hb dME_seal_37 hl (by decide) rfl (fun ls hl => ?_)
  have lp21 : ∀ (n21 : Nat) (i21 : Nat) (s24 : Sto) (pl : va_W) (ls : Array Slot) (H : Heap) (locs : List Loc), n21 + i21 = 32 → frm (M_ME_seal_1 pt) s s24 → E_ME_seal_1_L0 pt n21 i21 s24 → F_ME_seal_1 pek pms pt s = F_ME_seal_1_L0 pt n21 i21 s24 → lv_has ls 7 [(6, .int (nI i21)), (5, .int (nI 1088)), (0, .ref h0), (4, .ref to)] → okn g T s24 pl → va_P g.1 vcl ([] ++ pl) H → va_D A ([] ++ pl) → va_S A s0.heap H locs → W p l e ({ frames := 6, cells := 0, slots := 0, locals := 146 } : Room) s0 m args below meth c H locs 0 0 (MQ below (va_Qi (fun (r : Int32) (u : (Int32 × Sto) × va_W) => (u.1 = F_ME_seal_1 pek pms pt s ∧ r = u.1.1 ∧ frm (M_ME_seal_1 pt) s u.1.2 ∧ (∃ x : Nat, u.1.1 = nI x ∧ x < 1121) ∧ (u.1.1 = nI 1120) ∧ True) ∧ okn g T u.1.2 u.2) (po g.1 vcl A (fun (u : (Int32 × Sto) × va_W) => [] ++ u.2)) A) args s0 0 0 A) (F0 m 39 ls []) := by
    intro n21
    induction n21 with
    | zero =>
      intro i21 s24 pl ls H locs hm21 hF hE hR hl hO hP hD hS
      refine lv_iload hx hb dME_seal_39 (lv_at hl 0 rfl) ?_
      refine lv_bipush (v := nI 32) hx hb dME_seal_41 (by decide) ?_
      refine mi_ge (tgt := 67) hx hb dME_seal_43 (by decide) (by omega) (by omega) (fun h21 => ?_) (fun h21 => absurd h21 (by omega))
      refine lv_iload hx hb dME_seal_67 (lv_at hl 1 rfl) ?_
      refine lv_bipush (v := nI 32) hx hb dME_seal_69 (by decide) ?_
      refine mi_iadd hx hb dME_seal_71 ?_
      refine mi_as (show nI (1088 + 32) = nI 1120 from rfl) ?_
      exact mp_iret hx hb hr hlk hP hD hS ((nI 1120, s24), pl) ⟨⟨hR.symm, rfl, hF, ⟨1120, rfl, by omega⟩, rfl, trivial⟩, hO⟩ [] rfl rfl rfl (by omega) (by omega) dME_seal_72
    | succ n21 ih21 =>
      intro i21 s24 pl ls H locs hm21 hF hE hR hl hO hP hD hS
      refine lv_iload hx hb dME_seal_39 (lv_at hl 0 rfl) ?_
      refine lv_bipush (v := nI 32) hx hb dME_seal_41 (by decide) ?_
      refine mi_ge (tgt := 67) hx hb dME_seal_43 (by decide) (by omega) (by omega) (fun h22 => absurd h22 (by omega)) (fun h22 => ?_)
      refine lv_aload hx hb dME_seal_46 (lv_at hl 3 rfl) ?_
      refine lv_iload hx hb dME_seal_48 (lv_at hl 1 rfl) ?_
      refine lv_iload hx hb dME_seal_50 (lv_at hl 0 rfl) ?_
      refine mi_iadd hx hb dME_seal_52 ?_
      refine lv_aload_n hx hb dME_seal_53 rfl (lv_at hl 2 rfl) ?_
      refine nw_get (C := "LatticeKeysModel$Secrets") (TT := T_ME) (N := 14) hx hb hts (wg_ft i_ME) hown hK hO k_h0 (kn := 184) (ci := 11) (fl := [(3, 172), (3, 178), (3, 185), (3, 202), (3, 207), (3, 212), (3, 217), (3, 218), (3, 219), (3, 220), (3, 221), (3, 222), (3, 223), (3, 224)]) rfl hP rfl 9 (by decide) (hts _ (wg_t kw_1388)) (fun _ h9 => h9) (cd := (3, 220)) rfl dME_seal_54 (fun v22 hv22 => ?_)
      obtain ⟨r24, rfl, kr22⟩ := (show ∃ r : Nat, v22 = .ref r ∧ T r = some 220 from hv22)
      refine lv_iload hx hb dME_seal_57 (lv_at hl 0 rfl) ?_
      refine nw_bald hx hb hK hO kr22 (k := 220) rfl hP (by omega) (by omega) dME_seal_59 ?_
      refine nw_bast hx hb hK hO hU k_to (k := pt) n_to hP hD hS (by omega) (by omega) dME_seal_60 (fun s25 pl H locs es21 hO hP hD hS => ?_)
      replace hR := bnd_step hR es21
      replace hE := bndP_step hE es21
      have hF := frm_sB hF es21 (by unfold M_ME_seal_1; omega)
      refine mi_iinc (k := 0) (x := i21) (d := 1) (y := i21 + 1) (lv' := [(6, .int (nI (i21 + 1))), (5, .int (nI 1088)), (0, .ref h0), (4, .ref to)]) hx hb dME_seal_61 hl rfl (by decide) rfl (by decide) rfl (fun ls hl => ?_)
      refine lv_goto (tgt := 39) hx hb dME_seal_64 (by decide) ?_
      exact ih21 (i21 + 1) s25 pl ls H locs (by omega) hF hE hR (lv_sub hl [0, 1, 2, 3] rfl) hO hP hD hS
  exact lp21 32 0 q22.2 pl ls _ _ (by omega) hF hE hR (lv_sub hl [0, 1, 2, 6] rfl) hO hP hD hS
def M_ME_seal_2 (pt : Nat) (k : Nat) : Prop := (186 ≤ k ∧ k < 202) ∨ (203 ≤ k ∧ k < 207) ∨ (208 ≤ k ∧ k < 212) ∨ (213 ≤ k ∧ k < 217) ∨ k = 172 ∨ k = 217 ∨ k = 218 ∨ k = 219 ∨ k = 220 ∨ k = 221 ∨ k = 222 ∨ k = pt ∨ (0 : Nat) = 1
noncomputable def F_ME_seal_2_L0 (pt : Nat) : Nat → Nat → Sto → Int32 × Sto
  | 0, i21, s24 => (nI 1600, s24)
  | n21 + 1, i21, s24 => bnd (sB s24 pt (1568 + i21) (s24.1 220 i21)) fun s25 => F_ME_seal_2_L0 pt n21 (i21 + 1) s25
noncomputable def E_ME_seal_2_L0 (pt : Nat) : Nat → Nat → Sto → Prop
  | 0, i21, s24 => True
  | n21 + 1, i21, s24 => bnd (sB s24 pt (1568 + i21) (s24.1 220 i21)) fun s25 => E_ME_seal_2_L0 pt n21 (i21 + 1) s25
noncomputable def F_ME_seal_2 (pek : Nat) (pms : Nat) (pt : Nat) (s : Sto) : Int32 × Sto := bnd (F_ME_openSize_2  s) fun q21 => bnd (q21.1.toNatClampNeg) fun z21 => bnd (F_ME_hash pek 2592 0 1568 222 32 0 q21.2) fun s21 => bnd (F_ME_both pms 16384 s21) fun s22 => bnd (F_ME_encrypt_2 pek 2592 0 pms 16384 pt 8192 s22) fun s23 => bnd (F_ME_sealedSize_2  s23) fun q22 => bnd (q22.1.toNatClampNeg) fun z22 => F_ME_seal_2_L0 pt 32 0 q22.2
noncomputable def E_ME_seal_2 (pek : Nat) (pms : Nat) (pt : Nat) (s : Sto) : Prop := bnd (F_ME_openSize_2  s) fun q21 => bnd (q21.1.toNatClampNeg) fun z21 => bnd (F_ME_hash pek 2592 0 1568 222 32 0 q21.2) fun s21 => bnd (F_ME_both pms 16384 s21) fun s22 => (E_ME_encrypt_2 pek 2592 0 pms 16384 pt 8192 s22) ∧ (bnd (F_ME_encrypt_2 pek 2592 0 pms 16384 pt 8192 s22) fun s23 => bnd (F_ME_sealedSize_2  s23) fun q22 => bnd (q22.1.toNatClampNeg) fun z22 => E_ME_seal_2_L0 pt 32 0 q22.2)
set_option maxHeartbeats 8000000 in
set_option maxRecDepth 100000 in
theorem N_ME_seal_2 (l : Launch) (g : Gd) (sz : Nat) (T : TyN) (s : Sto) (pl : va_W) (hO : okn g T s pl) (hU : inj T) (h0 ek ms to : Nat) (pek : Nat) (pms : Nat) (pt : Nat) (k_h0 : T h0 = some 184) (k_ek : T ek = some pek) (n_ek : nsp pek = (1, 2592, [])) (k_ms : T ms = some pms) (n_ms : nsp pms = (1, 16384, [])) (k_to : T to = some pt) (n_to : nsp pt = (1, 8192, [])) (hE : E_ME_seal_2 pek pms pt s)  : Met l y_ME_seal w_ME_seal ({ frames := 6, cells := 0, slots := 0, locals := 146 } : Room) (va_Pc [.ref h0, .int (nI 2), .ref ek, .ref ms, .ref to] (pr (en g) g.1 vcl sz ([] ++ pl))) (va_Qi (fun (r : Int32) (u : (Int32 × Sto) × va_W) => (u.1 = F_ME_seal_2 pek pms pt s ∧ r = u.1.1 ∧ frm (M_ME_seal_2 pt) s u.1.2 ∧ (∃ x : Nat, u.1.1 = nI x ∧ x < 1601) ∧ (u.1.1 = nI 1600) ∧ True) ∧ okn g T u.1.2 u.2) (po g.1 vcl (va_A ([] ++ pl) sz) (fun (u : (Int32 × Sto) × va_W) => [] ++ u.2)) (va_A ([] ++ pl) sz)) 0 0 (va_A ([] ++ pl) sz) := by
  refine mc_entry (cc := c_ME_seal) (maxL := 7) (ret := (some .int)) (by decide) rfl (Nat.le_of_ble_eq_true rfl) ?_
  intro p e s0 m args below meth c ls F hr hlk hnm hsz hP hD hEn hA hl
  obtain ⟨hx, hb, hml, hown, hts⟩ := id F
  have hK := hEn.1
  generalize va_A ([] ++ pl) sz = A at hD hEn hA ⊢
  have hS : va_S A s0.heap s0.heap [] := va_S.rf
  have hl : lv_has ls 7 [(0, .ref h0), (1, .int (nI 2)), (2, .ref ek), (3, .ref ms), (4, .ref to)] := hl
  have hR : F_ME_seal_2 pek pms pt s = F_ME_seal_2 pek pms pt s := rfl
  have hF : frm (M_ME_seal_2 pt) s s := frm_rf
  refine lv_aload_n hx hb dME_seal_0 rfl (lv_at hl 0 rfl) ?_
  refine lv_aload_n hx hb dME_seal_1 rfl (lv_at hl 2 rfl) ?_
  refine lv_iconst (v := nI 0) hx hb dME_seal_2 (by decide) ?_
  refine lv_iload_n hx hb dME_seal_3 rfl (lv_at hl 1 rfl) ?_
  refine mp_i (cx := []) (wr := []) hP hD hS hA [] [] rfl rfl rfl (by decide) (va_runS (As := [.int (nI 2)]) (rest := [.int (nI 0), .ref ek, .ref h0]) F (N_ME_openSize_2 l g _ T s pl hO hU ) (va_cwS 1 hts (wg_app (wg_c kw_1691 (wg_c kw_1692 (wg_c kw_11 wg_n))) kw_1693) rfl rfl rfl (by decide +kernel) ⟨by decide, by decide⟩) (pp_S (en_ok g) hP hD hS hA hEn [] rfl rfl) rfl rfl hl.1 rfl (lv_room (Nat.le_of_ble_eq_true rfl)) dME_seal_4 ⟨by omega, by omega⟩) (fun r21 u21 H locs hu21 hP hD hS => ?_)
  obtain ⟨q21, pl⟩ := u21
  obtain ⟨⟨eq21, rfl, hFc21, ⟨x21, hx_21, hb_21⟩, hxp21, -⟩, hO⟩ := hu21
  have hO : okn g T q21.2 pl := hO
  have hP : va_P g.1 vcl ([] ++ pl) _ := hP
  have hD : va_D _ ([] ++ pl) := hD
  have hFc21 : frm (M_ME_openSize_2) s q21.2 := hFc21
  have hb_21 : x21 < 1569 := hb_21
  replace hR := bnd_step hR eq21
  replace hE := bndP_step hE eq21
  have hF := frm_tr hF hFc21 (fun k hk => by unfold M_ME_openSize_2 at hk; unfold M_ME_seal_2; omega)
  obtain ⟨z21, ez21, hz21, hz22⟩ := cl_of (b := 2147483648) hx_21 (by omega) (by decide)
  replace hR := bnd_step hR ez21
  replace hE := bndP_step hE ez21
  refine mi_as hz21 ?_
  have hsz21 : z21 = 1568 := (nI_eq (by omega) (by omega)).mp (hz21.symm.trans hxp21)
  subst hsz21
  refine W.widen (k := 0) (n := 0) (by omega) (by omega) ?_
  refine lv_aload_n hx hb dME_seal_7 rfl (lv_at hl 0 rfl) ?_
  refine nw_get (C := "LatticeKeysModel$Secrets") (TT := T_ME) (N := 14) hx hb hts (wg_ft i_ME) hown hK hO k_h0 (kn := 184) (ci := 11) (fl := [(3, 172), (3, 178), (3, 185), (3, 202), (3, 207), (3, 212), (3, 217), (3, 218), (3, 219), (3, 220), (3, 221), (3, 222), (3, 223), (3, 224)]) rfl hP rfl 11 (by decide) (hts _ (wg_t kw_1390)) (fun _ h9 => h9) (cd := (3, 222)) rfl dME_seal_8 (fun v21 hv21 => ?_)
  obtain ⟨r22, rfl, kr21⟩ := (show ∃ r : Nat, v21 = .ref r ∧ T r = some 222 from hv21)
  refine lv_iconst (v := nI 0) hx hb dME_seal_11 (by decide) ?_
  refine mp_v (cx := []) (wr := []) hP hD hS hA [] [] rfl rfl rfl (by decide) (va_runV (As := [.ref ek, .int (nI 0), .int (nI 1568), .ref r22, .int (nI 0)]) (rest := []) F (N_ME_hash l g _ T q21.2 pl hO hU h0 ek r22 pek 2592 0 1568 222 32 0 k_h0 k_ek n_ek kr21 rfl (by omega) (by omega) (by omega) (by omega)) (cwV 5 hts (wg_app (wg_c kw_1694 (wg_c kw_1696 (wg_c ks_59 (wg_c kw_11 wg_n)))) kw_1697) rfl rfl rfl (by decide +kernel) ⟨by decide, by decide⟩) (pn_W "LatticeKeysModel$Secrets" (en_ok g) (ci := 11) (kn := 184) (fl := [(3, 172), (3, 178), (3, 185), (3, 202), (3, 207), (3, 212), (3, 217), (3, 218), (3, 219), (3, 220), (3, 221), (3, 222), (3, 223), (3, 224)]) hK hO k_h0 rfl hP hD hS hA hEn [] rfl rfl rfl) rfl rfl hl.1 rfl (lv_room (Nat.le_of_ble_eq_true rfl)) dME_seal_12 ⟨by omega, by omega⟩) (fun  u22 H locs hu22 hP hD hS => ?_)
  obtain ⟨s21, pl⟩ := u22
  obtain ⟨⟨eq22, hFc22, -⟩, hO⟩ := hu22
  have hO : okn g T s21 pl := hO
  have hP : va_P g.1 vcl ([] ++ pl) _ := hP
  have hD : va_D _ ([] ++ pl) := hD
  have hFc22 : frm (M_ME_hash 222) q21.2 s21 := hFc22
  replace hR := bnd_step hR eq22
  replace hE := bndP_step hE eq22
  have hF := frm_tr hF hFc22 (fun k hk => by unfold M_ME_hash at hk; unfold M_ME_seal_2; omega)
  refine W.widen (k := 0) (n := 0) (by omega) (by omega) ?_
  refine lv_aload_n hx hb dME_seal_15 rfl (lv_at hl 0 rfl) ?_
  refine lv_aload_n hx hb dME_seal_16 rfl (lv_at hl 3 rfl) ?_
  refine mp_v (cx := []) (wr := []) hP hD hS hA [] [] rfl rfl rfl (by decide) (va_runV (As := [.ref ms]) (rest := []) F (N_ME_both l g _ T s21 pl hO hU h0 ms pms 16384 k_h0 k_ms n_ms (by omega) (by omega)) (cwV 1 hts (wg_app (wg_c kw_1805 (wg_c kw_1807 (wg_c ks_67 (wg_c kw_11 wg_n)))) kw_1808) rfl rfl rfl (by decide +kernel) ⟨by decide, by decide⟩) (pn_W "LatticeKeysModel$Secrets" (en_ok g) (ci := 11) (kn := 184) (fl := [(3, 172), (3, 178), (3, 185), (3, 202), (3, 207), (3, 212), (3, 217), (3, 218), (3, 219), (3, 220), (3, 221), (3, 222), (3, 223), (3, 224)]) hK hO k_h0 rfl hP hD hS hA hEn [] rfl rfl rfl) rfl rfl hl.1 rfl (lv_room (Nat.le_of_ble_eq_true rfl)) dME_seal_17 ⟨by omega, by omega⟩) (fun  u23 H locs hu23 hP hD hS => ?_)
  obtain ⟨s22, pl⟩ := u23
  obtain ⟨⟨eq23, hFc23, -⟩, hO⟩ := hu23
  have hO : okn g T s22 pl := hO
  have hP : va_P g.1 vcl ([] ++ pl) _ := hP
  have hD : va_D _ ([] ++ pl) := hD
  have hFc23 : frm (M_ME_both) s21 s22 := hFc23
  replace hR := bnd_step hR eq23
  replace hE := bndP_step hE eq23
  have hF := frm_tr hF hFc23 (fun k hk => by unfold M_ME_both at hk; unfold M_ME_seal_2; omega)
  refine W.widen (k := 0) (n := 0) (by omega) (by omega) ?_
  refine lv_aload_n hx hb dME_seal_20 rfl (lv_at hl 0 rfl) ?_
  refine lv_iload_n hx hb dME_seal_21 rfl (lv_at hl 1 rfl) ?_
  refine lv_aload_n hx hb dME_seal_22 rfl (lv_at hl 2 rfl) ?_
  refine lv_iconst (v := nI 0) hx hb dME_seal_23 (by decide) ?_
  refine lv_aload_n hx hb dME_seal_24 rfl (lv_at hl 3 rfl) ?_
  refine lv_aload hx hb dME_seal_25 (lv_at hl 4 rfl) ?_
  refine mp_v (cx := []) (wr := []) hP hD hS hA [] [] rfl rfl rfl (by decide) (va_runV (As := [.int (nI 2), .ref ek, .int (nI 0), .ref ms, .ref to]) (rest := []) F (N_ME_encrypt_2 l g _ T s22 pl hO hU h0 ek ms to pek 2592 0 pms 16384 pt 8192 k_h0 k_ek n_ek k_ms n_ms k_to n_to (by omega) (by omega) (by omega) (by omega) (by omega) (by omega) hE.1) (cwV 5 hts (wg_app (wg_c kw_1809 (wg_c kw_1811 (wg_c ks_68 (wg_c kw_11 wg_n)))) kw_1812) rfl rfl rfl (by decide +kernel) ⟨by decide, by decide⟩) (pn_W "LatticeKeysModel$Secrets" (en_ok g) (ci := 11) (kn := 184) (fl := [(3, 172), (3, 178), (3, 185), (3, 202), (3, 207), (3, 212), (3, 217), (3, 218), (3, 219), (3, 220), (3, 221), (3, 222), (3, 223), (3, 224)]) hK hO k_h0 rfl hP hD hS hA hEn [] rfl rfl rfl) rfl rfl hl.1 rfl (lv_room (Nat.le_of_ble_eq_true rfl)) dME_seal_27 ⟨by omega, by omega⟩) (fun  u24 H locs hu24 hP hD hS => ?_)
  obtain ⟨s23, pl⟩ := u24
  obtain ⟨⟨eq24, hFc24, -⟩, hO⟩ := hu24
  have hO : okn g T s23 pl := hO
  have hP : va_P g.1 vcl ([] ++ pl) _ := hP
  have hD : va_D _ ([] ++ pl) := hD
  have hFc24 : frm (M_ME_encrypt_2 pt) s22 s23 := hFc24
  replace hE := hE.2
  replace hR := bnd_step hR eq24
  replace hE := bndP_step hE eq24
  have hF := frm_tr hF hFc24 (fun k hk => by unfold M_ME_encrypt_2 at hk; unfold M_ME_seal_2; omega)
  refine W.widen (k := 0) (n := 0) (by omega) (by omega) ?_
  refine lv_iload_n hx hb dME_seal_30 rfl (lv_at hl 1 rfl) ?_
  refine mp_i (cx := []) (wr := []) hP hD hS hA [] [] rfl rfl rfl (by decide) (va_runS (As := [.int (nI 2)]) (rest := []) F (N_ME_sealedSize_2 l g _ T s23 pl hO hU ) (va_cwS 1 hts (wg_app (wg_c kw_1840 (wg_c kw_1841 (wg_c kw_11 wg_n))) kw_1842) rfl rfl rfl (by decide +kernel) ⟨by decide, by decide⟩) (pp_S (en_ok g) hP hD hS hA hEn [] rfl rfl) rfl rfl hl.1 rfl (lv_room (Nat.le_of_ble_eq_true rfl)) dME_seal_31 ⟨by omega, by omega⟩) (fun r23 u25 H locs hu25 hP hD hS => ?_)
  obtain ⟨q22, pl⟩ := u25
  obtain ⟨⟨eq25, rfl, hFc25, ⟨x25, hx_25, hb_25⟩, hxp25, -⟩, hO⟩ := hu25
  have hO : okn g T q22.2 pl := hO
  have hP : va_P g.1 vcl ([] ++ pl) _ := hP
  have hD : va_D _ ([] ++ pl) := hD
  have hFc25 : frm (M_ME_sealedSize_2) s23 q22.2 := hFc25
  have hb_25 : x25 < 1569 := hb_25
  replace hR := bnd_step hR eq25
  replace hE := bndP_step hE eq25
  have hF := frm_tr hF hFc25 (fun k hk => by unfold M_ME_sealedSize_2 at hk; unfold M_ME_seal_2; omega)
  obtain ⟨z22, ez22, hz23, hz24⟩ := cl_of (b := 2147483648) hx_25 (by omega) (by decide)
  replace hR := bnd_step hR ez22
  replace hE := bndP_step hE ez22
  refine mi_as hz23 ?_
  have hsz22 : z22 = 1568 := (nI_eq (by omega) (by omega)).mp (hz23.symm.trans hxp25)
  subst hsz22
  refine W.widen (k := 0) (n := 0) (by omega) (by omega) ?_
  refine lv_istore (lv' := [(5, .int (nI 1568)), (0, .ref h0), (1, .int (nI 2)), (2, .ref ek), (3, .ref ms), (4, .ref to)]) hx hb dME_seal_34 hl (by decide) rfl (fun ls hl => ?_)
  refine lv_iconst (v := nI 0) hx hb dME_seal_36 (by decide) ?_
  refine lv_istore (lv' := [(6, .int (nI 0)), (5, .int (nI 1568)), (0, .ref h0), (1, .int (nI 2)), (2, .ref ek), (3, .ref ms), (4, .ref to)]) hx hb dME_seal_37 hl (by decide) rfl (fun ls hl => ?_)
  have lp21 : ∀ (n21 : Nat) (i21 : Nat) (s24 : Sto) (pl : va_W) (ls : Array Slot) (H : Heap) (locs : List Loc), n21 + i21 = 32 → frm (M_ME_seal_2 pt) s s24 → E_ME_seal_2_L0 pt n21 i21 s24 → F_ME_seal_2 pek pms pt s = F_ME_seal_2_L0 pt n21 i21 s24 → lv_has ls 7 [(6, .int (nI i21)), (5, .int (nI 1568)), (0, .ref h0), (4, .ref to)] → okn g T s24 pl → va_P g.1 vcl ([] ++ pl) H → va_D A ([] ++ pl) → va_S A s0.heap H locs → W p l e ({ frames := 6, cells := 0, slots := 0, locals := 146 } : Room) s0 m args below meth c H locs 0 0 (MQ below (va_Qi (fun (r : Int32) (u : (Int32 × Sto) × va_W) => (u.1 = F_ME_seal_2 pek pms pt s ∧ r = u.1.1 ∧ frm (M_ME_seal_2 pt) s u.1.2 ∧ (∃ x : Nat, u.1.1 = nI x ∧ x < 1601) ∧ (u.1.1 = nI 1600) ∧ True) ∧ okn g T u.1.2 u.2) (po g.1 vcl A (fun (u : (Int32 × Sto) × va_W) => [] ++ u.2)) A) args s0 0 0 A) (F0 m 39 ls []) := by
    intro n21
    induction n21 with
    | zero =>
      intro i21 s24 pl ls H locs hm21 hF hE hR hl hO hP hD hS
      refine lv_iload hx hb dME_seal_39 (lv_at hl 0 rfl) ?_
      refine lv_bipush (v := nI 32) hx hb dME_seal_41 (by decide) ?_
      refine mi_ge (tgt := 67) hx hb dME_seal_43 (by decide) (by omega) (by omega) (fun h21 => ?_) (fun h21 => absurd h21 (by omega))
      refine lv_iload hx hb dME_seal_67 (lv_at hl 1 rfl) ?_
      refine lv_bipush (v := nI 32) hx hb dME_seal_69 (by decide) ?_
      refine mi_iadd hx hb dME_seal_71 ?_
      refine mi_as (show nI (1568 + 32) = nI 1600 from rfl) ?_
      exact mp_iret hx hb hr hlk hP hD hS ((nI 1600, s24), pl) ⟨⟨hR.symm, rfl, hF, ⟨1600, rfl, by omega⟩, rfl, trivial⟩, hO⟩ [] rfl rfl rfl (by omega) (by omega) dME_seal_72
    | succ n21 ih21 =>
      intro i21 s24 pl ls H locs hm21 hF hE hR hl hO hP hD hS
      refine lv_iload hx hb dME_seal_39 (lv_at hl 0 rfl) ?_
      refine lv_bipush (v := nI 32) hx hb dME_seal_41 (by decide) ?_
      refine mi_ge (tgt := 67) hx hb dME_seal_43 (by decide) (by omega) (by omega) (fun h22 => absurd h22 (by omega)) (fun h22 => ?_)
      refine lv_aload hx hb dME_seal_46 (lv_at hl 3 rfl) ?_
      refine lv_iload hx hb dME_seal_48 (lv_at hl 1 rfl) ?_
      refine lv_iload hx hb dME_seal_50 (lv_at hl 0 rfl) ?_
      refine mi_iadd hx hb dME_seal_52 ?_
      refine lv_aload_n hx hb dME_seal_53 rfl (lv_at hl 2 rfl) ?_
      refine nw_get (C := "LatticeKeysModel$Secrets") (TT := T_ME) (N := 14) hx hb hts (wg_ft i_ME) hown hK hO k_h0 (kn := 184) (ci := 11) (fl := [(3, 172), (3, 178), (3, 185), (3, 202), (3, 207), (3, 212), (3, 217), (3, 218), (3, 219), (3, 220), (3, 221), (3, 222), (3, 223), (3, 224)]) rfl hP rfl 9 (by decide) (hts _ (wg_t kw_1388)) (fun _ h9 => h9) (cd := (3, 220)) rfl dME_seal_54 (fun v22 hv22 => ?_)
      obtain ⟨r24, rfl, kr22⟩ := (show ∃ r : Nat, v22 = .ref r ∧ T r = some 220 from hv22)
      refine lv_iload hx hb dME_seal_57 (lv_at hl 0 rfl) ?_
      refine nw_bald hx hb hK hO kr22 (k := 220) rfl hP (by omega) (by omega) dME_seal_59 ?_
      refine nw_bast hx hb hK hO hU k_to (k := pt) n_to hP hD hS (by omega) (by omega) dME_seal_60 (fun s25 pl H locs es21 hO hP hD hS => ?_)
      replace hR := bnd_step hR es21
      replace hE := bndP_step hE es21
      have hF := frm_sB hF es21 (by unfold M_ME_seal_2; omega)
      refine mi_iinc (k := 0) (x := i21) (d := 1) (y := i21 + 1) (lv' := [(6, .int (nI (i21 + 1))), (5, .int (nI 1568)), (0, .ref h0), (4, .ref to)]) hx hb dME_seal_61 hl rfl (by decide) rfl (by decide) rfl (fun ls hl => ?_)
      refine lv_goto (tgt := 39) hx hb dME_seal_64 (by decide) ?_
      exact ih21 (i21 + 1) s25 pl ls H locs (by omega) hF hE hR (lv_sub hl [0, 1, 2, 3] rfl) hO hP hD hS
  exact lp21 32 0 q22.2 pl ls _ _ (by omega) hF hE hR (lv_sub hl [0, 1, 2, 6] rfl) hO hP hD hS
def M_ME_open_0 (pt : Nat) (k : Nat) : Prop := (186 ≤ k ∧ k < 202) ∨ (203 ≤ k ∧ k < 207) ∨ (208 ≤ k ∧ k < 212) ∨ (213 ≤ k ∧ k < 217) ∨ k = 172 ∨ k = 217 ∨ k = 218 ∨ k = 219 ∨ k = 220 ∨ k = 221 ∨ k = 222 ∨ k = 223 ∨ k = 224 ∨ k = pt ∨ (0 : Nat) = 1
noncomputable def F_ME_open_0_L4 (pdk : Nat) (pct : Nat) (pt : Nat) (z22 : Int32) : Nat → Nat → Sto → Sto
  | 0, i25, s33 => if z22 = 0 then bnd (F_MS_shake  s33) fun s34 => bnd (F_MS_puts pdk 4896 1600 32 s34) fun s35 => bnd (F_MS_puts pct 16384 0 768 s35) fun s36 => bnd (F_MS_end  s36) fun s37 => bnd (F_MS_take pt 8192 0 32 s37) fun s38 => s38 else s33
  | n25 + 1, i25, s33 => bnd (sB s33 pt i25 (s33.1 220 i25)) fun s39 => F_ME_open_0_L4 pdk pct pt z22 n25 (i25 + 1) s39
noncomputable def E_ME_open_0_L4 (pdk : Nat) (pct : Nat) (pt : Nat) (z22 : Int32) : Nat → Nat → Sto → Prop
  | 0, i25, s33 => if z22 = 0 then bnd (F_MS_shake  s33) fun s34 => bnd (F_MS_puts pdk 4896 1600 32 s34) fun s35 => bnd (F_MS_puts pct 16384 0 768 s35) fun s36 => bnd (F_MS_end  s36) fun s37 => bnd (F_MS_take pt 8192 0 32 s37) fun s38 => True else True
  | n25 + 1, i25, s33 => bnd (sB s33 pt i25 (s33.1 220 i25)) fun s39 => E_ME_open_0_L4 pdk pct pt z22 n25 (i25 + 1) s39
noncomputable def F_ME_open_0_L3 (pdk : Nat) (pct : Nat) (pt : Nat) : Nat → Nat → Int32 → Sto → Sto
  | 0, i24, z22, s32 => F_ME_open_0_L4 pdk pct pt z22 32 0 s32
  | n24 + 1, i24, z22, s32 => if (s32.1 224 i24) = (s32.1 pct i24) then bnd ((z22 &&& (nI 1))) fun z24 => F_ME_open_0_L3 pdk pct pt n24 (i24 + 1) z24 s32 else bnd ((z22 &&& (nI 0))) fun z23 => F_ME_open_0_L3 pdk pct pt n24 (i24 + 1) z23 s32
noncomputable def E_ME_open_0_L3 (pdk : Nat) (pct : Nat) (pt : Nat) : Nat → Nat → Int32 → Sto → Prop
  | 0, i24, z22, s32 => E_ME_open_0_L4 pdk pct pt z22 32 0 s32
  | n24 + 1, i24, z22, s32 => if (s32.1 224 i24) = (s32.1 pct i24) then bnd ((z22 &&& (nI 1))) fun z24 => E_ME_open_0_L3 pdk pct pt n24 (i24 + 1) z24 s32 else bnd ((z22 &&& (nI 0))) fun z23 => E_ME_open_0_L3 pdk pct pt n24 (i24 + 1) z23 s32
noncomputable def F_ME_open_0_L2 (pdk : Nat) (pct : Nat) (pt : Nat) : Nat → Nat → Sto → Sto
  | 0, i23, s29 => bnd (F_ME_both 223 32 s29) fun s30 => bnd (F_ME_encrypt_0 pdk 4896 768 223 32 224 1568 s30) fun s31 => F_ME_open_0_L3 pdk pct pt 768 0 (nI 1) s31
  | n23 + 1, i23, s29 => bnd (sB s29 222 i23 (s29.1 pdk (1568 + i23))) fun s40 => F_ME_open_0_L2 pdk pct pt n23 (i23 + 1) s40
noncomputable def E_ME_open_0_L2 (pdk : Nat) (pct : Nat) (pt : Nat) : Nat → Nat → Sto → Prop
  | 0, i23, s29 => bnd (F_ME_both 223 32 s29) fun s30 => (E_ME_encrypt_0 pdk 4896 768 223 32 224 1568 s30) ∧ (bnd (F_ME_encrypt_0 pdk 4896 768 223 32 224 1568 s30) fun s31 => E_ME_open_0_L3 pdk pct pt 768 0 (nI 1) s31)
  | n23 + 1, i23, s29 => bnd (sB s29 222 i23 (s29.1 pdk (1568 + i23))) fun s40 => E_ME_open_0_L2 pdk pct pt n23 (i23 + 1) s40
noncomputable def F_ME_open_0_L1 (pdk : Nat) (pct : Nat) (pt : Nat) : Nat → Nat → Sto → Sto
  | 0, i22, s26 => bnd (F_ME_less_1 218 s26) fun s27 => bnd (F_ME_write_1 218 223 32 0 s27) fun s28 => F_ME_open_0_L2 pdk pct pt 32 0 s28
  | n22 + 1, i22, s26 => bnd (sI s26 218 i22 ((((s26.1 218 i22) - (s26.1 217 i22)) + (nI 3329)) - (((s26.1 218 i22) - (s26.1 217 i22)) + (nI 3329)) / (nI 3329) * (nI 3329))) fun s41 => F_ME_open_0_L1 pdk pct pt n22 (i22 + 1) s41
noncomputable def E_ME_open_0_L1 (pdk : Nat) (pct : Nat) (pt : Nat) : Nat → Nat → Sto → Prop
  | 0, i22, s26 => bnd (F_ME_less_1 218 s26) fun s27 => bnd (F_ME_write_1 218 223 32 0 s27) fun s28 => E_ME_open_0_L2 pdk pct pt 32 0 s28
  | n22 + 1, i22, s26 => bnd (sI s26 218 i22 ((((s26.1 218 i22) - (s26.1 217 i22)) + (nI 3329)) - (((s26.1 218 i22) - (s26.1 217 i22)) + (nI 3329)) / (nI 3329) * (nI 3329))) fun s41 => E_ME_open_0_L1 pdk pct pt n22 (i22 + 1) s41
noncomputable def F_ME_open_0_L0 (pdk : Nat) (pct : Nat) (pt : Nat) : Nat → Nat → Sto → Sto
  | 0, i21, s22 => bnd (F_ME_back 217 s22) fun s23 => bnd (F_ME_read_4 pct 16384 640 218 s23) fun s24 => bnd (F_ME_more_4 218 s24) fun s25 => F_ME_open_0_L1 pdk pct pt 256 0 s25
  | n21 + 1, i21, s22 => bnd (F_ME_read_10 pct 16384 (320 * i21) (203 + i21) s22) fun s42 => bnd (F_ME_more_10 (203 + i21) s42) fun s43 => bnd (F_ME_forth (203 + i21) s43) fun s44 => bnd (F_ME_read_12 pdk 4896 (384 * i21) (208 + i21) s44) fun s45 => bnd (F_ME_proper (208 + i21) s45) fun s46 => bnd (F_ME_product (208 + i21) (203 + i21) 217 s46) fun s47 => F_ME_open_0_L0 pdk pct pt n21 (i21 + 1) s47
noncomputable def E_ME_open_0_L0 (pdk : Nat) (pct : Nat) (pt : Nat) : Nat → Nat → Sto → Prop
  | 0, i21, s22 => bnd (F_ME_back 217 s22) fun s23 => bnd (F_ME_read_4 pct 16384 640 218 s23) fun s24 => bnd (F_ME_more_4 218 s24) fun s25 => E_ME_open_0_L1 pdk pct pt 256 0 s25
  | n21 + 1, i21, s22 => bnd (F_ME_read_10 pct 16384 (320 * i21) (203 + i21) s22) fun s42 => bnd (F_ME_more_10 (203 + i21) s42) fun s43 => bnd (F_ME_forth (203 + i21) s43) fun s44 => bnd (F_ME_read_12 pdk 4896 (384 * i21) (208 + i21) s44) fun s45 => bnd (F_ME_proper (208 + i21) s45) fun s46 => bnd (F_ME_product (208 + i21) (203 + i21) 217 s46) fun s47 => E_ME_open_0_L0 pdk pct pt n21 (i21 + 1) s47
noncomputable def F_ME_open_0 (pdk : Nat) (pct : Nat) (pt : Nat) (s : Sto) : Sto := bnd (F_ME_sealedSize_0  s) fun q21 => bnd (q21.1.toNatClampNeg) fun z21 => bnd (F_ME_clear 217 q21.2) fun s21 => F_ME_open_0_L0 pdk pct pt 2 0 s21
noncomputable def E_ME_open_0 (pdk : Nat) (pct : Nat) (pt : Nat) (s : Sto) : Prop := bnd (F_ME_sealedSize_0  s) fun q21 => bnd (q21.1.toNatClampNeg) fun z21 => bnd (F_ME_clear 217 q21.2) fun s21 => E_ME_open_0_L0 pdk pct pt 2 0 s21
set_option maxHeartbeats 8000000 in
set_option maxRecDepth 100000 in
theorem N_ME_open_0 (l : Launch) (g : Gd) (sz : Nat) (T : TyN) (s : Sto) (pl : va_W) (hO : okn g T s pl) (hU : inj T) (h0 dk ct to : Nat) (pdk : Nat) (pct : Nat) (pt : Nat) (k_h0 : T h0 = some 184) (k_dk : T dk = some pdk) (n_dk : nsp pdk = (1, 4896, [])) (k_ct : T ct = some pct) (n_ct : nsp pct = (1, 16384, [])) (k_to : T to = some pt) (n_to : nsp pt = (1, 8192, [])) (hE : E_ME_open_0 pdk pct pt s)  : Met l y_ME_open w_ME_open ({ frames := 6, cells := 0, slots := 0, locals := 146 } : Room) (va_Pc [.ref h0, .int (nI 0), .ref dk, .ref ct, .ref to] (pr (en g) g.1 vcl sz ([] ++ pl))) (va_Qv (fun (u : (Sto) × va_W) => (u.1 = F_ME_open_0 pdk pct pt s ∧ frm (M_ME_open_0 pt) s u.1 ∧ True) ∧ okn g T u.1 u.2) (po g.1 vcl (va_A ([] ++ pl) sz) (fun (u : (Sto) × va_W) => [] ++ u.2)) (va_A ([] ++ pl) sz)) 0 0 (va_A ([] ++ pl) sz) := by
  refine mc_entry (cc := c_ME_open) (maxL := 9) (ret := none) (by decide) rfl (Nat.le_of_ble_eq_true rfl) ?_
  intro p e s0 m args below meth c ls F hr hlk hnm hsz hP hD hEn hA hl
  obtain ⟨hx, hb, hml, hown, hts⟩ := id F
  have hK := hEn.1
  generalize va_A ([] ++ pl) sz = A at hD hEn hA ⊢
  have hS : va_S A s0.heap s0.heap [] := va_S.rf
  have hl : lv_has ls 9 [(0, .ref h0), (1, .int (nI 0)), (2, .ref dk), (3, .ref ct), (4, .ref to)] := hl
  have hR : F_ME_open_0 pdk pct pt s = F_ME_open_0 pdk pct pt s := rfl
  have hF : frm (M_ME_open_0 pt) s s := frm_rf
  refine va_gets hx hb (hEn.2.1 19 _ rfl).1 hS hown (hts _ (wg_t kw_1605)) (fun _ h9 => h9) dME_open_0 ?_
  refine lv_iload_n hx hb dME_open_3 rfl (lv_at hl 1 rfl) ?_
  refine va_ti (v := .int (nI 2)) hx hb (hEn.2.1 19 _ rfl).2 hS (vp_in_nI (by decide) (by decide)) (by decide +kernel) dME_open_4 ?_
  refine lv_istore (lv' := [(5, .int (nI 2)), (0, .ref h0), (1, .int (nI 0)), (2, .ref dk), (3, .ref ct), (4, .ref to)]) hx hb dME_open_5 hl (by decide) rfl (fun ls hl => ?_)
  refine lv_iload_n hx hb dME_open_7 rfl (lv_at hl 2 rfl) ?_
  refine mp_i (cx := []) (wr := []) hP hD hS hA [] [] rfl rfl rfl (by decide) (va_runS (As := [.int (nI 0)]) (rest := []) F (N_ME_sealedSize_0 l g _ T s pl hO hU ) (va_cwS 1 hts (wg_app (wg_c kw_1840 (wg_c kw_1841 (wg_c kw_11 wg_n))) kw_1842) rfl rfl rfl (by decide +kernel) ⟨by decide, by decide⟩) (pp_S (en_ok g) hP hD hS hA hEn [] rfl rfl) rfl rfl hl.1 rfl (lv_room (Nat.le_of_ble_eq_true rfl)) dME_open_8 ⟨by omega, by omega⟩) (fun r21 u21 H locs hu21 hP hD hS => ?_)
  obtain ⟨q21, pl⟩ := u21
  obtain ⟨⟨eq21, rfl, hFc21, ⟨x21, hx_21, hb_21⟩, hxp21, -⟩, hO⟩ := hu21
  have hO : okn g T q21.2 pl := hO
  have hP : va_P g.1 vcl ([] ++ pl) _ := hP
  have hD : va_D _ ([] ++ pl) := hD
  have hFc21 : frm (M_ME_sealedSize_0) s q21.2 := hFc21
  have hb_21 : x21 < 769 := hb_21
  replace hR := bnd_step hR eq21
  replace hE := bndP_step hE eq21
  have hF := frm_tr hF hFc21 (fun k hk => by unfold M_ME_sealedSize_0 at hk; unfold M_ME_open_0; omega)
  obtain ⟨z21, ez21, hz21, hz22⟩ := cl_of (b := 2147483648) hx_21 (by omega) (by decide)
  replace hR := bnd_step hR ez21
  replace hE := bndP_step hE ez21
  refine mi_as hz21 ?_
  have hsz21 : z21 = 768 := (nI_eq (by omega) (by omega)).mp (hz21.symm.trans hxp21)
  subst hsz21
  refine W.widen (k := 0) (n := 0) (by omega) (by omega) ?_
  refine lv_istore (lv' := [(6, .int (nI 768)), (5, .int (nI 2)), (0, .ref h0), (1, .int (nI 0)), (2, .ref dk), (3, .ref ct), (4, .ref to)]) hx hb dME_open_11 hl (by decide) rfl (fun ls hl => ?_)
  refine lv_aload_n hx hb dME_open_13 rfl (lv_at hl 2 rfl) ?_
  refine nw_get (C := "LatticeKeysModel$Secrets") (TT := T_ME) (N := 14) hx hb hts (wg_ft i_ME) hown hK hO k_h0 (kn := 184) (ci := 11) (fl := [(3, 172), (3, 178), (3, 185), (3, 202), (3, 207), (3, 212), (3, 217), (3, 218), (3, 219), (3, 220), (3, 221), (3, 222), (3, 223), (3, 224)]) rfl hP rfl 6 (by decide) (hts _ (wg_t kw_1385)) (fun _ h9 => h9) (cd := (3, 217)) rfl dME_open_14 (fun v21 hv21 => ?_)
  obtain ⟨r22, rfl, kr21⟩ := (show ∃ r : Nat, v21 = .ref r ∧ T r = some 217 from hv21)
  refine mp_v (cx := []) (wr := []) hP hD hS hA [] [] rfl rfl rfl (by decide) (va_runS (As := [.ref r22]) (rest := []) F (N_ME_clear l g _ T q21.2 pl hO hU r22 217 kr21 rfl) (va_cwS 1 hts (wg_app (wg_c kw_1819 (wg_c kw_1820 (wg_c kw_11 wg_n))) kw_1821) rfl rfl rfl (by decide +kernel) ⟨by decide, by decide⟩) (pp_S (en_ok g) hP hD hS hA hEn [] rfl rfl) rfl rfl hl.1 rfl (lv_room (Nat.le_of_ble_eq_true rfl)) dME_open_17 ⟨by omega, by omega⟩) (fun  u22 H locs hu22 hP hD hS => ?_)
  obtain ⟨s21, pl⟩ := u22
  obtain ⟨⟨eq22, hFc22, -⟩, hO⟩ := hu22
  have hO : okn g T s21 pl := hO
  have hP : va_P g.1 vcl ([] ++ pl) _ := hP
  have hD : va_D _ ([] ++ pl) := hD
  have hFc22 : frm (M_ME_clear 217) q21.2 s21 := hFc22
  replace hR := bnd_step hR eq22
  replace hE := bndP_step hE eq22
  have hF := frm_tr hF hFc22 (fun k hk => by unfold M_ME_clear at hk; unfold M_ME_open_0; omega)
  refine W.widen (k := 0) (n := 0) (by omega) (by omega) ?_
  refine lv_iconst (v := nI 0) hx hb dME_open_20 (by decide) ?_
  refine lv_istore (lv' := [(7, .int (nI 0)), (6, .int (nI 768)), (5, .int (nI 2)), (0, .ref h0), (1, .int (nI 0)), (2, .ref dk), (3, .ref ct), (4, .ref to)]) hx hb dME_open_21 hl (by decide) rfl (fun ls hl => ?_)
  have lp21 : ∀ (n21 : Nat) (i21 : Nat) (s22 : Sto) (pl : va_W) (ls : Array Slot) (H : Heap) (locs : List Loc), n21 + i21 = 2 → frm (M_ME_open_0 pt) s s22 → E_ME_open_0_L0 pdk pct pt n21 i21 s22 → F_ME_open_0 pdk pct pt s = F_ME_open_0_L0 pdk pct pt n21 i21 s22 → lv_has ls 9 [(7, .int (nI i21)), (6, .int (nI 768)), (5, .int (nI 2)), (0, .ref h0), (1, .int (nI 0)), (2, .ref dk), (3, .ref ct), (4, .ref to)] → okn g T s22 pl → va_P g.1 vcl ([] ++ pl) H → va_D A ([] ++ pl) → va_S A s0.heap H locs → W p l e ({ frames := 6, cells := 0, slots := 0, locals := 146 } : Room) s0 m args below meth c H locs 0 0 (MQ below (va_Qv (fun (u : (Sto) × va_W) => (u.1 = F_ME_open_0 pdk pct pt s ∧ frm (M_ME_open_0 pt) s u.1 ∧ True) ∧ okn g T u.1 u.2) (po g.1 vcl A (fun (u : (Sto) × va_W) => [] ++ u.2)) A) args s0 0 0 A) (F0 m 23 ls []) := by
    intro n21
    induction n21 with
    | zero =>
      intro i21 s22 pl ls H locs hm21 hF hE hR hl hO hP hD hS
      refine lv_iload hx hb dME_open_23 (lv_at hl 0 rfl) ?_
      refine lv_iload hx hb dME_open_25 (lv_at hl 2 rfl) ?_
      refine mi_ge (tgt := 140) hx hb dME_open_27 (by decide) (by omega) (by omega) (fun h21 => ?_) (fun h21 => absurd h21 (by omega))
      refine lv_aload_n hx hb dME_open_140 rfl (lv_at hl 3 rfl) ?_
      refine lv_aload_n hx hb dME_open_141 rfl (lv_at hl 3 rfl) ?_
      refine nw_get (C := "LatticeKeysModel$Secrets") (TT := T_ME) (N := 14) hx hb hts (wg_ft i_ME) hown hK hO k_h0 (kn := 184) (ci := 11) (fl := [(3, 172), (3, 178), (3, 185), (3, 202), (3, 207), (3, 212), (3, 217), (3, 218), (3, 219), (3, 220), (3, 221), (3, 222), (3, 223), (3, 224)]) rfl hP rfl 6 (by decide) (hts _ (wg_t kw_1385)) (fun _ h9 => h9) (cd := (3, 217)) rfl dME_open_142 (fun v22 hv22 => ?_)
      obtain ⟨r23, rfl, kr22⟩ := (show ∃ r : Nat, v22 = .ref r ∧ T r = some 217 from hv22)
      refine mp_v (cx := []) (wr := []) hP hD hS hA [] [] rfl rfl rfl (by decide) (va_runV (As := [.ref r23]) (rest := []) F (N_ME_back l g _ T s22 pl hO hU h0 r23 217 k_h0 kr22 rfl) (cwV 1 hts (wg_app (wg_c kw_1822 (wg_c kw_1824 (wg_c ks_69 (wg_c kw_11 wg_n)))) kw_1825) rfl rfl rfl (by decide +kernel) ⟨by decide, by decide⟩) (pn_W "LatticeKeysModel$Secrets" (en_ok g) (ci := 11) (kn := 184) (fl := [(3, 172), (3, 178), (3, 185), (3, 202), (3, 207), (3, 212), (3, 217), (3, 218), (3, 219), (3, 220), (3, 221), (3, 222), (3, 223), (3, 224)]) hK hO k_h0 rfl hP hD hS hA hEn [] rfl rfl rfl) rfl rfl hl.1 rfl (lv_room (Nat.le_of_ble_eq_true rfl)) dME_open_145 ⟨by omega, by omega⟩) (fun  u23 H locs hu23 hP hD hS => ?_)
      obtain ⟨s23, pl⟩ := u23
      obtain ⟨⟨eq23, hFc23, -⟩, hO⟩ := hu23
      have hO : okn g T s23 pl := hO
      have hP : va_P g.1 vcl ([] ++ pl) _ := hP
      have hD : va_D _ ([] ++ pl) := hD
      have hFc23 : frm (M_ME_back 217) s22 s23 := hFc23
      replace hR := bnd_step hR eq23
      replace hE := bndP_step hE eq23
      have hF := frm_tr hF hFc23 (fun k hk => by unfold M_ME_back at hk; unfold M_ME_open_0; omega)
      refine W.widen (k := 0) (n := 0) (by omega) (by omega) ?_
      refine lv_aload_n hx hb dME_open_148 rfl (lv_at hl 6 rfl) ?_
      refine lv_bipush (v := nI 32) hx hb dME_open_149 (by decide) ?_
      refine va_gets hx hb (hEn.2.1 21 _ rfl).1 hS hown (hts _ (wg_t kw_1830)) (fun _ h9 => h9) dME_open_151 ?_
      refine lv_iload_n hx hb dME_open_154 rfl (lv_at hl 4 rfl) ?_
      refine va_ti (v := .int (nI 10)) hx hb (hEn.2.1 21 _ rfl).2 hS (vp_in_nI (by decide) (by decide)) (by decide +kernel) dME_open_155 ?_
      refine mi_imul hx hb dME_open_156 ?_
      refine mi_as (show nI (32 * 10) = nI 320 from rfl) ?_
      refine lv_iload hx hb dME_open_157 (lv_at hl 2 rfl) ?_
      refine mi_imul hx hb dME_open_159 ?_
      refine mi_as (show nI (320 * 2) = nI 640 from rfl) ?_
      refine va_gets hx hb (hEn.2.1 22 _ rfl).1 hS hown (hts _ (wg_t kw_1838)) (fun _ h9 => h9) dME_open_160 ?_
      refine lv_iload_n hx hb dME_open_163 rfl (lv_at hl 4 rfl) ?_
      refine va_ti (v := .int (nI 4)) hx hb (hEn.2.1 22 _ rfl).2 hS (vp_in_nI (by decide) (by decide)) (by decide +kernel) dME_open_164 ?_
      refine lv_aload_n hx hb dME_open_165 rfl (lv_at hl 3 rfl) ?_
      refine nw_get (C := "LatticeKeysModel$Secrets") (TT := T_ME) (N := 14) hx hb hts (wg_ft i_ME) hown hK hO k_h0 (kn := 184) (ci := 11) (fl := [(3, 172), (3, 178), (3, 185), (3, 202), (3, 207), (3, 212), (3, 217), (3, 218), (3, 219), (3, 220), (3, 221), (3, 222), (3, 223), (3, 224)]) rfl hP rfl 7 (by decide) (hts _ (wg_t kw_1386)) (fun _ h9 => h9) (cd := (3, 218)) rfl dME_open_166 (fun v23 hv23 => ?_)
      obtain ⟨r24, rfl, kr23⟩ := (show ∃ r : Nat, v23 = .ref r ∧ T r = some 218 from hv23)
      refine mp_v (cx := []) (wr := []) hP hD hS hA [] [] rfl rfl rfl (by decide) (va_runS (As := [.ref ct, .int (nI 640), .int (nI 4), .ref r24]) (rest := []) F (N_ME_read_4 l g _ T s23 pl hO hU ct r24 pct 16384 640 218 k_ct n_ct kr23 rfl (by omega) (by omega)) (va_cwS 4 hts (wg_app (wg_c kw_1813 (wg_c kw_1814 (wg_c kw_11 wg_n))) kw_1815) rfl rfl rfl (by decide +kernel) ⟨by decide, by decide⟩) (pp_S (en_ok g) hP hD hS hA hEn [] rfl rfl) rfl rfl hl.1 rfl (lv_room (Nat.le_of_ble_eq_true rfl)) dME_open_169 ⟨by omega, by omega⟩) (fun  u24 H locs hu24 hP hD hS => ?_)
      obtain ⟨s24, pl⟩ := u24
      obtain ⟨⟨eq24, hFc24, -⟩, hO⟩ := hu24
      have hO : okn g T s24 pl := hO
      have hP : va_P g.1 vcl ([] ++ pl) _ := hP
      have hD : va_D _ ([] ++ pl) := hD
      have hFc24 : frm (M_ME_read_4 218) s23 s24 := hFc24
      replace hR := bnd_step hR eq24
      replace hE := bndP_step hE eq24
      have hF := frm_tr hF hFc24 (fun k hk => by unfold M_ME_read_4 at hk; unfold M_ME_open_0; omega)
      refine W.widen (k := 0) (n := 0) (by omega) (by omega) ?_
      refine lv_aload_n hx hb dME_open_172 rfl (lv_at hl 3 rfl) ?_
      refine nw_get (C := "LatticeKeysModel$Secrets") (TT := T_ME) (N := 14) hx hb hts (wg_ft i_ME) hown hK hO k_h0 (kn := 184) (ci := 11) (fl := [(3, 172), (3, 178), (3, 185), (3, 202), (3, 207), (3, 212), (3, 217), (3, 218), (3, 219), (3, 220), (3, 221), (3, 222), (3, 223), (3, 224)]) rfl hP rfl 7 (by decide) (hts _ (wg_t kw_1386)) (fun _ h9 => h9) (cd := (3, 218)) rfl dME_open_173 (fun v24 hv24 => ?_)
      obtain ⟨r25, rfl, kr24⟩ := (show ∃ r : Nat, v24 = .ref r ∧ T r = some 218 from hv24)
      refine va_gets hx hb (hEn.2.1 22 _ rfl).1 hS hown (hts _ (wg_t kw_1838)) (fun _ h9 => h9) dME_open_176 ?_
      refine lv_iload_n hx hb dME_open_179 rfl (lv_at hl 4 rfl) ?_
      refine va_ti (v := .int (nI 4)) hx hb (hEn.2.1 22 _ rfl).2 hS (vp_in_nI (by decide) (by decide)) (by decide +kernel) dME_open_180 ?_
      refine mp_v (cx := []) (wr := []) hP hD hS hA [] [] rfl rfl rfl (by decide) (va_runS (As := [.ref r25, .int (nI 4)]) (rest := []) F (N_ME_more_4 l g _ T s24 pl hO hU r25 218 kr24 rfl) (va_cwS 2 hts (wg_app (wg_c kw_1835 (wg_c kw_1836 (wg_c kw_11 wg_n))) kw_1837) rfl rfl rfl (by decide +kernel) ⟨by decide, by decide⟩) (pp_S (en_ok g) hP hD hS hA hEn [] rfl rfl) rfl rfl hl.1 rfl (lv_room (Nat.le_of_ble_eq_true rfl)) dME_open_181 ⟨by omega, by omega⟩) (fun  u25 H locs hu25 hP hD hS => ?_)
      obtain ⟨s25, pl⟩ := u25
      obtain ⟨⟨eq25, hFc25, -⟩, hO⟩ := hu25
      have hO : okn g T s25 pl := hO
      have hP : va_P g.1 vcl ([] ++ pl) _ := hP
      have hD : va_D _ ([] ++ pl) := hD
      have hFc25 : frm (M_ME_more_4 218) s24 s25 := hFc25
      replace hR := bnd_step hR eq25
      replace hE := bndP_step hE eq25
      have hF := frm_tr hF hFc25 (fun k hk => by unfold M_ME_more_4 at hk; unfold M_ME_open_0; omega)
      refine W.widen (k := 0) (n := 0) (by omega) (by omega) ?_
      refine lv_iconst (v := nI 0) hx hb dME_open_184 (by decide) ?_
      refine lv_istore (lv' := [(7, .int (nI 0)), (6, .int (nI 768)), (5, .int (nI 2)), (0, .ref h0), (1, .int (nI 0)), (2, .ref dk), (3, .ref ct), (4, .ref to)]) hx hb dME_open_185 hl (by decide) rfl (fun ls hl => ?_)
      have lp22 : ∀ (n22 : Nat) (i22 : Nat) (s26 : Sto) (pl : va_W) (ls : Array Slot) (H : Heap) (locs : List Loc), n22 + i22 = 256 → frm (M_ME_open_0 pt) s s26 → E_ME_open_0_L1 pdk pct pt n22 i22 s26 → F_ME_open_0 pdk pct pt s = F_ME_open_0_L1 pdk pct pt n22 i22 s26 → lv_has ls 9 [(7, .int (nI i22)), (6, .int (nI 768)), (5, .int (nI 2)), (0, .ref h0), (1, .int (nI 0)), (2, .ref dk), (3, .ref ct), (4, .ref to)] → okn g T s26 pl → va_P g.1 vcl ([] ++ pl) H → va_D A ([] ++ pl) → va_S A s0.heap H locs → W p l e ({ frames := 6, cells := 0, slots := 0, locals := 146 } : Room) s0 m args below meth c H locs 0 0 (MQ below (va_Qv (fun (u : (Sto) × va_W) => (u.1 = F_ME_open_0 pdk pct pt s ∧ frm (M_ME_open_0 pt) s u.1 ∧ True) ∧ okn g T u.1 u.2) (po g.1 vcl A (fun (u : (Sto) × va_W) => [] ++ u.2)) A) args s0 0 0 A) (F0 m 187 ls []) := by
        intro n22
        induction n22 with
        | zero =>
          intro i22 s26 pl ls H locs hm22 hF hE hR hl hO hP hD hS
          refine lv_iload hx hb dME_open_187 (lv_at hl 0 rfl) ?_
          refine lv_sipush (v := nI 256) hx hb dME_open_189 (by decide) ?_
          refine mi_ge (tgt := 231) hx hb dME_open_192 (by decide) (by omega) (by omega) (fun h22 => ?_) (fun h22 => absurd h22 (by omega))
          refine lv_aload_n hx hb dME_open_231 rfl (lv_at hl 3 rfl) ?_
          refine nw_get (C := "LatticeKeysModel$Secrets") (TT := T_ME) (N := 14) hx hb hts (wg_ft i_ME) hown hK hO k_h0 (kn := 184) (ci := 11) (fl := [(3, 172), (3, 178), (3, 185), (3, 202), (3, 207), (3, 212), (3, 217), (3, 218), (3, 219), (3, 220), (3, 221), (3, 222), (3, 223), (3, 224)]) rfl hP rfl 7 (by decide) (hts _ (wg_t kw_1386)) (fun _ h9 => h9) (cd := (3, 218)) rfl dME_open_232 (fun v25 hv25 => ?_)
          obtain ⟨r26, rfl, kr25⟩ := (show ∃ r : Nat, v25 = .ref r ∧ T r = some 218 from hv25)
          refine lv_iconst (v := nI 1) hx hb dME_open_235 (by decide) ?_
          refine mp_v (cx := []) (wr := []) hP hD hS hA [] [] rfl rfl rfl (by decide) (va_runS (As := [.ref r26, .int (nI 1)]) (rest := []) F (N_ME_less_1 l g _ T s26 pl hO hU r26 218 kr25 rfl) (va_cwS 2 hts (wg_app (wg_c kw_1832 (wg_c kw_1833 (wg_c kw_11 wg_n))) kw_1834) rfl rfl rfl (by decide +kernel) ⟨by decide, by decide⟩) (pp_S (en_ok g) hP hD hS hA hEn [] rfl rfl) rfl rfl hl.1 rfl (lv_room (Nat.le_of_ble_eq_true rfl)) dME_open_236 ⟨by omega, by omega⟩) (fun  u26 H locs hu26 hP hD hS => ?_)
          obtain ⟨s27, pl⟩ := u26
          obtain ⟨⟨eq26, hFc26, -⟩, hO⟩ := hu26
          have hO : okn g T s27 pl := hO
          have hP : va_P g.1 vcl ([] ++ pl) _ := hP
          have hD : va_D _ ([] ++ pl) := hD
          have hFc26 : frm (M_ME_less_1 218) s26 s27 := hFc26
          replace hR := bnd_step hR eq26
          replace hE := bndP_step hE eq26
          have hF := frm_tr hF hFc26 (fun k hk => by unfold M_ME_less_1 at hk; unfold M_ME_open_0; omega)
          refine W.widen (k := 0) (n := 0) (by omega) (by omega) ?_
          refine lv_aload_n hx hb dME_open_239 rfl (lv_at hl 3 rfl) ?_
          refine nw_get (C := "LatticeKeysModel$Secrets") (TT := T_ME) (N := 14) hx hb hts (wg_ft i_ME) hown hK hO k_h0 (kn := 184) (ci := 11) (fl := [(3, 172), (3, 178), (3, 185), (3, 202), (3, 207), (3, 212), (3, 217), (3, 218), (3, 219), (3, 220), (3, 221), (3, 222), (3, 223), (3, 224)]) rfl hP rfl 7 (by decide) (hts _ (wg_t kw_1386)) (fun _ h9 => h9) (cd := (3, 218)) rfl dME_open_240 (fun v26 hv26 => ?_)
          obtain ⟨r27, rfl, kr26⟩ := (show ∃ r : Nat, v26 = .ref r ∧ T r = some 218 from hv26)
          refine lv_aload_n hx hb dME_open_243 rfl (lv_at hl 3 rfl) ?_
          refine nw_get (C := "LatticeKeysModel$Secrets") (TT := T_ME) (N := 14) hx hb hts (wg_ft i_ME) hown hK hO k_h0 (kn := 184) (ci := 11) (fl := [(3, 172), (3, 178), (3, 185), (3, 202), (3, 207), (3, 212), (3, 217), (3, 218), (3, 219), (3, 220), (3, 221), (3, 222), (3, 223), (3, 224)]) rfl hP rfl 12 (by decide) (hts _ (wg_t kw_1391)) (fun _ h9 => h9) (cd := (3, 223)) rfl dME_open_244 (fun v27 hv27 => ?_)
          obtain ⟨r28, rfl, kr27⟩ := (show ∃ r : Nat, v27 = .ref r ∧ T r = some 223 from hv27)
          refine lv_iconst (v := nI 0) hx hb dME_open_247 (by decide) ?_
          refine lv_iconst (v := nI 1) hx hb dME_open_248 (by decide) ?_
          refine mp_v (cx := []) (wr := []) hP hD hS hA [] [] rfl rfl rfl (by decide) (va_runS (As := [.ref r27, .ref r28, .int (nI 0), .int (nI 1)]) (rest := []) F (N_ME_write_1 l g _ T s27 pl hO hU r27 r28 218 223 32 0 kr26 rfl kr27 rfl (by omega) (by omega)) (va_cwS 4 hts (wg_app (wg_c kw_1685 (wg_c kw_1686 (wg_c kw_11 wg_n))) kw_1687) rfl rfl rfl (by decide +kernel) ⟨by decide, by decide⟩) (pp_S (en_ok g) hP hD hS hA hEn [] rfl rfl) rfl rfl hl.1 rfl (lv_room (Nat.le_of_ble_eq_true rfl)) dME_open_249 ⟨by omega, by omega⟩) (fun  u27 H locs hu27 hP hD hS => ?_)
          obtain ⟨s28, pl⟩ := u27
          obtain ⟨⟨eq27, hFc27, -⟩, hO⟩ := hu27
          have hO : okn g T s28 pl := hO
          have hP : va_P g.1 vcl ([] ++ pl) _ := hP
          have hD : va_D _ ([] ++ pl) := hD
          have hFc27 : frm (M_ME_write_1 223) s27 s28 := hFc27
          replace hR := bnd_step hR eq27
          replace hE := bndP_step hE eq27
          have hF := frm_tr hF hFc27 (fun k hk => by unfold M_ME_write_1 at hk; unfold M_ME_open_0; omega)
          refine W.widen (k := 0) (n := 0) (by omega) (by omega) ?_
          refine lv_iconst (v := nI 0) hx hb dME_open_252 (by decide) ?_
          refine lv_istore (lv' := [(7, .int (nI 0)), (6, .int (nI 768)), (5, .int (nI 2)), (0, .ref h0), (1, .int (nI 0)), (2, .ref dk), (3, .ref ct), (4, .ref to)]) hx hb dME_open_253 hl (by decide) rfl (fun ls hl => ?_)
          have lp23 : ∀ (n23 : Nat) (i23 : Nat) (s29 : Sto) (pl : va_W) (ls : Array Slot) (H : Heap) (locs : List Loc), n23 + i23 = 32 → frm (M_ME_open_0 pt) s s29 → E_ME_open_0_L2 pdk pct pt n23 i23 s29 → F_ME_open_0 pdk pct pt s = F_ME_open_0_L2 pdk pct pt n23 i23 s29 → lv_has ls 9 [(7, .int (nI i23)), (6, .int (nI 768)), (5, .int (nI 2)), (0, .ref h0), (1, .int (nI 0)), (2, .ref dk), (3, .ref ct), (4, .ref to)] → okn g T s29 pl → va_P g.1 vcl ([] ++ pl) H → va_D A ([] ++ pl) → va_S A s0.heap H locs → W p l e ({ frames := 6, cells := 0, slots := 0, locals := 146 } : Room) s0 m args below meth c H locs 0 0 (MQ below (va_Qv (fun (u : (Sto) × va_W) => (u.1 = F_ME_open_0 pdk pct pt s ∧ frm (M_ME_open_0 pt) s u.1 ∧ True) ∧ okn g T u.1 u.2) (po g.1 vcl A (fun (u : (Sto) × va_W) => [] ++ u.2)) A) args s0 0 0 A) (F0 m 255 ls []) := by
            intro n23
            induction n23 with
            | zero =>
              intro i23 s29 pl ls H locs hm23 hF hE hR hl hO hP hD hS
              refine lv_iload hx hb dME_open_255 (lv_at hl 0 rfl) ?_
              refine lv_bipush (v := nI 32) hx hb dME_open_257 (by decide) ?_
              refine mi_ge (tgt := 289) hx hb dME_open_259 (by decide) (by omega) (by omega) (fun h23 => ?_) (fun h23 => absurd h23 (by omega))
              refine lv_aload_n hx hb dME_open_289 rfl (lv_at hl 3 rfl) ?_
              refine lv_aload_n hx hb dME_open_290 rfl (lv_at hl 3 rfl) ?_
              refine nw_get (C := "LatticeKeysModel$Secrets") (TT := T_ME) (N := 14) hx hb hts (wg_ft i_ME) hown hK hO k_h0 (kn := 184) (ci := 11) (fl := [(3, 172), (3, 178), (3, 185), (3, 202), (3, 207), (3, 212), (3, 217), (3, 218), (3, 219), (3, 220), (3, 221), (3, 222), (3, 223), (3, 224)]) rfl hP rfl 12 (by decide) (hts _ (wg_t kw_1391)) (fun _ h9 => h9) (cd := (3, 223)) rfl dME_open_291 (fun v28 hv28 => ?_)
              obtain ⟨r29, rfl, kr28⟩ := (show ∃ r : Nat, v28 = .ref r ∧ T r = some 223 from hv28)
              refine mp_v (cx := []) (wr := []) hP hD hS hA [] [] rfl rfl rfl (by decide) (va_runV (As := [.ref r29]) (rest := []) F (N_ME_both l g _ T s29 pl hO hU h0 r29 223 32 k_h0 kr28 rfl (by omega) (by omega)) (cwV 1 hts (wg_app (wg_c kw_1805 (wg_c kw_1807 (wg_c ks_67 (wg_c kw_11 wg_n)))) kw_1808) rfl rfl rfl (by decide +kernel) ⟨by decide, by decide⟩) (pn_W "LatticeKeysModel$Secrets" (en_ok g) (ci := 11) (kn := 184) (fl := [(3, 172), (3, 178), (3, 185), (3, 202), (3, 207), (3, 212), (3, 217), (3, 218), (3, 219), (3, 220), (3, 221), (3, 222), (3, 223), (3, 224)]) hK hO k_h0 rfl hP hD hS hA hEn [] rfl rfl rfl) rfl rfl hl.1 rfl (lv_room (Nat.le_of_ble_eq_true rfl)) dME_open_294 ⟨by omega, by omega⟩) (fun  u28 H locs hu28 hP hD hS => ?_)
              obtain ⟨s30, pl⟩ := u28
              obtain ⟨⟨eq28, hFc28, -⟩, hO⟩ := hu28
              have hO : okn g T s30 pl := hO
              have hP : va_P g.1 vcl ([] ++ pl) _ := hP
              have hD : va_D _ ([] ++ pl) := hD
              have hFc28 : frm (M_ME_both) s29 s30 := hFc28
              replace hR := bnd_step hR eq28
              replace hE := bndP_step hE eq28
              have hF := frm_tr hF hFc28 (fun k hk => by unfold M_ME_both at hk; unfold M_ME_open_0; omega)
              refine W.widen (k := 0) (n := 0) (by omega) (by omega) ?_
              refine lv_aload_n hx hb dME_open_297 rfl (lv_at hl 3 rfl) ?_
              refine lv_iload_n hx hb dME_open_298 rfl (lv_at hl 4 rfl) ?_
              refine lv_aload_n hx hb dME_open_299 rfl (lv_at hl 5 rfl) ?_
              refine lv_sipush (v := nI 384) hx hb dME_open_300 (by decide) ?_
              refine lv_iload hx hb dME_open_303 (lv_at hl 2 rfl) ?_
              refine mi_imul hx hb dME_open_305 ?_
              refine mi_as (show nI (384 * 2) = nI 768 from rfl) ?_
              refine lv_aload_n hx hb dME_open_306 rfl (lv_at hl 3 rfl) ?_
              refine nw_get (C := "LatticeKeysModel$Secrets") (TT := T_ME) (N := 14) hx hb hts (wg_ft i_ME) hown hK hO k_h0 (kn := 184) (ci := 11) (fl := [(3, 172), (3, 178), (3, 185), (3, 202), (3, 207), (3, 212), (3, 217), (3, 218), (3, 219), (3, 220), (3, 221), (3, 222), (3, 223), (3, 224)]) rfl hP rfl 12 (by decide) (hts _ (wg_t kw_1391)) (fun _ h9 => h9) (cd := (3, 223)) rfl dME_open_307 (fun v29 hv29 => ?_)
              obtain ⟨r30, rfl, kr29⟩ := (show ∃ r : Nat, v29 = .ref r ∧ T r = some 223 from hv29)
              refine lv_aload_n hx hb dME_open_310 rfl (lv_at hl 3 rfl) ?_
              refine nw_get (C := "LatticeKeysModel$Secrets") (TT := T_ME) (N := 14) hx hb hts (wg_ft i_ME) hown hK hO k_h0 (kn := 184) (ci := 11) (fl := [(3, 172), (3, 178), (3, 185), (3, 202), (3, 207), (3, 212), (3, 217), (3, 218), (3, 219), (3, 220), (3, 221), (3, 222), (3, 223), (3, 224)]) rfl hP rfl 13 (by decide) (hts _ (wg_t kw_1392)) (fun _ h9 => h9) (cd := (3, 224)) rfl dME_open_311 (fun v30 hv30 => ?_)
              obtain ⟨r31, rfl, kr30⟩ := (show ∃ r : Nat, v30 = .ref r ∧ T r = some 224 from hv30)
              refine mp_v (cx := []) (wr := []) hP hD hS hA [] [] rfl rfl rfl (by decide) (va_runV (As := [.int (nI 0), .ref dk, .int (nI 768), .ref r30, .ref r31]) (rest := []) F (N_ME_encrypt_0 l g _ T s30 pl hO hU h0 dk r30 r31 pdk 4896 768 223 32 224 1568 k_h0 k_dk n_dk kr29 rfl kr30 rfl (by omega) (by omega) (by omega) (by omega) (by omega) (by omega) hE.1) (cwV 5 hts (wg_app (wg_c kw_1809 (wg_c kw_1811 (wg_c ks_68 (wg_c kw_11 wg_n)))) kw_1812) rfl rfl rfl (by decide +kernel) ⟨by decide, by decide⟩) (pn_W "LatticeKeysModel$Secrets" (en_ok g) (ci := 11) (kn := 184) (fl := [(3, 172), (3, 178), (3, 185), (3, 202), (3, 207), (3, 212), (3, 217), (3, 218), (3, 219), (3, 220), (3, 221), (3, 222), (3, 223), (3, 224)]) hK hO k_h0 rfl hP hD hS hA hEn [] rfl rfl rfl) rfl rfl hl.1 rfl (lv_room (Nat.le_of_ble_eq_true rfl)) dME_open_314 ⟨by omega, by omega⟩) (fun  u29 H locs hu29 hP hD hS => ?_)
              obtain ⟨s31, pl⟩ := u29
              obtain ⟨⟨eq29, hFc29, -⟩, hO⟩ := hu29
              have hO : okn g T s31 pl := hO
              have hP : va_P g.1 vcl ([] ++ pl) _ := hP
              have hD : va_D _ ([] ++ pl) := hD
              have hFc29 : frm (M_ME_encrypt_0 224) s30 s31 := hFc29
              replace hE := hE.2
              replace hR := bnd_step hR eq29
              replace hE := bndP_step hE eq29
              have hF := frm_tr hF hFc29 (fun k hk => by unfold M_ME_encrypt_0 at hk; unfold M_ME_open_0; omega)
              refine W.widen (k := 0) (n := 0) (by omega) (by omega) ?_
              refine lv_iconst (v := nI 1) hx hb dME_open_317 (by decide) ?_
              refine lv_istore (lv' := [(7, .int (nI 1)), (6, .int (nI 768)), (5, .int (nI 2)), (0, .ref h0), (1, .int (nI 0)), (2, .ref dk), (3, .ref ct), (4, .ref to)]) hx hb dME_open_318 hl (by decide) rfl (fun ls hl => ?_)
              refine lv_iconst (v := nI 0) hx hb dME_open_320 (by decide) ?_
              refine lv_istore (lv' := [(8, .int (nI 0)), (7, .int (nI 1)), (6, .int (nI 768)), (5, .int (nI 2)), (0, .ref h0), (1, .int (nI 0)), (2, .ref dk), (3, .ref ct), (4, .ref to)]) hx hb dME_open_321 hl (by decide) rfl (fun ls hl => ?_)
              have lp24 : ∀ (n24 : Nat) (i24 : Nat) (z22 : Int32) (s32 : Sto) (pl : va_W) (ls : Array Slot) (H : Heap) (locs : List Loc), n24 + i24 = 768 → frm (M_ME_open_0 pt) s s32 → E_ME_open_0_L3 pdk pct pt n24 i24 z22 s32 → F_ME_open_0 pdk pct pt s = F_ME_open_0_L3 pdk pct pt n24 i24 z22 s32 → lv_has ls 9 [(8, .int (nI i24)), (7, .int z22), (6, .int (nI 768)), (5, .int (nI 2)), (0, .ref h0), (2, .ref dk), (3, .ref ct), (4, .ref to)] → okn g T s32 pl → va_P g.1 vcl ([] ++ pl) H → va_D A ([] ++ pl) → va_S A s0.heap H locs → W p l e ({ frames := 6, cells := 0, slots := 0, locals := 146 } : Room) s0 m args below meth c H locs 0 0 (MQ below (va_Qv (fun (u : (Sto) × va_W) => (u.1 = F_ME_open_0 pdk pct pt s ∧ frm (M_ME_open_0 pt) s u.1 ∧ True) ∧ okn g T u.1 u.2) (po g.1 vcl A (fun (u : (Sto) × va_W) => [] ++ u.2)) A) args s0 0 0 A) (F0 m 323 ls []) := by
                intro n24
                induction n24 with
                | zero =>
                  intro i24 z22 s32 pl ls H locs hm24 hF hE hR hl hO hP hD hS
                  refine lv_iload hx hb dME_open_323 (lv_at hl 0 rfl) ?_
                  refine lv_iload hx hb dME_open_325 (lv_at hl 2 rfl) ?_
                  refine mi_ge (tgt := 360) hx hb dME_open_327 (by decide) (by omega) (by omega) (fun h24 => ?_) (fun h24 => absurd h24 (by omega))
                  refine lv_iconst (v := nI 0) hx hb dME_open_360 (by decide) ?_
                  refine lv_istore (lv' := [(8, .int (nI 0)), (7, .int z22), (6, .int (nI 768)), (5, .int (nI 2)), (0, .ref h0), (2, .ref dk), (3, .ref ct), (4, .ref to)]) hx hb dME_open_361 hl (by decide) rfl (fun ls hl => ?_)
                  have lp25 : ∀ (n25 : Nat) (i25 : Nat) (s33 : Sto) (pl : va_W) (ls : Array Slot) (H : Heap) (locs : List Loc), n25 + i25 = 32 → frm (M_ME_open_0 pt) s s33 → E_ME_open_0_L4 pdk pct pt z22 n25 i25 s33 → F_ME_open_0 pdk pct pt s = F_ME_open_0_L4 pdk pct pt z22 n25 i25 s33 → lv_has ls 9 [(8, .int (nI i25)), (7, .int z22), (6, .int (nI 768)), (5, .int (nI 2)), (0, .ref h0), (2, .ref dk), (3, .ref ct), (4, .ref to)] → okn g T s33 pl → va_P g.1 vcl ([] ++ pl) H → va_D A ([] ++ pl) → va_S A s0.heap H locs → W p l e ({ frames := 6, cells := 0, slots := 0, locals := 146 } : Room) s0 m args below meth c H locs 0 0 (MQ below (va_Qv (fun (u : (Sto) × va_W) => (u.1 = F_ME_open_0 pdk pct pt s ∧ frm (M_ME_open_0 pt) s u.1 ∧ True) ∧ okn g T u.1 u.2) (po g.1 vcl A (fun (u : (Sto) × va_W) => [] ++ u.2)) A) args s0 0 0 A) (F0 m 363 ls []) := by
                    intro n25
                    induction n25 with
                    | zero =>
                      intro i25 s33 pl ls H locs hm25 hF hE hR hl hO hP hD hS
                      refine lv_iload hx hb dME_open_363 (lv_at hl 0 rfl) ?_
                      refine lv_bipush (v := nI 32) hx hb dME_open_365 (by decide) ?_
                      refine mi_ge (tgt := 388) hx hb dME_open_367 (by decide) (by omega) (by omega) (fun h25 => ?_) (fun h25 => absurd h25 (by omega))
                      refine lv_iload hx hb dME_open_388 (lv_at hl 1 rfl) ?_
                      refine lv_if_eq (tgt := 394) hx hb dME_open_390 (by decide) (fun h26 => ?_) (fun h26 => ?_)
                      · replace hR := hR.trans (if_pos h26)
                        replace hE := iteP_pos h26 hE
                        refine lv_aload_n hx hb dME_open_394 rfl (lv_at hl 4 rfl) ?_
                        refine nw_get (C := "LatticeKeysModel$Secrets") (TT := T_ME) (N := 14) hx hb hts (wg_ft i_ME) hown hK hO k_h0 (kn := 184) (ci := 11) (fl := [(3, 172), (3, 178), (3, 185), (3, 202), (3, 207), (3, 212), (3, 217), (3, 218), (3, 219), (3, 220), (3, 221), (3, 222), (3, 223), (3, 224)]) rfl hP rfl 0 (by decide) (hts _ (wg_t kw_1379)) (fun _ h9 => h9) (cd := (3, 172)) rfl dME_open_395 (fun v31 hv31 => ?_)
                        obtain ⟨r32, rfl, kr31⟩ := (show ∃ r : Nat, v31 = .ref r ∧ T r = some 172 from hv31)
                        refine mp_v (cx := []) (wr := []) hP hD hS hA [] [] rfl rfl rfl (by decide) (va_runV (As := []) (rest := []) F (N_MS_shake l g _ T s33 pl hO hU r32 kr31) (cwV 0 hts (wg_app (wg_c kw_1660 (wg_c kw_1661 (wg_c kw_1662 (wg_c kw_10 wg_n)))) kw_1663) rfl rfl rfl (by decide +kernel) ⟨by decide, by decide⟩) (pn_W "LatticeKeysModel$Sponge" (en_ok g) (ci := 9) (kn := 172) (fl := [(3, 173), (3, 174), (3, 175), (3, 176), (3, 177), (0, 0), (0, 0), (0, 0)]) hK hO kr31 rfl hP hD hS hA hEn [] rfl rfl rfl) rfl rfl hl.1 rfl (lv_room (Nat.le_of_ble_eq_true rfl)) dME_open_398 ⟨by omega, by omega⟩) (fun  u30 H locs hu30 hP hD hS => ?_)
                        obtain ⟨s34, pl⟩ := u30
                        obtain ⟨⟨eq30, hFc30, ⟨x30, hx_30, hb_30⟩, ⟨x31, hx_31, hb_31⟩, -⟩, hO⟩ := hu30
                        have hO : okn g T s34 pl := hO
                        have hP : va_P g.1 vcl ([] ++ pl) _ := hP
                        have hD : va_D _ ([] ++ pl) := hD
                        have hFc30 : frm (M_MS_shake) s33 s34 := hFc30
                        have hb_30 : x30 = 0 := hb_30
                        have hb_31 : x31 = 136 := hb_31
                        replace hR := bnd_step hR eq30
                        replace hE := bndP_step hE eq30
                        have hF := frm_tr hF hFc30 (fun k hk => by unfold M_MS_shake at hk; unfold M_ME_open_0; omega)
                        refine W.widen (k := 0) (n := 0) (by omega) (by omega) ?_
                        refine lv_aload_n hx hb dME_open_401 rfl (lv_at hl 4 rfl) ?_
                        refine nw_get (C := "LatticeKeysModel$Secrets") (TT := T_ME) (N := 14) hx hb hts (wg_ft i_ME) hown hK hO k_h0 (kn := 184) (ci := 11) (fl := [(3, 172), (3, 178), (3, 185), (3, 202), (3, 207), (3, 212), (3, 217), (3, 218), (3, 219), (3, 220), (3, 221), (3, 222), (3, 223), (3, 224)]) rfl hP rfl 0 (by decide) (hts _ (wg_t kw_1379)) (fun _ h9 => h9) (cd := (3, 172)) rfl dME_open_402 (fun v32 hv32 => ?_)
                        obtain ⟨r33, rfl, kr32⟩ := (show ∃ r : Nat, v32 = .ref r ∧ T r = some 172 from hv32)
                        refine lv_aload_n hx hb dME_open_405 rfl (lv_at hl 5 rfl) ?_
                        refine lv_sipush (v := nI 768) hx hb dME_open_406 (by decide) ?_
                        refine lv_iload hx hb dME_open_409 (lv_at hl 3 rfl) ?_
                        refine mi_imul hx hb dME_open_411 ?_
                        refine mi_as (show nI (768 * 2) = nI 1536 from rfl) ?_
                        refine lv_bipush (v := nI 64) hx hb dME_open_412 (by decide) ?_
                        refine mi_iadd hx hb dME_open_414 ?_
                        refine mi_as (show nI (1536 + 64) = nI 1600 from rfl) ?_
                        refine lv_bipush (v := nI 32) hx hb dME_open_415 (by decide) ?_
                        refine mp_v (cx := []) (wr := []) hP hD hS hA [] [] rfl rfl rfl (by decide) (va_runV (As := [.ref dk, .int (nI 1600), .int (nI 32)]) (rest := []) F (N_MS_puts l g _ T s34 pl hO hU r33 dk pdk 4896 1600 32 x30 x31 kr32 k_dk n_dk hx_30 hx_31 (by omega) (by omega) (by omega) (by omega)) (cwV 3 hts (wg_app (wg_c kw_1611 (wg_c kw_1612 (wg_c kw_1613 (wg_c kw_10 wg_n)))) kw_1614) rfl rfl rfl (by decide +kernel) ⟨by decide, by decide⟩) (pn_W "LatticeKeysModel$Sponge" (en_ok g) (ci := 9) (kn := 172) (fl := [(3, 173), (3, 174), (3, 175), (3, 176), (3, 177), (0, 0), (0, 0), (0, 0)]) hK hO kr32 rfl hP hD hS hA hEn [] rfl rfl rfl) rfl rfl hl.1 rfl (lv_room (Nat.le_of_ble_eq_true rfl)) dME_open_417 ⟨by omega, by omega⟩) (fun  u31 H locs hu31 hP hD hS => ?_)
                        obtain ⟨s35, pl⟩ := u31
                        obtain ⟨⟨eq31, hFc31, ⟨x33, hx_33, hb_33⟩, ⟨x34, hx_34, hb_34⟩, -⟩, hO⟩ := hu31
                        have hO : okn g T s35 pl := hO
                        have hP : va_P g.1 vcl ([] ++ pl) _ := hP
                        have hD : va_D _ ([] ++ pl) := hD
                        have hFc31 : frm (M_MS_puts) s34 s35 := hFc31
                        have hb_33 : x33 < x31 := hb_33
                        have hb_34 : x34 = x31 := hb_34
                        replace hR := bnd_step hR eq31
                        replace hE := bndP_step hE eq31
                        have hF := frm_tr hF hFc31 (fun k hk => by unfold M_MS_puts at hk; unfold M_ME_open_0; omega)
                        refine W.widen (k := 0) (n := 0) (by omega) (by omega) ?_
                        refine lv_aload_n hx hb dME_open_420 rfl (lv_at hl 4 rfl) ?_
                        refine nw_get (C := "LatticeKeysModel$Secrets") (TT := T_ME) (N := 14) hx hb hts (wg_ft i_ME) hown hK hO k_h0 (kn := 184) (ci := 11) (fl := [(3, 172), (3, 178), (3, 185), (3, 202), (3, 207), (3, 212), (3, 217), (3, 218), (3, 219), (3, 220), (3, 221), (3, 222), (3, 223), (3, 224)]) rfl hP rfl 0 (by decide) (hts _ (wg_t kw_1379)) (fun _ h9 => h9) (cd := (3, 172)) rfl dME_open_421 (fun v33 hv33 => ?_)
                        obtain ⟨r34, rfl, kr33⟩ := (show ∃ r : Nat, v33 = .ref r ∧ T r = some 172 from hv33)
                        refine lv_aload_n hx hb dME_open_424 rfl (lv_at hl 6 rfl) ?_
                        refine lv_iconst (v := nI 0) hx hb dME_open_425 (by decide) ?_
                        refine lv_iload hx hb dME_open_426 (lv_at hl 2 rfl) ?_
                        refine mp_v (cx := []) (wr := []) hP hD hS hA [] [] rfl rfl rfl (by decide) (va_runV (As := [.ref ct, .int (nI 0), .int (nI 768)]) (rest := []) F (N_MS_puts l g _ T s35 pl hO hU r34 ct pct 16384 0 768 x33 x34 kr33 k_ct n_ct hx_33 hx_34 (by omega) (by omega) (by omega) (by omega)) (cwV 3 hts (wg_app (wg_c kw_1611 (wg_c kw_1612 (wg_c kw_1613 (wg_c kw_10 wg_n)))) kw_1614) rfl rfl rfl (by decide +kernel) ⟨by decide, by decide⟩) (pn_W "LatticeKeysModel$Sponge" (en_ok g) (ci := 9) (kn := 172) (fl := [(3, 173), (3, 174), (3, 175), (3, 176), (3, 177), (0, 0), (0, 0), (0, 0)]) hK hO kr33 rfl hP hD hS hA hEn [] rfl rfl rfl) rfl rfl hl.1 rfl (lv_room (Nat.le_of_ble_eq_true rfl)) dME_open_428 ⟨by omega, by omega⟩) (fun  u32 H locs hu32 hP hD hS => ?_)
                        obtain ⟨s36, pl⟩ := u32
                        obtain ⟨⟨eq32, hFc32, ⟨x36, hx_36, hb_36⟩, ⟨x37, hx_37, hb_37⟩, -⟩, hO⟩ := hu32
                        have hO : okn g T s36 pl := hO
                        have hP : va_P g.1 vcl ([] ++ pl) _ := hP
                        have hD : va_D _ ([] ++ pl) := hD
                        have hFc32 : frm (M_MS_puts) s35 s36 := hFc32
                        have hb_36 : x36 < x34 := hb_36
                        have hb_37 : x37 = x34 := hb_37
                        replace hR := bnd_step hR eq32
                        replace hE := bndP_step hE eq32
                        have hF := frm_tr hF hFc32 (fun k hk => by unfold M_MS_puts at hk; unfold M_ME_open_0; omega)
                        refine W.widen (k := 0) (n := 0) (by omega) (by omega) ?_
                        refine lv_aload_n hx hb dME_open_431 rfl (lv_at hl 4 rfl) ?_
                        refine nw_get (C := "LatticeKeysModel$Secrets") (TT := T_ME) (N := 14) hx hb hts (wg_ft i_ME) hown hK hO k_h0 (kn := 184) (ci := 11) (fl := [(3, 172), (3, 178), (3, 185), (3, 202), (3, 207), (3, 212), (3, 217), (3, 218), (3, 219), (3, 220), (3, 221), (3, 222), (3, 223), (3, 224)]) rfl hP rfl 0 (by decide) (hts _ (wg_t kw_1379)) (fun _ h9 => h9) (cd := (3, 172)) rfl dME_open_432 (fun v34 hv34 => ?_)
                        obtain ⟨r35, rfl, kr34⟩ := (show ∃ r : Nat, v34 = .ref r ∧ T r = some 172 from hv34)
                        refine mp_v (cx := []) (wr := []) hP hD hS hA [] [] rfl rfl rfl (by decide) (va_runV (As := []) (rest := []) F (N_MS_end l g _ T s36 pl hO hU r35 x36 x37 kr34 hx_36 hx_37 (by omega) (by omega)) (cwV 0 hts (wg_app (wg_c kw_1633 (wg_c kw_1634 (wg_c kw_1635 (wg_c kw_10 wg_n)))) kw_1636) rfl rfl rfl (by decide +kernel) ⟨by decide, by decide⟩) (pn_W "LatticeKeysModel$Sponge" (en_ok g) (ci := 9) (kn := 172) (fl := [(3, 173), (3, 174), (3, 175), (3, 176), (3, 177), (0, 0), (0, 0), (0, 0)]) hK hO kr34 rfl hP hD hS hA hEn [] rfl rfl rfl) rfl rfl hl.1 rfl (lv_room (Nat.le_of_ble_eq_true rfl)) dME_open_435 ⟨by omega, by omega⟩) (fun  u33 H locs hu33 hP hD hS => ?_)
                        obtain ⟨s37, pl⟩ := u33
                        obtain ⟨⟨eq33, hFc33, ⟨x39, hx_39, hb_39⟩, ⟨x40, hx_40, hb_40⟩, -⟩, hO⟩ := hu33
                        have hO : okn g T s37 pl := hO
                        have hP : va_P g.1 vcl ([] ++ pl) _ := hP
                        have hD : va_D _ ([] ++ pl) := hD
                        have hFc33 : frm (M_MS_end) s36 s37 := hFc33
                        have hb_39 : x39 = 0 := hb_39
                        have hb_40 : x40 = x37 := hb_40
                        replace hR := bnd_step hR eq33
                        replace hE := bndP_step hE eq33
                        have hF := frm_tr hF hFc33 (fun k hk => by unfold M_MS_end at hk; unfold M_ME_open_0; omega)
                        refine W.widen (k := 0) (n := 0) (by omega) (by omega) ?_
                        refine lv_aload_n hx hb dME_open_438 rfl (lv_at hl 4 rfl) ?_
                        refine nw_get (C := "LatticeKeysModel$Secrets") (TT := T_ME) (N := 14) hx hb hts (wg_ft i_ME) hown hK hO k_h0 (kn := 184) (ci := 11) (fl := [(3, 172), (3, 178), (3, 185), (3, 202), (3, 207), (3, 212), (3, 217), (3, 218), (3, 219), (3, 220), (3, 221), (3, 222), (3, 223), (3, 224)]) rfl hP rfl 0 (by decide) (hts _ (wg_t kw_1379)) (fun _ h9 => h9) (cd := (3, 172)) rfl dME_open_439 (fun v35 hv35 => ?_)
                        obtain ⟨r36, rfl, kr35⟩ := (show ∃ r : Nat, v35 = .ref r ∧ T r = some 172 from hv35)
                        refine lv_aload hx hb dME_open_442 (lv_at hl 7 rfl) ?_
                        refine lv_iconst (v := nI 0) hx hb dME_open_444 (by decide) ?_
                        refine lv_bipush (v := nI 32) hx hb dME_open_445 (by decide) ?_
                        refine mp_v (cx := []) (wr := []) hP hD hS hA [] [] rfl rfl rfl (by decide) (va_runV (As := [.ref to, .int (nI 0), .int (nI 32)]) (rest := []) F (N_MS_take l g _ T s37 pl hO hU r36 to pt 8192 0 32 x39 x40 kr35 k_to n_to hx_39 hx_40 (by omega) (by omega) (by omega) (by omega)) (cwV 3 hts (wg_app (wg_c kw_1637 (wg_c kw_1638 (wg_c kw_1639 (wg_c kw_10 wg_n)))) kw_1640) rfl rfl rfl (by decide +kernel) ⟨by decide, by decide⟩) (pn_W "LatticeKeysModel$Sponge" (en_ok g) (ci := 9) (kn := 172) (fl := [(3, 173), (3, 174), (3, 175), (3, 176), (3, 177), (0, 0), (0, 0), (0, 0)]) hK hO kr35 rfl hP hD hS hA hEn [] rfl rfl rfl) rfl rfl hl.1 rfl (lv_room (Nat.le_of_ble_eq_true rfl)) dME_open_447 ⟨by omega, by omega⟩) (fun  u34 H locs hu34 hP hD hS => ?_)
                        obtain ⟨s38, pl⟩ := u34
                        obtain ⟨⟨eq34, hFc34, ⟨x42, hx_42, hb_42⟩, ⟨x43, hx_43, hb_43⟩, -⟩, hO⟩ := hu34
                        have hO : okn g T s38 pl := hO
                        have hP : va_P g.1 vcl ([] ++ pl) _ := hP
                        have hD : va_D _ ([] ++ pl) := hD
                        have hFc34 : frm (M_MS_take pt) s37 s38 := hFc34
                        have hb_42 : x42 ≤ x40 := hb_42
                        have hb_43 : x43 = x40 := hb_43
                        replace hR := bnd_step hR eq34
                        replace hE := bndP_step hE eq34
                        have hF := frm_tr hF hFc34 (fun k hk => by unfold M_MS_take at hk; unfold M_ME_open_0; omega)
                        refine W.widen (k := 0) (n := 0) (by omega) (by omega) ?_
                        exact mp_vret hx hb hr hlk hP hD hS (s38, pl) ⟨⟨hR.symm, hF, trivial⟩, hO⟩ [] rfl rfl rfl (by omega) (by omega) dME_open_450
                      · replace hR := hR.trans (if_neg h26)
                        replace hE := iteP_neg h26 hE
                        exact mp_vret hx hb hr hlk hP hD hS (s33, pl) ⟨⟨hR.symm, hF, trivial⟩, hO⟩ [] rfl rfl rfl (by omega) (by omega) dME_open_393
                    | succ n25 ih25 =>
                      intro i25 s33 pl ls H locs hm25 hF hE hR hl hO hP hD hS
                      refine lv_iload hx hb dME_open_363 (lv_at hl 0 rfl) ?_
                      refine lv_bipush (v := nI 32) hx hb dME_open_365 (by decide) ?_
                      refine mi_ge (tgt := 388) hx hb dME_open_367 (by decide) (by omega) (by omega) (fun h27 => absurd h27 (by omega)) (fun h27 => ?_)
                      refine lv_aload hx hb dME_open_370 (lv_at hl 7 rfl) ?_
                      refine lv_iload hx hb dME_open_372 (lv_at hl 0 rfl) ?_
                      refine lv_aload_n hx hb dME_open_374 rfl (lv_at hl 4 rfl) ?_
                      refine nw_get (C := "LatticeKeysModel$Secrets") (TT := T_ME) (N := 14) hx hb hts (wg_ft i_ME) hown hK hO k_h0 (kn := 184) (ci := 11) (fl := [(3, 172), (3, 178), (3, 185), (3, 202), (3, 207), (3, 212), (3, 217), (3, 218), (3, 219), (3, 220), (3, 221), (3, 222), (3, 223), (3, 224)]) rfl hP rfl 9 (by decide) (hts _ (wg_t kw_1388)) (fun _ h9 => h9) (cd := (3, 220)) rfl dME_open_375 (fun v36 hv36 => ?_)
                      obtain ⟨r37, rfl, kr36⟩ := (show ∃ r : Nat, v36 = .ref r ∧ T r = some 220 from hv36)
                      refine lv_iload hx hb dME_open_378 (lv_at hl 0 rfl) ?_
                      refine nw_bald hx hb hK hO kr36 (k := 220) rfl hP (by omega) (by omega) dME_open_380 ?_
                      refine nw_bast hx hb hK hO hU k_to (k := pt) n_to hP hD hS (by omega) (by omega) dME_open_381 (fun s39 pl H locs es21 hO hP hD hS => ?_)
                      replace hR := bnd_step hR es21
                      replace hE := bndP_step hE es21
                      have hF := frm_sB hF es21 (by unfold M_ME_open_0; omega)
                      refine mi_iinc (k := 0) (x := i25) (d := 1) (y := i25 + 1) (lv' := [(8, .int (nI (i25 + 1))), (7, .int z22), (6, .int (nI 768)), (5, .int (nI 2)), (0, .ref h0), (2, .ref dk), (3, .ref ct), (4, .ref to)]) hx hb dME_open_382 hl rfl (by decide) rfl (by decide) rfl (fun ls hl => ?_)
                      refine lv_goto (tgt := 363) hx hb dME_open_385 (by decide) ?_
                      exact ih25 (i25 + 1) s39 pl ls H locs (by omega) hF hE hR (lv_sub hl [0, 1, 2, 3, 4, 5, 6, 7] rfl) hO hP hD hS
                  exact lp25 32 0 s32 pl ls _ _ (by omega) hF hE hR (lv_sub hl [0, 1, 2, 3, 4, 5, 6, 7] rfl) hO hP hD hS
                | succ n24 ih24 =>
                  intro i24 z22 s32 pl ls H locs hm24 hF hE hR hl hO hP hD hS
                  refine lv_iload hx hb dME_open_323 (lv_at hl 0 rfl) ?_
                  refine lv_iload hx hb dME_open_325 (lv_at hl 2 rfl) ?_
                  refine mi_ge (tgt := 360) hx hb dME_open_327 (by decide) (by omega) (by omega) (fun h28 => absurd h28 (by omega)) (fun h28 => ?_)
                  refine lv_iload hx hb dME_open_330 (lv_at hl 1 rfl) ?_
                  refine lv_aload_n hx hb dME_open_332 rfl (lv_at hl 4 rfl) ?_
                  refine nw_get (C := "LatticeKeysModel$Secrets") (TT := T_ME) (N := 14) hx hb hts (wg_ft i_ME) hown hK hO k_h0 (kn := 184) (ci := 11) (fl := [(3, 172), (3, 178), (3, 185), (3, 202), (3, 207), (3, 212), (3, 217), (3, 218), (3, 219), (3, 220), (3, 221), (3, 222), (3, 223), (3, 224)]) rfl hP rfl 13 (by decide) (hts _ (wg_t kw_1392)) (fun _ h9 => h9) (cd := (3, 224)) rfl dME_open_333 (fun v37 hv37 => ?_)
                  obtain ⟨r38, rfl, kr37⟩ := (show ∃ r : Nat, v37 = .ref r ∧ T r = some 224 from hv37)
                  refine lv_iload hx hb dME_open_336 (lv_at hl 0 rfl) ?_
                  refine nw_bald hx hb hK hO kr37 (k := 224) rfl hP (by omega) (by omega) dME_open_338 ?_
                  refine lv_aload_n hx hb dME_open_339 rfl (lv_at hl 6 rfl) ?_
                  refine lv_iload hx hb dME_open_340 (lv_at hl 0 rfl) ?_
                  refine nw_bald hx hb hK hO k_ct (k := pct) n_ct hP (by omega) (by omega) dME_open_342 ?_
                  refine lv_icmp_ne (tgt := 350) hx hb dME_open_343 (by decide) (fun h29 => ?_) (fun h29 => ?_)
                  · replace hR := hR.trans (if_neg h29)
                    replace hE := iteP_neg h29 hE
                    refine lv_iconst (v := nI 0) hx hb dME_open_350 (by decide) ?_
                    refine lv_iand hx hb dME_open_351 ?_
                    refine mi_eqv (fun z23 ez22 => ?_)
                    replace hR := bnd_step hR ez22
                    replace hE := bndP_step hE ez22
                    refine lv_istore (lv' := [(7, .int z23), (8, .int (nI i24)), (6, .int (nI 768)), (5, .int (nI 2)), (0, .ref h0), (2, .ref dk), (3, .ref ct), (4, .ref to)]) hx hb dME_open_352 hl (by decide) rfl (fun ls hl => ?_)
                    refine mi_iinc (k := 1) (x := i24) (d := 1) (y := i24 + 1) (lv' := [(8, .int (nI (i24 + 1))), (7, .int z23), (6, .int (nI 768)), (5, .int (nI 2)), (0, .ref h0), (2, .ref dk), (3, .ref ct), (4, .ref to)]) hx hb dME_open_354 hl rfl (by decide) rfl (by decide) rfl (fun ls hl => ?_)
                    refine lv_goto (tgt := 323) hx hb dME_open_357 (by decide) ?_
                    exact ih24 (i24 + 1) z23 s32 pl ls H locs (by omega) hF hE hR (lv_sub hl [0, 1, 2, 3, 4, 5, 6, 7] rfl) hO hP hD hS
                  · replace hR := hR.trans (if_pos h29)
                    replace hE := iteP_pos h29 hE
                    refine lv_iconst (v := nI 1) hx hb dME_open_346 (by decide) ?_
                    refine lv_goto (tgt := 351) hx hb dME_open_347 (by decide) ?_
                    refine lv_iand hx hb dME_open_351 ?_
                    refine mi_eqv (fun z24 ez23 => ?_)
                    replace hR := bnd_step hR ez23
                    replace hE := bndP_step hE ez23
                    refine lv_istore (lv' := [(7, .int z24), (8, .int (nI i24)), (6, .int (nI 768)), (5, .int (nI 2)), (0, .ref h0), (2, .ref dk), (3, .ref ct), (4, .ref to)]) hx hb dME_open_352 hl (by decide) rfl (fun ls hl => ?_)
                    refine mi_iinc (k := 1) (x := i24) (d := 1) (y := i24 + 1) (lv' := [(8, .int (nI (i24 + 1))), (7, .int z24), (6, .int (nI 768)), (5, .int (nI 2)), (0, .ref h0), (2, .ref dk), (3, .ref ct), (4, .ref to)]) hx hb dME_open_354 hl rfl (by decide) rfl (by decide) rfl (fun ls hl => ?_)
                    refine lv_goto (tgt := 323) hx hb dME_open_357 (by decide) ?_
                    exact ih24 (i24 + 1) z24 s32 pl ls H locs (by omega) hF hE hR (lv_sub hl [0, 1, 2, 3, 4, 5, 6, 7] rfl) hO hP hD hS
              exact lp24 768 0 (nI 1) s31 pl ls _ _ (by omega) hF hE hR (lv_sub hl [0, 1, 2, 3, 4, 6, 7, 8] rfl) hO hP hD hS
            | succ n23 ih23 =>
              intro i23 s29 pl ls H locs hm23 hF hE hR hl hO hP hD hS
              refine lv_iload hx hb dME_open_255 (lv_at hl 0 rfl) ?_
              refine lv_bipush (v := nI 32) hx hb dME_open_257 (by decide) ?_
              refine mi_ge (tgt := 289) hx hb dME_open_259 (by decide) (by omega) (by omega) (fun h30 => absurd h30 (by omega)) (fun h30 => ?_)
              refine lv_aload_n hx hb dME_open_262 rfl (lv_at hl 3 rfl) ?_
              refine nw_get (C := "LatticeKeysModel$Secrets") (TT := T_ME) (N := 14) hx hb hts (wg_ft i_ME) hown hK hO k_h0 (kn := 184) (ci := 11) (fl := [(3, 172), (3, 178), (3, 185), (3, 202), (3, 207), (3, 212), (3, 217), (3, 218), (3, 219), (3, 220), (3, 221), (3, 222), (3, 223), (3, 224)]) rfl hP rfl 11 (by decide) (hts _ (wg_t kw_1390)) (fun _ h9 => h9) (cd := (3, 222)) rfl dME_open_263 (fun v38 hv38 => ?_)
              obtain ⟨r39, rfl, kr38⟩ := (show ∃ r : Nat, v38 = .ref r ∧ T r = some 222 from hv38)
              refine lv_iload hx hb dME_open_266 (lv_at hl 0 rfl) ?_
              refine lv_aload_n hx hb dME_open_268 rfl (lv_at hl 5 rfl) ?_
              refine lv_sipush (v := nI 768) hx hb dME_open_269 (by decide) ?_
              refine lv_iload hx hb dME_open_272 (lv_at hl 2 rfl) ?_
              refine mi_imul hx hb dME_open_274 ?_
              refine mi_as (show nI (768 * 2) = nI 1536 from rfl) ?_
              refine lv_bipush (v := nI 32) hx hb dME_open_275 (by decide) ?_
              refine mi_iadd hx hb dME_open_277 ?_
              refine mi_as (show nI (1536 + 32) = nI 1568 from rfl) ?_
              refine lv_iload hx hb dME_open_278 (lv_at hl 0 rfl) ?_
              refine mi_iadd hx hb dME_open_280 ?_
              refine nw_bald hx hb hK hO k_dk (k := pdk) n_dk hP (by omega) (by omega) dME_open_281 ?_
              refine nw_bast hx hb hK hO hU kr38 (k := 222) rfl hP hD hS (by omega) (by omega) dME_open_282 (fun s40 pl H locs es22 hO hP hD hS => ?_)
              replace hR := bnd_step hR es22
              replace hE := bndP_step hE es22
              have hF := frm_sB hF es22 (by unfold M_ME_open_0; omega)
              refine mi_iinc (k := 0) (x := i23) (d := 1) (y := i23 + 1) (lv' := [(7, .int (nI (i23 + 1))), (6, .int (nI 768)), (5, .int (nI 2)), (0, .ref h0), (1, .int (nI 0)), (2, .ref dk), (3, .ref ct), (4, .ref to)]) hx hb dME_open_283 hl rfl (by decide) rfl (by decide) rfl (fun ls hl => ?_)
              refine lv_goto (tgt := 255) hx hb dME_open_286 (by decide) ?_
              exact ih23 (i23 + 1) s40 pl ls H locs (by omega) hF hE hR (lv_sub hl [0, 1, 2, 3, 4, 5, 6, 7] rfl) hO hP hD hS
          exact lp23 32 0 s28 pl ls _ _ (by omega) hF hE hR (lv_sub hl [0, 1, 2, 3, 4, 5, 6, 7] rfl) hO hP hD hS
        | succ n22 ih22 =>
          intro i22 s26 pl ls H locs hm22 hF hE hR hl hO hP hD hS
          refine lv_iload hx hb dME_open_187 (lv_at hl 0 rfl) ?_
          refine lv_sipush (v := nI 256) hx hb dME_open_189 (by decide) ?_
          refine mi_ge (tgt := 231) hx hb dME_open_192 (by decide) (by omega) (by omega) (fun h31 => absurd h31 (by omega)) (fun h31 => ?_)
          refine lv_aload_n hx hb dME_open_195 rfl (lv_at hl 3 rfl) ?_
          refine nw_get (C := "LatticeKeysModel$Secrets") (TT := T_ME) (N := 14) hx hb hts (wg_ft i_ME) hown hK hO k_h0 (kn := 184) (ci := 11) (fl := [(3, 172), (3, 178), (3, 185), (3, 202), (3, 207), (3, 212), (3, 217), (3, 218), (3, 219), (3, 220), (3, 221), (3, 222), (3, 223), (3, 224)]) rfl hP rfl 7 (by decide) (hts _ (wg_t kw_1386)) (fun _ h9 => h9) (cd := (3, 218)) rfl dME_open_196 (fun v39 hv39 => ?_)
          obtain ⟨r40, rfl, kr39⟩ := (show ∃ r : Nat, v39 = .ref r ∧ T r = some 218 from hv39)
          refine lv_iload hx hb dME_open_199 (lv_at hl 0 rfl) ?_
          refine lv_aload_n hx hb dME_open_201 rfl (lv_at hl 3 rfl) ?_
          refine nw_get (C := "LatticeKeysModel$Secrets") (TT := T_ME) (N := 14) hx hb hts (wg_ft i_ME) hown hK hO k_h0 (kn := 184) (ci := 11) (fl := [(3, 172), (3, 178), (3, 185), (3, 202), (3, 207), (3, 212), (3, 217), (3, 218), (3, 219), (3, 220), (3, 221), (3, 222), (3, 223), (3, 224)]) rfl hP rfl 7 (by decide) (hts _ (wg_t kw_1386)) (fun _ h9 => h9) (cd := (3, 218)) rfl dME_open_202 (fun v40 hv40 => ?_)
          obtain ⟨r41, rfl, kr40⟩ := (show ∃ r : Nat, v40 = .ref r ∧ T r = some 218 from hv40)
          refine lv_iload hx hb dME_open_205 (lv_at hl 0 rfl) ?_
          refine nw_iald hx hb hK hO kr40 (k := 218) rfl hP (by omega) (by omega) dME_open_207 ?_
          refine lv_aload_n hx hb dME_open_208 rfl (lv_at hl 3 rfl) ?_
          refine nw_get (C := "LatticeKeysModel$Secrets") (TT := T_ME) (N := 14) hx hb hts (wg_ft i_ME) hown hK hO k_h0 (kn := 184) (ci := 11) (fl := [(3, 172), (3, 178), (3, 185), (3, 202), (3, 207), (3, 212), (3, 217), (3, 218), (3, 219), (3, 220), (3, 221), (3, 222), (3, 223), (3, 224)]) rfl hP rfl 6 (by decide) (hts _ (wg_t kw_1385)) (fun _ h9 => h9) (cd := (3, 217)) rfl dME_open_209 (fun v41 hv41 => ?_)
          obtain ⟨r42, rfl, kr41⟩ := (show ∃ r : Nat, v41 = .ref r ∧ T r = some 217 from hv41)
          refine lv_iload hx hb dME_open_212 (lv_at hl 0 rfl) ?_
          refine nw_iald hx hb hK hO kr41 (k := 217) rfl hP (by omega) (by omega) dME_open_214 ?_
          refine lv_isub hx hb dME_open_215 ?_
          refine lv_sipush (v := nI 3329) hx hb dME_open_216 (by decide) ?_
          refine lv_iadd hx hb dME_open_219 ?_
          refine lv_sipush (v := nI 3329) hx hb dME_open_220 (by decide) ?_
          refine lv_irem hx hb dME_open_223 (nI_ne0 (by omega) (by omega)) ?_
          refine nw_iast hx hb hK hO hU kr39 (k := 218) rfl hP hD hS (by omega) (by omega) dME_open_224 (fun s41 pl H locs es23 hO hP hD hS => ?_)
          replace hR := bnd_step hR es23
          replace hE := bndP_step hE es23
          have hF := frm_sI hF es23 (by unfold M_ME_open_0; omega)
          refine mi_iinc (k := 0) (x := i22) (d := 1) (y := i22 + 1) (lv' := [(7, .int (nI (i22 + 1))), (6, .int (nI 768)), (5, .int (nI 2)), (0, .ref h0), (1, .int (nI 0)), (2, .ref dk), (3, .ref ct), (4, .ref to)]) hx hb dME_open_225 hl rfl (by decide) rfl (by decide) rfl (fun ls hl => ?_)
          refine lv_goto (tgt := 187) hx hb dME_open_228 (by decide) ?_
          exact ih22 (i22 + 1) s41 pl ls H locs (by omega) hF hE hR (lv_sub hl [0, 1, 2, 3, 4, 5, 6, 7] rfl) hO hP hD hS
      exact lp22 256 0 s25 pl ls _ _ (by omega) hF hE hR (lv_sub hl [0, 1, 2, 3, 4, 5, 6, 7] rfl) hO hP hD hS
    | succ n21 ih21 =>
      intro i21 s22 pl ls H locs hm21 hF hE hR hl hO hP hD hS
      refine lv_iload hx hb dME_open_23 (lv_at hl 0 rfl) ?_
      refine lv_iload hx hb dME_open_25 (lv_at hl 2 rfl) ?_
      refine mi_ge (tgt := 140) hx hb dME_open_27 (by decide) (by omega) (by omega) (fun h32 => absurd h32 (by omega)) (fun h32 => ?_)
      refine lv_aload_n hx hb dME_open_30 rfl (lv_at hl 6 rfl) ?_
      refine lv_bipush (v := nI 32) hx hb dME_open_31 (by decide) ?_
      refine va_gets hx hb (hEn.2.1 21 _ rfl).1 hS hown (hts _ (wg_t kw_1830)) (fun _ h9 => h9) dME_open_33 ?_
      refine lv_iload_n hx hb dME_open_36 rfl (lv_at hl 4 rfl) ?_
      refine va_ti (v := .int (nI 10)) hx hb (hEn.2.1 21 _ rfl).2 hS (vp_in_nI (by decide) (by decide)) (by decide +kernel) dME_open_37 ?_
      refine mi_imul hx hb dME_open_38 ?_
      refine mi_as (show nI (32 * 10) = nI 320 from rfl) ?_
      refine lv_iload hx hb dME_open_39 (lv_at hl 0 rfl) ?_
      refine mi_imul hx hb dME_open_41 ?_
      refine va_gets hx hb (hEn.2.1 21 _ rfl).1 hS hown (hts _ (wg_t kw_1830)) (fun _ h9 => h9) dME_open_42 ?_
      refine lv_iload_n hx hb dME_open_45 rfl (lv_at hl 4 rfl) ?_
      refine va_ti (v := .int (nI 10)) hx hb (hEn.2.1 21 _ rfl).2 hS (vp_in_nI (by decide) (by decide)) (by decide +kernel) dME_open_46 ?_
      refine lv_aload_n hx hb dME_open_47 rfl (lv_at hl 3 rfl) ?_
      refine nw_get (C := "LatticeKeysModel$Secrets") (TT := T_ME) (N := 14) hx hb hts (wg_ft i_ME) hown hK hO k_h0 (kn := 184) (ci := 11) (fl := [(3, 172), (3, 178), (3, 185), (3, 202), (3, 207), (3, 212), (3, 217), (3, 218), (3, 219), (3, 220), (3, 221), (3, 222), (3, 223), (3, 224)]) rfl hP rfl 3 (by decide) (hts _ (wg_t kw_1382)) (fun _ h9 => h9) (cd := (3, 202)) rfl dME_open_48 (fun v42 hv42 => ?_)
      obtain ⟨r43, rfl, kr42⟩ := (show ∃ r : Nat, v42 = .ref r ∧ T r = some 202 from hv42)
      refine lv_iload hx hb dME_open_51 (lv_at hl 0 rfl) ?_
      refine nw_aald3 hx hb hK hO kr42 (k := 202) (b := 203) rfl hP (by omega) (by omega) dME_open_53 (fun r44 kr43 => ?_)
      have hn21 : nsp (203 + i21) = (0, 256, []) := rows_ok 203 4 (by decide) _ (by omega)
      refine mp_v (cx := []) (wr := []) hP hD hS hA [] [] rfl rfl rfl (by decide) (va_runS (As := [.ref ct, .int (nI (320 * i21)), .int (nI 10), .ref r44]) (rest := []) F (N_ME_read_10 l g _ T s22 pl hO hU ct r44 pct 16384 (320 * i21) (203 + i21) k_ct n_ct kr43 hn21 (by omega) (by omega)) (va_cwS 4 hts (wg_app (wg_c kw_1813 (wg_c kw_1814 (wg_c kw_11 wg_n))) kw_1815) rfl rfl rfl (by decide +kernel) ⟨by decide, by decide⟩) (pp_S (en_ok g) hP hD hS hA hEn [] rfl rfl) rfl rfl hl.1 rfl (lv_room (Nat.le_of_ble_eq_true rfl)) dME_open_54 ⟨by omega, by omega⟩) (fun  u35 H locs hu35 hP hD hS => ?_)
      obtain ⟨s42, pl⟩ := u35
      obtain ⟨⟨eq35, hFc35, -⟩, hO⟩ := hu35
      have hO : okn g T s42 pl := hO
      have hP : va_P g.1 vcl ([] ++ pl) _ := hP
      have hD : va_D _ ([] ++ pl) := hD
      have hFc35 : frm (M_ME_read_10 (203 + i21)) s22 s42 := hFc35
      replace hR := bnd_step hR eq35
      replace hE := bndP_step hE eq35
      have hF := frm_tr hF hFc35 (fun k hk => by unfold M_ME_read_10 at hk; unfold M_ME_open_0; omega)
      refine W.widen (k := 0) (n := 0) (by omega) (by omega) ?_
      refine lv_aload_n hx hb dME_open_57 rfl (lv_at hl 3 rfl) ?_
      refine nw_get (C := "LatticeKeysModel$Secrets") (TT := T_ME) (N := 14) hx hb hts (wg_ft i_ME) hown hK hO k_h0 (kn := 184) (ci := 11) (fl := [(3, 172), (3, 178), (3, 185), (3, 202), (3, 207), (3, 212), (3, 217), (3, 218), (3, 219), (3, 220), (3, 221), (3, 222), (3, 223), (3, 224)]) rfl hP rfl 3 (by decide) (hts _ (wg_t kw_1382)) (fun _ h9 => h9) (cd := (3, 202)) rfl dME_open_58 (fun v43 hv43 => ?_)
      obtain ⟨r45, rfl, kr44⟩ := (show ∃ r : Nat, v43 = .ref r ∧ T r = some 202 from hv43)
      refine lv_iload hx hb dME_open_61 (lv_at hl 0 rfl) ?_
      refine nw_aald3 hx hb hK hO kr44 (k := 202) (b := 203) rfl hP (by omega) (by omega) dME_open_63 (fun r46 kr45 => ?_)
      have hn22 : nsp (203 + i21) = (0, 256, []) := rows_ok 203 4 (by decide) _ (by omega)
      refine va_gets hx hb (hEn.2.1 21 _ rfl).1 hS hown (hts _ (wg_t kw_1830)) (fun _ h9 => h9) dME_open_64 ?_
      refine lv_iload_n hx hb dME_open_67 rfl (lv_at hl 4 rfl) ?_
      refine va_ti (v := .int (nI 10)) hx hb (hEn.2.1 21 _ rfl).2 hS (vp_in_nI (by decide) (by decide)) (by decide +kernel) dME_open_68 ?_
      refine mp_v (cx := []) (wr := []) hP hD hS hA [] [] rfl rfl rfl (by decide) (va_runS (As := [.ref r46, .int (nI 10)]) (rest := []) F (N_ME_more_10 l g _ T s42 pl hO hU r46 (203 + i21) kr45 hn22) (va_cwS 2 hts (wg_app (wg_c kw_1835 (wg_c kw_1836 (wg_c kw_11 wg_n))) kw_1837) rfl rfl rfl (by decide +kernel) ⟨by decide, by decide⟩) (pp_S (en_ok g) hP hD hS hA hEn [] rfl rfl) rfl rfl hl.1 rfl (lv_room (Nat.le_of_ble_eq_true rfl)) dME_open_69 ⟨by omega, by omega⟩) (fun  u36 H locs hu36 hP hD hS => ?_)
      obtain ⟨s43, pl⟩ := u36
      obtain ⟨⟨eq36, hFc36, -⟩, hO⟩ := hu36
      have hO : okn g T s43 pl := hO
      have hP : va_P g.1 vcl ([] ++ pl) _ := hP
      have hD : va_D _ ([] ++ pl) := hD
      have hFc36 : frm (M_ME_more_10 (203 + i21)) s42 s43 := hFc36
      replace hR := bnd_step hR eq36
      replace hE := bndP_step hE eq36
      have hF := frm_tr hF hFc36 (fun k hk => by unfold M_ME_more_10 at hk; unfold M_ME_open_0; omega)
      refine W.widen (k := 0) (n := 0) (by omega) (by omega) ?_
      refine lv_aload_n hx hb dME_open_72 rfl (lv_at hl 3 rfl) ?_
      refine lv_aload_n hx hb dME_open_73 rfl (lv_at hl 3 rfl) ?_
      refine nw_get (C := "LatticeKeysModel$Secrets") (TT := T_ME) (N := 14) hx hb hts (wg_ft i_ME) hown hK hO k_h0 (kn := 184) (ci := 11) (fl := [(3, 172), (3, 178), (3, 185), (3, 202), (3, 207), (3, 212), (3, 217), (3, 218), (3, 219), (3, 220), (3, 221), (3, 222), (3, 223), (3, 224)]) rfl hP rfl 3 (by decide) (hts _ (wg_t kw_1382)) (fun _ h9 => h9) (cd := (3, 202)) rfl dME_open_74 (fun v44 hv44 => ?_)
      obtain ⟨r47, rfl, kr46⟩ := (show ∃ r : Nat, v44 = .ref r ∧ T r = some 202 from hv44)
      refine lv_iload hx hb dME_open_77 (lv_at hl 0 rfl) ?_
      refine nw_aald3 hx hb hK hO kr46 (k := 202) (b := 203) rfl hP (by omega) (by omega) dME_open_79 (fun r48 kr47 => ?_)
      have hn23 : nsp (203 + i21) = (0, 256, []) := rows_ok 203 4 (by decide) _ (by omega)
      refine mp_v (cx := []) (wr := []) hP hD hS hA [] [] rfl rfl rfl (by decide) (va_runV (As := [.ref r48]) (rest := []) F (N_ME_forth l g _ T s43 pl hO hU h0 r48 (203 + i21) k_h0 kr47 hn23) (cwV 1 hts (wg_app (wg_c kw_1668 (wg_c kw_1670 (wg_c ks_57 (wg_c kw_11 wg_n)))) kw_1671) rfl rfl rfl (by decide +kernel) ⟨by decide, by decide⟩) (pn_W "LatticeKeysModel$Secrets" (en_ok g) (ci := 11) (kn := 184) (fl := [(3, 172), (3, 178), (3, 185), (3, 202), (3, 207), (3, 212), (3, 217), (3, 218), (3, 219), (3, 220), (3, 221), (3, 222), (3, 223), (3, 224)]) hK hO k_h0 rfl hP hD hS hA hEn [] rfl rfl rfl) rfl rfl hl.1 rfl (lv_room (Nat.le_of_ble_eq_true rfl)) dME_open_80 ⟨by omega, by omega⟩) (fun  u37 H locs hu37 hP hD hS => ?_)
      obtain ⟨s44, pl⟩ := u37
      obtain ⟨⟨eq37, hFc37, -⟩, hO⟩ := hu37
      have hO : okn g T s44 pl := hO
      have hP : va_P g.1 vcl ([] ++ pl) _ := hP
      have hD : va_D _ ([] ++ pl) := hD
      have hFc37 : frm (M_ME_forth (203 + i21)) s43 s44 := hFc37
      replace hR := bnd_step hR eq37
      replace hE := bndP_step hE eq37
      have hF := frm_tr hF hFc37 (fun k hk => by unfold M_ME_forth at hk; unfold M_ME_open_0; omega)
      refine W.widen (k := 0) (n := 0) (by omega) (by omega) ?_
      refine lv_aload_n hx hb dME_open_83 rfl (lv_at hl 5 rfl) ?_
      refine lv_sipush (v := nI 384) hx hb dME_open_84 (by decide) ?_
      refine lv_iload hx hb dME_open_87 (lv_at hl 0 rfl) ?_
      refine mi_imul hx hb dME_open_89 ?_
      refine lv_bipush (v := nI 12) hx hb dME_open_90 (by decide) ?_
      refine lv_aload_n hx hb dME_open_92 rfl (lv_at hl 3 rfl) ?_
      refine nw_get (C := "LatticeKeysModel$Secrets") (TT := T_ME) (N := 14) hx hb hts (wg_ft i_ME) hown hK hO k_h0 (kn := 184) (ci := 11) (fl := [(3, 172), (3, 178), (3, 185), (3, 202), (3, 207), (3, 212), (3, 217), (3, 218), (3, 219), (3, 220), (3, 221), (3, 222), (3, 223), (3, 224)]) rfl hP rfl 4 (by decide) (hts _ (wg_t kw_1383)) (fun _ h9 => h9) (cd := (3, 207)) rfl dME_open_93 (fun v45 hv45 => ?_)
      obtain ⟨r49, rfl, kr48⟩ := (show ∃ r : Nat, v45 = .ref r ∧ T r = some 207 from hv45)
      refine lv_iload hx hb dME_open_96 (lv_at hl 0 rfl) ?_
      refine nw_aald3 hx hb hK hO kr48 (k := 207) (b := 208) rfl hP (by omega) (by omega) dME_open_98 (fun r50 kr49 => ?_)
      have hn24 : nsp (208 + i21) = (0, 256, []) := rows_ok 208 4 (by decide) _ (by omega)
      refine mp_v (cx := []) (wr := []) hP hD hS hA [] [] rfl rfl rfl (by decide) (va_runS (As := [.ref dk, .int (nI (384 * i21)), .int (nI 12), .ref r50]) (rest := []) F (N_ME_read_12 l g _ T s44 pl hO hU dk r50 pdk 4896 (384 * i21) (208 + i21) k_dk n_dk kr49 hn24 (by omega) (by omega)) (va_cwS 4 hts (wg_app (wg_c kw_1813 (wg_c kw_1814 (wg_c kw_11 wg_n))) kw_1815) rfl rfl rfl (by decide +kernel) ⟨by decide, by decide⟩) (pp_S (en_ok g) hP hD hS hA hEn [] rfl rfl) rfl rfl hl.1 rfl (lv_room (Nat.le_of_ble_eq_true rfl)) dME_open_99 ⟨by omega, by omega⟩) (fun  u38 H locs hu38 hP hD hS => ?_)
      obtain ⟨s45, pl⟩ := u38
      obtain ⟨⟨eq38, hFc38, -⟩, hO⟩ := hu38
      have hO : okn g T s45 pl := hO
      have hP : va_P g.1 vcl ([] ++ pl) _ := hP
      have hD : va_D _ ([] ++ pl) := hD
      have hFc38 : frm (M_ME_read_12 (208 + i21)) s44 s45 := hFc38
      replace hR := bnd_step hR eq38
      replace hE := bndP_step hE eq38
      have hF := frm_tr hF hFc38 (fun k hk => by unfold M_ME_read_12 at hk; unfold M_ME_open_0; omega)
      refine W.widen (k := 0) (n := 0) (by omega) (by omega) ?_
      refine lv_aload_n hx hb dME_open_102 rfl (lv_at hl 3 rfl) ?_
      refine nw_get (C := "LatticeKeysModel$Secrets") (TT := T_ME) (N := 14) hx hb hts (wg_ft i_ME) hown hK hO k_h0 (kn := 184) (ci := 11) (fl := [(3, 172), (3, 178), (3, 185), (3, 202), (3, 207), (3, 212), (3, 217), (3, 218), (3, 219), (3, 220), (3, 221), (3, 222), (3, 223), (3, 224)]) rfl hP rfl 4 (by decide) (hts _ (wg_t kw_1383)) (fun _ h9 => h9) (cd := (3, 207)) rfl dME_open_103 (fun v46 hv46 => ?_)
      obtain ⟨r51, rfl, kr50⟩ := (show ∃ r : Nat, v46 = .ref r ∧ T r = some 207 from hv46)
      refine lv_iload hx hb dME_open_106 (lv_at hl 0 rfl) ?_
      refine nw_aald3 hx hb hK hO kr50 (k := 207) (b := 208) rfl hP (by omega) (by omega) dME_open_108 (fun r52 kr51 => ?_)
      have hn25 : nsp (208 + i21) = (0, 256, []) := rows_ok 208 4 (by decide) _ (by omega)
      refine mp_v (cx := []) (wr := []) hP hD hS hA [] [] rfl rfl rfl (by decide) (va_runS (As := [.ref r52]) (rest := []) F (N_ME_proper l g _ T s45 pl hO hU r52 (208 + i21) kr51 hn25) (va_cwS 1 hts (wg_app (wg_c kw_1816 (wg_c kw_1817 (wg_c kw_11 wg_n))) kw_1818) rfl rfl rfl (by decide +kernel) ⟨by decide, by decide⟩) (pp_S (en_ok g) hP hD hS hA hEn [] rfl rfl) rfl rfl hl.1 rfl (lv_room (Nat.le_of_ble_eq_true rfl)) dME_open_109 ⟨by omega, by omega⟩) (fun  u39 H locs hu39 hP hD hS => ?_)
      obtain ⟨s46, pl⟩ := u39
      obtain ⟨⟨eq39, hFc39, -⟩, hO⟩ := hu39
      have hO : okn g T s46 pl := hO
      have hP : va_P g.1 vcl ([] ++ pl) _ := hP
      have hD : va_D _ ([] ++ pl) := hD
      have hFc39 : frm (M_ME_proper (208 + i21)) s45 s46 := hFc39
      replace hR := bnd_step hR eq39
      replace hE := bndP_step hE eq39
      have hF := frm_tr hF hFc39 (fun k hk => by unfold M_ME_proper at hk; unfold M_ME_open_0; omega)
      refine W.widen (k := 0) (n := 0) (by omega) (by omega) ?_
      refine lv_aload_n hx hb dME_open_112 rfl (lv_at hl 3 rfl) ?_
      refine lv_aload_n hx hb dME_open_113 rfl (lv_at hl 3 rfl) ?_
      refine nw_get (C := "LatticeKeysModel$Secrets") (TT := T_ME) (N := 14) hx hb hts (wg_ft i_ME) hown hK hO k_h0 (kn := 184) (ci := 11) (fl := [(3, 172), (3, 178), (3, 185), (3, 202), (3, 207), (3, 212), (3, 217), (3, 218), (3, 219), (3, 220), (3, 221), (3, 222), (3, 223), (3, 224)]) rfl hP rfl 4 (by decide) (hts _ (wg_t kw_1383)) (fun _ h9 => h9) (cd := (3, 207)) rfl dME_open_114 (fun v47 hv47 => ?_)
      obtain ⟨r53, rfl, kr52⟩ := (show ∃ r : Nat, v47 = .ref r ∧ T r = some 207 from hv47)
      refine lv_iload hx hb dME_open_117 (lv_at hl 0 rfl) ?_
      refine nw_aald3 hx hb hK hO kr52 (k := 207) (b := 208) rfl hP (by omega) (by omega) dME_open_119 (fun r54 kr53 => ?_)
      have hn26 : nsp (208 + i21) = (0, 256, []) := rows_ok 208 4 (by decide) _ (by omega)
      refine lv_aload_n hx hb dME_open_120 rfl (lv_at hl 3 rfl) ?_
      refine nw_get (C := "LatticeKeysModel$Secrets") (TT := T_ME) (N := 14) hx hb hts (wg_ft i_ME) hown hK hO k_h0 (kn := 184) (ci := 11) (fl := [(3, 172), (3, 178), (3, 185), (3, 202), (3, 207), (3, 212), (3, 217), (3, 218), (3, 219), (3, 220), (3, 221), (3, 222), (3, 223), (3, 224)]) rfl hP rfl 3 (by decide) (hts _ (wg_t kw_1382)) (fun _ h9 => h9) (cd := (3, 202)) rfl dME_open_121 (fun v48 hv48 => ?_)
      obtain ⟨r55, rfl, kr54⟩ := (show ∃ r : Nat, v48 = .ref r ∧ T r = some 202 from hv48)
      refine lv_iload hx hb dME_open_124 (lv_at hl 0 rfl) ?_
      refine nw_aald3 hx hb hK hO kr54 (k := 202) (b := 203) rfl hP (by omega) (by omega) dME_open_126 (fun r56 kr55 => ?_)
      have hn27 : nsp (203 + i21) = (0, 256, []) := rows_ok 203 4 (by decide) _ (by omega)
      refine lv_aload_n hx hb dME_open_127 rfl (lv_at hl 3 rfl) ?_
      refine nw_get (C := "LatticeKeysModel$Secrets") (TT := T_ME) (N := 14) hx hb hts (wg_ft i_ME) hown hK hO k_h0 (kn := 184) (ci := 11) (fl := [(3, 172), (3, 178), (3, 185), (3, 202), (3, 207), (3, 212), (3, 217), (3, 218), (3, 219), (3, 220), (3, 221), (3, 222), (3, 223), (3, 224)]) rfl hP rfl 6 (by decide) (hts _ (wg_t kw_1385)) (fun _ h9 => h9) (cd := (3, 217)) rfl dME_open_128 (fun v49 hv49 => ?_)
      obtain ⟨r57, rfl, kr56⟩ := (show ∃ r : Nat, v49 = .ref r ∧ T r = some 217 from hv49)
      refine mp_v (cx := []) (wr := []) hP hD hS hA [] [] rfl rfl rfl (by decide) (va_runV (As := [.ref r54, .ref r56, .ref r57]) (rest := []) F (N_ME_product l g _ T s46 pl hO hU h0 r54 r56 r57 (208 + i21) (203 + i21) 217 k_h0 kr53 hn26 kr55 hn27 kr56 rfl) (cwV 3 hts (wg_app (wg_c kw_1676 (wg_c kw_1678 (wg_c ks_58 (wg_c kw_11 wg_n)))) kw_1679) rfl rfl rfl (by decide +kernel) ⟨by decide, by decide⟩) (pn_W "LatticeKeysModel$Secrets" (en_ok g) (ci := 11) (kn := 184) (fl := [(3, 172), (3, 178), (3, 185), (3, 202), (3, 207), (3, 212), (3, 217), (3, 218), (3, 219), (3, 220), (3, 221), (3, 222), (3, 223), (3, 224)]) hK hO k_h0 rfl hP hD hS hA hEn [] rfl rfl rfl) rfl rfl hl.1 rfl (lv_room (Nat.le_of_ble_eq_true rfl)) dME_open_131 ⟨by omega, by omega⟩) (fun  u40 H locs hu40 hP hD hS => ?_)
      obtain ⟨s47, pl⟩ := u40
      obtain ⟨⟨eq40, hFc40, -⟩, hO⟩ := hu40
      have hO : okn g T s47 pl := hO
      have hP : va_P g.1 vcl ([] ++ pl) _ := hP
      have hD : va_D _ ([] ++ pl) := hD
      have hFc40 : frm (M_ME_product 217) s46 s47 := hFc40
      replace hR := bnd_step hR eq40
      replace hE := bndP_step hE eq40
      have hF := frm_tr hF hFc40 (fun k hk => by unfold M_ME_product at hk; unfold M_ME_open_0; omega)
      refine W.widen (k := 0) (n := 0) (by omega) (by omega) ?_
      refine mi_iinc (k := 0) (x := i21) (d := 1) (y := i21 + 1) (lv' := [(7, .int (nI (i21 + 1))), (6, .int (nI 768)), (5, .int (nI 2)), (0, .ref h0), (1, .int (nI 0)), (2, .ref dk), (3, .ref ct), (4, .ref to)]) hx hb dME_open_134 hl rfl (by decide) rfl (by decide) rfl (fun ls hl => ?_)
      refine lv_goto (tgt := 23) hx hb dME_open_137 (by decide) ?_
      exact ih21 (i21 + 1) s47 pl ls H locs (by omega) hF hE hR (lv_sub hl [0, 1, 2, 3, 4, 5, 6, 7] rfl) hO hP hD hS
  exact lp21 2 0 s21 pl ls _ _ (by omega) hF hE hR (lv_sub hl [0, 1, 2, 3, 4, 5, 6, 7] rfl) hO hP hD hS
def M_ME_open_1 (pt : Nat) (k : Nat) : Prop := (186 ≤ k ∧ k < 202) ∨ (203 ≤ k ∧ k < 207) ∨ (208 ≤ k ∧ k < 212) ∨ (213 ≤ k ∧ k < 217) ∨ k = 172 ∨ k = 217 ∨ k = 218 ∨ k = 219 ∨ k = 220 ∨ k = 221 ∨ k = 222 ∨ k = 223 ∨ k = 224 ∨ k = pt ∨ (0 : Nat) = 1
noncomputable def F_ME_open_1_L4 (pdk : Nat) (pct : Nat) (pt : Nat) (z22 : Int32) : Nat → Nat → Sto → Sto
  | 0, i25, s33 => if z22 = 0 then bnd (F_MS_shake  s33) fun s34 => bnd (F_MS_puts pdk 4896 2368 32 s34) fun s35 => bnd (F_MS_puts pct 16384 0 1088 s35) fun s36 => bnd (F_MS_end  s36) fun s37 => bnd (F_MS_take pt 8192 0 32 s37) fun s38 => s38 else s33
  | n25 + 1, i25, s33 => bnd (sB s33 pt i25 (s33.1 220 i25)) fun s39 => F_ME_open_1_L4 pdk pct pt z22 n25 (i25 + 1) s39
noncomputable def E_ME_open_1_L4 (pdk : Nat) (pct : Nat) (pt : Nat) (z22 : Int32) : Nat → Nat → Sto → Prop
  | 0, i25, s33 => if z22 = 0 then bnd (F_MS_shake  s33) fun s34 => bnd (F_MS_puts pdk 4896 2368 32 s34) fun s35 => bnd (F_MS_puts pct 16384 0 1088 s35) fun s36 => bnd (F_MS_end  s36) fun s37 => bnd (F_MS_take pt 8192 0 32 s37) fun s38 => True else True
  | n25 + 1, i25, s33 => bnd (sB s33 pt i25 (s33.1 220 i25)) fun s39 => E_ME_open_1_L4 pdk pct pt z22 n25 (i25 + 1) s39
noncomputable def F_ME_open_1_L3 (pdk : Nat) (pct : Nat) (pt : Nat) : Nat → Nat → Int32 → Sto → Sto
  | 0, i24, z22, s32 => F_ME_open_1_L4 pdk pct pt z22 32 0 s32
  | n24 + 1, i24, z22, s32 => if (s32.1 224 i24) = (s32.1 pct i24) then bnd ((z22 &&& (nI 1))) fun z24 => F_ME_open_1_L3 pdk pct pt n24 (i24 + 1) z24 s32 else bnd ((z22 &&& (nI 0))) fun z23 => F_ME_open_1_L3 pdk pct pt n24 (i24 + 1) z23 s32
noncomputable def E_ME_open_1_L3 (pdk : Nat) (pct : Nat) (pt : Nat) : Nat → Nat → Int32 → Sto → Prop
  | 0, i24, z22, s32 => E_ME_open_1_L4 pdk pct pt z22 32 0 s32
  | n24 + 1, i24, z22, s32 => if (s32.1 224 i24) = (s32.1 pct i24) then bnd ((z22 &&& (nI 1))) fun z24 => E_ME_open_1_L3 pdk pct pt n24 (i24 + 1) z24 s32 else bnd ((z22 &&& (nI 0))) fun z23 => E_ME_open_1_L3 pdk pct pt n24 (i24 + 1) z23 s32
noncomputable def F_ME_open_1_L2 (pdk : Nat) (pct : Nat) (pt : Nat) : Nat → Nat → Sto → Sto
  | 0, i23, s29 => bnd (F_ME_both 223 32 s29) fun s30 => bnd (F_ME_encrypt_1 pdk 4896 1152 223 32 224 1568 s30) fun s31 => F_ME_open_1_L3 pdk pct pt 1088 0 (nI 1) s31
  | n23 + 1, i23, s29 => bnd (sB s29 222 i23 (s29.1 pdk (2336 + i23))) fun s40 => F_ME_open_1_L2 pdk pct pt n23 (i23 + 1) s40
noncomputable def E_ME_open_1_L2 (pdk : Nat) (pct : Nat) (pt : Nat) : Nat → Nat → Sto → Prop
  | 0, i23, s29 => bnd (F_ME_both 223 32 s29) fun s30 => (E_ME_encrypt_1 pdk 4896 1152 223 32 224 1568 s30) ∧ (bnd (F_ME_encrypt_1 pdk 4896 1152 223 32 224 1568 s30) fun s31 => E_ME_open_1_L3 pdk pct pt 1088 0 (nI 1) s31)
  | n23 + 1, i23, s29 => bnd (sB s29 222 i23 (s29.1 pdk (2336 + i23))) fun s40 => E_ME_open_1_L2 pdk pct pt n23 (i23 + 1) s40
noncomputable def F_ME_open_1_L1 (pdk : Nat) (pct : Nat) (pt : Nat) : Nat → Nat → Sto → Sto
  | 0, i22, s26 => bnd (F_ME_less_1 218 s26) fun s27 => bnd (F_ME_write_1 218 223 32 0 s27) fun s28 => F_ME_open_1_L2 pdk pct pt 32 0 s28
  | n22 + 1, i22, s26 => bnd (sI s26 218 i22 ((((s26.1 218 i22) - (s26.1 217 i22)) + (nI 3329)) - (((s26.1 218 i22) - (s26.1 217 i22)) + (nI 3329)) / (nI 3329) * (nI 3329))) fun s41 => F_ME_open_1_L1 pdk pct pt n22 (i22 + 1) s41
noncomputable def E_ME_open_1_L1 (pdk : Nat) (pct : Nat) (pt : Nat) : Nat → Nat → Sto → Prop
  | 0, i22, s26 => bnd (F_ME_less_1 218 s26) fun s27 => bnd (F_ME_write_1 218 223 32 0 s27) fun s28 => E_ME_open_1_L2 pdk pct pt 32 0 s28
  | n22 + 1, i22, s26 => bnd (sI s26 218 i22 ((((s26.1 218 i22) - (s26.1 217 i22)) + (nI 3329)) - (((s26.1 218 i22) - (s26.1 217 i22)) + (nI 3329)) / (nI 3329) * (nI 3329))) fun s41 => E_ME_open_1_L1 pdk pct pt n22 (i22 + 1) s41
noncomputable def F_ME_open_1_L0 (pdk : Nat) (pct : Nat) (pt : Nat) : Nat → Nat → Sto → Sto
  | 0, i21, s22 => bnd (F_ME_back 217 s22) fun s23 => bnd (F_ME_read_4 pct 16384 960 218 s23) fun s24 => bnd (F_ME_more_4 218 s24) fun s25 => F_ME_open_1_L1 pdk pct pt 256 0 s25
  | n21 + 1, i21, s22 => bnd (F_ME_read_10 pct 16384 (320 * i21) (203 + i21) s22) fun s42 => bnd (F_ME_more_10 (203 + i21) s42) fun s43 => bnd (F_ME_forth (203 + i21) s43) fun s44 => bnd (F_ME_read_12 pdk 4896 (384 * i21) (208 + i21) s44) fun s45 => bnd (F_ME_proper (208 + i21) s45) fun s46 => bnd (F_ME_product (208 + i21) (203 + i21) 217 s46) fun s47 => F_ME_open_1_L0 pdk pct pt n21 (i21 + 1) s47
noncomputable def E_ME_open_1_L0 (pdk : Nat) (pct : Nat) (pt : Nat) : Nat → Nat → Sto → Prop
  | 0, i21, s22 => bnd (F_ME_back 217 s22) fun s23 => bnd (F_ME_read_4 pct 16384 960 218 s23) fun s24 => bnd (F_ME_more_4 218 s24) fun s25 => E_ME_open_1_L1 pdk pct pt 256 0 s25
  | n21 + 1, i21, s22 => bnd (F_ME_read_10 pct 16384 (320 * i21) (203 + i21) s22) fun s42 => bnd (F_ME_more_10 (203 + i21) s42) fun s43 => bnd (F_ME_forth (203 + i21) s43) fun s44 => bnd (F_ME_read_12 pdk 4896 (384 * i21) (208 + i21) s44) fun s45 => bnd (F_ME_proper (208 + i21) s45) fun s46 => bnd (F_ME_product (208 + i21) (203 + i21) 217 s46) fun s47 => E_ME_open_1_L0 pdk pct pt n21 (i21 + 1) s47
noncomputable def F_ME_open_1 (pdk : Nat) (pct : Nat) (pt : Nat) (s : Sto) : Sto := bnd (F_ME_sealedSize_1  s) fun q21 => bnd (q21.1.toNatClampNeg) fun z21 => bnd (F_ME_clear 217 q21.2) fun s21 => F_ME_open_1_L0 pdk pct pt 3 0 s21
noncomputable def E_ME_open_1 (pdk : Nat) (pct : Nat) (pt : Nat) (s : Sto) : Prop := bnd (F_ME_sealedSize_1  s) fun q21 => bnd (q21.1.toNatClampNeg) fun z21 => bnd (F_ME_clear 217 q21.2) fun s21 => E_ME_open_1_L0 pdk pct pt 3 0 s21
set_option maxHeartbeats 8000000 in
set_option maxRecDepth 100000 in
theorem N_ME_open_1 (l : Launch) (g : Gd) (sz : Nat) (T : TyN) (s : Sto) (pl : va_W) (hO : okn g T s pl) (hU : inj T) (h0 dk ct to : Nat) (pdk : Nat) (pct : Nat) (pt : Nat) (k_h0 : T h0 = some 184) (k_dk : T dk = some pdk) (n_dk : nsp pdk = (1, 4896, [])) (k_ct : T ct = some pct) (n_ct : nsp pct = (1, 16384, [])) (k_to : T to = some pt) (n_to : nsp pt = (1, 8192, [])) (hE : E_ME_open_1 pdk pct pt s)  : Met l y_ME_open w_ME_open ({ frames := 6, cells := 0, slots := 0, locals := 146 } : Room) (va_Pc [.ref h0, .int (nI 1), .ref dk, .ref ct, .ref to] (pr (en g) g.1 vcl sz ([] ++ pl))) (va_Qv (fun (u : (Sto) × va_W) => (u.1 = F_ME_open_1 pdk pct pt s ∧ frm (M_ME_open_1 pt) s u.1 ∧ True) ∧ okn g T u.1 u.2) (po g.1 vcl (va_A ([] ++ pl) sz) (fun (u : (Sto) × va_W) => [] ++ u.2)) (va_A ([] ++ pl) sz)) 0 0 (va_A ([] ++ pl) sz) := by
  refine mc_entry (cc := c_ME_open) (maxL := 9) (ret := none) (by decide) rfl (Nat.le_of_ble_eq_true rfl) ?_
  intro p e s0 m args below meth c ls F hr hlk hnm hsz hP hD hEn hA hl
  obtain ⟨hx, hb, hml, hown, hts⟩ := id F
  have hK := hEn.1
  generalize va_A ([] ++ pl) sz = A at hD hEn hA ⊢
  have hS : va_S A s0.heap s0.heap [] := va_S.rf
  have hl : lv_has ls 9 [(0, .ref h0), (1, .int (nI 1)), (2, .ref dk), (3, .ref ct), (4, .ref to)] := hl
  have hR : F_ME_open_1 pdk pct pt s = F_ME_open_1 pdk pct pt s := rfl
  have hF : frm (M_ME_open_1 pt) s s := frm_rf
  refine va_gets hx hb (hEn.2.1 19 _ rfl).1 hS hown (hts _ (wg_t kw_1605)) (fun _ h9 => h9) dME_open_0 ?_
  refine lv_iload_n hx hb dME_open_3 rfl (lv_at hl 1 rfl) ?_
  refine va_ti (v := .int (nI 3)) hx hb (hEn.2.1 19 _ rfl).2 hS (vp_in_nI (by decide) (by decide)) (by decide +kernel) dME_open_4 ?_
  refine lv_istore (lv' := [(5, .int (nI 3)), (0, .ref h0), (1, .int (nI 1)), (2, .ref dk), (3, .ref ct), (4, .ref to)]) hx hb dME_open_5 hl (by decide) rfl (fun ls hl => ?_)
  refine lv_iload_n hx hb dME_open_7 rfl (lv_at hl 2 rfl) ?_
  refine mp_i (cx := []) (wr := []) hP hD hS hA [] [] rfl rfl rfl (by decide) (va_runS (As := [.int (nI 1)]) (rest := []) F (N_ME_sealedSize_1 l g _ T s pl hO hU ) (va_cwS 1 hts (wg_app (wg_c kw_1840 (wg_c kw_1841 (wg_c kw_11 wg_n))) kw_1842) rfl rfl rfl (by decide +kernel) ⟨by decide, by decide⟩) (pp_S (en_ok g) hP hD hS hA hEn [] rfl rfl) rfl rfl hl.1 rfl (lv_room (Nat.le_of_ble_eq_true rfl)) dME_open_8 ⟨by omega, by omega⟩) (fun r21 u21 H locs hu21 hP hD hS => ?_)
  obtain ⟨q21, pl⟩ := u21
  obtain ⟨⟨eq21, rfl, hFc21, ⟨x21, hx_21, hb_21⟩, hxp21, -⟩, hO⟩ := hu21
  have hO : okn g T q21.2 pl := hO
  have hP : va_P g.1 vcl ([] ++ pl) _ := hP
  have hD : va_D _ ([] ++ pl) := hD
  have hFc21 : frm (M_ME_sealedSize_1) s q21.2 := hFc21
  have hb_21 : x21 < 1089 := hb_21
  replace hR := bnd_step hR eq21
  replace hE := bndP_step hE eq21
  have hF := frm_tr hF hFc21 (fun k hk => by unfold M_ME_sealedSize_1 at hk; unfold M_ME_open_1; omega)
  obtain ⟨z21, ez21, hz21, hz22⟩ := cl_of (b := 2147483648) hx_21 (by omega) (by decide)
  replace hR := bnd_step hR ez21
  replace hE := bndP_step hE ez21
  refine mi_as hz21 ?_
  have hsz21 : z21 = 1088 := (nI_eq (by omega) (by omega)).mp (hz21.symm.trans hxp21)
  subst hsz21
  refine W.widen (k := 0) (n := 0) (by omega) (by omega) ?_
  refine lv_istore (lv' := [(6, .int (nI 1088)), (5, .int (nI 3)), (0, .ref h0), (1, .int (nI 1)), (2, .ref dk), (3, .ref ct), (4, .ref to)]) hx hb dME_open_11 hl (by decide) rfl (fun ls hl => ?_)
  refine lv_aload_n hx hb dME_open_13 rfl (lv_at hl 2 rfl) ?_
  refine nw_get (C := "LatticeKeysModel$Secrets") (TT := T_ME) (N := 14) hx hb hts (wg_ft i_ME) hown hK hO k_h0 (kn := 184) (ci := 11) (fl := [(3, 172), (3, 178), (3, 185), (3, 202), (3, 207), (3, 212), (3, 217), (3, 218), (3, 219), (3, 220), (3, 221), (3, 222), (3, 223), (3, 224)]) rfl hP rfl 6 (by decide) (hts _ (wg_t kw_1385)) (fun _ h9 => h9) (cd := (3, 217)) rfl dME_open_14 (fun v21 hv21 => ?_)
  obtain ⟨r22, rfl, kr21⟩ := (show ∃ r : Nat, v21 = .ref r ∧ T r = some 217 from hv21)
  refine mp_v (cx := []) (wr := []) hP hD hS hA [] [] rfl rfl rfl (by decide) (va_runS (As := [.ref r22]) (rest := []) F (N_ME_clear l g _ T q21.2 pl hO hU r22 217 kr21 rfl) (va_cwS 1 hts (wg_app (wg_c kw_1819 (wg_c kw_1820 (wg_c kw_11 wg_n))) kw_1821) rfl rfl rfl (by decide +kernel) ⟨by decide, by decide⟩) (pp_S (en_ok g) hP hD hS hA hEn [] rfl rfl) rfl rfl hl.1 rfl (lv_room (Nat.le_of_ble_eq_true rfl)) dME_open_17 ⟨by omega, by omega⟩) (fun  u22 H locs hu22 hP hD hS => ?_)
  obtain ⟨s21, pl⟩ := u22
  obtain ⟨⟨eq22, hFc22, -⟩, hO⟩ := hu22
  have hO : okn g T s21 pl := hO
  have hP : va_P g.1 vcl ([] ++ pl) _ := hP
  have hD : va_D _ ([] ++ pl) := hD
  have hFc22 : frm (M_ME_clear 217) q21.2 s21 := hFc22
  replace hR := bnd_step hR eq22
  replace hE := bndP_step hE eq22
  have hF := frm_tr hF hFc22 (fun k hk => by unfold M_ME_clear at hk; unfold M_ME_open_1; omega)
  refine W.widen (k := 0) (n := 0) (by omega) (by omega) ?_
  refine lv_iconst (v := nI 0) hx hb dME_open_20 (by decide) ?_
  refine lv_istore (lv' := [(7, .int (nI 0)), (6, .int (nI 1088)), (5, .int (nI 3)), (0, .ref h0), (1, .int (nI 1)), (2, .ref dk), (3, .ref ct), (4, .ref to)]) hx hb dME_open_21 hl (by decide) rfl (fun ls hl => ?_)
  have lp21 : ∀ (n21 : Nat) (i21 : Nat) (s22 : Sto) (pl : va_W) (ls : Array Slot) (H : Heap) (locs : List Loc), n21 + i21 = 3 → frm (M_ME_open_1 pt) s s22 → E_ME_open_1_L0 pdk pct pt n21 i21 s22 → F_ME_open_1 pdk pct pt s = F_ME_open_1_L0 pdk pct pt n21 i21 s22 → lv_has ls 9 [(7, .int (nI i21)), (6, .int (nI 1088)), (5, .int (nI 3)), (0, .ref h0), (1, .int (nI 1)), (2, .ref dk), (3, .ref ct), (4, .ref to)] → okn g T s22 pl → va_P g.1 vcl ([] ++ pl) H → va_D A ([] ++ pl) → va_S A s0.heap H locs → W p l e ({ frames := 6, cells := 0, slots := 0, locals := 146 } : Room) s0 m args below meth c H locs 0 0 (MQ below (va_Qv (fun (u : (Sto) × va_W) => (u.1 = F_ME_open_1 pdk pct pt s ∧ frm (M_ME_open_1 pt) s u.1 ∧ True) ∧ okn g T u.1 u.2) (po g.1 vcl A (fun (u : (Sto) × va_W) => [] ++ u.2)) A) args s0 0 0 A) (F0 m 23 ls []) := by
    intro n21
    induction n21 with
    | zero =>
      intro i21 s22 pl ls H locs hm21 hF hE hR hl hO hP hD hS
      refine lv_iload hx hb dME_open_23 (lv_at hl 0 rfl) ?_
      refine lv_iload hx hb dME_open_25 (lv_at hl 2 rfl) ?_
      refine mi_ge (tgt := 140) hx hb dME_open_27 (by decide) (by omega) (by omega) (fun h21 => ?_) (fun h21 => absurd h21 (by omega))
      refine lv_aload_n hx hb dME_open_140 rfl (lv_at hl 3 rfl) ?_
      refine lv_aload_n hx hb dME_open_141 rfl (lv_at hl 3 rfl) ?_
      refine nw_get (C := "LatticeKeysModel$Secrets") (TT := T_ME) (N := 14) hx hb hts (wg_ft i_ME) hown hK hO k_h0 (kn := 184) (ci := 11) (fl := [(3, 172), (3, 178), (3, 185), (3, 202), (3, 207), (3, 212), (3, 217), (3, 218), (3, 219), (3, 220), (3, 221), (3, 222), (3, 223), (3, 224)]) rfl hP rfl 6 (by decide) (hts _ (wg_t kw_1385)) (fun _ h9 => h9) (cd := (3, 217)) rfl dME_open_142 (fun v22 hv22 => ?_)
      obtain ⟨r23, rfl, kr22⟩ := (show ∃ r : Nat, v22 = .ref r ∧ T r = some 217 from hv22)
      refine mp_v (cx := []) (wr := []) hP hD hS hA [] [] rfl rfl rfl (by decide) (va_runV (As := [.ref r23]) (rest := []) F (N_ME_back l g _ T s22 pl hO hU h0 r23 217 k_h0 kr22 rfl) (cwV 1 hts (wg_app (wg_c kw_1822 (wg_c kw_1824 (wg_c ks_69 (wg_c kw_11 wg_n)))) kw_1825) rfl rfl rfl (by decide +kernel) ⟨by decide, by decide⟩) (pn_W "LatticeKeysModel$Secrets" (en_ok g) (ci := 11) (kn := 184) (fl := [(3, 172), (3, 178), (3, 185), (3, 202), (3, 207), (3, 212), (3, 217), (3, 218), (3, 219), (3, 220), (3, 221), (3, 222), (3, 223), (3, 224)]) hK hO k_h0 rfl hP hD hS hA hEn [] rfl rfl rfl) rfl rfl hl.1 rfl (lv_room (Nat.le_of_ble_eq_true rfl)) dME_open_145 ⟨by omega, by omega⟩) (fun  u23 H locs hu23 hP hD hS => ?_)
      obtain ⟨s23, pl⟩ := u23
      obtain ⟨⟨eq23, hFc23, -⟩, hO⟩ := hu23
      have hO : okn g T s23 pl := hO
      have hP : va_P g.1 vcl ([] ++ pl) _ := hP
      have hD : va_D _ ([] ++ pl) := hD
      have hFc23 : frm (M_ME_back 217) s22 s23 := hFc23
      replace hR := bnd_step hR eq23
      replace hE := bndP_step hE eq23
      have hF := frm_tr hF hFc23 (fun k hk => by unfold M_ME_back at hk; unfold M_ME_open_1; omega)
      refine W.widen (k := 0) (n := 0) (by omega) (by omega) ?_
      refine lv_aload_n hx hb dME_open_148 rfl (lv_at hl 6 rfl) ?_
      refine lv_bipush (v := nI 32) hx hb dME_open_149 (by decide) ?_
      refine va_gets hx hb (hEn.2.1 21 _ rfl).1 hS hown (hts _ (wg_t kw_1830)) (fun _ h9 => h9) dME_open_151 ?_
      refine lv_iload_n hx hb dME_open_154 rfl (lv_at hl 4 rfl) ?_
      refine va_ti (v := .int (nI 10)) hx hb (hEn.2.1 21 _ rfl).2 hS (vp_in_nI (by decide) (by decide)) (by decide +kernel) dME_open_155 ?_
      refine mi_imul hx hb dME_open_156 ?_
      refine mi_as (show nI (32 * 10) = nI 320 from rfl) ?_
      refine lv_iload hx hb dME_open_157 (lv_at hl 2 rfl) ?_
      refine mi_imul hx hb dME_open_159 ?_
      refine mi_as (show nI (320 * 3) = nI 960 from rfl) ?_
      refine va_gets hx hb (hEn.2.1 22 _ rfl).1 hS hown (hts _ (wg_t kw_1838)) (fun _ h9 => h9) dME_open_160 ?_
      refine lv_iload_n hx hb dME_open_163 rfl (lv_at hl 4 rfl) ?_
      refine va_ti (v := .int (nI 4)) hx hb (hEn.2.1 22 _ rfl).2 hS (vp_in_nI (by decide) (by decide)) (by decide +kernel) dME_open_164 ?_
      refine lv_aload_n hx hb dME_open_165 rfl (lv_at hl 3 rfl) ?_
      refine nw_get (C := "LatticeKeysModel$Secrets") (TT := T_ME) (N := 14) hx hb hts (wg_ft i_ME) hown hK hO k_h0 (kn := 184) (ci := 11) (fl := [(3, 172), (3, 178), (3, 185), (3, 202), (3, 207), (3, 212), (3, 217), (3, 218), (3, 219), (3, 220), (3, 221), (3, 222), (3, 223), (3, 224)]) rfl hP rfl 7 (by decide) (hts _ (wg_t kw_1386)) (fun _ h9 => h9) (cd := (3, 218)) rfl dME_open_166 (fun v23 hv23 => ?_)
      obtain ⟨r24, rfl, kr23⟩ := (show ∃ r : Nat, v23 = .ref r ∧ T r = some 218 from hv23)
      refine mp_v (cx := []) (wr := []) hP hD hS hA [] [] rfl rfl rfl (by decide) (va_runS (As := [.ref ct, .int (nI 960), .int (nI 4), .ref r24]) (rest := []) F (N_ME_read_4 l g _ T s23 pl hO hU ct r24 pct 16384 960 218 k_ct n_ct kr23 rfl (by omega) (by omega)) (va_cwS 4 hts (wg_app (wg_c kw_1813 (wg_c kw_1814 (wg_c kw_11 wg_n))) kw_1815) rfl rfl rfl (by decide +kernel) ⟨by decide, by decide⟩) (pp_S (en_ok g) hP hD hS hA hEn [] rfl rfl) rfl rfl hl.1 rfl (lv_room (Nat.le_of_ble_eq_true rfl)) dME_open_169 ⟨by omega, by omega⟩) (fun  u24 H locs hu24 hP hD hS => ?_)
      obtain ⟨s24, pl⟩ := u24
      obtain ⟨⟨eq24, hFc24, -⟩, hO⟩ := hu24
      have hO : okn g T s24 pl := hO
      have hP : va_P g.1 vcl ([] ++ pl) _ := hP
      have hD : va_D _ ([] ++ pl) := hD
      have hFc24 : frm (M_ME_read_4 218) s23 s24 := hFc24
      replace hR := bnd_step hR eq24
      replace hE := bndP_step hE eq24
      have hF := frm_tr hF hFc24 (fun k hk => by unfold M_ME_read_4 at hk; unfold M_ME_open_1; omega)
      refine W.widen (k := 0) (n := 0) (by omega) (by omega) ?_
      refine lv_aload_n hx hb dME_open_172 rfl (lv_at hl 3 rfl) ?_
      refine nw_get (C := "LatticeKeysModel$Secrets") (TT := T_ME) (N := 14) hx hb hts (wg_ft i_ME) hown hK hO k_h0 (kn := 184) (ci := 11) (fl := [(3, 172), (3, 178), (3, 185), (3, 202), (3, 207), (3, 212), (3, 217), (3, 218), (3, 219), (3, 220), (3, 221), (3, 222), (3, 223), (3, 224)]) rfl hP rfl 7 (by decide) (hts _ (wg_t kw_1386)) (fun _ h9 => h9) (cd := (3, 218)) rfl dME_open_173 (fun v24 hv24 => ?_)
      obtain ⟨r25, rfl, kr24⟩ := (show ∃ r : Nat, v24 = .ref r ∧ T r = some 218 from hv24)
      refine va_gets hx hb (hEn.2.1 22 _ rfl).1 hS hown (hts _ (wg_t kw_1838)) (fun _ h9 => h9) dME_open_176 ?_
      refine lv_iload_n hx hb dME_open_179 rfl (lv_at hl 4 rfl) ?_
      refine va_ti (v := .int (nI 4)) hx hb (hEn.2.1 22 _ rfl).2 hS (vp_in_nI (by decide) (by decide)) (by decide +kernel) dME_open_180 ?_
      refine mp_v (cx := []) (wr := []) hP hD hS hA [] [] rfl rfl rfl (by decide) (va_runS (As := [.ref r25, .int (nI 4)]) (rest := []) F (N_ME_more_4 l g _ T s24 pl hO hU r25 218 kr24 rfl) (va_cwS 2 hts (wg_app (wg_c kw_1835 (wg_c kw_1836 (wg_c kw_11 wg_n))) kw_1837) rfl rfl rfl (by decide +kernel) ⟨by decide, by decide⟩) (pp_S (en_ok g) hP hD hS hA hEn [] rfl rfl) rfl rfl hl.1 rfl (lv_room (Nat.le_of_ble_eq_true rfl)) dME_open_181 ⟨by omega, by omega⟩) (fun  u25 H locs hu25 hP hD hS => ?_)
      obtain ⟨s25, pl⟩ := u25
      obtain ⟨⟨eq25, hFc25, -⟩, hO⟩ := hu25
      have hO : okn g T s25 pl := hO
      have hP : va_P g.1 vcl ([] ++ pl) _ := hP
      have hD : va_D _ ([] ++ pl) := hD
      have hFc25 : frm (M_ME_more_4 218) s24 s25 := hFc25
      replace hR := bnd_step hR eq25
      replace hE := bndP_step hE eq25
      have hF := frm_tr hF hFc25 (fun k hk => by unfold M_ME_more_4 at hk; unfold M_ME_open_1; omega)
      refine W.widen (k := 0) (n := 0) (by omega) (by omega) ?_
      refine lv_iconst (v := nI 0) hx hb dME_open_184 (by decide) ?_
      refine lv_istore (lv' := [(7, .int (nI 0)), (6, .int (nI 1088)), (5, .int (nI 3)), (0, .ref h0), (1, .int (nI 1)), (2, .ref dk), (3, .ref ct), (4, .ref to)]) hx hb dME_open_185 hl (by decide) rfl (fun ls hl => ?_)
      have lp22 : ∀ (n22 : Nat) (i22 : Nat) (s26 : Sto) (pl : va_W) (ls : Array Slot) (H : Heap) (locs : List Loc), n22 + i22 = 256 → frm (M_ME_open_1 pt) s s26 → E_ME_open_1_L1 pdk pct pt n22 i22 s26 → F_ME_open_1 pdk pct pt s = F_ME_open_1_L1 pdk pct pt n22 i22 s26 → lv_has ls 9 [(7, .int (nI i22)), (6, .int (nI 1088)), (5, .int (nI 3)), (0, .ref h0), (1, .int (nI 1)), (2, .ref dk), (3, .ref ct), (4, .ref to)] → okn g T s26 pl → va_P g.1 vcl ([] ++ pl) H → va_D A ([] ++ pl) → va_S A s0.heap H locs → W p l e ({ frames := 6, cells := 0, slots := 0, locals := 146 } : Room) s0 m args below meth c H locs 0 0 (MQ below (va_Qv (fun (u : (Sto) × va_W) => (u.1 = F_ME_open_1 pdk pct pt s ∧ frm (M_ME_open_1 pt) s u.1 ∧ True) ∧ okn g T u.1 u.2) (po g.1 vcl A (fun (u : (Sto) × va_W) => [] ++ u.2)) A) args s0 0 0 A) (F0 m 187 ls []) := by
        intro n22
        induction n22 with
        | zero =>
          intro i22 s26 pl ls H locs hm22 hF hE hR hl hO hP hD hS
          refine lv_iload hx hb dME_open_187 (lv_at hl 0 rfl) ?_
          refine lv_sipush (v := nI 256) hx hb dME_open_189 (by decide) ?_
          refine mi_ge (tgt := 231) hx hb dME_open_192 (by decide) (by omega) (by omega) (fun h22 => ?_) (fun h22 => absurd h22 (by omega))
          refine lv_aload_n hx hb dME_open_231 rfl (lv_at hl 3 rfl) ?_
          refine nw_get (C := "LatticeKeysModel$Secrets") (TT := T_ME) (N := 14) hx hb hts (wg_ft i_ME) hown hK hO k_h0 (kn := 184) (ci := 11) (fl := [(3, 172), (3, 178), (3, 185), (3, 202), (3, 207), (3, 212), (3, 217), (3, 218), (3, 219), (3, 220), (3, 221), (3, 222), (3, 223), (3, 224)]) rfl hP rfl 7 (by decide) (hts _ (wg_t kw_1386)) (fun _ h9 => h9) (cd := (3, 218)) rfl dME_open_232 (fun v25 hv25 => ?_)
          obtain ⟨r26, rfl, kr25⟩ := (show ∃ r : Nat, v25 = .ref r ∧ T r = some 218 from hv25)
          refine lv_iconst (v := nI 1) hx hb dME_open_235 (by decide) ?_
          refine mp_v (cx := []) (wr := []) hP hD hS hA [] [] rfl rfl rfl (by decide) (va_runS (As := [.ref r26, .int (nI 1)]) (rest := []) F (N_ME_less_1 l g _ T s26 pl hO hU r26 218 kr25 rfl) (va_cwS 2 hts (wg_app (wg_c kw_1832 (wg_c kw_1833 (wg_c kw_11 wg_n))) kw_1834) rfl rfl rfl (by decide +kernel) ⟨by decide, by decide⟩) (pp_S (en_ok g) hP hD hS hA hEn [] rfl rfl) rfl rfl hl.1 rfl (lv_room (Nat.le_of_ble_eq_true rfl)) dME_open_236 ⟨by omega, by omega⟩) (fun  u26 H locs hu26 hP hD hS => ?_)
          obtain ⟨s27, pl⟩ := u26
          obtain ⟨⟨eq26, hFc26, -⟩, hO⟩ := hu26
          have hO : okn g T s27 pl := hO
          have hP : va_P g.1 vcl ([] ++ pl) _ := hP
          have hD : va_D _ ([] ++ pl) := hD
          have hFc26 : frm (M_ME_less_1 218) s26 s27 := hFc26
          replace hR := bnd_step hR eq26
          replace hE := bndP_step hE eq26
          have hF := frm_tr hF hFc26 (fun k hk => by unfold M_ME_less_1 at hk; unfold M_ME_open_1; omega)
          refine W.widen (k := 0) (n := 0) (by omega) (by omega) ?_
          refine lv_aload_n hx hb dME_open_239 rfl (lv_at hl 3 rfl) ?_
          refine nw_get (C := "LatticeKeysModel$Secrets") (TT := T_ME) (N := 14) hx hb hts (wg_ft i_ME) hown hK hO k_h0 (kn := 184) (ci := 11) (fl := [(3, 172), (3, 178), (3, 185), (3, 202), (3, 207), (3, 212), (3, 217), (3, 218), (3, 219), (3, 220), (3, 221), (3, 222), (3, 223), (3, 224)]) rfl hP rfl 7 (by decide) (hts _ (wg_t kw_1386)) (fun _ h9 => h9) (cd := (3, 218)) rfl dME_open_240 (fun v26 hv26 => ?_)
          obtain ⟨r27, rfl, kr26⟩ := (show ∃ r : Nat, v26 = .ref r ∧ T r = some 218 from hv26)
          refine lv_aload_n hx hb dME_open_243 rfl (lv_at hl 3 rfl) ?_
          refine nw_get (C := "LatticeKeysModel$Secrets") (TT := T_ME) (N := 14) hx hb hts (wg_ft i_ME) hown hK hO k_h0 (kn := 184) (ci := 11) (fl := [(3, 172), (3, 178), (3, 185), (3, 202), (3, 207), (3, 212), (3, 217), (3, 218), (3, 219), (3, 220), (3, 221), (3, 222), (3, 223), (3, 224)]) rfl hP rfl 12 (by decide) (hts _ (wg_t kw_1391)) (fun _ h9 => h9) (cd := (3, 223)) rfl dME_open_244 (fun v27 hv27 => ?_)
          obtain ⟨r28, rfl, kr27⟩ := (show ∃ r : Nat, v27 = .ref r ∧ T r = some 223 from hv27)
          refine lv_iconst (v := nI 0) hx hb dME_open_247 (by decide) ?_
          refine lv_iconst (v := nI 1) hx hb dME_open_248 (by decide) ?_
          refine mp_v (cx := []) (wr := []) hP hD hS hA [] [] rfl rfl rfl (by decide) (va_runS (As := [.ref r27, .ref r28, .int (nI 0), .int (nI 1)]) (rest := []) F (N_ME_write_1 l g _ T s27 pl hO hU r27 r28 218 223 32 0 kr26 rfl kr27 rfl (by omega) (by omega)) (va_cwS 4 hts (wg_app (wg_c kw_1685 (wg_c kw_1686 (wg_c kw_11 wg_n))) kw_1687) rfl rfl rfl (by decide +kernel) ⟨by decide, by decide⟩) (pp_S (en_ok g) hP hD hS hA hEn [] rfl rfl) rfl rfl hl.1 rfl (lv_room (Nat.le_of_ble_eq_true rfl)) dME_open_249 ⟨by omega, by omega⟩) (fun  u27 H locs hu27 hP hD hS => ?_)
          obtain ⟨s28, pl⟩ := u27
          obtain ⟨⟨eq27, hFc27, -⟩, hO⟩ := hu27
          have hO : okn g T s28 pl := hO
          have hP : va_P g.1 vcl ([] ++ pl) _ := hP
          have hD : va_D _ ([] ++ pl) := hD
          have hFc27 : frm (M_ME_write_1 223) s27 s28 := hFc27
          replace hR := bnd_step hR eq27
          replace hE := bndP_step hE eq27
          have hF := frm_tr hF hFc27 (fun k hk => by unfold M_ME_write_1 at hk; unfold M_ME_open_1; omega)
          refine W.widen (k := 0) (n := 0) (by omega) (by omega) ?_
          refine lv_iconst (v := nI 0) hx hb dME_open_252 (by decide) ?_
          refine lv_istore (lv' := [(7, .int (nI 0)), (6, .int (nI 1088)), (5, .int (nI 3)), (0, .ref h0), (1, .int (nI 1)), (2, .ref dk), (3, .ref ct), (4, .ref to)]) hx hb dME_open_253 hl (by decide) rfl (fun ls hl => ?_)
          have lp23 : ∀ (n23 : Nat) (i23 : Nat) (s29 : Sto) (pl : va_W) (ls : Array Slot) (H : Heap) (locs : List Loc), n23 + i23 = 32 → frm (M_ME_open_1 pt) s s29 → E_ME_open_1_L2 pdk pct pt n23 i23 s29 → F_ME_open_1 pdk pct pt s = F_ME_open_1_L2 pdk pct pt n23 i23 s29 → lv_has ls 9 [(7, .int (nI i23)), (6, .int (nI 1088)), (5, .int (nI 3)), (0, .ref h0), (1, .int (nI 1)), (2, .ref dk), (3, .ref ct), (4, .ref to)] → okn g T s29 pl → va_P g.1 vcl ([] ++ pl) H → va_D A ([] ++ pl) → va_S A s0.heap H locs → W p l e ({ frames := 6, cells := 0, slots := 0, locals := 146 } : Room) s0 m args below meth c H locs 0 0 (MQ below (va_Qv (fun (u : (Sto) × va_W) => (u.1 = F_ME_open_1 pdk pct pt s ∧ frm (M_ME_open_1 pt) s u.1 ∧ True) ∧ okn g T u.1 u.2) (po g.1 vcl A (fun (u : (Sto) × va_W) => [] ++ u.2)) A) args s0 0 0 A) (F0 m 255 ls []) := by
            intro n23
            induction n23 with
            | zero =>
              intro i23 s29 pl ls H locs hm23 hF hE hR hl hO hP hD hS
              refine lv_iload hx hb dME_open_255 (lv_at hl 0 rfl) ?_
              refine lv_bipush (v := nI 32) hx hb dME_open_257 (by decide) ?_
              refine mi_ge (tgt := 289) hx hb dME_open_259 (by decide) (by omega) (by omega) (fun h23 => ?_) (fun h23 => absurd h23 (by omega))
              refine lv_aload_n hx hb dME_open_289 rfl (lv_at hl 3 rfl) ?_
              refine lv_aload_n hx hb dME_open_290 rfl (lv_at hl 3 rfl) ?_
              refine nw_get (C := "LatticeKeysModel$Secrets") (TT := T_ME) (N := 14) hx hb hts (wg_ft i_ME) hown hK hO k_h0 (kn := 184) (ci := 11) (fl := [(3, 172), (3, 178), (3, 185), (3, 202), (3, 207), (3, 212), (3, 217), (3, 218), (3, 219), (3, 220), (3, 221), (3, 222), (3, 223), (3, 224)]) rfl hP rfl 12 (by decide) (hts _ (wg_t kw_1391)) (fun _ h9 => h9) (cd := (3, 223)) rfl dME_open_291 (fun v28 hv28 => ?_)
              obtain ⟨r29, rfl, kr28⟩ := (show ∃ r : Nat, v28 = .ref r ∧ T r = some 223 from hv28)
              refine mp_v (cx := []) (wr := []) hP hD hS hA [] [] rfl rfl rfl (by decide) (va_runV (As := [.ref r29]) (rest := []) F (N_ME_both l g _ T s29 pl hO hU h0 r29 223 32 k_h0 kr28 rfl (by omega) (by omega)) (cwV 1 hts (wg_app (wg_c kw_1805 (wg_c kw_1807 (wg_c ks_67 (wg_c kw_11 wg_n)))) kw_1808) rfl rfl rfl (by decide +kernel) ⟨by decide, by decide⟩) (pn_W "LatticeKeysModel$Secrets" (en_ok g) (ci := 11) (kn := 184) (fl := [(3, 172), (3, 178), (3, 185), (3, 202), (3, 207), (3, 212), (3, 217), (3, 218), (3, 219), (3, 220), (3, 221), (3, 222), (3, 223), (3, 224)]) hK hO k_h0 rfl hP hD hS hA hEn [] rfl rfl rfl) rfl rfl hl.1 rfl (lv_room (Nat.le_of_ble_eq_true rfl)) dME_open_294 ⟨by omega, by omega⟩) (fun  u28 H locs hu28 hP hD hS => ?_)
              obtain ⟨s30, pl⟩ := u28
              obtain ⟨⟨eq28, hFc28, -⟩, hO⟩ := hu28
              have hO : okn g T s30 pl := hO
              have hP : va_P g.1 vcl ([] ++ pl) _ := hP
              have hD : va_D _ ([] ++ pl) := hD
              have hFc28 : frm (M_ME_both) s29 s30 := hFc28
              replace hR := bnd_step hR eq28
              replace hE := bndP_step hE eq28
              have hF := frm_tr hF hFc28 (fun k hk => by unfold M_ME_both at hk; unfold M_ME_open_1; omega)
              refine W.widen (k := 0) (n := 0) (by omega) (by omega) ?_
              refine lv_aload_n hx hb dME_open_297 rfl (lv_at hl 3 rfl) ?_
              refine lv_iload_n hx hb dME_open_298 rfl (lv_at hl 4 rfl) ?_
              refine lv_aload_n hx hb dME_open_299 rfl (lv_at hl 5 rfl) ?_
              refine lv_sipush (v := nI 384) hx hb dME_open_300 (by decide) ?_
              refine lv_iload hx hb dME_open_303 (lv_at hl 2 rfl) ?_
              refine mi_imul hx hb dME_open_305 ?_
              refine mi_as (show nI (384 * 3) = nI 1152 from rfl) ?_
              refine lv_aload_n hx hb dME_open_306 rfl (lv_at hl 3 rfl) ?_
              refine nw_get (C := "LatticeKeysModel$Secrets") (TT := T_ME) (N := 14) hx hb hts (wg_ft i_ME) hown hK hO k_h0 (kn := 184) (ci := 11) (fl := [(3, 172), (3, 178), (3, 185), (3, 202), (3, 207), (3, 212), (3, 217), (3, 218), (3, 219), (3, 220), (3, 221), (3, 222), (3, 223), (3, 224)]) rfl hP rfl 12 (by decide) (hts _ (wg_t kw_1391)) (fun _ h9 => h9) (cd := (3, 223)) rfl dME_open_307 (fun v29 hv29 => ?_)
              obtain ⟨r30, rfl, kr29⟩ := (show ∃ r : Nat, v29 = .ref r ∧ T r = some 223 from hv29)
              refine lv_aload_n hx hb dME_open_310 rfl (lv_at hl 3 rfl) ?_
              refine nw_get (C := "LatticeKeysModel$Secrets") (TT := T_ME) (N := 14) hx hb hts (wg_ft i_ME) hown hK hO k_h0 (kn := 184) (ci := 11) (fl := [(3, 172), (3, 178), (3, 185), (3, 202), (3, 207), (3, 212), (3, 217), (3, 218), (3, 219), (3, 220), (3, 221), (3, 222), (3, 223), (3, 224)]) rfl hP rfl 13 (by decide) (hts _ (wg_t kw_1392)) (fun _ h9 => h9) (cd := (3, 224)) rfl dME_open_311 (fun v30 hv30 => ?_)
              obtain ⟨r31, rfl, kr30⟩ := (show ∃ r : Nat, v30 = .ref r ∧ T r = some 224 from hv30)
              refine mp_v (cx := []) (wr := []) hP hD hS hA [] [] rfl rfl rfl (by decide) (va_runV (As := [.int (nI 1), .ref dk, .int (nI 1152), .ref r30, .ref r31]) (rest := []) F (N_ME_encrypt_1 l g _ T s30 pl hO hU h0 dk r30 r31 pdk 4896 1152 223 32 224 1568 k_h0 k_dk n_dk kr29 rfl kr30 rfl (by omega) (by omega) (by omega) (by omega) (by omega) (by omega) hE.1) (cwV 5 hts (wg_app (wg_c kw_1809 (wg_c kw_1811 (wg_c ks_68 (wg_c kw_11 wg_n)))) kw_1812) rfl rfl rfl (by decide +kernel) ⟨by decide, by decide⟩) (pn_W "LatticeKeysModel$Secrets" (en_ok g) (ci := 11) (kn := 184) (fl := [(3, 172), (3, 178), (3, 185), (3, 202), (3, 207), (3, 212), (3, 217), (3, 218), (3, 219), (3, 220), (3, 221), (3, 222), (3, 223), (3, 224)]) hK hO k_h0 rfl hP hD hS hA hEn [] rfl rfl rfl) rfl rfl hl.1 rfl (lv_room (Nat.le_of_ble_eq_true rfl)) dME_open_314 ⟨by omega, by omega⟩) (fun  u29 H locs hu29 hP hD hS => ?_)
              obtain ⟨s31, pl⟩ := u29
              obtain ⟨⟨eq29, hFc29, -⟩, hO⟩ := hu29
              have hO : okn g T s31 pl := hO
              have hP : va_P g.1 vcl ([] ++ pl) _ := hP
              have hD : va_D _ ([] ++ pl) := hD
              have hFc29 : frm (M_ME_encrypt_1 224) s30 s31 := hFc29
              replace hE := hE.2
              replace hR := bnd_step hR eq29
              replace hE := bndP_step hE eq29
              have hF := frm_tr hF hFc29 (fun k hk => by unfold M_ME_encrypt_1 at hk; unfold M_ME_open_1; omega)
              refine W.widen (k := 0) (n := 0) (by omega) (by omega) ?_
              refine lv_iconst (v := nI 1) hx hb dME_open_317 (by decide) ?_
              refine lv_istore (lv' := [(7, .int (nI 1)), (6, .int (nI 1088)), (5, .int (nI 3)), (0, .ref h0), (1, .int (nI 1)), (2, .ref dk), (3, .ref ct), (4, .ref to)]) hx hb dME_open_318 hl (by decide) rfl (fun ls hl => ?_)
              refine lv_iconst (v := nI 0) hx hb dME_open_320 (by decide) ?_
              refine lv_istore (lv' := [(8, .int (nI 0)), (7, .int (nI 1)), (6, .int (nI 1088)), (5, .int (nI 3)), (0, .ref h0), (1, .int (nI 1)), (2, .ref dk), (3, .ref ct), (4, .ref to)]) hx hb dME_open_321 hl (by decide) rfl (fun ls hl => ?_)
              have lp24 : ∀ (n24 : Nat) (i24 : Nat) (z22 : Int32) (s32 : Sto) (pl : va_W) (ls : Array Slot) (H : Heap) (locs : List Loc), n24 + i24 = 1088 → frm (M_ME_open_1 pt) s s32 → E_ME_open_1_L3 pdk pct pt n24 i24 z22 s32 → F_ME_open_1 pdk pct pt s = F_ME_open_1_L3 pdk pct pt n24 i24 z22 s32 → lv_has ls 9 [(8, .int (nI i24)), (7, .int z22), (6, .int (nI 1088)), (5, .int (nI 3)), (0, .ref h0), (2, .ref dk), (3, .ref ct), (4, .ref to)] → okn g T s32 pl → va_P g.1 vcl ([] ++ pl) H → va_D A ([] ++ pl) → va_S A s0.heap H locs → W p l e ({ frames := 6, cells := 0, slots := 0, locals := 146 } : Room) s0 m args below meth c H locs 0 0 (MQ below (va_Qv (fun (u : (Sto) × va_W) => (u.1 = F_ME_open_1 pdk pct pt s ∧ frm (M_ME_open_1 pt) s u.1 ∧ True) ∧ okn g T u.1 u.2) (po g.1 vcl A (fun (u : (Sto) × va_W) => [] ++ u.2)) A) args s0 0 0 A) (F0 m 323 ls []) := by
                intro n24
                induction n24 with
                | zero =>
                  intro i24 z22 s32 pl ls H locs hm24 hF hE hR hl hO hP hD hS
                  refine lv_iload hx hb dME_open_323 (lv_at hl 0 rfl) ?_
                  refine lv_iload hx hb dME_open_325 (lv_at hl 2 rfl) ?_
                  refine mi_ge (tgt := 360) hx hb dME_open_327 (by decide) (by omega) (by omega) (fun h24 => ?_) (fun h24 => absurd h24 (by omega))
                  refine lv_iconst (v := nI 0) hx hb dME_open_360 (by decide) ?_
                  refine lv_istore (lv' := [(8, .int (nI 0)), (7, .int z22), (6, .int (nI 1088)), (5, .int (nI 3)), (0, .ref h0), (2, .ref dk), (3, .ref ct), (4, .ref to)]) hx hb dME_open_361 hl (by decide) rfl (fun ls hl => ?_)
                  have lp25 : ∀ (n25 : Nat) (i25 : Nat) (s33 : Sto) (pl : va_W) (ls : Array Slot) (H : Heap) (locs : List Loc), n25 + i25 = 32 → frm (M_ME_open_1 pt) s s33 → E_ME_open_1_L4 pdk pct pt z22 n25 i25 s33 → F_ME_open_1 pdk pct pt s = F_ME_open_1_L4 pdk pct pt z22 n25 i25 s33 → lv_has ls 9 [(8, .int (nI i25)), (7, .int z22), (6, .int (nI 1088)), (5, .int (nI 3)), (0, .ref h0), (2, .ref dk), (3, .ref ct), (4, .ref to)] → okn g T s33 pl → va_P g.1 vcl ([] ++ pl) H → va_D A ([] ++ pl) → va_S A s0.heap H locs → W p l e ({ frames := 6, cells := 0, slots := 0, locals := 146 } : Room) s0 m args below meth c H locs 0 0 (MQ below (va_Qv (fun (u : (Sto) × va_W) => (u.1 = F_ME_open_1 pdk pct pt s ∧ frm (M_ME_open_1 pt) s u.1 ∧ True) ∧ okn g T u.1 u.2) (po g.1 vcl A (fun (u : (Sto) × va_W) => [] ++ u.2)) A) args s0 0 0 A) (F0 m 363 ls []) := by
                    intro n25
                    induction n25 with
                    | zero =>
                      intro i25 s33 pl ls H locs hm25 hF hE hR hl hO hP hD hS
                      refine lv_iload hx hb dME_open_363 (lv_at hl 0 rfl) ?_
                      refine lv_bipush (v := nI 32) hx hb dME_open_365 (by decide) ?_
                      refine mi_ge (tgt := 388) hx hb dME_open_367 (by decide) (by omega) (by omega) (fun h25 => ?_) (fun h25 => absurd h25 (by omega))
                      refine lv_iload hx hb dME_open_388 (lv_at hl 1 rfl) ?_
                      refine lv_if_eq (tgt := 394) hx hb dME_open_390 (by decide) (fun h26 => ?_) (fun h26 => ?_)
                      · replace hR := hR.trans (if_pos h26)
                        replace hE := iteP_pos h26 hE
                        refine lv_aload_n hx hb dME_open_394 rfl (lv_at hl 4 rfl) ?_
                        refine nw_get (C := "LatticeKeysModel$Secrets") (TT := T_ME) (N := 14) hx hb hts (wg_ft i_ME) hown hK hO k_h0 (kn := 184) (ci := 11) (fl := [(3, 172), (3, 178), (3, 185), (3, 202), (3, 207), (3, 212), (3, 217), (3, 218), (3, 219), (3, 220), (3, 221), (3, 222), (3, 223), (3, 224)]) rfl hP rfl 0 (by decide) (hts _ (wg_t kw_1379)) (fun _ h9 => h9) (cd := (3, 172)) rfl dME_open_395 (fun v31 hv31 => ?_)
                        obtain ⟨r32, rfl, kr31⟩ := (show ∃ r : Nat, v31 = .ref r ∧ T r = some 172 from hv31)
                        refine mp_v (cx := []) (wr := []) hP hD hS hA [] [] rfl rfl rfl (by decide) (va_runV (As := []) (rest := []) F (N_MS_shake l g _ T s33 pl hO hU r32 kr31) (cwV 0 hts (wg_app (wg_c kw_1660 (wg_c kw_1661 (wg_c kw_1662 (wg_c kw_10 wg_n)))) kw_1663) rfl rfl rfl (by decide +kernel) ⟨by decide, by decide⟩) (pn_W "LatticeKeysModel$Sponge" (en_ok g) (ci := 9) (kn := 172) (fl := [(3, 173), (3, 174), (3, 175), (3, 176), (3, 177), (0, 0), (0, 0), (0, 0)]) hK hO kr31 rfl hP hD hS hA hEn [] rfl rfl rfl) rfl rfl hl.1 rfl (lv_room (Nat.le_of_ble_eq_true rfl)) dME_open_398 ⟨by omega, by omega⟩) (fun  u30 H locs hu30 hP hD hS => ?_)
                        obtain ⟨s34, pl⟩ := u30
                        obtain ⟨⟨eq30, hFc30, ⟨x30, hx_30, hb_30⟩, ⟨x31, hx_31, hb_31⟩, -⟩, hO⟩ := hu30
                        have hO : okn g T s34 pl := hO
                        have hP : va_P g.1 vcl ([] ++ pl) _ := hP
                        have hD : va_D _ ([] ++ pl) := hD
                        have hFc30 : frm (M_MS_shake) s33 s34 := hFc30
                        have hb_30 : x30 = 0 := hb_30
                        have hb_31 : x31 = 136 := hb_31
                        replace hR := bnd_step hR eq30
                        replace hE := bndP_step hE eq30
                        have hF := frm_tr hF hFc30 (fun k hk => by unfold M_MS_shake at hk; unfold M_ME_open_1; omega)
                        refine W.widen (k := 0) (n := 0) (by omega) (by omega) ?_
                        refine lv_aload_n hx hb dME_open_401 rfl (lv_at hl 4 rfl) ?_
                        refine nw_get (C := "LatticeKeysModel$Secrets") (TT := T_ME) (N := 14) hx hb hts (wg_ft i_ME) hown hK hO k_h0 (kn := 184) (ci := 11) (fl := [(3, 172), (3, 178), (3, 185), (3, 202), (3, 207), (3, 212), (3, 217), (3, 218), (3, 219), (3, 220), (3, 221), (3, 222), (3, 223), (3, 224)]) rfl hP rfl 0 (by decide) (hts _ (wg_t kw_1379)) (fun _ h9 => h9) (cd := (3, 172)) rfl dME_open_402 (fun v32 hv32 => ?_)
                        obtain ⟨r33, rfl, kr32⟩ := (show ∃ r : Nat, v32 = .ref r ∧ T r = some 172 from hv32)
                        refine lv_aload_n hx hb dME_open_405 rfl (lv_at hl 5 rfl) ?_
                        refine lv_sipush (v := nI 768) hx hb dME_open_406 (by decide) ?_
                        refine lv_iload hx hb dME_open_409 (lv_at hl 3 rfl) ?_
                        refine mi_imul hx hb dME_open_411 ?_
                        refine mi_as (show nI (768 * 3) = nI 2304 from rfl) ?_
                        refine lv_bipush (v := nI 64) hx hb dME_open_412 (by decide) ?_
                        refine mi_iadd hx hb dME_open_414 ?_
                        refine mi_as (show nI (2304 + 64) = nI 2368 from rfl) ?_
                        refine lv_bipush (v := nI 32) hx hb dME_open_415 (by decide) ?_
                        refine mp_v (cx := []) (wr := []) hP hD hS hA [] [] rfl rfl rfl (by decide) (va_runV (As := [.ref dk, .int (nI 2368), .int (nI 32)]) (rest := []) F (N_MS_puts l g _ T s34 pl hO hU r33 dk pdk 4896 2368 32 x30 x31 kr32 k_dk n_dk hx_30 hx_31 (by omega) (by omega) (by omega) (by omega)) (cwV 3 hts (wg_app (wg_c kw_1611 (wg_c kw_1612 (wg_c kw_1613 (wg_c kw_10 wg_n)))) kw_1614) rfl rfl rfl (by decide +kernel) ⟨by decide, by decide⟩) (pn_W "LatticeKeysModel$Sponge" (en_ok g) (ci := 9) (kn := 172) (fl := [(3, 173), (3, 174), (3, 175), (3, 176), (3, 177), (0, 0), (0, 0), (0, 0)]) hK hO kr32 rfl hP hD hS hA hEn [] rfl rfl rfl) rfl rfl hl.1 rfl (lv_room (Nat.le_of_ble_eq_true rfl)) dME_open_417 ⟨by omega, by omega⟩) (fun  u31 H locs hu31 hP hD hS => ?_)
                        obtain ⟨s35, pl⟩ := u31
                        obtain ⟨⟨eq31, hFc31, ⟨x33, hx_33, hb_33⟩, ⟨x34, hx_34, hb_34⟩, -⟩, hO⟩ := hu31
                        have hO : okn g T s35 pl := hO
                        have hP : va_P g.1 vcl ([] ++ pl) _ := hP
                        have hD : va_D _ ([] ++ pl) := hD
                        have hFc31 : frm (M_MS_puts) s34 s35 := hFc31
                        have hb_33 : x33 < x31 := hb_33
                        have hb_34 : x34 = x31 := hb_34
                        replace hR := bnd_step hR eq31
                        replace hE := bndP_step hE eq31
                        have hF := frm_tr hF hFc31 (fun k hk => by unfold M_MS_puts at hk; unfold M_ME_open_1; omega)
                        refine W.widen (k := 0) (n := 0) (by omega) (by omega) ?_
                        refine lv_aload_n hx hb dME_open_420 rfl (lv_at hl 4 rfl) ?_
                        refine nw_get (C := "LatticeKeysModel$Secrets") (TT := T_ME) (N := 14) hx hb hts (wg_ft i_ME) hown hK hO k_h0 (kn := 184) (ci := 11) (fl := [(3, 172), (3, 178), (3, 185), (3, 202), (3, 207), (3, 212), (3, 217), (3, 218), (3, 219), (3, 220), (3, 221), (3, 222), (3, 223), (3, 224)]) rfl hP rfl 0 (by decide) (hts _ (wg_t kw_1379)) (fun _ h9 => h9) (cd := (3, 172)) rfl dME_open_421 (fun v33 hv33 => ?_)
                        obtain ⟨r34, rfl, kr33⟩ := (show ∃ r : Nat, v33 = .ref r ∧ T r = some 172 from hv33)
                        refine lv_aload_n hx hb dME_open_424 rfl (lv_at hl 6 rfl) ?_
                        refine lv_iconst (v := nI 0) hx hb dME_open_425 (by decide) ?_
                        refine lv_iload hx hb dME_open_426 (lv_at hl 2 rfl) ?_
                        refine mp_v (cx := []) (wr := []) hP hD hS hA [] [] rfl rfl rfl (by decide) (va_runV (As := [.ref ct, .int (nI 0), .int (nI 1088)]) (rest := []) F (N_MS_puts l g _ T s35 pl hO hU r34 ct pct 16384 0 1088 x33 x34 kr33 k_ct n_ct hx_33 hx_34 (by omega) (by omega) (by omega) (by omega)) (cwV 3 hts (wg_app (wg_c kw_1611 (wg_c kw_1612 (wg_c kw_1613 (wg_c kw_10 wg_n)))) kw_1614) rfl rfl rfl (by decide +kernel) ⟨by decide, by decide⟩) (pn_W "LatticeKeysModel$Sponge" (en_ok g) (ci := 9) (kn := 172) (fl := [(3, 173), (3, 174), (3, 175), (3, 176), (3, 177), (0, 0), (0, 0), (0, 0)]) hK hO kr33 rfl hP hD hS hA hEn [] rfl rfl rfl) rfl rfl hl.1 rfl (lv_room (Nat.le_of_ble_eq_true rfl)) dME_open_428 ⟨by omega, by omega⟩) (fun  u32 H locs hu32 hP hD hS => ?_)
                        obtain ⟨s36, pl⟩ := u32
                        obtain ⟨⟨eq32, hFc32, ⟨x36, hx_36, hb_36⟩, ⟨x37, hx_37, hb_37⟩, -⟩, hO⟩ := hu32
                        have hO : okn g T s36 pl := hO
                        have hP : va_P g.1 vcl ([] ++ pl) _ := hP
                        have hD : va_D _ ([] ++ pl) := hD
                        have hFc32 : frm (M_MS_puts) s35 s36 := hFc32
                        have hb_36 : x36 < x34 := hb_36
                        have hb_37 : x37 = x34 := hb_37
                        replace hR := bnd_step hR eq32
                        replace hE := bndP_step hE eq32
                        have hF := frm_tr hF hFc32 (fun k hk => by unfold M_MS_puts at hk; unfold M_ME_open_1; omega)
                        refine W.widen (k := 0) (n := 0) (by omega) (by omega) ?_
                        refine lv_aload_n hx hb dME_open_431 rfl (lv_at hl 4 rfl) ?_
                        refine nw_get (C := "LatticeKeysModel$Secrets") (TT := T_ME) (N := 14) hx hb hts (wg_ft i_ME) hown hK hO k_h0 (kn := 184) (ci := 11) (fl := [(3, 172), (3, 178), (3, 185), (3, 202), (3, 207), (3, 212), (3, 217), (3, 218), (3, 219), (3, 220), (3, 221), (3, 222), (3, 223), (3, 224)]) rfl hP rfl 0 (by decide) (hts _ (wg_t kw_1379)) (fun _ h9 => h9) (cd := (3, 172)) rfl dME_open_432 (fun v34 hv34 => ?_)
                        obtain ⟨r35, rfl, kr34⟩ := (show ∃ r : Nat, v34 = .ref r ∧ T r = some 172 from hv34)
                        refine mp_v (cx := []) (wr := []) hP hD hS hA [] [] rfl rfl rfl (by decide) (va_runV (As := []) (rest := []) F (N_MS_end l g _ T s36 pl hO hU r35 x36 x37 kr34 hx_36 hx_37 (by omega) (by omega)) (cwV 0 hts (wg_app (wg_c kw_1633 (wg_c kw_1634 (wg_c kw_1635 (wg_c kw_10 wg_n)))) kw_1636) rfl rfl rfl (by decide +kernel) ⟨by decide, by decide⟩) (pn_W "LatticeKeysModel$Sponge" (en_ok g) (ci := 9) (kn := 172) (fl := [(3, 173), (3, 174), (3, 175), (3, 176), (3, 177), (0, 0), (0, 0), (0, 0)]) hK hO kr34 rfl hP hD hS hA hEn [] rfl rfl rfl) rfl rfl hl.1 rfl (lv_room (Nat.le_of_ble_eq_true rfl)) dME_open_435 ⟨by omega, by omega⟩) (fun  u33 H locs hu33 hP hD hS => ?_)
                        obtain ⟨s37, pl⟩ := u33
                        obtain ⟨⟨eq33, hFc33, ⟨x39, hx_39, hb_39⟩, ⟨x40, hx_40, hb_40⟩, -⟩, hO⟩ := hu33
                        have hO : okn g T s37 pl := hO
                        have hP : va_P g.1 vcl ([] ++ pl) _ := hP
                        have hD : va_D _ ([] ++ pl) := hD
                        have hFc33 : frm (M_MS_end) s36 s37 := hFc33
                        have hb_39 : x39 = 0 := hb_39
                        have hb_40 : x40 = x37 := hb_40
                        replace hR := bnd_step hR eq33
                        replace hE := bndP_step hE eq33
                        have hF := frm_tr hF hFc33 (fun k hk => by unfold M_MS_end at hk; unfold M_ME_open_1; omega)
                        refine W.widen (k := 0) (n := 0) (by omega) (by omega) ?_
                        refine lv_aload_n hx hb dME_open_438 rfl (lv_at hl 4 rfl) ?_
                        refine nw_get (C := "LatticeKeysModel$Secrets") (TT := T_ME) (N := 14) hx hb hts (wg_ft i_ME) hown hK hO k_h0 (kn := 184) (ci := 11) (fl := [(3, 172), (3, 178), (3, 185), (3, 202), (3, 207), (3, 212), (3, 217), (3, 218), (3, 219), (3, 220), (3, 221), (3, 222), (3, 223), (3, 224)]) rfl hP rfl 0 (by decide) (hts _ (wg_t kw_1379)) (fun _ h9 => h9) (cd := (3, 172)) rfl dME_open_439 (fun v35 hv35 => ?_)
                        obtain ⟨r36, rfl, kr35⟩ := (show ∃ r : Nat, v35 = .ref r ∧ T r = some 172 from hv35)
                        refine lv_aload hx hb dME_open_442 (lv_at hl 7 rfl) ?_
                        refine lv_iconst (v := nI 0) hx hb dME_open_444 (by decide) ?_
                        refine lv_bipush (v := nI 32) hx hb dME_open_445 (by decide) ?_
                        refine mp_v (cx := []) (wr := []) hP hD hS hA [] [] rfl rfl rfl (by decide) (va_runV (As := [.ref to, .int (nI 0), .int (nI 32)]) (rest := []) F (N_MS_take l g _ T s37 pl hO hU r36 to pt 8192 0 32 x39 x40 kr35 k_to n_to hx_39 hx_40 (by omega) (by omega) (by omega) (by omega)) (cwV 3 hts (wg_app (wg_c kw_1637 (wg_c kw_1638 (wg_c kw_1639 (wg_c kw_10 wg_n)))) kw_1640) rfl rfl rfl (by decide +kernel) ⟨by decide, by decide⟩) (pn_W "LatticeKeysModel$Sponge" (en_ok g) (ci := 9) (kn := 172) (fl := [(3, 173), (3, 174), (3, 175), (3, 176), (3, 177), (0, 0), (0, 0), (0, 0)]) hK hO kr35 rfl hP hD hS hA hEn [] rfl rfl rfl) rfl rfl hl.1 rfl (lv_room (Nat.le_of_ble_eq_true rfl)) dME_open_447 ⟨by omega, by omega⟩) (fun  u34 H locs hu34 hP hD hS => ?_)
                        obtain ⟨s38, pl⟩ := u34
                        obtain ⟨⟨eq34, hFc34, ⟨x42, hx_42, hb_42⟩, ⟨x43, hx_43, hb_43⟩, -⟩, hO⟩ := hu34
                        have hO : okn g T s38 pl := hO
                        have hP : va_P g.1 vcl ([] ++ pl) _ := hP
                        have hD : va_D _ ([] ++ pl) := hD
                        have hFc34 : frm (M_MS_take pt) s37 s38 := hFc34
                        have hb_42 : x42 ≤ x40 := hb_42
                        have hb_43 : x43 = x40 := hb_43
                        replace hR := bnd_step hR eq34
                        replace hE := bndP_step hE eq34
                        have hF := frm_tr hF hFc34 (fun k hk => by unfold M_MS_take at hk; unfold M_ME_open_1; omega)
                        refine W.widen (k := 0) (n := 0) (by omega) (by omega) ?_
                        exact mp_vret hx hb hr hlk hP hD hS (s38, pl) ⟨⟨hR.symm, hF, trivial⟩, hO⟩ [] rfl rfl rfl (by omega) (by omega) dME_open_450
                      · replace hR := hR.trans (if_neg h26)
                        replace hE := iteP_neg h26 hE
                        exact mp_vret hx hb hr hlk hP hD hS (s33, pl) ⟨⟨hR.symm, hF, trivial⟩, hO⟩ [] rfl rfl rfl (by omega) (by omega) dME_open_393
                    | succ n25 ih25 =>
                      intro i25 s33 pl ls H locs hm25 hF hE hR hl hO hP hD hS
                      refine lv_iload hx hb dME_open_363 (lv_at hl 0 rfl) ?_
                      refine lv_bipush (v := nI 32) hx hb dME_open_365 (by decide) ?_
                      refine mi_ge (tgt := 388) hx hb dME_open_367 (by decide) (by omega) (by omega) (fun h27 => absurd h27 (by omega)) (fun h27 => ?_)
                      refine lv_aload hx hb dME_open_370 (lv_at hl 7 rfl) ?_
                      refine lv_iload hx hb dME_open_372 (lv_at hl 0 rfl) ?_
                      refine lv_aload_n hx hb dME_open_374 rfl (lv_at hl 4 rfl) ?_
                      refine nw_get (C := "LatticeKeysModel$Secrets") (TT := T_ME) (N := 14) hx hb hts (wg_ft i_ME) hown hK hO k_h0 (kn := 184) (ci := 11) (fl := [(3, 172), (3, 178), (3, 185), (3, 202), (3, 207), (3, 212), (3, 217), (3, 218), (3, 219), (3, 220), (3, 221), (3, 222), (3, 223), (3, 224)]) rfl hP rfl 9 (by decide) (hts _ (wg_t kw_1388)) (fun _ h9 => h9) (cd := (3, 220)) rfl dME_open_375 (fun v36 hv36 => ?_)
                      obtain ⟨r37, rfl, kr36⟩ := (show ∃ r : Nat, v36 = .ref r ∧ T r = some 220 from hv36)
                      refine lv_iload hx hb dME_open_378 (lv_at hl 0 rfl) ?_
                      refine nw_bald hx hb hK hO kr36 (k := 220) rfl hP (by omega) (by omega) dME_open_380 ?_
                      refine nw_bast hx hb hK hO hU k_to (k := pt) n_to hP hD hS (by omega) (by omega) dME_open_381 (fun s39 pl H locs es21 hO hP hD hS => ?_)
                      replace hR := bnd_step hR es21
                      replace hE := bndP_step hE es21
                      have hF := frm_sB hF es21 (by unfold M_ME_open_1; omega)
                      refine mi_iinc (k := 0) (x := i25) (d := 1) (y := i25 + 1) (lv' := [(8, .int (nI (i25 + 1))), (7, .int z22), (6, .int (nI 1088)), (5, .int (nI 3)), (0, .ref h0), (2, .ref dk), (3, .ref ct), (4, .ref to)]) hx hb dME_open_382 hl rfl (by decide) rfl (by decide) rfl (fun ls hl => ?_)
                      refine lv_goto (tgt := 363) hx hb dME_open_385 (by decide) ?_
                      exact ih25 (i25 + 1) s39 pl ls H locs (by omega) hF hE hR (lv_sub hl [0, 1, 2, 3, 4, 5, 6, 7] rfl) hO hP hD hS
                  exact lp25 32 0 s32 pl ls _ _ (by omega) hF hE hR (lv_sub hl [0, 1, 2, 3, 4, 5, 6, 7] rfl) hO hP hD hS
                | succ n24 ih24 =>
                  intro i24 z22 s32 pl ls H locs hm24 hF hE hR hl hO hP hD hS
                  refine lv_iload hx hb dME_open_323 (lv_at hl 0 rfl) ?_
                  refine lv_iload hx hb dME_open_325 (lv_at hl 2 rfl) ?_
                  refine mi_ge (tgt := 360) hx hb dME_open_327 (by decide) (by omega) (by omega) (fun h28 => absurd h28 (by omega)) (fun h28 => ?_)
                  refine lv_iload hx hb dME_open_330 (lv_at hl 1 rfl) ?_
                  refine lv_aload_n hx hb dME_open_332 rfl (lv_at hl 4 rfl) ?_
                  refine nw_get (C := "LatticeKeysModel$Secrets") (TT := T_ME) (N := 14) hx hb hts (wg_ft i_ME) hown hK hO k_h0 (kn := 184) (ci := 11) (fl := [(3, 172), (3, 178), (3, 185), (3, 202), (3, 207), (3, 212), (3, 217), (3, 218), (3, 219), (3, 220), (3, 221), (3, 222), (3, 223), (3, 224)]) rfl hP rfl 13 (by decide) (hts _ (wg_t kw_1392)) (fun _ h9 => h9) (cd := (3, 224)) rfl dME_open_333 (fun v37 hv37 => ?_)
                  obtain ⟨r38, rfl, kr37⟩ := (show ∃ r : Nat, v37 = .ref r ∧ T r = some 224 from hv37)
                  refine lv_iload hx hb dME_open_336 (lv_at hl 0 rfl) ?_
                  refine nw_bald hx hb hK hO kr37 (k := 224) rfl hP (by omega) (by omega) dME_open_338 ?_
                  refine lv_aload_n hx hb dME_open_339 rfl (lv_at hl 6 rfl) ?_
                  refine lv_iload hx hb dME_open_340 (lv_at hl 0 rfl) ?_
                  refine nw_bald hx hb hK hO k_ct (k := pct) n_ct hP (by omega) (by omega) dME_open_342 ?_
                  refine lv_icmp_ne (tgt := 350) hx hb dME_open_343 (by decide) (fun h29 => ?_) (fun h29 => ?_)
                  · replace hR := hR.trans (if_neg h29)
                    replace hE := iteP_neg h29 hE
                    refine lv_iconst (v := nI 0) hx hb dME_open_350 (by decide) ?_
                    refine lv_iand hx hb dME_open_351 ?_
                    refine mi_eqv (fun z23 ez22 => ?_)
                    replace hR := bnd_step hR ez22
                    replace hE := bndP_step hE ez22
                    refine lv_istore (lv' := [(7, .int z23), (8, .int (nI i24)), (6, .int (nI 1088)), (5, .int (nI 3)), (0, .ref h0), (2, .ref dk), (3, .ref ct), (4, .ref to)]) hx hb dME_open_352 hl (by decide) rfl (fun ls hl => ?_)
                    refine mi_iinc (k := 1) (x := i24) (d := 1) (y := i24 + 1) (lv' := [(8, .int (nI (i24 + 1))), (7, .int z23), (6, .int (nI 1088)), (5, .int (nI 3)), (0, .ref h0), (2, .ref dk), (3, .ref ct), (4, .ref to)]) hx hb dME_open_354 hl rfl (by decide) rfl (by decide) rfl (fun ls hl => ?_)
                    refine lv_goto (tgt := 323) hx hb dME_open_357 (by decide) ?_
                    exact ih24 (i24 + 1) z23 s32 pl ls H locs (by omega) hF hE hR (lv_sub hl [0, 1, 2, 3, 4, 5, 6, 7] rfl) hO hP hD hS
                  · replace hR := hR.trans (if_pos h29)
                    replace hE := iteP_pos h29 hE
                    refine lv_iconst (v := nI 1) hx hb dME_open_346 (by decide) ?_
                    refine lv_goto (tgt := 351) hx hb dME_open_347 (by decide) ?_
                    refine lv_iand hx hb dME_open_351 ?_
                    refine mi_eqv (fun z24 ez23 => ?_)
                    replace hR := bnd_step hR ez23
                    replace hE := bndP_step hE ez23
                    refine lv_istore (lv' := [(7, .int z24), (8, .int (nI i24)), (6, .int (nI 1088)), (5, .int (nI 3)), (0, .ref h0), (2, .ref dk), (3, .ref ct), (4, .ref to)]) hx hb dME_open_352 hl (by decide) rfl (fun ls hl => ?_)
                    refine mi_iinc (k := 1) (x := i24) (d := 1) (y := i24 + 1) (lv' := [(8, .int (nI (i24 + 1))), (7, .int z24), (6, .int (nI 1088)), (5, .int (nI 3)), (0, .ref h0), (2, .ref dk), (3, .ref ct), (4, .ref to)]) hx hb dME_open_354 hl rfl (by decide) rfl (by decide) rfl (fun ls hl => ?_)
                    refine lv_goto (tgt := 323) hx hb dME_open_357 (by decide) ?_
                    exact ih24 (i24 + 1) z24 s32 pl ls H locs (by omega) hF hE hR (lv_sub hl [0, 1, 2, 3, 4, 5, 6, 7] rfl) hO hP hD hS
              exact lp24 1088 0 (nI 1) s31 pl ls _ _ (by omega) hF hE hR (lv_sub hl [0, 1, 2, 3, 4, 6, 7, 8] rfl) hO hP hD hS
            | succ n23 ih23 =>
              intro i23 s29 pl ls H locs hm23 hF hE hR hl hO hP hD hS
              refine lv_iload hx hb dME_open_255 (lv_at hl 0 rfl) ?_
              refine lv_bipush (v := nI 32) hx hb dME_open_257 (by decide) ?_
              refine mi_ge (tgt := 289) hx hb dME_open_259 (by decide) (by omega) (by omega) (fun h30 => absurd h30 (by omega)) (fun h30 => ?_)
              refine lv_aload_n hx hb dME_open_262 rfl (lv_at hl 3 rfl) ?_
              refine nw_get (C := "LatticeKeysModel$Secrets") (TT := T_ME) (N := 14) hx hb hts (wg_ft i_ME) hown hK hO k_h0 (kn := 184) (ci := 11) (fl := [(3, 172), (3, 178), (3, 185), (3, 202), (3, 207), (3, 212), (3, 217), (3, 218), (3, 219), (3, 220), (3, 221), (3, 222), (3, 223), (3, 224)]) rfl hP rfl 11 (by decide) (hts _ (wg_t kw_1390)) (fun _ h9 => h9) (cd := (3, 222)) rfl dME_open_263 (fun v38 hv38 => ?_)
              obtain ⟨r39, rfl, kr38⟩ := (show ∃ r : Nat, v38 = .ref r ∧ T r = some 222 from hv38)
              refine lv_iload hx hb dME_open_266 (lv_at hl 0 rfl) ?_
              refine lv_aload_n hx hb dME_open_268 rfl (lv_at hl 5 rfl) ?_
              refine lv_sipush (v := nI 768) hx hb dME_open_269 (by decide) ?_
              refine lv_iload hx hb dME_open_272 (lv_at hl 2 rfl) ?_
              refine mi_imul hx hb dME_open_274 ?_
              refine mi_as (show nI (768 * 3) = nI 2304 from rfl) ?_
              refine lv_bipush (v := nI 32) hx hb dME_open_275 (by decide) ?_
              refine mi_iadd hx hb dME_open_277 ?_
              refine mi_as (show nI (2304 + 32) = nI 2336 from rfl) ?_
              refine lv_iload hx hb dME_open_278 (lv_at hl 0 rfl) ?_
              refine mi_iadd hx hb dME_open_280 ?_
              refine nw_bald hx hb hK hO k_dk (k := pdk) n_dk hP (by omega) (by omega) dME_open_281 ?_
              refine nw_bast hx hb hK hO hU kr38 (k := 222) rfl hP hD hS (by omega) (by omega) dME_open_282 (fun s40 pl H locs es22 hO hP hD hS => ?_)
              replace hR := bnd_step hR es22
              replace hE := bndP_step hE es22
              have hF := frm_sB hF es22 (by unfold M_ME_open_1; omega)
              refine mi_iinc (k := 0) (x := i23) (d := 1) (y := i23 + 1) (lv' := [(7, .int (nI (i23 + 1))), (6, .int (nI 1088)), (5, .int (nI 3)), (0, .ref h0), (1, .int (nI 1)), (2, .ref dk), (3, .ref ct), (4, .ref to)]) hx hb dME_open_283 hl rfl (by decide) rfl (by decide) rfl (fun ls hl => ?_)
              refine lv_goto (tgt := 255) hx hb dME_open_286 (by decide) ?_
              exact ih23 (i23 + 1) s40 pl ls H locs (by omega) hF hE hR (lv_sub hl [0, 1, 2, 3, 4, 5, 6, 7] rfl) hO hP hD hS
          exact lp23 32 0 s28 pl ls _ _ (by omega) hF hE hR (lv_sub hl [0, 1, 2, 3, 4, 5, 6, 7] rfl) hO hP hD hS
        | succ n22 ih22 =>
          intro i22 s26 pl ls H locs hm22 hF hE hR hl hO hP hD hS
          refine lv_iload hx hb dME_open_187 (lv_at hl 0 rfl) ?_
          refine lv_sipush (v := nI 256) hx hb dME_open_189 (by decide) ?_
          refine mi_ge (tgt := 231) hx hb dME_open_192 (by decide) (by omega) (by omega) (fun h31 => absurd h31 (by omega)) (fun h31 => ?_)
          refine lv_aload_n hx hb dME_open_195 rfl (lv_at hl 3 rfl) ?_
          refine nw_get (C := "LatticeKeysModel$Secrets") (TT := T_ME) (N := 14) hx hb hts (wg_ft i_ME) hown hK hO k_h0 (kn := 184) (ci := 11) (fl := [(3, 172), (3, 178), (3, 185), (3, 202), (3, 207), (3, 212), (3, 217), (3, 218), (3, 219), (3, 220), (3, 221), (3, 222), (3, 223), (3, 224)]) rfl hP rfl 7 (by decide) (hts _ (wg_t kw_1386)) (fun _ h9 => h9) (cd := (3, 218)) rfl dME_open_196 (fun v39 hv39 => ?_)
          obtain ⟨r40, rfl, kr39⟩ := (show ∃ r : Nat, v39 = .ref r ∧ T r = some 218 from hv39)
          refine lv_iload hx hb dME_open_199 (lv_at hl 0 rfl) ?_
          refine lv_aload_n hx hb dME_open_201 rfl (lv_at hl 3 rfl) ?_
          refine nw_get (C := "LatticeKeysModel$Secrets") (TT := T_ME) (N := 14) hx hb hts (wg_ft i_ME) hown hK hO k_h0 (kn := 184) (ci := 11) (fl := [(3, 172), (3, 178), (3, 185), (3, 202), (3, 207), (3, 212), (3, 217), (3, 218), (3, 219), (3, 220), (3, 221), (3, 222), (3, 223), (3, 224)]) rfl hP rfl 7 (by decide) (hts _ (wg_t kw_1386)) (fun _ h9 => h9) (cd := (3, 218)) rfl dME_open_202 (fun v40 hv40 => ?_)
          obtain ⟨r41, rfl, kr40⟩ := (show ∃ r : Nat, v40 = .ref r ∧ T r = some 218 from hv40)
          refine lv_iload hx hb dME_open_205 (lv_at hl 0 rfl) ?_
          refine nw_iald hx hb hK hO kr40 (k := 218) rfl hP (by omega) (by omega) dME_open_207 ?_
          refine lv_aload_n hx hb dME_open_208 rfl (lv_at hl 3 rfl) ?_
          refine nw_get (C := "LatticeKeysModel$Secrets") (TT := T_ME) (N := 14) hx hb hts (wg_ft i_ME) hown hK hO k_h0 (kn := 184) (ci := 11) (fl := [(3, 172), (3, 178), (3, 185), (3, 202), (3, 207), (3, 212), (3, 217), (3, 218), (3, 219), (3, 220), (3, 221), (3, 222), (3, 223), (3, 224)]) rfl hP rfl 6 (by decide) (hts _ (wg_t kw_1385)) (fun _ h9 => h9) (cd := (3, 217)) rfl dME_open_209 (fun v41 hv41 => ?_)
          obtain ⟨r42, rfl, kr41⟩ := (show ∃ r : Nat, v41 = .ref r ∧ T r = some 217 from hv41)
          refine lv_iload hx hb dME_open_212 (lv_at hl 0 rfl) ?_
          refine nw_iald hx hb hK hO kr41 (k := 217) rfl hP (by omega) (by omega) dME_open_214 ?_
          refine lv_isub hx hb dME_open_215 ?_
          refine lv_sipush (v := nI 3329) hx hb dME_open_216 (by decide) ?_
          refine lv_iadd hx hb dME_open_219 ?_
          refine lv_sipush (v := nI 3329) hx hb dME_open_220 (by decide) ?_
          refine lv_irem hx hb dME_open_223 (nI_ne0 (by omega) (by omega)) ?_
          refine nw_iast hx hb hK hO hU kr39 (k := 218) rfl hP hD hS (by omega) (by omega) dME_open_224 (fun s41 pl H locs es23 hO hP hD hS => ?_)
          replace hR := bnd_step hR es23
          replace hE := bndP_step hE es23
          have hF := frm_sI hF es23 (by unfold M_ME_open_1; omega)
          refine mi_iinc (k := 0) (x := i22) (d := 1) (y := i22 + 1) (lv' := [(7, .int (nI (i22 + 1))), (6, .int (nI 1088)), (5, .int (nI 3)), (0, .ref h0), (1, .int (nI 1)), (2, .ref dk), (3, .ref ct), (4, .ref to)]) hx hb dME_open_225 hl rfl (by decide) rfl (by decide) rfl (fun ls hl => ?_)
          refine lv_goto (tgt := 187) hx hb dME_open_228 (by decide) ?_
          exact ih22 (i22 + 1) s41 pl ls H locs (by omega) hF hE hR (lv_sub hl [0, 1, 2, 3, 4, 5, 6, 7] rfl) hO hP hD hS
      exact lp22 256 0 s25 pl ls _ _ (by omega) hF hE hR (lv_sub hl [0, 1, 2, 3, 4, 5, 6, 7] rfl) hO hP hD hS
    | succ n21 ih21 =>
      intro i21 s22 pl ls H locs hm21 hF hE hR hl hO hP hD hS
      refine lv_iload hx hb dME_open_23 (lv_at hl 0 rfl) ?_
      refine lv_iload hx hb dME_open_25 (lv_at hl 2 rfl) ?_
      refine mi_ge (tgt := 140) hx hb dME_open_27 (by decide) (by omega) (by omega) (fun h32 => absurd h32 (by omega)) (fun h32 => ?_)
      refine lv_aload_n hx hb dME_open_30 rfl (lv_at hl 6 rfl) ?_
      refine lv_bipush (v := nI 32) hx hb dME_open_31 (by decide) ?_
      refine va_gets hx hb (hEn.2.1 21 _ rfl).1 hS hown (hts _ (wg_t kw_1830)) (fun _ h9 => h9) dME_open_33 ?_
      refine lv_iload_n hx hb dME_open_36 rfl (lv_at hl 4 rfl) ?_
      refine va_ti (v := .int (nI 10)) hx hb (hEn.2.1 21 _ rfl).2 hS (vp_in_nI (by decide) (by decide)) (by decide +kernel) dME_open_37 ?_
      refine mi_imul hx hb dME_open_38 ?_
      refine mi_as (show nI (32 * 10) = nI 320 from rfl) ?_
      refine lv_iload hx hb dME_open_39 (lv_at hl 0 rfl) ?_
      refine mi_imul hx hb dME_open_41 ?_
      refine va_gets hx hb (hEn.2.1 21 _ rfl).1 hS hown (hts _ (wg_t kw_1830)) (fun _ h9 => h9) dME_open_42 ?_
      refine lv_iload_n hx hb dME_open_45 rfl (lv_at hl 4 rfl) ?_
      refine va_ti (v := .int (nI 10)) hx hb (hEn.2.1 21 _ rfl).2 hS (vp_in_nI (by decide) (by decide)) (by decide +kernel) dME_open_46 ?_
      refine lv_aload_n hx hb dME_open_47 rfl (lv_at hl 3 rfl) ?_
      refine nw_get (C := "LatticeKeysModel$Secrets") (TT := T_ME) (N := 14) hx hb hts (wg_ft i_ME) hown hK hO k_h0 (kn := 184) (ci := 11) (fl := [(3, 172), (3, 178), (3, 185), (3, 202), (3, 207), (3, 212), (3, 217), (3, 218), (3, 219), (3, 220), (3, 221), (3, 222), (3, 223), (3, 224)]) rfl hP rfl 3 (by decide) (hts _ (wg_t kw_1382)) (fun _ h9 => h9) (cd := (3, 202)) rfl dME_open_48 (fun v42 hv42 => ?_)
      obtain ⟨r43, rfl, kr42⟩ := (show ∃ r : Nat, v42 = .ref r ∧ T r = some 202 from hv42)
      refine lv_iload hx hb dME_open_51 (lv_at hl 0 rfl) ?_
      refine nw_aald3 hx hb hK hO kr42 (k := 202) (b := 203) rfl hP (by omega) (by omega) dME_open_53 (fun r44 kr43 => ?_)
      have hn21 : nsp (203 + i21) = (0, 256, []) := rows_ok 203 4 (by decide) _ (by omega)
      refine mp_v (cx := []) (wr := []) hP hD hS hA [] [] rfl rfl rfl (by decide) (va_runS (As := [.ref ct, .int (nI (320 * i21)), .int (nI 10), .ref r44]) (rest := []) F (N_ME_read_10 l g _ T s22 pl hO hU ct r44 pct 16384 (320 * i21) (203 + i21) k_ct n_ct kr43 hn21 (by omega) (by omega)) (va_cwS 4 hts (wg_app (wg_c kw_1813 (wg_c kw_1814 (wg_c kw_11 wg_n))) kw_1815) rfl rfl rfl (by decide +kernel) ⟨by decide, by decide⟩) (pp_S (en_ok g) hP hD hS hA hEn [] rfl rfl) rfl rfl hl.1 rfl (lv_room (Nat.le_of_ble_eq_true rfl)) dME_open_54 ⟨by omega, by omega⟩) (fun  u35 H locs hu35 hP hD hS => ?_)
      obtain ⟨s42, pl⟩ := u35
      obtain ⟨⟨eq35, hFc35, -⟩, hO⟩ := hu35
      have hO : okn g T s42 pl := hO
      have hP : va_P g.1 vcl ([] ++ pl) _ := hP
      have hD : va_D _ ([] ++ pl) := hD
      have hFc35 : frm (M_ME_read_10 (203 + i21)) s22 s42 := hFc35
      replace hR := bnd_step hR eq35
      replace hE := bndP_step hE eq35
      have hF := frm_tr hF hFc35 (fun k hk => by unfold M_ME_read_10 at hk; unfold M_ME_open_1; omega)
      refine W.widen (k := 0) (n := 0) (by omega) (by omega) ?_
      refine lv_aload_n hx hb dME_open_57 rfl (lv_at hl 3 rfl) ?_
      refine nw_get (C := "LatticeKeysModel$Secrets") (TT := T_ME) (N := 14) hx hb hts (wg_ft i_ME) hown hK hO k_h0 (kn := 184) (ci := 11) (fl := [(3, 172), (3, 178), (3, 185), (3, 202), (3, 207), (3, 212), (3, 217), (3, 218), (3, 219), (3, 220), (3, 221), (3, 222), (3, 223), (3, 224)]) rfl hP rfl 3 (by decide) (hts _ (wg_t kw_1382)) (fun _ h9 => h9) (cd := (3, 202)) rfl dME_open_58 (fun v43 hv43 => ?_)
      obtain ⟨r45, rfl, kr44⟩ := (show ∃ r : Nat, v43 = .ref r ∧ T r = some 202 from hv43)
      refine lv_iload hx hb dME_open_61 (lv_at hl 0 rfl) ?_
      refine nw_aald3 hx hb hK hO kr44 (k := 202) (b := 203) rfl hP (by omega) (by omega) dME_open_63 (fun r46 kr45 => ?_)
      have hn22 : nsp (203 + i21) = (0, 256, []) := rows_ok 203 4 (by decide) _ (by omega)
      refine va_gets hx hb (hEn.2.1 21 _ rfl).1 hS hown (hts _ (wg_t kw_1830)) (fun _ h9 => h9) dME_open_64 ?_
      refine lv_iload_n hx hb dME_open_67 rfl (lv_at hl 4 rfl) ?_
      refine va_ti (v := .int (nI 10)) hx hb (hEn.2.1 21 _ rfl).2 hS (vp_in_nI (by decide) (by decide)) (by decide +kernel) dME_open_68 ?_
      refine mp_v (cx := []) (wr := []) hP hD hS hA [] [] rfl rfl rfl (by decide) (va_runS (As := [.ref r46, .int (nI 10)]) (rest := []) F (N_ME_more_10 l g _ T s42 pl hO hU r46 (203 + i21) kr45 hn22) (va_cwS 2 hts (wg_app (wg_c kw_1835 (wg_c kw_1836 (wg_c kw_11 wg_n))) kw_1837) rfl rfl rfl (by decide +kernel) ⟨by decide, by decide⟩) (pp_S (en_ok g) hP hD hS hA hEn [] rfl rfl) rfl rfl hl.1 rfl (lv_room (Nat.le_of_ble_eq_true rfl)) dME_open_69 ⟨by omega, by omega⟩) (fun  u36 H locs hu36 hP hD hS => ?_)
      obtain ⟨s43, pl⟩ := u36
      obtain ⟨⟨eq36, hFc36, -⟩, hO⟩ := hu36
      have hO : okn g T s43 pl := hO
      have hP : va_P g.1 vcl ([] ++ pl) _ := hP
      have hD : va_D _ ([] ++ pl) := hD
      have hFc36 : frm (M_ME_more_10 (203 + i21)) s42 s43 := hFc36
      replace hR := bnd_step hR eq36
      replace hE := bndP_step hE eq36
      have hF := frm_tr hF hFc36 (fun k hk => by unfold M_ME_more_10 at hk; unfold M_ME_open_1; omega)
      refine W.widen (k := 0) (n := 0) (by omega) (by omega) ?_
      refine lv_aload_n hx hb dME_open_72 rfl (lv_at hl 3 rfl) ?_
      refine lv_aload_n hx hb dME_open_73 rfl (lv_at hl 3 rfl) ?_
      refine nw_get (C := "LatticeKeysModel$Secrets") (TT := T_ME) (N := 14) hx hb hts (wg_ft i_ME) hown hK hO k_h0 (kn := 184) (ci := 11) (fl := [(3, 172), (3, 178), (3, 185), (3, 202), (3, 207), (3, 212), (3, 217), (3, 218), (3, 219), (3, 220), (3, 221), (3, 222), (3, 223), (3, 224)]) rfl hP rfl 3 (by decide) (hts _ (wg_t kw_1382)) (fun _ h9 => h9) (cd := (3, 202)) rfl dME_open_74 (fun v44 hv44 => ?_)
      obtain ⟨r47, rfl, kr46⟩ := (show ∃ r : Nat, v44 = .ref r ∧ T r = some 202 from hv44)
      refine lv_iload hx hb dME_open_77 (lv_at hl 0 rfl) ?_
      refine nw_aald3 hx hb hK hO kr46 (k := 202) (b := 203) rfl hP (by omega) (by omega) dME_open_79 (fun r48 kr47 => ?_)
      have hn23 : nsp (203 + i21) = (0, 256, []) := rows_ok 203 4 (by decide) _ (by omega)
      refine mp_v (cx := []) (wr := []) hP hD hS hA [] [] rfl rfl rfl (by decide) (va_runV (As := [.ref r48]) (rest := []) F (N_ME_forth l g _ T s43 pl hO hU h0 r48 (203 + i21) k_h0 kr47 hn23) (cwV 1 hts (wg_app (wg_c kw_1668 (wg_c kw_1670 (wg_c ks_57 (wg_c kw_11 wg_n)))) kw_1671) rfl rfl rfl (by decide +kernel) ⟨by decide, by decide⟩) (pn_W "LatticeKeysModel$Secrets" (en_ok g) (ci := 11) (kn := 184) (fl := [(3, 172), (3, 178), (3, 185), (3, 202), (3, 207), (3, 212), (3, 217), (3, 218), (3, 219), (3, 220), (3, 221), (3, 222), (3, 223), (3, 224)]) hK hO k_h0 rfl hP hD hS hA hEn [] rfl rfl rfl) rfl rfl hl.1 rfl (lv_room (Nat.le_of_ble_eq_true rfl)) dME_open_80 ⟨by omega, by omega⟩) (fun  u37 H locs hu37 hP hD hS => ?_)
      obtain ⟨s44, pl⟩ := u37
      obtain ⟨⟨eq37, hFc37, -⟩, hO⟩ := hu37
      have hO : okn g T s44 pl := hO
      have hP : va_P g.1 vcl ([] ++ pl) _ := hP
      have hD : va_D _ ([] ++ pl) := hD
      have hFc37 : frm (M_ME_forth (203 + i21)) s43 s44 := hFc37
      replace hR := bnd_step hR eq37
      replace hE := bndP_step hE eq37
      have hF := frm_tr hF hFc37 (fun k hk => by unfold M_ME_forth at hk; unfold M_ME_open_1; omega)
      refine W.widen (k := 0) (n := 0) (by omega) (by omega) ?_
      refine lv_aload_n hx hb dME_open_83 rfl (lv_at hl 5 rfl) ?_
      refine lv_sipush (v := nI 384) hx hb dME_open_84 (by decide) ?_
      refine lv_iload hx hb dME_open_87 (lv_at hl 0 rfl) ?_
      refine mi_imul hx hb dME_open_89 ?_
      refine lv_bipush (v := nI 12) hx hb dME_open_90 (by decide) ?_
      refine lv_aload_n hx hb dME_open_92 rfl (lv_at hl 3 rfl) ?_
      refine nw_get (C := "LatticeKeysModel$Secrets") (TT := T_ME) (N := 14) hx hb hts (wg_ft i_ME) hown hK hO k_h0 (kn := 184) (ci := 11) (fl := [(3, 172), (3, 178), (3, 185), (3, 202), (3, 207), (3, 212), (3, 217), (3, 218), (3, 219), (3, 220), (3, 221), (3, 222), (3, 223), (3, 224)]) rfl hP rfl 4 (by decide) (hts _ (wg_t kw_1383)) (fun _ h9 => h9) (cd := (3, 207)) rfl dME_open_93 (fun v45 hv45 => ?_)
      obtain ⟨r49, rfl, kr48⟩ := (show ∃ r : Nat, v45 = .ref r ∧ T r = some 207 from hv45)
      refine lv_iload hx hb dME_open_96 (lv_at hl 0 rfl) ?_
      refine nw_aald3 hx hb hK hO kr48 (k := 207) (b := 208) rfl hP (by omega) (by omega) dME_open_98 (fun r50 kr49 => ?_)
      have hn24 : nsp (208 + i21) = (0, 256, []) := rows_ok 208 4 (by decide) _ (by omega)
      refine mp_v (cx := []) (wr := []) hP hD hS hA [] [] rfl rfl rfl (by decide) (va_runS (As := [.ref dk, .int (nI (384 * i21)), .int (nI 12), .ref r50]) (rest := []) F (N_ME_read_12 l g _ T s44 pl hO hU dk r50 pdk 4896 (384 * i21) (208 + i21) k_dk n_dk kr49 hn24 (by omega) (by omega)) (va_cwS 4 hts (wg_app (wg_c kw_1813 (wg_c kw_1814 (wg_c kw_11 wg_n))) kw_1815) rfl rfl rfl (by decide +kernel) ⟨by decide, by decide⟩) (pp_S (en_ok g) hP hD hS hA hEn [] rfl rfl) rfl rfl hl.1 rfl (lv_room (Nat.le_of_ble_eq_true rfl)) dME_open_99 ⟨by omega, by omega⟩) (fun  u38 H locs hu38 hP hD hS => ?_)
      obtain ⟨s45, pl⟩ := u38
      obtain ⟨⟨eq38, hFc38, -⟩, hO⟩ := hu38
      have hO : okn g T s45 pl := hO
      have hP : va_P g.1 vcl ([] ++ pl) _ := hP
      have hD : va_D _ ([] ++ pl) := hD
      have hFc38 : frm (M_ME_read_12 (208 + i21)) s44 s45 := hFc38
      replace hR := bnd_step hR eq38
      replace hE := bndP_step hE eq38
      have hF := frm_tr hF hFc38 (fun k hk => by unfold M_ME_read_12 at hk; unfold M_ME_open_1; omega)
      refine W.widen (k := 0) (n := 0) (by omega) (by omega) ?_
      refine lv_aload_n hx hb dME_open_102 rfl (lv_at hl 3 rfl) ?_
      refine nw_get (C := "LatticeKeysModel$Secrets") (TT := T_ME) (N := 14) hx hb hts (wg_ft i_ME) hown hK hO k_h0 (kn := 184) (ci := 11) (fl := [(3, 172), (3, 178), (3, 185), (3, 202), (3, 207), (3, 212), (3, 217), (3, 218), (3, 219), (3, 220), (3, 221), (3, 222), (3, 223), (3, 224)]) rfl hP rfl 4 (by decide) (hts _ (wg_t kw_1383)) (fun _ h9 => h9) (cd := (3, 207)) rfl dME_open_103 (fun v46 hv46 => ?_)
      obtain ⟨r51, rfl, kr50⟩ := (show ∃ r : Nat, v46 = .ref r ∧ T r = some 207 from hv46)
      refine lv_iload hx hb dME_open_106 (lv_at hl 0 rfl) ?_
      refine nw_aald3 hx hb hK hO kr50 (k := 207) (b := 208) rfl hP (by omega) (by omega) dME_open_108 (fun r52 kr51 => ?_)
      have hn25 : nsp (208 + i21) = (0, 256, []) := rows_ok 208 4 (by decide) _ (by omega)
      refine mp_v (cx := []) (wr := []) hP hD hS hA [] [] rfl rfl rfl (by decide) (va_runS (As := [.ref r52]) (rest := []) F (N_ME_proper l g _ T s45 pl hO hU r52 (208 + i21) kr51 hn25) (va_cwS 1 hts (wg_app (wg_c kw_1816 (wg_c kw_1817 (wg_c kw_11 wg_n))) kw_1818) rfl rfl rfl (by decide +kernel) ⟨by decide, by decide⟩) (pp_S (en_ok g) hP hD hS hA hEn [] rfl rfl) rfl rfl hl.1 rfl (lv_room (Nat.le_of_ble_eq_true rfl)) dME_open_109 ⟨by omega, by omega⟩) (fun  u39 H locs hu39 hP hD hS => ?_)
      obtain ⟨s46, pl⟩ := u39
      obtain ⟨⟨eq39, hFc39, -⟩, hO⟩ := hu39
      have hO : okn g T s46 pl := hO
      have hP : va_P g.1 vcl ([] ++ pl) _ := hP
      have hD : va_D _ ([] ++ pl) := hD
      have hFc39 : frm (M_ME_proper (208 + i21)) s45 s46 := hFc39
      replace hR := bnd_step hR eq39
      replace hE := bndP_step hE eq39
      have hF := frm_tr hF hFc39 (fun k hk => by unfold M_ME_proper at hk; unfold M_ME_open_1; omega)
      refine W.widen (k := 0) (n := 0) (by omega) (by omega) ?_
      refine lv_aload_n hx hb dME_open_112 rfl (lv_at hl 3 rfl) ?_
      refine lv_aload_n hx hb dME_open_113 rfl (lv_at hl 3 rfl) ?_
      refine nw_get (C := "LatticeKeysModel$Secrets") (TT := T_ME) (N := 14) hx hb hts (wg_ft i_ME) hown hK hO k_h0 (kn := 184) (ci := 11) (fl := [(3, 172), (3, 178), (3, 185), (3, 202), (3, 207), (3, 212), (3, 217), (3, 218), (3, 219), (3, 220), (3, 221), (3, 222), (3, 223), (3, 224)]) rfl hP rfl 4 (by decide) (hts _ (wg_t kw_1383)) (fun _ h9 => h9) (cd := (3, 207)) rfl dME_open_114 (fun v47 hv47 => ?_)
      obtain ⟨r53, rfl, kr52⟩ := (show ∃ r : Nat, v47 = .ref r ∧ T r = some 207 from hv47)
      refine lv_iload hx hb dME_open_117 (lv_at hl 0 rfl) ?_
      refine nw_aald3 hx hb hK hO kr52 (k := 207) (b := 208) rfl hP (by omega) (by omega) dME_open_119 (fun r54 kr53 => ?_)
      have hn26 : nsp (208 + i21) = (0, 256, []) := rows_ok 208 4 (by decide) _ (by omega)
      refine lv_aload_n hx hb dME_open_120 rfl (lv_at hl 3 rfl) ?_
      refine nw_get (C := "LatticeKeysModel$Secrets") (TT := T_ME) (N := 14) hx hb hts (wg_ft i_ME) hown hK hO k_h0 (kn := 184) (ci := 11) (fl := [(3, 172), (3, 178), (3, 185), (3, 202), (3, 207), (3, 212), (3, 217), (3, 218), (3, 219), (3, 220), (3, 221), (3, 222), (3, 223), (3, 224)]) rfl hP rfl 3 (by decide) (hts _ (wg_t kw_1382)) (fun _ h9 => h9) (cd := (3, 202)) rfl dME_open_121 (fun v48 hv48 => ?_)
      obtain ⟨r55, rfl, kr54⟩ := (show ∃ r : Nat, v48 = .ref r ∧ T r = some 202 from hv48)
      refine lv_iload hx hb dME_open_124 (lv_at hl 0 rfl) ?_
      refine nw_aald3 hx hb hK hO kr54 (k := 202) (b := 203) rfl hP (by omega) (by omega) dME_open_126 (fun r56 kr55 => ?_)
      have hn27 : nsp (203 + i21) = (0, 256, []) := rows_ok 203 4 (by decide) _ (by omega)
      refine lv_aload_n hx hb dME_open_127 rfl (lv_at hl 3 rfl) ?_
      refine nw_get (C := "LatticeKeysModel$Secrets") (TT := T_ME) (N := 14) hx hb hts (wg_ft i_ME) hown hK hO k_h0 (kn := 184) (ci := 11) (fl := [(3, 172), (3, 178), (3, 185), (3, 202), (3, 207), (3, 212), (3, 217), (3, 218), (3, 219), (3, 220), (3, 221), (3, 222), (3, 223), (3, 224)]) rfl hP rfl 6 (by decide) (hts _ (wg_t kw_1385)) (fun _ h9 => h9) (cd := (3, 217)) rfl dME_open_128 (fun v49 hv49 => ?_)
      obtain ⟨r57, rfl, kr56⟩ := (show ∃ r : Nat, v49 = .ref r ∧ T r = some 217 from hv49)
      refine mp_v (cx := []) (wr := []) hP hD hS hA [] [] rfl rfl rfl (by decide) (va_runV (As := [.ref r54, .ref r56, .ref r57]) (rest := []) F (N_ME_product l g _ T s46 pl hO hU h0 r54 r56 r57 (208 + i21) (203 + i21) 217 k_h0 kr53 hn26 kr55 hn27 kr56 rfl) (cwV 3 hts (wg_app (wg_c kw_1676 (wg_c kw_1678 (wg_c ks_58 (wg_c kw_11 wg_n)))) kw_1679) rfl rfl rfl (by decide +kernel) ⟨by decide, by decide⟩) (pn_W "LatticeKeysModel$Secrets" (en_ok g) (ci := 11) (kn := 184) (fl := [(3, 172), (3, 178), (3, 185), (3, 202), (3, 207), (3, 212), (3, 217), (3, 218), (3, 219), (3, 220), (3, 221), (3, 222), (3, 223), (3, 224)]) hK hO k_h0 rfl hP hD hS hA hEn [] rfl rfl rfl) rfl rfl hl.1 rfl (lv_room (Nat.le_of_ble_eq_true rfl)) dME_open_131 ⟨by omega, by omega⟩) (fun  u40 H locs hu40 hP hD hS => ?_)
      obtain ⟨s47, pl⟩ := u40
      obtain ⟨⟨eq40, hFc40, -⟩, hO⟩ := hu40
      have hO : okn g T s47 pl := hO
      have hP : va_P g.1 vcl ([] ++ pl) _ := hP
      have hD : va_D _ ([] ++ pl) := hD
      have hFc40 : frm (M_ME_product 217) s46 s47 := hFc40
      replace hR := bnd_step hR eq40
      replace hE := bndP_step hE eq40
      have hF := frm_tr hF hFc40 (fun k hk => by unfold M_ME_product at hk; unfold M_ME_open_1; omega)
      refine W.widen (k := 0) (n := 0) (by omega) (by omega) ?_
      refine mi_iinc (k := 0) (x := i21) (d := 1) (y := i21 + 1) (lv' := [(7, .int (nI (i21 + 1))), (6, .int (nI 1088)), (5, .int (nI 3)), (0, .ref h0), (1, .int (nI 1)), (2, .ref dk), (3, .ref ct), (4, .ref to)]) hx hb dME_open_134 hl rfl (by decide) rfl (by decide) rfl (fun ls hl => ?_)
      refine lv_goto (tgt := 23) hx hb dME_open_137 (by decide) ?_
      exact ih21 (i21 + 1) s47 pl ls H locs (by omega) hF hE hR (lv_sub hl [0, 1, 2, 3, 4, 5, 6, 7] rfl) hO hP hD hS
  exact lp21 3 0 s21 pl ls _ _ (by omega) hF hE hR (lv_sub hl [0, 1, 2, 3, 4, 5, 6, 7] rfl) hO hP hD hS
def M_ME_open_2 (pt : Nat) (k : Nat) : Prop := (186 ≤ k ∧ k < 202) ∨ (203 ≤ k ∧ k < 207) ∨ (208 ≤ k ∧ k < 212) ∨ (213 ≤ k ∧ k < 217) ∨ k = 172 ∨ k = 217 ∨ k = 218 ∨ k = 219 ∨ k = 220 ∨ k = 221 ∨ k = 222 ∨ k = 223 ∨ k = 224 ∨ k = pt ∨ (0 : Nat) = 1
noncomputable def F_ME_open_2_L4 (pdk : Nat) (pct : Nat) (pt : Nat) (z22 : Int32) : Nat → Nat → Sto → Sto
  | 0, i25, s33 => if z22 = 0 then bnd (F_MS_shake  s33) fun s34 => bnd (F_MS_puts pdk 4896 3136 32 s34) fun s35 => bnd (F_MS_puts pct 16384 0 1568 s35) fun s36 => bnd (F_MS_end  s36) fun s37 => bnd (F_MS_take pt 8192 0 32 s37) fun s38 => s38 else s33
  | n25 + 1, i25, s33 => bnd (sB s33 pt i25 (s33.1 220 i25)) fun s39 => F_ME_open_2_L4 pdk pct pt z22 n25 (i25 + 1) s39
noncomputable def E_ME_open_2_L4 (pdk : Nat) (pct : Nat) (pt : Nat) (z22 : Int32) : Nat → Nat → Sto → Prop
  | 0, i25, s33 => if z22 = 0 then bnd (F_MS_shake  s33) fun s34 => bnd (F_MS_puts pdk 4896 3136 32 s34) fun s35 => bnd (F_MS_puts pct 16384 0 1568 s35) fun s36 => bnd (F_MS_end  s36) fun s37 => bnd (F_MS_take pt 8192 0 32 s37) fun s38 => True else True
  | n25 + 1, i25, s33 => bnd (sB s33 pt i25 (s33.1 220 i25)) fun s39 => E_ME_open_2_L4 pdk pct pt z22 n25 (i25 + 1) s39
noncomputable def F_ME_open_2_L3 (pdk : Nat) (pct : Nat) (pt : Nat) : Nat → Nat → Int32 → Sto → Sto
  | 0, i24, z22, s32 => F_ME_open_2_L4 pdk pct pt z22 32 0 s32
  | n24 + 1, i24, z22, s32 => if (s32.1 224 i24) = (s32.1 pct i24) then bnd ((z22 &&& (nI 1))) fun z24 => F_ME_open_2_L3 pdk pct pt n24 (i24 + 1) z24 s32 else bnd ((z22 &&& (nI 0))) fun z23 => F_ME_open_2_L3 pdk pct pt n24 (i24 + 1) z23 s32
noncomputable def E_ME_open_2_L3 (pdk : Nat) (pct : Nat) (pt : Nat) : Nat → Nat → Int32 → Sto → Prop
  | 0, i24, z22, s32 => E_ME_open_2_L4 pdk pct pt z22 32 0 s32
  | n24 + 1, i24, z22, s32 => if (s32.1 224 i24) = (s32.1 pct i24) then bnd ((z22 &&& (nI 1))) fun z24 => E_ME_open_2_L3 pdk pct pt n24 (i24 + 1) z24 s32 else bnd ((z22 &&& (nI 0))) fun z23 => E_ME_open_2_L3 pdk pct pt n24 (i24 + 1) z23 s32
noncomputable def F_ME_open_2_L2 (pdk : Nat) (pct : Nat) (pt : Nat) : Nat → Nat → Sto → Sto
  | 0, i23, s29 => bnd (F_ME_both 223 32 s29) fun s30 => bnd (F_ME_encrypt_2 pdk 4896 1536 223 32 224 1568 s30) fun s31 => F_ME_open_2_L3 pdk pct pt 1568 0 (nI 1) s31
  | n23 + 1, i23, s29 => bnd (sB s29 222 i23 (s29.1 pdk (3104 + i23))) fun s40 => F_ME_open_2_L2 pdk pct pt n23 (i23 + 1) s40
noncomputable def E_ME_open_2_L2 (pdk : Nat) (pct : Nat) (pt : Nat) : Nat → Nat → Sto → Prop
  | 0, i23, s29 => bnd (F_ME_both 223 32 s29) fun s30 => (E_ME_encrypt_2 pdk 4896 1536 223 32 224 1568 s30) ∧ (bnd (F_ME_encrypt_2 pdk 4896 1536 223 32 224 1568 s30) fun s31 => E_ME_open_2_L3 pdk pct pt 1568 0 (nI 1) s31)
  | n23 + 1, i23, s29 => bnd (sB s29 222 i23 (s29.1 pdk (3104 + i23))) fun s40 => E_ME_open_2_L2 pdk pct pt n23 (i23 + 1) s40
noncomputable def F_ME_open_2_L1 (pdk : Nat) (pct : Nat) (pt : Nat) : Nat → Nat → Sto → Sto
  | 0, i22, s26 => bnd (F_ME_less_1 218 s26) fun s27 => bnd (F_ME_write_1 218 223 32 0 s27) fun s28 => F_ME_open_2_L2 pdk pct pt 32 0 s28
  | n22 + 1, i22, s26 => bnd (sI s26 218 i22 ((((s26.1 218 i22) - (s26.1 217 i22)) + (nI 3329)) - (((s26.1 218 i22) - (s26.1 217 i22)) + (nI 3329)) / (nI 3329) * (nI 3329))) fun s41 => F_ME_open_2_L1 pdk pct pt n22 (i22 + 1) s41
noncomputable def E_ME_open_2_L1 (pdk : Nat) (pct : Nat) (pt : Nat) : Nat → Nat → Sto → Prop
  | 0, i22, s26 => bnd (F_ME_less_1 218 s26) fun s27 => bnd (F_ME_write_1 218 223 32 0 s27) fun s28 => E_ME_open_2_L2 pdk pct pt 32 0 s28
  | n22 + 1, i22, s26 => bnd (sI s26 218 i22 ((((s26.1 218 i22) - (s26.1 217 i22)) + (nI 3329)) - (((s26.1 218 i22) - (s26.1 217 i22)) + (nI 3329)) / (nI 3329) * (nI 3329))) fun s41 => E_ME_open_2_L1 pdk pct pt n22 (i22 + 1) s41
noncomputable def F_ME_open_2_L0 (pdk : Nat) (pct : Nat) (pt : Nat) : Nat → Nat → Sto → Sto
  | 0, i21, s22 => bnd (F_ME_back 217 s22) fun s23 => bnd (F_ME_read_5 pct 16384 1408 218 s23) fun s24 => bnd (F_ME_more_5 218 s24) fun s25 => F_ME_open_2_L1 pdk pct pt 256 0 s25
  | n21 + 1, i21, s22 => bnd (F_ME_read_11 pct 16384 (352 * i21) (203 + i21) s22) fun s42 => bnd (F_ME_more_11 (203 + i21) s42) fun s43 => bnd (F_ME_forth (203 + i21) s43) fun s44 => bnd (F_ME_read_12 pdk 4896 (384 * i21) (208 + i21) s44) fun s45 => bnd (F_ME_proper (208 + i21) s45) fun s46 => bnd (F_ME_product (208 + i21) (203 + i21) 217 s46) fun s47 => F_ME_open_2_L0 pdk pct pt n21 (i21 + 1) s47
noncomputable def E_ME_open_2_L0 (pdk : Nat) (pct : Nat) (pt : Nat) : Nat → Nat → Sto → Prop
  | 0, i21, s22 => bnd (F_ME_back 217 s22) fun s23 => bnd (F_ME_read_5 pct 16384 1408 218 s23) fun s24 => bnd (F_ME_more_5 218 s24) fun s25 => E_ME_open_2_L1 pdk pct pt 256 0 s25
  | n21 + 1, i21, s22 => bnd (F_ME_read_11 pct 16384 (352 * i21) (203 + i21) s22) fun s42 => bnd (F_ME_more_11 (203 + i21) s42) fun s43 => bnd (F_ME_forth (203 + i21) s43) fun s44 => bnd (F_ME_read_12 pdk 4896 (384 * i21) (208 + i21) s44) fun s45 => bnd (F_ME_proper (208 + i21) s45) fun s46 => bnd (F_ME_product (208 + i21) (203 + i21) 217 s46) fun s47 => E_ME_open_2_L0 pdk pct pt n21 (i21 + 1) s47
noncomputable def F_ME_open_2 (pdk : Nat) (pct : Nat) (pt : Nat) (s : Sto) : Sto := bnd (F_ME_sealedSize_2  s) fun q21 => bnd (q21.1.toNatClampNeg) fun z21 => bnd (F_ME_clear 217 q21.2) fun s21 => F_ME_open_2_L0 pdk pct pt 4 0 s21
noncomputable def E_ME_open_2 (pdk : Nat) (pct : Nat) (pt : Nat) (s : Sto) : Prop := bnd (F_ME_sealedSize_2  s) fun q21 => bnd (q21.1.toNatClampNeg) fun z21 => bnd (F_ME_clear 217 q21.2) fun s21 => E_ME_open_2_L0 pdk pct pt 4 0 s21
set_option maxHeartbeats 8000000 in
set_option maxRecDepth 100000 in
theorem N_ME_open_2 (l : Launch) (g : Gd) (sz : Nat) (T : TyN) (s : Sto) (pl : va_W) (hO : okn g T s pl) (hU : inj T) (h0 dk ct to : Nat) (pdk : Nat) (pct : Nat) (pt : Nat) (k_h0 : T h0 = some 184) (k_dk : T dk = some pdk) (n_dk : nsp pdk = (1, 4896, [])) (k_ct : T ct = some pct) (n_ct : nsp pct = (1, 16384, [])) (k_to : T to = some pt) (n_to : nsp pt = (1, 8192, [])) (hE : E_ME_open_2 pdk pct pt s)  : Met l y_ME_open w_ME_open ({ frames := 6, cells := 0, slots := 0, locals := 146 } : Room) (va_Pc [.ref h0, .int (nI 2), .ref dk, .ref ct, .ref to] (pr (en g) g.1 vcl sz ([] ++ pl))) (va_Qv (fun (u : (Sto) × va_W) => (u.1 = F_ME_open_2 pdk pct pt s ∧ frm (M_ME_open_2 pt) s u.1 ∧ True) ∧ okn g T u.1 u.2) (po g.1 vcl (va_A ([] ++ pl) sz) (fun (u : (Sto) × va_W) => [] ++ u.2)) (va_A ([] ++ pl) sz)) 0 0 (va_A ([] ++ pl) sz) := by
  refine mc_entry (cc := c_ME_open) (maxL := 9) (ret := none) (by decide) rfl (Nat.le_of_ble_eq_true rfl) ?_
  intro p e s0 m args below meth c ls F hr hlk hnm hsz hP hD hEn hA hl
  obtain ⟨hx, hb, hml, hown, hts⟩ := id F
  have hK := hEn.1
  generalize va_A ([] ++ pl) sz = A at hD hEn hA ⊢
  have hS : va_S A s0.heap s0.heap [] := va_S.rf
  have hl : lv_has ls 9 [(0, .ref h0), (1, .int (nI 2)), (2, .ref dk), (3, .ref ct), (4, .ref to)] := hl
  have hR : F_ME_open_2 pdk pct pt s = F_ME_open_2 pdk pct pt s := rfl
  have hF : frm (M_ME_open_2 pt) s s := frm_rf
  refine va_gets hx hb (hEn.2.1 19 _ rfl).1 hS hown (hts _ (wg_t kw_1605)) (fun _ h9 => h9) dME_open_0 ?_
  refine lv_iload_n hx hb dME_open_3 rfl (lv_at hl 1 rfl) ?_
  refine va_ti (v := .int (nI 4)) hx hb (hEn.2.1 19 _ rfl).2 hS (vp_in_nI (by decide) (by decide)) (by decide +kernel) dME_open_4 ?_
  refine lv_istore (lv' := [(5, .int (nI 4)), (0, .ref h0), (1, .int (nI 2)), (2, .ref dk), (3, .ref ct), (4, .ref to)]) hx hb dME_open_5 hl (by decide) rfl (fun ls hl => ?_)
  refine lv_iload_n hx hb dME_open_7 rfl (lv_at hl 2 rfl) ?_
  refine mp_i (cx := []) (wr := []) hP hD hS hA [] [] rfl rfl rfl (by decide) (va_runS (As := [.int (nI 2)]) (rest := []) F (N_ME_sealedSize_2 l g _ T s pl hO hU ) (va_cwS 1 hts (wg_app (wg_c kw_1840 (wg_c kw_1841 (wg_c kw_11 wg_n))) kw_1842) rfl rfl rfl (by decide +kernel) ⟨by decide, by decide⟩) (pp_S (en_ok g) hP hD hS hA hEn [] rfl rfl) rfl rfl hl.1 rfl (lv_room (Nat.le_of_ble_eq_true rfl)) dME_open_8 ⟨by omega, by omega⟩) (fun r21 u21 H locs hu21 hP hD hS => ?_)
  obtain ⟨q21, pl⟩ := u21
  obtain ⟨⟨eq21, rfl, hFc21, ⟨x21, hx_21, hb_21⟩, hxp21, -⟩, hO⟩ := hu21
  have hO : okn g T q21.2 pl := hO
  have hP : va_P g.1 vcl ([] ++ pl) _ := hP
  have hD : va_D _ ([] ++ pl) := hD
  have hFc21 : frm (M_ME_sealedSize_2) s q21.2 := hFc21
  have hb_21 : x21 < 1569 := hb_21
  replace hR := bnd_step hR eq21
  replace hE := bndP_step hE eq21
  have hF := frm_tr hF hFc21 (fun k hk => by unfold M_ME_sealedSize_2 at hk; unfold M_ME_open_2; omega)
  obtain ⟨z21, ez21, hz21, hz22⟩ := cl_of (b := 2147483648) hx_21 (by omega) (by decide)
  replace hR := bnd_step hR ez21
  replace hE := bndP_step hE ez21
  refine mi_as hz21 ?_
  have hsz21 : z21 = 1568 := (nI_eq (by omega) (by omega)).mp (hz21.symm.trans hxp21)
  subst hsz21
  refine W.widen (k := 0) (n := 0) (by omega) (by omega) ?_
  refine lv_istore (lv' := [(6, .int (nI 1568)), (5, .int (nI 4)), (0, .ref h0), (1, .int (nI 2)), (2, .ref dk), (3, .ref ct), (4, .ref to)]) hx hb dME_open_11 hl (by decide) rfl (fun ls hl => ?_)
  refine lv_aload_n hx hb dME_open_13 rfl (lv_at hl 2 rfl) ?_
  refine nw_get (C := "LatticeKeysModel$Secrets") (TT := T_ME) (N := 14) hx hb hts (wg_ft i_ME) hown hK hO k_h0 (kn := 184) (ci := 11) (fl := [(3, 172), (3, 178), (3, 185), (3, 202), (3, 207), (3, 212), (3, 217), (3, 218), (3, 219), (3, 220), (3, 221), (3, 222), (3, 223), (3, 224)]) rfl hP rfl 6 (by decide) (hts _ (wg_t kw_1385)) (fun _ h9 => h9) (cd := (3, 217)) rfl dME_open_14 (fun v21 hv21 => ?_)
  obtain ⟨r22, rfl, kr21⟩ := (show ∃ r : Nat, v21 = .ref r ∧ T r = some 217 from hv21)
  refine mp_v (cx := []) (wr := []) hP hD hS hA [] [] rfl rfl rfl (by decide) (va_runS (As := [.ref r22]) (rest := []) F (N_ME_clear l g _ T q21.2 pl hO hU r22 217 kr21 rfl) (va_cwS 1 hts (wg_app (wg_c kw_1819 (wg_c kw_1820 (wg_c kw_11 wg_n))) kw_1821) rfl rfl rfl (by decide +kernel) ⟨by decide, by decide⟩) (pp_S (en_ok g) hP hD hS hA hEn [] rfl rfl) rfl rfl hl.1 rfl (lv_room (Nat.le_of_ble_eq_true rfl)) dME_open_17 ⟨by omega, by omega⟩) (fun  u22 H locs hu22 hP hD hS => ?_)
  obtain ⟨s21, pl⟩ := u22
  obtain ⟨⟨eq22, hFc22, -⟩, hO⟩ := hu22
  have hO : okn g T s21 pl := hO
  have hP : va_P g.1 vcl ([] ++ pl) _ := hP
  have hD : va_D _ ([] ++ pl) := hD
  have hFc22 : frm (M_ME_clear 217) q21.2 s21 := hFc22
  replace hR := bnd_step hR eq22
  replace hE := bndP_step hE eq22
  have hF := frm_tr hF hFc22 (fun k hk => by unfold M_ME_clear at hk; unfold M_ME_open_2; omega)
  refine W.widen (k := 0) (n := 0) (by omega) (by omega) ?_
  refine lv_iconst (v := nI 0) hx hb dME_open_20 (by decide) ?_
  refine lv_istore (lv' := [(7, .int (nI 0)), (6, .int (nI 1568)), (5, .int (nI 4)), (0, .ref h0), (1, .int (nI 2)), (2, .ref dk), (3, .ref ct), (4, .ref to)]) hx hb dME_open_21 hl (by decide) rfl (fun ls hl => ?_)
  have lp21 : ∀ (n21 : Nat) (i21 : Nat) (s22 : Sto) (pl : va_W) (ls : Array Slot) (H : Heap) (locs : List Loc), n21 + i21 = 4 → frm (M_ME_open_2 pt) s s22 → E_ME_open_2_L0 pdk pct pt n21 i21 s22 → F_ME_open_2 pdk pct pt s = F_ME_open_2_L0 pdk pct pt n21 i21 s22 → lv_has ls 9 [(7, .int (nI i21)), (6, .int (nI 1568)), (5, .int (nI 4)), (0, .ref h0), (1, .int (nI 2)), (2, .ref dk), (3, .ref ct), (4, .ref to)] → okn g T s22 pl → va_P g.1 vcl ([] ++ pl) H → va_D A ([] ++ pl) → va_S A s0.heap H locs → W p l e ({ frames := 6, cells := 0, slots := 0, locals := 146 } : Room) s0 m args below meth c H locs 0 0 (MQ below (va_Qv (fun (u : (Sto) × va_W) => (u.1 = F_ME_open_2 pdk pct pt s ∧ frm (M_ME_open_2 pt) s u.1 ∧ True) ∧ okn g T u.1 u.2) (po g.1 vcl A (fun (u : (Sto) × va_W) => [] ++ u.2)) A) args s0 0 0 A) (F0 m 23 ls []) := by
    intro n21
    induction n21 with
    | zero =>
      intro i21 s22 pl ls H locs hm21 hF hE hR hl hO hP hD hS
      refine lv_iload hx hb dME_open_23 (lv_at hl 0 rfl) ?_
      refine lv_iload hx hb dME_open_25 (lv_at hl 2 rfl) ?_
      refine mi_ge (tgt := 140) hx hb dME_open_27 (by decide) (by omega) (by omega) (fun h21 => ?_) (fun h21 => absurd h21 (by omega))
      refine lv_aload_n hx hb dME_open_140 rfl (lv_at hl 3 rfl) ?_
      refine lv_aload_n hx hb dME_open_141 rfl (lv_at hl 3 rfl) ?_
      refine nw_get (C := "LatticeKeysModel$Secrets") (TT := T_ME) (N := 14) hx hb hts (wg_ft i_ME) hown hK hO k_h0 (kn := 184) (ci := 11) (fl := [(3, 172), (3, 178), (3, 185), (3, 202), (3, 207), (3, 212), (3, 217), (3, 218), (3, 219), (3, 220), (3, 221), (3, 222), (3, 223), (3, 224)]) rfl hP rfl 6 (by decide) (hts _ (wg_t kw_1385)) (fun _ h9 => h9) (cd := (3, 217)) rfl dME_open_142 (fun v22 hv22 => ?_)
      obtain ⟨r23, rfl, kr22⟩ := (show ∃ r : Nat, v22 = .ref r ∧ T r = some 217 from hv22)
      refine mp_v (cx := []) (wr := []) hP hD hS hA [] [] rfl rfl rfl (by decide) (va_runV (As := [.ref r23]) (rest := []) F (N_ME_back l g _ T s22 pl hO hU h0 r23 217 k_h0 kr22 rfl) (cwV 1 hts (wg_app (wg_c kw_1822 (wg_c kw_1824 (wg_c ks_69 (wg_c kw_11 wg_n)))) kw_1825) rfl rfl rfl (by decide +kernel) ⟨by decide, by decide⟩) (pn_W "LatticeKeysModel$Secrets" (en_ok g) (ci := 11) (kn := 184) (fl := [(3, 172), (3, 178), (3, 185), (3, 202), (3, 207), (3, 212), (3, 217), (3, 218), (3, 219), (3, 220), (3, 221), (3, 222), (3, 223), (3, 224)]) hK hO k_h0 rfl hP hD hS hA hEn [] rfl rfl rfl) rfl rfl hl.1 rfl (lv_room (Nat.le_of_ble_eq_true rfl)) dME_open_145 ⟨by omega, by omega⟩) (fun  u23 H locs hu23 hP hD hS => ?_)
      obtain ⟨s23, pl⟩ := u23
      obtain ⟨⟨eq23, hFc23, -⟩, hO⟩ := hu23
      have hO : okn g T s23 pl := hO
      have hP : va_P g.1 vcl ([] ++ pl) _ := hP
      have hD : va_D _ ([] ++ pl) := hD
      have hFc23 : frm (M_ME_back 217) s22 s23 := hFc23
      replace hR := bnd_step hR eq23
      replace hE := bndP_step hE eq23
      have hF := frm_tr hF hFc23 (fun k hk => by unfold M_ME_back at hk; unfold M_ME_open_2; omega)
      refine W.widen (k := 0) (n := 0) (by omega) (by omega) ?_
      refine lv_aload_n hx hb dME_open_148 rfl (lv_at hl 6 rfl) ?_
      refine lv_bipush (v := nI 32) hx hb dME_open_149 (by decide) ?_
      refine va_gets hx hb (hEn.2.1 21 _ rfl).1 hS hown (hts _ (wg_t kw_1830)) (fun _ h9 => h9) dME_open_151 ?_
      refine lv_iload_n hx hb dME_open_154 rfl (lv_at hl 4 rfl) ?_
      refine va_ti (v := .int (nI 11)) hx hb (hEn.2.1 21 _ rfl).2 hS (vp_in_nI (by decide) (by decide)) (by decide +kernel) dME_open_155 ?_
      refine mi_imul hx hb dME_open_156 ?_
      refine mi_as (show nI (32 * 11) = nI 352 from rfl) ?_
      refine lv_iload hx hb dME_open_157 (lv_at hl 2 rfl) ?_
      refine mi_imul hx hb dME_open_159 ?_
      refine mi_as (show nI (352 * 4) = nI 1408 from rfl) ?_
      refine va_gets hx hb (hEn.2.1 22 _ rfl).1 hS hown (hts _ (wg_t kw_1838)) (fun _ h9 => h9) dME_open_160 ?_
      refine lv_iload_n hx hb dME_open_163 rfl (lv_at hl 4 rfl) ?_
      refine va_ti (v := .int (nI 5)) hx hb (hEn.2.1 22 _ rfl).2 hS (vp_in_nI (by decide) (by decide)) (by decide +kernel) dME_open_164 ?_
      refine lv_aload_n hx hb dME_open_165 rfl (lv_at hl 3 rfl) ?_
      refine nw_get (C := "LatticeKeysModel$Secrets") (TT := T_ME) (N := 14) hx hb hts (wg_ft i_ME) hown hK hO k_h0 (kn := 184) (ci := 11) (fl := [(3, 172), (3, 178), (3, 185), (3, 202), (3, 207), (3, 212), (3, 217), (3, 218), (3, 219), (3, 220), (3, 221), (3, 222), (3, 223), (3, 224)]) rfl hP rfl 7 (by decide) (hts _ (wg_t kw_1386)) (fun _ h9 => h9) (cd := (3, 218)) rfl dME_open_166 (fun v23 hv23 => ?_)
      obtain ⟨r24, rfl, kr23⟩ := (show ∃ r : Nat, v23 = .ref r ∧ T r = some 218 from hv23)
      refine mp_v (cx := []) (wr := []) hP hD hS hA [] [] rfl rfl rfl (by decide) (va_runS (As := [.ref ct, .int (nI 1408), .int (nI 5), .ref r24]) (rest := []) F (N_ME_read_5 l g _ T s23 pl hO hU ct r24 pct 16384 1408 218 k_ct n_ct kr23 rfl (by omega) (by omega)) (va_cwS 4 hts (wg_app (wg_c kw_1813 (wg_c kw_1814 (wg_c kw_11 wg_n))) kw_1815) rfl rfl rfl (by decide +kernel) ⟨by decide, by decide⟩) (pp_S (en_ok g) hP hD hS hA hEn [] rfl rfl) rfl rfl hl.1 rfl (lv_room (Nat.le_of_ble_eq_true rfl)) dME_open_169 ⟨by omega, by omega⟩) (fun  u24 H locs hu24 hP hD hS => ?_)
      obtain ⟨s24, pl⟩ := u24
      obtain ⟨⟨eq24, hFc24, -⟩, hO⟩ := hu24
      have hO : okn g T s24 pl := hO
      have hP : va_P g.1 vcl ([] ++ pl) _ := hP
      have hD : va_D _ ([] ++ pl) := hD
      have hFc24 : frm (M_ME_read_5 218) s23 s24 := hFc24
      replace hR := bnd_step hR eq24
      replace hE := bndP_step hE eq24
      have hF := frm_tr hF hFc24 (fun k hk => by unfold M_ME_read_5 at hk; unfold M_ME_open_2; omega)
      refine W.widen (k := 0) (n := 0) (by omega) (by omega) ?_
      refine lv_aload_n hx hb dME_open_172 rfl (lv_at hl 3 rfl) ?_
      refine nw_get (C := "LatticeKeysModel$Secrets") (TT := T_ME) (N := 14) hx hb hts (wg_ft i_ME) hown hK hO k_h0 (kn := 184) (ci := 11) (fl := [(3, 172), (3, 178), (3, 185), (3, 202), (3, 207), (3, 212), (3, 217), (3, 218), (3, 219), (3, 220), (3, 221), (3, 222), (3, 223), (3, 224)]) rfl hP rfl 7 (by decide) (hts _ (wg_t kw_1386)) (fun _ h9 => h9) (cd := (3, 218)) rfl dME_open_173 (fun v24 hv24 => ?_)
      obtain ⟨r25, rfl, kr24⟩ := (show ∃ r : Nat, v24 = .ref r ∧ T r = some 218 from hv24)
      refine va_gets hx hb (hEn.2.1 22 _ rfl).1 hS hown (hts _ (wg_t kw_1838)) (fun _ h9 => h9) dME_open_176 ?_
      refine lv_iload_n hx hb dME_open_179 rfl (lv_at hl 4 rfl) ?_
      refine va_ti (v := .int (nI 5)) hx hb (hEn.2.1 22 _ rfl).2 hS (vp_in_nI (by decide) (by decide)) (by decide +kernel) dME_open_180 ?_
      refine mp_v (cx := []) (wr := []) hP hD hS hA [] [] rfl rfl rfl (by decide) (va_runS (As := [.ref r25, .int (nI 5)]) (rest := []) F (N_ME_more_5 l g _ T s24 pl hO hU r25 218 kr24 rfl) (va_cwS 2 hts (wg_app (wg_c kw_1835 (wg_c kw_1836 (wg_c kw_11 wg_n))) kw_1837) rfl rfl rfl (by decide +kernel) ⟨by decide, by decide⟩) (pp_S (en_ok g) hP hD hS hA hEn [] rfl rfl) rfl rfl hl.1 rfl (lv_room (Nat.le_of_ble_eq_true rfl)) dME_open_181 ⟨by omega, by omega⟩) (fun  u25 H locs hu25 hP hD hS => ?_)
      obtain ⟨s25, pl⟩ := u25
      obtain ⟨⟨eq25, hFc25, -⟩, hO⟩ := hu25
      have hO : okn g T s25 pl := hO
      have hP : va_P g.1 vcl ([] ++ pl) _ := hP
      have hD : va_D _ ([] ++ pl) := hD
      have hFc25 : frm (M_ME_more_5 218) s24 s25 := hFc25
      replace hR := bnd_step hR eq25
      replace hE := bndP_step hE eq25
      have hF := frm_tr hF hFc25 (fun k hk => by unfold M_ME_more_5 at hk; unfold M_ME_open_2; omega)
      refine W.widen (k := 0) (n := 0) (by omega) (by omega) ?_
      refine lv_iconst (v := nI 0) hx hb dME_open_184 (by decide) ?_
      refine lv_istore (lv' := [(7, .int (nI 0)), (6, .int (nI 1568)), (5, .int (nI 4)), (0, .ref h0), (1, .int (nI 2)), (2, .ref dk), (3, .ref ct), (4, .ref to)]) hx hb dME_open_185 hl (by decide) rfl (fun ls hl => ?_)
      have lp22 : ∀ (n22 : Nat) (i22 : Nat) (s26 : Sto) (pl : va_W) (ls : Array Slot) (H : Heap) (locs : List Loc), n22 + i22 = 256 → frm (M_ME_open_2 pt) s s26 → E_ME_open_2_L1 pdk pct pt n22 i22 s26 → F_ME_open_2 pdk pct pt s = F_ME_open_2_L1 pdk pct pt n22 i22 s26 → lv_has ls 9 [(7, .int (nI i22)), (6, .int (nI 1568)), (5, .int (nI 4)), (0, .ref h0), (1, .int (nI 2)), (2, .ref dk), (3, .ref ct), (4, .ref to)] → okn g T s26 pl → va_P g.1 vcl ([] ++ pl) H → va_D A ([] ++ pl) → va_S A s0.heap H locs → W p l e ({ frames := 6, cells := 0, slots := 0, locals := 146 } : Room) s0 m args below meth c H locs 0 0 (MQ below (va_Qv (fun (u : (Sto) × va_W) => (u.1 = F_ME_open_2 pdk pct pt s ∧ frm (M_ME_open_2 pt) s u.1 ∧ True) ∧ okn g T u.1 u.2) (po g.1 vcl A (fun (u : (Sto) × va_W) => [] ++ u.2)) A) args s0 0 0 A) (F0 m 187 ls []) := by
        intro n22
        induction n22 with
        | zero =>
          intro i22 s26 pl ls H locs hm22 hF hE hR hl hO hP hD hS
          refine lv_iload hx hb dME_open_187 (lv_at hl 0 rfl) ?_
          refine lv_sipush (v := nI 256) hx hb dME_open_189 (by decide) ?_
          refine mi_ge (tgt := 231) hx hb dME_open_192 (by decide) (by omega) (by omega) (fun h22 => ?_) (fun h22 => absurd h22 (by omega))
          refine lv_aload_n hx hb dME_open_231 rfl (lv_at hl 3 rfl) ?_
          refine nw_get (C := "LatticeKeysModel$Secrets") (TT := T_ME) (N := 14) hx hb hts (wg_ft i_ME) hown hK hO k_h0 (kn := 184) (ci := 11) (fl := [(3, 172), (3, 178), (3, 185), (3, 202), (3, 207), (3, 212), (3, 217), (3, 218), (3, 219), (3, 220), (3, 221), (3, 222), (3, 223), (3, 224)]) rfl hP rfl 7 (by decide) (hts _ (wg_t kw_1386)) (fun _ h9 => h9) (cd := (3, 218)) rfl dME_open_232 (fun v25 hv25 => ?_)
          obtain ⟨r26, rfl, kr25⟩ := (show ∃ r : Nat, v25 = .ref r ∧ T r = some 218 from hv25)
          refine lv_iconst (v := nI 1) hx hb dME_open_235 (by decide) ?_
          refine mp_v (cx := []) (wr := []) hP hD hS hA [] [] rfl rfl rfl (by decide) (va_runS (As := [.ref r26, .int (nI 1)]) (rest := []) F (N_ME_less_1 l g _ T s26 pl hO hU r26 218 kr25 rfl) (va_cwS 2 hts (wg_app (wg_c kw_1832 (wg_c kw_1833 (wg_c kw_11 wg_n))) kw_1834) rfl rfl rfl (by decide +kernel) ⟨by decide, by decide⟩) (pp_S (en_ok g) hP hD hS hA hEn [] rfl rfl) rfl rfl hl.1 rfl (lv_room (Nat.le_of_ble_eq_true rfl)) dME_open_236 ⟨by omega, by omega⟩) (fun  u26 H locs hu26 hP hD hS => ?_)
          obtain ⟨s27, pl⟩ := u26
          obtain ⟨⟨eq26, hFc26, -⟩, hO⟩ := hu26
          have hO : okn g T s27 pl := hO
          have hP : va_P g.1 vcl ([] ++ pl) _ := hP
          have hD : va_D _ ([] ++ pl) := hD
          have hFc26 : frm (M_ME_less_1 218) s26 s27 := hFc26
          replace hR := bnd_step hR eq26
          replace hE := bndP_step hE eq26
          have hF := frm_tr hF hFc26 (fun k hk => by unfold M_ME_less_1 at hk; unfold M_ME_open_2; omega)
          refine W.widen (k := 0) (n := 0) (by omega) (by omega) ?_
          refine lv_aload_n hx hb dME_open_239 rfl (lv_at hl 3 rfl) ?_
          refine nw_get (C := "LatticeKeysModel$Secrets") (TT := T_ME) (N := 14) hx hb hts (wg_ft i_ME) hown hK hO k_h0 (kn := 184) (ci := 11) (fl := [(3, 172), (3, 178), (3, 185), (3, 202), (3, 207), (3, 212), (3, 217), (3, 218), (3, 219), (3, 220), (3, 221), (3, 222), (3, 223), (3, 224)]) rfl hP rfl 7 (by decide) (hts _ (wg_t kw_1386)) (fun _ h9 => h9) (cd := (3, 218)) rfl dME_open_240 (fun v26 hv26 => ?_)
          obtain ⟨r27, rfl, kr26⟩ := (show ∃ r : Nat, v26 = .ref r ∧ T r = some 218 from hv26)
          refine lv_aload_n hx hb dME_open_243 rfl (lv_at hl 3 rfl) ?_
          refine nw_get (C := "LatticeKeysModel$Secrets") (TT := T_ME) (N := 14) hx hb hts (wg_ft i_ME) hown hK hO k_h0 (kn := 184) (ci := 11) (fl := [(3, 172), (3, 178), (3, 185), (3, 202), (3, 207), (3, 212), (3, 217), (3, 218), (3, 219), (3, 220), (3, 221), (3, 222), (3, 223), (3, 224)]) rfl hP rfl 12 (by decide) (hts _ (wg_t kw_1391)) (fun _ h9 => h9) (cd := (3, 223)) rfl dME_open_244 (fun v27 hv27 => ?_)
          obtain ⟨r28, rfl, kr27⟩ := (show ∃ r : Nat, v27 = .ref r ∧ T r = some 223 from hv27)
          refine lv_iconst (v := nI 0) hx hb dME_open_247 (by decide) ?_
          refine lv_iconst (v := nI 1) hx hb dME_open_248 (by decide) ?_
          refine mp_v (cx := []) (wr := []) hP hD hS hA [] [] rfl rfl rfl (by decide) (va_runS (As := [.ref r27, .ref r28, .int (nI 0), .int (nI 1)]) (rest := []) F (N_ME_write_1 l g _ T s27 pl hO hU r27 r28 218 223 32 0 kr26 rfl kr27 rfl (by omega) (by omega)) (va_cwS 4 hts (wg_app (wg_c kw_1685 (wg_c kw_1686 (wg_c kw_11 wg_n))) kw_1687) rfl rfl rfl (by decide +kernel) ⟨by decide, by decide⟩) (pp_S (en_ok g) hP hD hS hA hEn [] rfl rfl) rfl rfl hl.1 rfl (lv_room (Nat.le_of_ble_eq_true rfl)) dME_open_249 ⟨by omega, by omega⟩) (fun  u27 H locs hu27 hP hD hS => ?_)
          obtain ⟨s28, pl⟩ := u27
          obtain ⟨⟨eq27, hFc27, -⟩, hO⟩ := hu27
          have hO : okn g T s28 pl := hO
          have hP : va_P g.1 vcl ([] ++ pl) _ := hP
          have hD : va_D _ ([] ++ pl) := hD
          have hFc27 : frm (M_ME_write_1 223) s27 s28 := hFc27
          replace hR := bnd_step hR eq27
          replace hE := bndP_step hE eq27
          have hF := frm_tr hF hFc27 (fun k hk => by unfold M_ME_write_1 at hk; unfold M_ME_open_2; omega)
          refine W.widen (k := 0) (n := 0) (by omega) (by omega) ?_
          refine lv_iconst (v := nI 0) hx hb dME_open_252 (by decide) ?_
          refine lv_istore (lv' := [(7, .int (nI 0)), (6, .int (nI 1568)), (5, .int (nI 4)), (0, .ref h0), (1, .int (nI 2)), (2, .ref dk), (3, .ref ct), (4, .ref to)]) hx hb dME_open_253 hl (by decide) rfl (fun ls hl => ?_)
          have lp23 : ∀ (n23 : Nat) (i23 : Nat) (s29 : Sto) (pl : va_W) (ls : Array Slot) (H : Heap) (locs : List Loc), n23 + i23 = 32 → frm (M_ME_open_2 pt) s s29 → E_ME_open_2_L2 pdk pct pt n23 i23 s29 → F_ME_open_2 pdk pct pt s = F_ME_open_2_L2 pdk pct pt n23 i23 s29 → lv_has ls 9 [(7, .int (nI i23)), (6, .int (nI 1568)), (5, .int (nI 4)), (0, .ref h0), (1, .int (nI 2)), (2, .ref dk), (3, .ref ct), (4, .ref to)] → okn g T s29 pl → va_P g.1 vcl ([] ++ pl) H → va_D A ([] ++ pl) → va_S A s0.heap H locs → W p l e ({ frames := 6, cells := 0, slots := 0, locals := 146 } : Room) s0 m args below meth c H locs 0 0 (MQ below (va_Qv (fun (u : (Sto) × va_W) => (u.1 = F_ME_open_2 pdk pct pt s ∧ frm (M_ME_open_2 pt) s u.1 ∧ True) ∧ okn g T u.1 u.2) (po g.1 vcl A (fun (u : (Sto) × va_W) => [] ++ u.2)) A) args s0 0 0 A) (F0 m 255 ls []) := by
            intro n23
            induction n23 with
            | zero =>
              intro i23 s29 pl ls H locs hm23 hF hE hR hl hO hP hD hS
              refine lv_iload hx hb dME_open_255 (lv_at hl 0 rfl) ?_
              refine lv_bipush (v := nI 32) hx hb dME_open_257 (by decide) ?_
              refine mi_ge (tgt := 289) hx hb dME_open_259 (by decide) (by omega) (by omega) (fun h23 => ?_) (fun h23 => absurd h23 (by omega))
              refine lv_aload_n hx hb dME_open_289 rfl (lv_at hl 3 rfl) ?_
              refine lv_aload_n hx hb dME_open_290 rfl (lv_at hl 3 rfl) ?_
              refine nw_get (C := "LatticeKeysModel$Secrets") (TT := T_ME) (N := 14) hx hb hts (wg_ft i_ME) hown hK hO k_h0 (kn := 184) (ci := 11) (fl := [(3, 172), (3, 178), (3, 185), (3, 202), (3, 207), (3, 212), (3, 217), (3, 218), (3, 219), (3, 220), (3, 221), (3, 222), (3, 223), (3, 224)]) rfl hP rfl 12 (by decide) (hts _ (wg_t kw_1391)) (fun _ h9 => h9) (cd := (3, 223)) rfl dME_open_291 (fun v28 hv28 => ?_)
              obtain ⟨r29, rfl, kr28⟩ := (show ∃ r : Nat, v28 = .ref r ∧ T r = some 223 from hv28)
              refine mp_v (cx := []) (wr := []) hP hD hS hA [] [] rfl rfl rfl (by decide) (va_runV (As := [.ref r29]) (rest := []) F (N_ME_both l g _ T s29 pl hO hU h0 r29 223 32 k_h0 kr28 rfl (by omega) (by omega)) (cwV 1 hts (wg_app (wg_c kw_1805 (wg_c kw_1807 (wg_c ks_67 (wg_c kw_11 wg_n)))) kw_1808) rfl rfl rfl (by decide +kernel) ⟨by decide, by decide⟩) (pn_W "LatticeKeysModel$Secrets" (en_ok g) (ci := 11) (kn := 184) (fl := [(3, 172), (3, 178), (3, 185), (3, 202), (3, 207), (3, 212), (3, 217), (3, 218), (3, 219), (3, 220), (3, 221), (3, 222), (3, 223), (3, 224)]) hK hO k_h0 rfl hP hD hS hA hEn [] rfl rfl rfl) rfl rfl hl.1 rfl (lv_room (Nat.le_of_ble_eq_true rfl)) dME_open_294 ⟨by omega, by omega⟩) (fun  u28 H locs hu28 hP hD hS => ?_)
              obtain ⟨s30, pl⟩ := u28
              obtain ⟨⟨eq28, hFc28, -⟩, hO⟩ := hu28
              have hO : okn g T s30 pl := hO
              have hP : va_P g.1 vcl ([] ++ pl) _ := hP
              have hD : va_D _ ([] ++ pl) := hD
              have hFc28 : frm (M_ME_both) s29 s30 := hFc28
              replace hR := bnd_step hR eq28
              replace hE := bndP_step hE eq28
              have hF := frm_tr hF hFc28 (fun k hk => by unfold M_ME_both at hk; unfold M_ME_open_2; omega)
              refine W.widen (k := 0) (n := 0) (by omega) (by omega) ?_
              refine lv_aload_n hx hb dME_open_297 rfl (lv_at hl 3 rfl) ?_
              refine lv_iload_n hx hb dME_open_298 rfl (lv_at hl 4 rfl) ?_
              refine lv_aload_n hx hb dME_open_299 rfl (lv_at hl 5 rfl) ?_
              refine lv_sipush (v := nI 384) hx hb dME_open_300 (by decide) ?_
              refine lv_iload hx hb dME_open_303 (lv_at hl 2 rfl) ?_
              refine mi_imul hx hb dME_open_305 ?_
              refine mi_as (show nI (384 * 4) = nI 1536 from rfl) ?_
              refine lv_aload_n hx hb dME_open_306 rfl (lv_at hl 3 rfl) ?_
              refine nw_get (C := "LatticeKeysModel$Secrets") (TT := T_ME) (N := 14) hx hb hts (wg_ft i_ME) hown hK hO k_h0 (kn := 184) (ci := 11) (fl := [(3, 172), (3, 178), (3, 185), (3, 202), (3, 207), (3, 212), (3, 217), (3, 218), (3, 219), (3, 220), (3, 221), (3, 222), (3, 223), (3, 224)]) rfl hP rfl 12 (by decide) (hts _ (wg_t kw_1391)) (fun _ h9 => h9) (cd := (3, 223)) rfl dME_open_307 (fun v29 hv29 => ?_)
              obtain ⟨r30, rfl, kr29⟩ := (show ∃ r : Nat, v29 = .ref r ∧ T r = some 223 from hv29)
              refine lv_aload_n hx hb dME_open_310 rfl (lv_at hl 3 rfl) ?_
              refine nw_get (C := "LatticeKeysModel$Secrets") (TT := T_ME) (N := 14) hx hb hts (wg_ft i_ME) hown hK hO k_h0 (kn := 184) (ci := 11) (fl := [(3, 172), (3, 178), (3, 185), (3, 202), (3, 207), (3, 212), (3, 217), (3, 218), (3, 219), (3, 220), (3, 221), (3, 222), (3, 223), (3, 224)]) rfl hP rfl 13 (by decide) (hts _ (wg_t kw_1392)) (fun _ h9 => h9) (cd := (3, 224)) rfl dME_open_311 (fun v30 hv30 => ?_)
              obtain ⟨r31, rfl, kr30⟩ := (show ∃ r : Nat, v30 = .ref r ∧ T r = some 224 from hv30)
              refine mp_v (cx := []) (wr := []) hP hD hS hA [] [] rfl rfl rfl (by decide) (va_runV (As := [.int (nI 2), .ref dk, .int (nI 1536), .ref r30, .ref r31]) (rest := []) F (N_ME_encrypt_2 l g _ T s30 pl hO hU h0 dk r30 r31 pdk 4896 1536 223 32 224 1568 k_h0 k_dk n_dk kr29 rfl kr30 rfl (by omega) (by omega) (by omega) (by omega) (by omega) (by omega) hE.1) (cwV 5 hts (wg_app (wg_c kw_1809 (wg_c kw_1811 (wg_c ks_68 (wg_c kw_11 wg_n)))) kw_1812) rfl rfl rfl (by decide +kernel) ⟨by decide, by decide⟩) (pn_W "LatticeKeysModel$Secrets" (en_ok g) (ci := 11) (kn := 184) (fl := [(3, 172), (3, 178), (3, 185), (3, 202), (3, 207), (3, 212), (3, 217), (3, 218), (3, 219), (3, 220), (3, 221), (3, 222), (3, 223), (3, 224)]) hK hO k_h0 rfl hP hD hS hA hEn [] rfl rfl rfl) rfl rfl hl.1 rfl (lv_room (Nat.le_of_ble_eq_true rfl)) dME_open_314 ⟨by omega, by omega⟩) (fun  u29 H locs hu29 hP hD hS => ?_)
              obtain ⟨s31, pl⟩ := u29
              obtain ⟨⟨eq29, hFc29, -⟩, hO⟩ := hu29
              have hO : okn g T s31 pl := hO
              have hP : va_P g.1 vcl ([] ++ pl) _ := hP
              have hD : va_D _ ([] ++ pl) := hD
              have hFc29 : frm (M_ME_encrypt_2 224) s30 s31 := hFc29
              replace hE := hE.2
              replace hR := bnd_step hR eq29
              replace hE := bndP_step hE eq29
              have hF := frm_tr hF hFc29 (fun k hk => by unfold M_ME_encrypt_2 at hk; unfold M_ME_open_2; omega)
              refine W.widen (k := 0) (n := 0) (by omega) (by omega) ?_
              refine lv_iconst (v := nI 1) hx hb dME_open_317 (by decide) ?_
              refine lv_istore (lv' := [(7, .int (nI 1)), (6, .int (nI 1568)), (5, .int (nI 4)), (0, .ref h0), (1, .int (nI 2)), (2, .ref dk), (3, .ref ct), (4, .ref to)]) hx hb dME_open_318 hl (by decide) rfl (fun ls hl => ?_)
              refine lv_iconst (v := nI 0) hx hb dME_open_320 (by decide) ?_
              refine lv_istore (lv' := [(8, .int (nI 0)), (7, .int (nI 1)), (6, .int (nI 1568)), (5, .int (nI 4)), (0, .ref h0), (1, .int (nI 2)), (2, .ref dk), (3, .ref ct), (4, .ref to)]) hx hb dME_open_321 hl (by decide) rfl (fun ls hl => ?_)
              have lp24 : ∀ (n24 : Nat) (i24 : Nat) (z22 : Int32) (s32 : Sto) (pl : va_W) (ls : Array Slot) (H : Heap) (locs : List Loc), n24 + i24 = 1568 → frm (M_ME_open_2 pt) s s32 → E_ME_open_2_L3 pdk pct pt n24 i24 z22 s32 → F_ME_open_2 pdk pct pt s = F_ME_open_2_L3 pdk pct pt n24 i24 z22 s32 → lv_has ls 9 [(8, .int (nI i24)), (7, .int z22), (6, .int (nI 1568)), (5, .int (nI 4)), (0, .ref h0), (2, .ref dk), (3, .ref ct), (4, .ref to)] → okn g T s32 pl → va_P g.1 vcl ([] ++ pl) H → va_D A ([] ++ pl) → va_S A s0.heap H locs → W p l e ({ frames := 6, cells := 0, slots := 0, locals := 146 } : Room) s0 m args below meth c H locs 0 0 (MQ below (va_Qv (fun (u : (Sto) × va_W) => (u.1 = F_ME_open_2 pdk pct pt s ∧ frm (M_ME_open_2 pt) s u.1 ∧ True) ∧ okn g T u.1 u.2) (po g.1 vcl A (fun (u : (Sto) × va_W) => [] ++ u.2)) A) args s0 0 0 A) (F0 m 323 ls []) := by
                intro n24
                induction n24 with
                | zero =>
                  intro i24 z22 s32 pl ls H locs hm24 hF hE hR hl hO hP hD hS
                  refine lv_iload hx hb dME_open_323 (lv_at hl 0 rfl) ?_
                  refine lv_iload hx hb dME_open_325 (lv_at hl 2 rfl) ?_
                  refine mi_ge (tgt := 360) hx hb dME_open_327 (by decide) (by omega) (by omega) (fun h24 => ?_) (fun h24 => absurd h24 (by omega))
                  refine lv_iconst (v := nI 0) hx hb dME_open_360 (by decide) ?_
                  refine lv_istore (lv' := [(8, .int (nI 0)), (7, .int z22), (6, .int (nI 1568)), (5, .int (nI 4)), (0, .ref h0), (2, .ref dk), (3, .ref ct), (4, .ref to)]) hx hb dME_open_361 hl (by decide) rfl (fun ls hl => ?_)
                  have lp25 : ∀ (n25 : Nat) (i25 : Nat) (s33 : Sto) (pl : va_W) (ls : Array Slot) (H : Heap) (locs : List Loc), n25 + i25 = 32 → frm (M_ME_open_2 pt) s s33 → E_ME_open_2_L4 pdk pct pt z22 n25 i25 s33 → F_ME_open_2 pdk pct pt s = F_ME_open_2_L4 pdk pct pt z22 n25 i25 s33 → lv_has ls 9 [(8, .int (nI i25)), (7, .int z22), (6, .int (nI 1568)), (5, .int (nI 4)), (0, .ref h0), (2, .ref dk), (3, .ref ct), (4, .ref to)] → okn g T s33 pl → va_P g.1 vcl ([] ++ pl) H → va_D A ([] ++ pl) → va_S A s0.heap H locs → W p l e ({ frames := 6, cells := 0, slots := 0, locals := 146 } : Room) s0 m args below meth c H locs 0 0 (MQ below (va_Qv (fun (u : (Sto) × va_W) => (u.1 = F_ME_open_2 pdk pct pt s ∧ frm (M_ME_open_2 pt) s u.1 ∧ True) ∧ okn g T u.1 u.2) (po g.1 vcl A (fun (u : (Sto) × va_W) => [] ++ u.2)) A) args s0 0 0 A) (F0 m 363 ls []) := by
                    intro n25
                    induction n25 with
                    | zero =>
                      intro i25 s33 pl ls H locs hm25 hF hE hR hl hO hP hD hS
                      refine lv_iload hx hb dME_open_363 (lv_at hl 0 rfl) ?_
                      refine lv_bipush (v := nI 32) hx hb dME_open_365 (by decide) ?_
                      refine mi_ge (tgt := 388) hx hb dME_open_367 (by decide) (by omega) (by omega) (fun h25 => ?_) (fun h25 => absurd h25 (by omega))
                      refine lv_iload hx hb dME_open_388 (lv_at hl 1 rfl) ?_
                      refine lv_if_eq (tgt := 394) hx hb dME_open_390 (by decide) (fun h26 => ?_) (fun h26 => ?_)
                      · replace hR := hR.trans (if_pos h26)
                        replace hE := iteP_pos h26 hE
                        refine lv_aload_n hx hb dME_open_394 rfl (lv_at hl 4 rfl) ?_
                        refine nw_get (C := "LatticeKeysModel$Secrets") (TT := T_ME) (N := 14) hx hb hts (wg_ft i_ME) hown hK hO k_h0 (kn := 184) (ci := 11) (fl := [(3, 172), (3, 178), (3, 185), (3, 202), (3, 207), (3, 212), (3, 217), (3, 218), (3, 219), (3, 220), (3, 221), (3, 222), (3, 223), (3, 224)]) rfl hP rfl 0 (by decide) (hts _ (wg_t kw_1379)) (fun _ h9 => h9) (cd := (3, 172)) rfl dME_open_395 (fun v31 hv31 => ?_)
                        obtain ⟨r32, rfl, kr31⟩ := (show ∃ r : Nat, v31 = .ref r ∧ T r = some 172 from hv31)
                        refine mp_v (cx := []) (wr := []) hP hD hS hA [] [] rfl rfl rfl (by decide) (va_runV (As := []) (rest := []) F (N_MS_shake l g _ T s33 pl hO hU r32 kr31) (cwV 0 hts (wg_app (wg_c kw_1660 (wg_c kw_1661 (wg_c kw_1662 (wg_c kw_10 wg_n)))) kw_1663) rfl rfl rfl (by decide +kernel) ⟨by decide, by decide⟩) (pn_W "LatticeKeysModel$Sponge" (en_ok g) (ci := 9) (kn := 172) (fl := [(3, 173), (3, 174), (3, 175), (3, 176), (3, 177), (0, 0), (0, 0), (0, 0)]) hK hO kr31 rfl hP hD hS hA hEn [] rfl rfl rfl) rfl rfl hl.1 rfl (lv_room (Nat.le_of_ble_eq_true rfl)) dME_open_398 ⟨by omega, by omega⟩) (fun  u30 H locs hu30 hP hD hS => ?_)
                        obtain ⟨s34, pl⟩ := u30
                        obtain ⟨⟨eq30, hFc30, ⟨x30, hx_30, hb_30⟩, ⟨x31, hx_31, hb_31⟩, -⟩, hO⟩ := hu30
                        have hO : okn g T s34 pl := hO
                        have hP : va_P g.1 vcl ([] ++ pl) _ := hP
                        have hD : va_D _ ([] ++ pl) := hD
                        have hFc30 : frm (M_MS_shake) s33 s34 := hFc30
                        have hb_30 : x30 = 0 := hb_30
                        have hb_31 : x31 = 136 := hb_31
                        replace hR := bnd_step hR eq30
                        replace hE := bndP_step hE eq30
                        have hF := frm_tr hF hFc30 (fun k hk => by unfold M_MS_shake at hk; unfold M_ME_open_2; omega)
                        refine W.widen (k := 0) (n := 0) (by omega) (by omega) ?_
                        refine lv_aload_n hx hb dME_open_401 rfl (lv_at hl 4 rfl) ?_
                        refine nw_get (C := "LatticeKeysModel$Secrets") (TT := T_ME) (N := 14) hx hb hts (wg_ft i_ME) hown hK hO k_h0 (kn := 184) (ci := 11) (fl := [(3, 172), (3, 178), (3, 185), (3, 202), (3, 207), (3, 212), (3, 217), (3, 218), (3, 219), (3, 220), (3, 221), (3, 222), (3, 223), (3, 224)]) rfl hP rfl 0 (by decide) (hts _ (wg_t kw_1379)) (fun _ h9 => h9) (cd := (3, 172)) rfl dME_open_402 (fun v32 hv32 => ?_)
                        obtain ⟨r33, rfl, kr32⟩ := (show ∃ r : Nat, v32 = .ref r ∧ T r = some 172 from hv32)
                        refine lv_aload_n hx hb dME_open_405 rfl (lv_at hl 5 rfl) ?_
                        refine lv_sipush (v := nI 768) hx hb dME_open_406 (by decide) ?_
                        refine lv_iload hx hb dME_open_409 (lv_at hl 3 rfl) ?_
                        refine mi_imul hx hb dME_open_411 ?_
                        refine mi_as (show nI (768 * 4) = nI 3072 from rfl) ?_
                        refine lv_bipush (v := nI 64) hx hb dME_open_412 (by decide) ?_
                        refine mi_iadd hx hb dME_open_414 ?_
                        refine mi_as (show nI (3072 + 64) = nI 3136 from rfl) ?_
                        refine lv_bipush (v := nI 32) hx hb dME_open_415 (by decide) ?_
                        refine mp_v (cx := []) (wr := []) hP hD hS hA [] [] rfl rfl rfl (by decide) (va_runV (As := [.ref dk, .int (nI 3136), .int (nI 32)]) (rest := []) F (N_MS_puts l g _ T s34 pl hO hU r33 dk pdk 4896 3136 32 x30 x31 kr32 k_dk n_dk hx_30 hx_31 (by omega) (by omega) (by omega) (by omega)) (cwV 3 hts (wg_app (wg_c kw_1611 (wg_c kw_1612 (wg_c kw_1613 (wg_c kw_10 wg_n)))) kw_1614) rfl rfl rfl (by decide +kernel) ⟨by decide, by decide⟩) (pn_W "LatticeKeysModel$Sponge" (en_ok g) (ci := 9) (kn := 172) (fl := [(3, 173), (3, 174), (3, 175), (3, 176), (3, 177), (0, 0), (0, 0), (0, 0)]) hK hO kr32 rfl hP hD hS hA hEn [] rfl rfl rfl) rfl rfl hl.1 rfl (lv_room (Nat.le_of_ble_eq_true rfl)) dME_open_417 ⟨by omega, by omega⟩) (fun  u31 H locs hu31 hP hD hS => ?_)
                        obtain ⟨s35, pl⟩ := u31
                        obtain ⟨⟨eq31, hFc31, ⟨x33, hx_33, hb_33⟩, ⟨x34, hx_34, hb_34⟩, -⟩, hO⟩ := hu31
                        have hO : okn g T s35 pl := hO
                        have hP : va_P g.1 vcl ([] ++ pl) _ := hP
                        have hD : va_D _ ([] ++ pl) := hD
                        have hFc31 : frm (M_MS_puts) s34 s35 := hFc31
                        have hb_33 : x33 < x31 := hb_33
                        have hb_34 : x34 = x31 := hb_34
                        replace hR := bnd_step hR eq31
                        replace hE := bndP_step hE eq31
                        have hF := frm_tr hF hFc31 (fun k hk => by unfold M_MS_puts at hk; unfold M_ME_open_2; omega)
                        refine W.widen (k := 0) (n := 0) (by omega) (by omega) ?_
                        refine lv_aload_n hx hb dME_open_420 rfl (lv_at hl 4 rfl) ?_
                        refine nw_get (C := "LatticeKeysModel$Secrets") (TT := T_ME) (N := 14) hx hb hts (wg_ft i_ME) hown hK hO k_h0 (kn := 184) (ci := 11) (fl := [(3, 172), (3, 178), (3, 185), (3, 202), (3, 207), (3, 212), (3, 217), (3, 218), (3, 219), (3, 220), (3, 221), (3, 222), (3, 223), (3, 224)]) rfl hP rfl 0 (by decide) (hts _ (wg_t kw_1379)) (fun _ h9 => h9) (cd := (3, 172)) rfl dME_open_421 (fun v33 hv33 => ?_)
                        obtain ⟨r34, rfl, kr33⟩ := (show ∃ r : Nat, v33 = .ref r ∧ T r = some 172 from hv33)
                        refine lv_aload_n hx hb dME_open_424 rfl (lv_at hl 6 rfl) ?_
                        refine lv_iconst (v := nI 0) hx hb dME_open_425 (by decide) ?_
                        refine lv_iload hx hb dME_open_426 (lv_at hl 2 rfl) ?_
                        refine mp_v (cx := []) (wr := []) hP hD hS hA [] [] rfl rfl rfl (by decide) (va_runV (As := [.ref ct, .int (nI 0), .int (nI 1568)]) (rest := []) F (N_MS_puts l g _ T s35 pl hO hU r34 ct pct 16384 0 1568 x33 x34 kr33 k_ct n_ct hx_33 hx_34 (by omega) (by omega) (by omega) (by omega)) (cwV 3 hts (wg_app (wg_c kw_1611 (wg_c kw_1612 (wg_c kw_1613 (wg_c kw_10 wg_n)))) kw_1614) rfl rfl rfl (by decide +kernel) ⟨by decide, by decide⟩) (pn_W "LatticeKeysModel$Sponge" (en_ok g) (ci := 9) (kn := 172) (fl := [(3, 173), (3, 174), (3, 175), (3, 176), (3, 177), (0, 0), (0, 0), (0, 0)]) hK hO kr33 rfl hP hD hS hA hEn [] rfl rfl rfl) rfl rfl hl.1 rfl (lv_room (Nat.le_of_ble_eq_true rfl)) dME_open_428 ⟨by omega, by omega⟩) (fun  u32 H locs hu32 hP hD hS => ?_)
                        obtain ⟨s36, pl⟩ := u32
                        obtain ⟨⟨eq32, hFc32, ⟨x36, hx_36, hb_36⟩, ⟨x37, hx_37, hb_37⟩, -⟩, hO⟩ := hu32
                        have hO : okn g T s36 pl := hO
                        have hP : va_P g.1 vcl ([] ++ pl) _ := hP
                        have hD : va_D _ ([] ++ pl) := hD
                        have hFc32 : frm (M_MS_puts) s35 s36 := hFc32
                        have hb_36 : x36 < x34 := hb_36
                        have hb_37 : x37 = x34 := hb_37
                        replace hR := bnd_step hR eq32
                        replace hE := bndP_step hE eq32
                        have hF := frm_tr hF hFc32 (fun k hk => by unfold M_MS_puts at hk; unfold M_ME_open_2; omega)
                        refine W.widen (k := 0) (n := 0) (by omega) (by omega) ?_
                        refine lv_aload_n hx hb dME_open_431 rfl (lv_at hl 4 rfl) ?_
                        refine nw_get (C := "LatticeKeysModel$Secrets") (TT := T_ME) (N := 14) hx hb hts (wg_ft i_ME) hown hK hO k_h0 (kn := 184) (ci := 11) (fl := [(3, 172), (3, 178), (3, 185), (3, 202), (3, 207), (3, 212), (3, 217), (3, 218), (3, 219), (3, 220), (3, 221), (3, 222), (3, 223), (3, 224)]) rfl hP rfl 0 (by decide) (hts _ (wg_t kw_1379)) (fun _ h9 => h9) (cd := (3, 172)) rfl dME_open_432 (fun v34 hv34 => ?_)
                        obtain ⟨r35, rfl, kr34⟩ := (show ∃ r : Nat, v34 = .ref r ∧ T r = some 172 from hv34)
                        refine mp_v (cx := []) (wr := []) hP hD hS hA [] [] rfl rfl rfl (by decide) (va_runV (As := []) (rest := []) F (N_MS_end l g _ T s36 pl hO hU r35 x36 x37 kr34 hx_36 hx_37 (by omega) (by omega)) (cwV 0 hts (wg_app (wg_c kw_1633 (wg_c kw_1634 (wg_c kw_1635 (wg_c kw_10 wg_n)))) kw_1636) rfl rfl rfl (by decide +kernel) ⟨by decide, by decide⟩) (pn_W "LatticeKeysModel$Sponge" (en_ok g) (ci := 9) (kn := 172) (fl := [(3, 173), (3, 174), (3, 175), (3, 176), (3, 177), (0, 0), (0, 0), (0, 0)]) hK hO kr34 rfl hP hD hS hA hEn [] rfl rfl rfl) rfl rfl hl.1 rfl (lv_room (Nat.le_of_ble_eq_true rfl)) dME_open_435 ⟨by omega, by omega⟩) (fun  u33 H locs hu33 hP hD hS => ?_)
                        obtain ⟨s37, pl⟩ := u33
                        obtain ⟨⟨eq33, hFc33, ⟨x39, hx_39, hb_39⟩, ⟨x40, hx_40, hb_40⟩, -⟩, hO⟩ := hu33
                        have hO : okn g T s37 pl := hO
                        have hP : va_P g.1 vcl ([] ++ pl) _ := hP
                        have hD : va_D _ ([] ++ pl) := hD
                        have hFc33 : frm (M_MS_end) s36 s37 := hFc33
                        have hb_39 : x39 = 0 := hb_39
                        have hb_40 : x40 = x37 := hb_40
                        replace hR := bnd_step hR eq33
                        replace hE := bndP_step hE eq33
                        have hF := frm_tr hF hFc33 (fun k hk => by unfold M_MS_end at hk; unfold M_ME_open_2; omega)
                        refine W.widen (k := 0) (n := 0) (by omega) (by omega) ?_
                        refine lv_aload_n hx hb dME_open_438 rfl (lv_at hl 4 rfl) ?_
                        refine nw_get (C := "LatticeKeysModel$Secrets") (TT := T_ME) (N := 14) hx hb hts (wg_ft i_ME) hown hK hO k_h0 (kn := 184) (ci := 11) (fl := [(3, 172), (3, 178), (3, 185), (3, 202), (3, 207), (3, 212), (3, 217), (3, 218), (3, 219), (3, 220), (3, 221), (3, 222), (3, 223), (3, 224)]) rfl hP rfl 0 (by decide) (hts _ (wg_t kw_1379)) (fun _ h9 => h9) (cd := (3, 172)) rfl dME_open_439 (fun v35 hv35 => ?_)
                        obtain ⟨r36, rfl, kr35⟩ := (show ∃ r : Nat, v35 = .ref r ∧ T r = some 172 from hv35)
                        refine lv_aload hx hb dME_open_442 (lv_at hl 7 rfl) ?_
                        refine lv_iconst (v := nI 0) hx hb dME_open_444 (by decide) ?_
                        refine lv_bipush (v := nI 32) hx hb dME_open_445 (by decide) ?_
                        refine mp_v (cx := []) (wr := []) hP hD hS hA [] [] rfl rfl rfl (by decide) (va_runV (As := [.ref to, .int (nI 0), .int (nI 32)]) (rest := []) F (N_MS_take l g _ T s37 pl hO hU r36 to pt 8192 0 32 x39 x40 kr35 k_to n_to hx_39 hx_40 (by omega) (by omega) (by omega) (by omega)) (cwV 3 hts (wg_app (wg_c kw_1637 (wg_c kw_1638 (wg_c kw_1639 (wg_c kw_10 wg_n)))) kw_1640) rfl rfl rfl (by decide +kernel) ⟨by decide, by decide⟩) (pn_W "LatticeKeysModel$Sponge" (en_ok g) (ci := 9) (kn := 172) (fl := [(3, 173), (3, 174), (3, 175), (3, 176), (3, 177), (0, 0), (0, 0), (0, 0)]) hK hO kr35 rfl hP hD hS hA hEn [] rfl rfl rfl) rfl rfl hl.1 rfl (lv_room (Nat.le_of_ble_eq_true rfl)) dME_open_447 ⟨by omega, by omega⟩) (fun  u34 H locs hu34 hP hD hS => ?_)
                        obtain ⟨s38, pl⟩ := u34
                        obtain ⟨⟨eq34, hFc34, ⟨x42, hx_42, hb_42⟩, ⟨x43, hx_43, hb_43⟩, -⟩, hO⟩ := hu34
                        have hO : okn g T s38 pl := hO
                        have hP : va_P g.1 vcl ([] ++ pl) _ := hP
                        have hD : va_D _ ([] ++ pl) := hD
                        have hFc34 : frm (M_MS_take pt) s37 s38 := hFc34
                        have hb_42 : x42 ≤ x40 := hb_42
                        have hb_43 : x43 = x40 := hb_43
                        replace hR := bnd_step hR eq34
                        replace hE := bndP_step hE eq34
                        have hF := frm_tr hF hFc34 (fun k hk => by unfold M_MS_take at hk; unfold M_ME_open_2; omega)
                        refine W.widen (k := 0) (n := 0) (by omega) (by omega) ?_
                        exact mp_vret hx hb hr hlk hP hD hS (s38, pl) ⟨⟨hR.symm, hF, trivial⟩, hO⟩ [] rfl rfl rfl (by omega) (by omega) dME_open_450
                      · replace hR := hR.trans (if_neg h26)
                        replace hE := iteP_neg h26 hE
                        exact mp_vret hx hb hr hlk hP hD hS (s33, pl) ⟨⟨hR.symm, hF, trivial⟩, hO⟩ [] rfl rfl rfl (by omega) (by omega) dME_open_393
                    | succ n25 ih25 =>
                      intro i25 s33 pl ls H locs hm25 hF hE hR hl hO hP hD hS
                      refine lv_iload hx hb dME_open_363 (lv_at hl 0 rfl) ?_
                      refine lv_bipush (v := nI 32) hx hb dME_open_365 (by decide) ?_
                      refine mi_ge (tgt := 388) hx hb dME_open_367 (by decide) (by omega) (by omega) (fun h27 => absurd h27 (by omega)) (fun h27 => ?_)
                      refine lv_aload hx hb dME_open_370 (lv_at hl 7 rfl) ?_
                      refine lv_iload hx hb dME_open_372 (lv_at hl 0 rfl) ?_
                      refine lv_aload_n hx hb dME_open_374 rfl (lv_at hl 4 rfl) ?_
                      refine nw_get (C := "LatticeKeysModel$Secrets") (TT := T_ME) (N := 14) hx hb hts (wg_ft i_ME) hown hK hO k_h0 (kn := 184) (ci := 11) (fl := [(3, 172), (3, 178), (3, 185), (3, 202), (3, 207), (3, 212), (3, 217), (3, 218), (3, 219), (3, 220), (3, 221), (3, 222), (3, 223), (3, 224)]) rfl hP rfl 9 (by decide) (hts _ (wg_t kw_1388)) (fun _ h9 => h9) (cd := (3, 220)) rfl dME_open_375 (fun v36 hv36 => ?_)
                      obtain ⟨r37, rfl, kr36⟩ := (show ∃ r : Nat, v36 = .ref r ∧ T r = some 220 from hv36)
                      refine lv_iload hx hb dME_open_378 (lv_at hl 0 rfl) ?_
                      refine nw_bald hx hb hK hO kr36 (k := 220) rfl hP (by omega) (by omega) dME_open_380 ?_
                      refine nw_bast hx hb hK hO hU k_to (k := pt) n_to hP hD hS (by omega) (by omega) dME_open_381 (fun s39 pl H locs es21 hO hP hD hS => ?_)
                      replace hR := bnd_step hR es21
                      replace hE := bndP_step hE es21
                      have hF := frm_sB hF es21 (by unfold M_ME_open_2; omega)
                      refine mi_iinc (k := 0) (x := i25) (d := 1) (y := i25 + 1) (lv' := [(8, .int (nI (i25 + 1))), (7, .int z22), (6, .int (nI 1568)), (5, .int (nI 4)), (0, .ref h0), (2, .ref dk), (3, .ref ct), (4, .ref to)]) hx hb dME_open_382 hl rfl (by decide) rfl (by decide) rfl (fun ls hl => ?_)
                      refine lv_goto (tgt := 363) hx hb dME_open_385 (by decide) ?_
                      exact ih25 (i25 + 1) s39 pl ls H locs (by omega) hF hE hR (lv_sub hl [0, 1, 2, 3, 4, 5, 6, 7] rfl) hO hP hD hS
                  exact lp25 32 0 s32 pl ls _ _ (by omega) hF hE hR (lv_sub hl [0, 1, 2, 3, 4, 5, 6, 7] rfl) hO hP hD hS
                | succ n24 ih24 =>
                  intro i24 z22 s32 pl ls H locs hm24 hF hE hR hl hO hP hD hS
                  refine lv_iload hx hb dME_open_323 (lv_at hl 0 rfl) ?_
                  refine lv_iload hx hb dME_open_325 (lv_at hl 2 rfl) ?_
                  refine mi_ge (tgt := 360) hx hb dME_open_327 (by decide) (by omega) (by omega) (fun h28 => absurd h28 (by omega)) (fun h28 => ?_)
                  refine lv_iload hx hb dME_open_330 (lv_at hl 1 rfl) ?_
                  refine lv_aload_n hx hb dME_open_332 rfl (lv_at hl 4 rfl) ?_
                  refine nw_get (C := "LatticeKeysModel$Secrets") (TT := T_ME) (N := 14) hx hb hts (wg_ft i_ME) hown hK hO k_h0 (kn := 184) (ci := 11) (fl := [(3, 172), (3, 178), (3, 185), (3, 202), (3, 207), (3, 212), (3, 217), (3, 218), (3, 219), (3, 220), (3, 221), (3, 222), (3, 223), (3, 224)]) rfl hP rfl 13 (by decide) (hts _ (wg_t kw_1392)) (fun _ h9 => h9) (cd := (3, 224)) rfl dME_open_333 (fun v37 hv37 => ?_)
                  obtain ⟨r38, rfl, kr37⟩ := (show ∃ r : Nat, v37 = .ref r ∧ T r = some 224 from hv37)
                  refine lv_iload hx hb dME_open_336 (lv_at hl 0 rfl) ?_
                  refine nw_bald hx hb hK hO kr37 (k := 224) rfl hP (by omega) (by omega) dME_open_338 ?_
                  refine lv_aload_n hx hb dME_open_339 rfl (lv_at hl 6 rfl) ?_
                  refine lv_iload hx hb dME_open_340 (lv_at hl 0 rfl) ?_
                  refine nw_bald hx hb hK hO k_ct (k := pct) n_ct hP (by omega) (by omega) dME_open_342 ?_
                  refine lv_icmp_ne (tgt := 350) hx hb dME_open_343 (by decide) (fun h29 => ?_) (fun h29 => ?_)
                  · replace hR := hR.trans (if_neg h29)
                    replace hE := iteP_neg h29 hE
                    refine lv_iconst (v := nI 0) hx hb dME_open_350 (by decide) ?_
                    refine lv_iand hx hb dME_open_351 ?_
                    refine mi_eqv (fun z23 ez22 => ?_)
                    replace hR := bnd_step hR ez22
                    replace hE := bndP_step hE ez22
                    refine lv_istore (lv' := [(7, .int z23), (8, .int (nI i24)), (6, .int (nI 1568)), (5, .int (nI 4)), (0, .ref h0), (2, .ref dk), (3, .ref ct), (4, .ref to)]) hx hb dME_open_352 hl (by decide) rfl (fun ls hl => ?_)
                    refine mi_iinc (k := 1) (x := i24) (d := 1) (y := i24 + 1) (lv' := [(8, .int (nI (i24 + 1))), (7, .int z23), (6, .int (nI 1568)), (5, .int (nI 4)), (0, .ref h0), (2, .ref dk), (3, .ref ct), (4, .ref to)]) hx hb dME_open_354 hl rfl (by decide) rfl (by decide) rfl (fun ls hl => ?_)
                    refine lv_goto (tgt := 323) hx hb dME_open_357 (by decide) ?_
                    exact ih24 (i24 + 1) z23 s32 pl ls H locs (by omega) hF hE hR (lv_sub hl [0, 1, 2, 3, 4, 5, 6, 7] rfl) hO hP hD hS
                  · replace hR := hR.trans (if_pos h29)
                    replace hE := iteP_pos h29 hE
                    refine lv_iconst (v := nI 1) hx hb dME_open_346 (by decide) ?_
                    refine lv_goto (tgt := 351) hx hb dME_open_347 (by decide) ?_
                    refine lv_iand hx hb dME_open_351 ?_
                    refine mi_eqv (fun z24 ez23 => ?_)
                    replace hR := bnd_step hR ez23
                    replace hE := bndP_step hE ez23
                    refine lv_istore (lv' := [(7, .int z24), (8, .int (nI i24)), (6, .int (nI 1568)), (5, .int (nI 4)), (0, .ref h0), (2, .ref dk), (3, .ref ct), (4, .ref to)]) hx hb dME_open_352 hl (by decide) rfl (fun ls hl => ?_)
                    refine mi_iinc (k := 1) (x := i24) (d := 1) (y := i24 + 1) (lv' := [(8, .int (nI (i24 + 1))), (7, .int z24), (6, .int (nI 1568)), (5, .int (nI 4)), (0, .ref h0), (2, .ref dk), (3, .ref ct), (4, .ref to)]) hx hb dME_open_354 hl rfl (by decide) rfl (by decide) rfl (fun ls hl => ?_)
                    refine lv_goto (tgt := 323) hx hb dME_open_357 (by decide) ?_
                    exact ih24 (i24 + 1) z24 s32 pl ls H locs (by omega) hF hE hR (lv_sub hl [0, 1, 2, 3, 4, 5, 6, 7] rfl) hO hP hD hS
              exact lp24 1568 0 (nI 1) s31 pl ls _ _ (by omega) hF hE hR (lv_sub hl [0, 1, 2, 3, 4, 6, 7, 8] rfl) hO hP hD hS
            | succ n23 ih23 =>
              intro i23 s29 pl ls H locs hm23 hF hE hR hl hO hP hD hS
              refine lv_iload hx hb dME_open_255 (lv_at hl 0 rfl) ?_
              refine lv_bipush (v := nI 32) hx hb dME_open_257 (by decide) ?_
              refine mi_ge (tgt := 289) hx hb dME_open_259 (by decide) (by omega) (by omega) (fun h30 => absurd h30 (by omega)) (fun h30 => ?_)
              refine lv_aload_n hx hb dME_open_262 rfl (lv_at hl 3 rfl) ?_
              refine nw_get (C := "LatticeKeysModel$Secrets") (TT := T_ME) (N := 14) hx hb hts (wg_ft i_ME) hown hK hO k_h0 (kn := 184) (ci := 11) (fl := [(3, 172), (3, 178), (3, 185), (3, 202), (3, 207), (3, 212), (3, 217), (3, 218), (3, 219), (3, 220), (3, 221), (3, 222), (3, 223), (3, 224)]) rfl hP rfl 11 (by decide) (hts _ (wg_t kw_1390)) (fun _ h9 => h9) (cd := (3, 222)) rfl dME_open_263 (fun v38 hv38 => ?_)
              obtain ⟨r39, rfl, kr38⟩ := (show ∃ r : Nat, v38 = .ref r ∧ T r = some 222 from hv38)
              refine lv_iload hx hb dME_open_266 (lv_at hl 0 rfl) ?_
              refine lv_aload_n hx hb dME_open_268 rfl (lv_at hl 5 rfl) ?_
              refine lv_sipush (v := nI 768) hx hb dME_open_269 (by decide) ?_
              refine lv_iload hx hb dME_open_272 (lv_at hl 2 rfl) ?_
              refine mi_imul hx hb dME_open_274 ?_
              refine mi_as (show nI (768 * 4) = nI 3072 from rfl) ?_
              refine lv_bipush (v := nI 32) hx hb dME_open_275 (by decide) ?_
              refine mi_iadd hx hb dME_open_277 ?_
              refine mi_as (show nI (3072 + 32) = nI 3104 from rfl) ?_
              refine lv_iload hx hb dME_open_278 (lv_at hl 0 rfl) ?_
              refine mi_iadd hx hb dME_open_280 ?_
              refine nw_bald hx hb hK hO k_dk (k := pdk) n_dk hP (by omega) (by omega) dME_open_281 ?_
              refine nw_bast hx hb hK hO hU kr38 (k := 222) rfl hP hD hS (by omega) (by omega) dME_open_282 (fun s40 pl H locs es22 hO hP hD hS => ?_)
              replace hR := bnd_step hR es22
              replace hE := bndP_step hE es22
              have hF := frm_sB hF es22 (by unfold M_ME_open_2; omega)
              refine mi_iinc (k := 0) (x := i23) (d := 1) (y := i23 + 1) (lv' := [(7, .int (nI (i23 + 1))), (6, .int (nI 1568)), (5, .int (nI 4)), (0, .ref h0), (1, .int (nI 2)), (2, .ref dk), (3, .ref ct), (4, .ref to)]) hx hb dME_open_283 hl rfl (by decide) rfl (by decide) rfl (fun ls hl => ?_)
              refine lv_goto (tgt := 255) hx hb dME_open_286 (by decide) ?_
              exact ih23 (i23 + 1) s40 pl ls H locs (by omega) hF hE hR (lv_sub hl [0, 1, 2, 3, 4, 5, 6, 7] rfl) hO hP hD hS
          exact lp23 32 0 s28 pl ls _ _ (by omega) hF hE hR (lv_sub hl [0, 1, 2, 3, 4, 5, 6, 7] rfl) hO hP hD hS
        | succ n22 ih22 =>
          intro i22 s26 pl ls H locs hm22 hF hE hR hl hO hP hD hS
          refine lv_iload hx hb dME_open_187 (lv_at hl 0 rfl) ?_
          refine lv_sipush (v := nI 256) hx hb dME_open_189 (by decide) ?_
          refine mi_ge (tgt := 231) hx hb dME_open_192 (by decide) (by omega) (by omega) (fun h31 => absurd h31 (by omega)) (fun h31 => ?_)
          refine lv_aload_n hx hb dME_open_195 rfl (lv_at hl 3 rfl) ?_
          refine nw_get (C := "LatticeKeysModel$Secrets") (TT := T_ME) (N := 14) hx hb hts (wg_ft i_ME) hown hK hO k_h0 (kn := 184) (ci := 11) (fl := [(3, 172), (3, 178), (3, 185), (3, 202), (3, 207), (3, 212), (3, 217), (3, 218), (3, 219), (3, 220), (3, 221), (3, 222), (3, 223), (3, 224)]) rfl hP rfl 7 (by decide) (hts _ (wg_t kw_1386)) (fun _ h9 => h9) (cd := (3, 218)) rfl dME_open_196 (fun v39 hv39 => ?_)
          obtain ⟨r40, rfl, kr39⟩ := (show ∃ r : Nat, v39 = .ref r ∧ T r = some 218 from hv39)
          refine lv_iload hx hb dME_open_199 (lv_at hl 0 rfl) ?_
          refine lv_aload_n hx hb dME_open_201 rfl (lv_at hl 3 rfl) ?_
          refine nw_get (C := "LatticeKeysModel$Secrets") (TT := T_ME) (N := 14) hx hb hts (wg_ft i_ME) hown hK hO k_h0 (kn := 184) (ci := 11) (fl := [(3, 172), (3, 178), (3, 185), (3, 202), (3, 207), (3, 212), (3, 217), (3, 218), (3, 219), (3, 220), (3, 221), (3, 222), (3, 223), (3, 224)]) rfl hP rfl 7 (by decide) (hts _ (wg_t kw_1386)) (fun _ h9 => h9) (cd := (3, 218)) rfl dME_open_202 (fun v40 hv40 => ?_)
          obtain ⟨r41, rfl, kr40⟩ := (show ∃ r : Nat, v40 = .ref r ∧ T r = some 218 from hv40)
          refine lv_iload hx hb dME_open_205 (lv_at hl 0 rfl) ?_
          refine nw_iald hx hb hK hO kr40 (k := 218) rfl hP (by omega) (by omega) dME_open_207 ?_
          refine lv_aload_n hx hb dME_open_208 rfl (lv_at hl 3 rfl) ?_
          refine nw_get (C := "LatticeKeysModel$Secrets") (TT := T_ME) (N := 14) hx hb hts (wg_ft i_ME) hown hK hO k_h0 (kn := 184) (ci := 11) (fl := [(3, 172), (3, 178), (3, 185), (3, 202), (3, 207), (3, 212), (3, 217), (3, 218), (3, 219), (3, 220), (3, 221), (3, 222), (3, 223), (3, 224)]) rfl hP rfl 6 (by decide) (hts _ (wg_t kw_1385)) (fun _ h9 => h9) (cd := (3, 217)) rfl dME_open_209 (fun v41 hv41 => ?_)
          obtain ⟨r42, rfl, kr41⟩ := (show ∃ r : Nat, v41 = .ref r ∧ T r = some 217 from hv41)
          refine lv_iload hx hb dME_open_212 (lv_at hl 0 rfl) ?_
          refine nw_iald hx hb hK hO kr41 (k := 217) rfl hP (by omega) (by omega) dME_open_214 ?_
          refine lv_isub hx hb dME_open_215 ?_
          refine lv_sipush (v := nI 3329) hx hb dME_open_216 (by decide) ?_
          refine lv_iadd hx hb dME_open_219 ?_
          refine lv_sipush (v := nI 3329) hx hb dME_open_220 (by decide) ?_
          refine lv_irem hx hb dME_open_223 (nI_ne0 (by omega) (by omega)) ?_
          refine nw_iast hx hb hK hO hU kr39 (k := 218) rfl hP hD hS (by omega) (by omega) dME_open_224 (fun s41 pl H locs es23 hO hP hD hS => ?_)
          replace hR := bnd_step hR es23
          replace hE := bndP_step hE es23
          have hF := frm_sI hF es23 (by unfold M_ME_open_2; omega)
          refine mi_iinc (k := 0) (x := i22) (d := 1) (y := i22 + 1) (lv' := [(7, .int (nI (i22 + 1))), (6, .int (nI 1568)), (5, .int (nI 4)), (0, .ref h0), (1, .int (nI 2)), (2, .ref dk), (3, .ref ct), (4, .ref to)]) hx hb dME_open_225 hl rfl (by decide) rfl (by decide) rfl (fun ls hl => ?_)
          refine lv_goto (tgt := 187) hx hb dME_open_228 (by decide) ?_
          exact ih22 (i22 + 1) s41 pl ls H locs (by omega) hF hE hR (lv_sub hl [0, 1, 2, 3, 4, 5, 6, 7] rfl) hO hP hD hS
      exact lp22 256 0 s25 pl ls _ _ (by omega) hF hE hR (lv_sub hl [0, 1, 2, 3, 4, 5, 6, 7] rfl) hO hP hD hS
    | succ n21 ih21 =>
      intro i21 s22 pl ls H locs hm21 hF hE hR hl hO hP hD hS
      refine lv_iload hx hb dME_open_23 (lv_at hl 0 rfl) ?_
      refine lv_iload hx hb dME_open_25 (lv_at hl 2 rfl) ?_
      refine mi_ge (tgt := 140) hx hb dME_open_27 (by decide) (by omega) (by omega) (fun h32 => absurd h32 (by omega)) (fun h32 => ?_)
      refine lv_aload_n hx hb dME_open_30 rfl (lv_at hl 6 rfl) ?_
      refine lv_bipush (v := nI 32) hx hb dME_open_31 (by decide) ?_
      refine va_gets hx hb (hEn.2.1 21 _ rfl).1 hS hown (hts _ (wg_t kw_1830)) (fun _ h9 => h9) dME_open_33 ?_
      refine lv_iload_n hx hb dME_open_36 rfl (lv_at hl 4 rfl) ?_
      refine va_ti (v := .int (nI 11)) hx hb (hEn.2.1 21 _ rfl).2 hS (vp_in_nI (by decide) (by decide)) (by decide +kernel) dME_open_37 ?_
      refine mi_imul hx hb dME_open_38 ?_
      refine mi_as (show nI (32 * 11) = nI 352 from rfl) ?_
      refine lv_iload hx hb dME_open_39 (lv_at hl 0 rfl) ?_
      refine mi_imul hx hb dME_open_41 ?_
      refine va_gets hx hb (hEn.2.1 21 _ rfl).1 hS hown (hts _ (wg_t kw_1830)) (fun _ h9 => h9) dME_open_42 ?_
      refine lv_iload_n hx hb dME_open_45 rfl (lv_at hl 4 rfl) ?_
      refine va_ti (v := .int (nI 11)) hx hb (hEn.2.1 21 _ rfl).2 hS (vp_in_nI (by decide) (by decide)) (by decide +kernel) dME_open_46 ?_
      refine lv_aload_n hx hb dME_open_47 rfl (lv_at hl 3 rfl) ?_
      refine nw_get (C := "LatticeKeysModel$Secrets") (TT := T_ME) (N := 14) hx hb hts (wg_ft i_ME) hown hK hO k_h0 (kn := 184) (ci := 11) (fl := [(3, 172), (3, 178), (3, 185), (3, 202), (3, 207), (3, 212), (3, 217), (3, 218), (3, 219), (3, 220), (3, 221), (3, 222), (3, 223), (3, 224)]) rfl hP rfl 3 (by decide) (hts _ (wg_t kw_1382)) (fun _ h9 => h9) (cd := (3, 202)) rfl dME_open_48 (fun v42 hv42 => ?_)
      obtain ⟨r43, rfl, kr42⟩ := (show ∃ r : Nat, v42 = .ref r ∧ T r = some 202 from hv42)
      refine lv_iload hx hb dME_open_51 (lv_at hl 0 rfl) ?_
      refine nw_aald3 hx hb hK hO kr42 (k := 202) (b := 203) rfl hP (by omega) (by omega) dME_open_53 (fun r44 kr43 => ?_)
      have hn21 : nsp (203 + i21) = (0, 256, []) := rows_ok 203 4 (by decide) _ (by omega)
      refine mp_v (cx := []) (wr := []) hP hD hS hA [] [] rfl rfl rfl (by decide) (va_runS (As := [.ref ct, .int (nI (352 * i21)), .int (nI 11), .ref r44]) (rest := []) F (N_ME_read_11 l g _ T s22 pl hO hU ct r44 pct 16384 (352 * i21) (203 + i21) k_ct n_ct kr43 hn21 (by omega) (by omega)) (va_cwS 4 hts (wg_app (wg_c kw_1813 (wg_c kw_1814 (wg_c kw_11 wg_n))) kw_1815) rfl rfl rfl (by decide +kernel) ⟨by decide, by decide⟩) (pp_S (en_ok g) hP hD hS hA hEn [] rfl rfl) rfl rfl hl.1 rfl (lv_room (Nat.le_of_ble_eq_true rfl)) dME_open_54 ⟨by omega, by omega⟩) (fun  u35 H locs hu35 hP hD hS => ?_)
      obtain ⟨s42, pl⟩ := u35
      obtain ⟨⟨eq35, hFc35, -⟩, hO⟩ := hu35
      have hO : okn g T s42 pl := hO
      have hP : va_P g.1 vcl ([] ++ pl) _ := hP
      have hD : va_D _ ([] ++ pl) := hD
      have hFc35 : frm (M_ME_read_11 (203 + i21)) s22 s42 := hFc35
      replace hR := bnd_step hR eq35
      replace hE := bndP_step hE eq35
      have hF := frm_tr hF hFc35 (fun k hk => by unfold M_ME_read_11 at hk; unfold M_ME_open_2; omega)
      refine W.widen (k := 0) (n := 0) (by omega) (by omega) ?_
      refine lv_aload_n hx hb dME_open_57 rfl (lv_at hl 3 rfl) ?_
      refine nw_get (C := "LatticeKeysModel$Secrets") (TT := T_ME) (N := 14) hx hb hts (wg_ft i_ME) hown hK hO k_h0 (kn := 184) (ci := 11) (fl := [(3, 172), (3, 178), (3, 185), (3, 202), (3, 207), (3, 212), (3, 217), (3, 218), (3, 219), (3, 220), (3, 221), (3, 222), (3, 223), (3, 224)]) rfl hP rfl 3 (by decide) (hts _ (wg_t kw_1382)) (fun _ h9 => h9) (cd := (3, 202)) rfl dME_open_58 (fun v43 hv43 => ?_)
      obtain ⟨r45, rfl, kr44⟩ := (show ∃ r : Nat, v43 = .ref r ∧ T r = some 202 from hv43)
      refine lv_iload hx hb dME_open_61 (lv_at hl 0 rfl) ?_
      refine nw_aald3 hx hb hK hO kr44 (k := 202) (b := 203) rfl hP (by omega) (by omega) dME_open_63 (fun r46 kr45 => ?_)
      have hn22 : nsp (203 + i21) = (0, 256, []) := rows_ok 203 4 (by decide) _ (by omega)
      refine va_gets hx hb (hEn.2.1 21 _ rfl).1 hS hown (hts _ (wg_t kw_1830)) (fun _ h9 => h9) dME_open_64 ?_
      refine lv_iload_n hx hb dME_open_67 rfl (lv_at hl 4 rfl) ?_
      refine va_ti (v := .int (nI 11)) hx hb (hEn.2.1 21 _ rfl).2 hS (vp_in_nI (by decide) (by decide)) (by decide +kernel) dME_open_68 ?_
      refine mp_v (cx := []) (wr := []) hP hD hS hA [] [] rfl rfl rfl (by decide) (va_runS (As := [.ref r46, .int (nI 11)]) (rest := []) F (N_ME_more_11 l g _ T s42 pl hO hU r46 (203 + i21) kr45 hn22) (va_cwS 2 hts (wg_app (wg_c kw_1835 (wg_c kw_1836 (wg_c kw_11 wg_n))) kw_1837) rfl rfl rfl (by decide +kernel) ⟨by decide, by decide⟩) (pp_S (en_ok g) hP hD hS hA hEn [] rfl rfl) rfl rfl hl.1 rfl (lv_room (Nat.le_of_ble_eq_true rfl)) dME_open_69 ⟨by omega, by omega⟩) (fun  u36 H locs hu36 hP hD hS => ?_)
      obtain ⟨s43, pl⟩ := u36
      obtain ⟨⟨eq36, hFc36, -⟩, hO⟩ := hu36
      have hO : okn g T s43 pl := hO
      have hP : va_P g.1 vcl ([] ++ pl) _ := hP
      have hD : va_D _ ([] ++ pl) := hD
      have hFc36 : frm (M_ME_more_11 (203 + i21)) s42 s43 := hFc36
      replace hR := bnd_step hR eq36
      replace hE := bndP_step hE eq36
      have hF := frm_tr hF hFc36 (fun k hk => by unfold M_ME_more_11 at hk; unfold M_ME_open_2; omega)
      refine W.widen (k := 0) (n := 0) (by omega) (by omega) ?_
      refine lv_aload_n hx hb dME_open_72 rfl (lv_at hl 3 rfl) ?_
      refine lv_aload_n hx hb dME_open_73 rfl (lv_at hl 3 rfl) ?_
      refine nw_get (C := "LatticeKeysModel$Secrets") (TT := T_ME) (N := 14) hx hb hts (wg_ft i_ME) hown hK hO k_h0 (kn := 184) (ci := 11) (fl := [(3, 172), (3, 178), (3, 185), (3, 202), (3, 207), (3, 212), (3, 217), (3, 218), (3, 219), (3, 220), (3, 221), (3, 222), (3, 223), (3, 224)]) rfl hP rfl 3 (by decide) (hts _ (wg_t kw_1382)) (fun _ h9 => h9) (cd := (3, 202)) rfl dME_open_74 (fun v44 hv44 => ?_)
      obtain ⟨r47, rfl, kr46⟩ := (show ∃ r : Nat, v44 = .ref r ∧ T r = some 202 from hv44)
      refine lv_iload hx hb dME_open_77 (lv_at hl 0 rfl) ?_
      refine nw_aald3 hx hb hK hO kr46 (k := 202) (b := 203) rfl hP (by omega) (by omega) dME_open_79 (fun r48 kr47 => ?_)
      have hn23 : nsp (203 + i21) = (0, 256, []) := rows_ok 203 4 (by decide) _ (by omega)
      refine mp_v (cx := []) (wr := []) hP hD hS hA [] [] rfl rfl rfl (by decide) (va_runV (As := [.ref r48]) (rest := []) F (N_ME_forth l g _ T s43 pl hO hU h0 r48 (203 + i21) k_h0 kr47 hn23) (cwV 1 hts (wg_app (wg_c kw_1668 (wg_c kw_1670 (wg_c ks_57 (wg_c kw_11 wg_n)))) kw_1671) rfl rfl rfl (by decide +kernel) ⟨by decide, by decide⟩) (pn_W "LatticeKeysModel$Secrets" (en_ok g) (ci := 11) (kn := 184) (fl := [(3, 172), (3, 178), (3, 185), (3, 202), (3, 207), (3, 212), (3, 217), (3, 218), (3, 219), (3, 220), (3, 221), (3, 222), (3, 223), (3, 224)]) hK hO k_h0 rfl hP hD hS hA hEn [] rfl rfl rfl) rfl rfl hl.1 rfl (lv_room (Nat.le_of_ble_eq_true rfl)) dME_open_80 ⟨by omega, by omega⟩) (fun  u37 H locs hu37 hP hD hS => ?_)
      obtain ⟨s44, pl⟩ := u37
      obtain ⟨⟨eq37, hFc37, -⟩, hO⟩ := hu37
      have hO : okn g T s44 pl := hO
      have hP : va_P g.1 vcl ([] ++ pl) _ := hP
      have hD : va_D _ ([] ++ pl) := hD
      have hFc37 : frm (M_ME_forth (203 + i21)) s43 s44 := hFc37
      replace hR := bnd_step hR eq37
      replace hE := bndP_step hE eq37
      have hF := frm_tr hF hFc37 (fun k hk => by unfold M_ME_forth at hk; unfold M_ME_open_2; omega)
      refine W.widen (k := 0) (n := 0) (by omega) (by omega) ?_
      refine lv_aload_n hx hb dME_open_83 rfl (lv_at hl 5 rfl) ?_
      refine lv_sipush (v := nI 384) hx hb dME_open_84 (by decide) ?_
      refine lv_iload hx hb dME_open_87 (lv_at hl 0 rfl) ?_
      refine mi_imul hx hb dME_open_89 ?_
      refine lv_bipush (v := nI 12) hx hb dME_open_90 (by decide) ?_
      refine lv_aload_n hx hb dME_open_92 rfl (lv_at hl 3 rfl) ?_
      refine nw_get (C := "LatticeKeysModel$Secrets") (TT := T_ME) (N := 14) hx hb hts (wg_ft i_ME) hown hK hO k_h0 (kn := 184) (ci := 11) (fl := [(3, 172), (3, 178), (3, 185), (3, 202), (3, 207), (3, 212), (3, 217), (3, 218), (3, 219), (3, 220), (3, 221), (3, 222), (3, 223), (3, 224)]) rfl hP rfl 4 (by decide) (hts _ (wg_t kw_1383)) (fun _ h9 => h9) (cd := (3, 207)) rfl dME_open_93 (fun v45 hv45 => ?_)
      obtain ⟨r49, rfl, kr48⟩ := (show ∃ r : Nat, v45 = .ref r ∧ T r = some 207 from hv45)
      refine lv_iload hx hb dME_open_96 (lv_at hl 0 rfl) ?_
      refine nw_aald3 hx hb hK hO kr48 (k := 207) (b := 208) rfl hP (by omega) (by omega) dME_open_98 (fun r50 kr49 => ?_)
      have hn24 : nsp (208 + i21) = (0, 256, []) := rows_ok 208 4 (by decide) _ (by omega)
      refine mp_v (cx := []) (wr := []) hP hD hS hA [] [] rfl rfl rfl (by decide) (va_runS (As := [.ref dk, .int (nI (384 * i21)), .int (nI 12), .ref r50]) (rest := []) F (N_ME_read_12 l g _ T s44 pl hO hU dk r50 pdk 4896 (384 * i21) (208 + i21) k_dk n_dk kr49 hn24 (by omega) (by omega)) (va_cwS 4 hts (wg_app (wg_c kw_1813 (wg_c kw_1814 (wg_c kw_11 wg_n))) kw_1815) rfl rfl rfl (by decide +kernel) ⟨by decide, by decide⟩) (pp_S (en_ok g) hP hD hS hA hEn [] rfl rfl) rfl rfl hl.1 rfl (lv_room (Nat.le_of_ble_eq_true rfl)) dME_open_99 ⟨by omega, by omega⟩) (fun  u38 H locs hu38 hP hD hS => ?_)
      obtain ⟨s45, pl⟩ := u38
      obtain ⟨⟨eq38, hFc38, -⟩, hO⟩ := hu38
      have hO : okn g T s45 pl := hO
      have hP : va_P g.1 vcl ([] ++ pl) _ := hP
      have hD : va_D _ ([] ++ pl) := hD
      have hFc38 : frm (M_ME_read_12 (208 + i21)) s44 s45 := hFc38
      replace hR := bnd_step hR eq38
      replace hE := bndP_step hE eq38
      have hF := frm_tr hF hFc38 (fun k hk => by unfold M_ME_read_12 at hk; unfold M_ME_open_2; omega)
      refine W.widen (k := 0) (n := 0) (by omega) (by omega) ?_
      refine lv_aload_n hx hb dME_open_102 rfl (lv_at hl 3 rfl) ?_
      refine nw_get (C := "LatticeKeysModel$Secrets") (TT := T_ME) (N := 14) hx hb hts (wg_ft i_ME) hown hK hO k_h0 (kn := 184) (ci := 11) (fl := [(3, 172), (3, 178), (3, 185), (3, 202), (3, 207), (3, 212), (3, 217), (3, 218), (3, 219), (3, 220), (3, 221), (3, 222), (3, 223), (3, 224)]) rfl hP rfl 4 (by decide) (hts _ (wg_t kw_1383)) (fun _ h9 => h9) (cd := (3, 207)) rfl dME_open_103 (fun v46 hv46 => ?_)
      obtain ⟨r51, rfl, kr50⟩ := (show ∃ r : Nat, v46 = .ref r ∧ T r = some 207 from hv46)
      refine lv_iload hx hb dME_open_106 (lv_at hl 0 rfl) ?_
      refine nw_aald3 hx hb hK hO kr50 (k := 207) (b := 208) rfl hP (by omega) (by omega) dME_open_108 (fun r52 kr51 => ?_)
      have hn25 : nsp (208 + i21) = (0, 256, []) := rows_ok 208 4 (by decide) _ (by omega)
      refine mp_v (cx := []) (wr := []) hP hD hS hA [] [] rfl rfl rfl (by decide) (va_runS (As := [.ref r52]) (rest := []) F (N_ME_proper l g _ T s45 pl hO hU r52 (208 + i21) kr51 hn25) (va_cwS 1 hts (wg_app (wg_c kw_1816 (wg_c kw_1817 (wg_c kw_11 wg_n))) kw_1818) rfl rfl rfl (by decide +kernel) ⟨by decide, by decide⟩) (pp_S (en_ok g) hP hD hS hA hEn [] rfl rfl) rfl rfl hl.1 rfl (lv_room (Nat.le_of_ble_eq_true rfl)) dME_open_109 ⟨by omega, by omega⟩) (fun  u39 H locs hu39 hP hD hS => ?_)
      obtain ⟨s46, pl⟩ := u39
      obtain ⟨⟨eq39, hFc39, -⟩, hO⟩ := hu39
      have hO : okn g T s46 pl := hO
      have hP : va_P g.1 vcl ([] ++ pl) _ := hP
      have hD : va_D _ ([] ++ pl) := hD
      have hFc39 : frm (M_ME_proper (208 + i21)) s45 s46 := hFc39
      replace hR := bnd_step hR eq39
      replace hE := bndP_step hE eq39
      have hF := frm_tr hF hFc39 (fun k hk => by unfold M_ME_proper at hk; unfold M_ME_open_2; omega)
      refine W.widen (k := 0) (n := 0) (by omega) (by omega) ?_
      refine lv_aload_n hx hb dME_open_112 rfl (lv_at hl 3 rfl) ?_
      refine lv_aload_n hx hb dME_open_113 rfl (lv_at hl 3 rfl) ?_
      refine nw_get (C := "LatticeKeysModel$Secrets") (TT := T_ME) (N := 14) hx hb hts (wg_ft i_ME) hown hK hO k_h0 (kn := 184) (ci := 11) (fl := [(3, 172), (3, 178), (3, 185), (3, 202), (3, 207), (3, 212), (3, 217), (3, 218), (3, 219), (3, 220), (3, 221), (3, 222), (3, 223), (3, 224)]) rfl hP rfl 4 (by decide) (hts _ (wg_t kw_1383)) (fun _ h9 => h9) (cd := (3, 207)) rfl dME_open_114 (fun v47 hv47 => ?_)
      obtain ⟨r53, rfl, kr52⟩ := (show ∃ r : Nat, v47 = .ref r ∧ T r = some 207 from hv47)
      refine lv_iload hx hb dME_open_117 (lv_at hl 0 rfl) ?_
      refine nw_aald3 hx hb hK hO kr52 (k := 207) (b := 208) rfl hP (by omega) (by omega) dME_open_119 (fun r54 kr53 => ?_)
      have hn26 : nsp (208 + i21) = (0, 256, []) := rows_ok 208 4 (by decide) _ (by omega)
      refine lv_aload_n hx hb dME_open_120 rfl (lv_at hl 3 rfl) ?_
      refine nw_get (C := "LatticeKeysModel$Secrets") (TT := T_ME) (N := 14) hx hb hts (wg_ft i_ME) hown hK hO k_h0 (kn := 184) (ci := 11) (fl := [(3, 172), (3, 178), (3, 185), (3, 202), (3, 207), (3, 212), (3, 217), (3, 218), (3, 219), (3, 220), (3, 221), (3, 222), (3, 223), (3, 224)]) rfl hP rfl 3 (by decide) (hts _ (wg_t kw_1382)) (fun _ h9 => h9) (cd := (3, 202)) rfl dME_open_121 (fun v48 hv48 => ?_)
      obtain ⟨r55, rfl, kr54⟩ := (show ∃ r : Nat, v48 = .ref r ∧ T r = some 202 from hv48)
      refine lv_iload hx hb dME_open_124 (lv_at hl 0 rfl) ?_
      refine nw_aald3 hx hb hK hO kr54 (k := 202) (b := 203) rfl hP (by omega) (by omega) dME_open_126 (fun r56 kr55 => ?_)
      have hn27 : nsp (203 + i21) = (0, 256, []) := rows_ok 203 4 (by decide) _ (by omega)
      refine lv_aload_n hx hb dME_open_127 rfl (lv_at hl 3 rfl) ?_
      refine nw_get (C := "LatticeKeysModel$Secrets") (TT := T_ME) (N := 14) hx hb hts (wg_ft i_ME) hown hK hO k_h0 (kn := 184) (ci := 11) (fl := [(3, 172), (3, 178), (3, 185), (3, 202), (3, 207), (3, 212), (3, 217), (3, 218), (3, 219), (3, 220), (3, 221), (3, 222), (3, 223), (3, 224)]) rfl hP rfl 6 (by decide) (hts _ (wg_t kw_1385)) (fun _ h9 => h9) (cd := (3, 217)) rfl dME_open_128 (fun v49 hv49 => ?_)
      obtain ⟨r57, rfl, kr56⟩ := (show ∃ r : Nat, v49 = .ref r ∧ T r = some 217 from hv49)
      refine mp_v (cx := []) (wr := []) hP hD hS hA [] [] rfl rfl rfl (by decide) (va_runV (As := [.ref r54, .ref r56, .ref r57]) (rest := []) F (N_ME_product l g _ T s46 pl hO hU h0 r54 r56 r57 (208 + i21) (203 + i21) 217 k_h0 kr53 hn26 kr55 hn27 kr56 rfl) (cwV 3 hts (wg_app (wg_c kw_1676 (wg_c kw_1678 (wg_c ks_58 (wg_c kw_11 wg_n)))) kw_1679) rfl rfl rfl (by decide +kernel) ⟨by decide, by decide⟩) (pn_W "LatticeKeysModel$Secrets" (en_ok g) (ci := 11) (kn := 184) (fl := [(3, 172), (3, 178), (3, 185), (3, 202), (3, 207), (3, 212), (3, 217), (3, 218), (3, 219), (3, 220), (3, 221), (3, 222), (3, 223), (3, 224)]) hK hO k_h0 rfl hP hD hS hA hEn [] rfl rfl rfl) rfl rfl hl.1 rfl (lv_room (Nat.le_of_ble_eq_true rfl)) dME_open_131 ⟨by omega, by omega⟩) (fun  u40 H locs hu40 hP hD hS => ?_)
      obtain ⟨s47, pl⟩ := u40
      obtain ⟨⟨eq40, hFc40, -⟩, hO⟩ := hu40
      have hO : okn g T s47 pl := hO
      have hP : va_P g.1 vcl ([] ++ pl) _ := hP
      have hD : va_D _ ([] ++ pl) := hD
      have hFc40 : frm (M_ME_product 217) s46 s47 := hFc40
      replace hR := bnd_step hR eq40
      replace hE := bndP_step hE eq40
      have hF := frm_tr hF hFc40 (fun k hk => by unfold M_ME_product at hk; unfold M_ME_open_2; omega)
      refine W.widen (k := 0) (n := 0) (by omega) (by omega) ?_
      refine mi_iinc (k := 0) (x := i21) (d := 1) (y := i21 + 1) (lv' := [(7, .int (nI (i21 + 1))), (6, .int (nI 1568)), (5, .int (nI 4)), (0, .ref h0), (1, .int (nI 2)), (2, .ref dk), (3, .ref ct), (4, .ref to)]) hx hb dME_open_134 hl rfl (by decide) rfl (by decide) rfl (fun ls hl => ?_)
      refine lv_goto (tgt := 23) hx hb dME_open_137 (by decide) ?_
      exact ih21 (i21 + 1) s47 pl ls H locs (by omega) hF hE hR (lv_sub hl [0, 1, 2, 3, 4, 5, 6, 7] rfl) hO hP hD hS
  exact lp21 4 0 s21 pl ls _ _ (by omega) hF hE hR (lv_sub hl [0, 1, 2, 3, 4, 5, 6, 7] rfl) hO hP hD hS
def M_ME_goodOpen_0 (k : Nat) : Prop := (0 : Nat) = 1
noncomputable def F_ME_goodOpen_0_L0 (pek : Nat) : Nat → Nat → Sto → Int32 × Sto
  | 0, i21, s21 => (nI 1, s21)
  | n21 + 1, i21, s21 => bnd (F_M_unpack pek 16384 (12 * i21) 12 s21) fun q21 => if (q21.1) < (nI 3329) then F_ME_goodOpen_0_L0 pek n21 (i21 + 1) q21.2 else (nI 0, q21.2)
noncomputable def F_ME_goodOpen_0 (pek : Nat) (s : Sto) : Int32 × Sto := F_ME_goodOpen_0_L0 pek 512 0 s
set_option maxHeartbeats 8000000 in
set_option maxRecDepth 100000 in
theorem N_ME_goodOpen_0 (l : Launch) (g : Gd) (sz : Nat) (T : TyN) (s : Sto) (pl : va_W) (hO : okn g T s pl) (hU : inj T) (h0 ek : Nat) (pek : Nat) (k_h0 : T h0 = some 184) (k_ek : T ek = some pek) (n_ek : nsp pek = (1, 16384, []))  : Met l y_ME_goodOpen w_ME_goodOpen ({ frames := 1, cells := 0, slots := 0, locals := 24 } : Room) (va_Pc [.ref h0, .int (nI 0), .ref ek] (pr (en g) g.1 vcl sz ([] ++ pl))) (va_Qi (fun (r : Int32) (u : (Int32 × Sto) × va_W) => (u.1 = F_ME_goodOpen_0 pek s ∧ r = u.1.1 ∧ frm (M_ME_goodOpen_0) s u.1.2 ∧ True) ∧ okn g T u.1.2 u.2) (po g.1 vcl (va_A ([] ++ pl) sz) (fun (u : (Int32 × Sto) × va_W) => [] ++ u.2)) (va_A ([] ++ pl) sz)) 0 0 (va_A ([] ++ pl) sz) := by
  refine mc_entry (cc := c_ME_goodOpen) (maxL := 4) (ret := (some .boolean)) (by decide) rfl (Nat.le_of_ble_eq_true rfl) ?_
  intro p e s0 m args below meth c ls F hr hlk hnm hsz hP hD hE hA hl
  obtain ⟨hx, hb, hml, hown, hts⟩ := id F
  have hK := hE.1
  generalize va_A ([] ++ pl) sz = A at hD hE hA ⊢
  have hS : va_S A s0.heap s0.heap [] := va_S.rf
  have hl : lv_has ls 4 [(0, .ref h0), (1, .int (nI 0)), (2, .ref ek)] := hl
  have hR : F_ME_goodOpen_0 pek s = F_ME_goodOpen_0 pek s := rfl
  have hF : frm (M_ME_goodOpen_0) s s := frm_rf
  refine lv_iconst (v := nI 0) hx hb dME_goodOpen_0 (by decide) ?_
  refine lv_istore_n (lv' := [(3, .int (nI 0)), (0, .ref h0), (1, .int (nI 0)), (2, .ref ek)]) hx hb dME_goodOpen_1 rfl hl (by decide) rfl (fun ls hl => ?_)
  have lp21 : ∀ (n21 : Nat) (i21 : Nat) (s21 : Sto) (pl : va_W) (ls : Array Slot) (H : Heap) (locs : List Loc), n21 + i21 = 512 → frm (M_ME_goodOpen_0) s s21 → F_ME_goodOpen_0 pek s = F_ME_goodOpen_0_L0 pek n21 i21 s21 → lv_has ls 4 [(3, .int (nI i21)), (1, .int (nI 0)), (2, .ref ek)] → okn g T s21 pl → va_P g.1 vcl ([] ++ pl) H → va_D A ([] ++ pl) → va_S A s0.heap H locs → W p l e ({ frames := 1, cells := 0, slots := 0, locals := 24 } : Room) s0 m args below meth c H locs 0 0 (MQ below (va_Qi (fun (r : Int32) (u : (Int32 × Sto) × va_W) => (u.1 = F_ME_goodOpen_0 pek s ∧ r = u.1.1 ∧ frm (M_ME_goodOpen_0) s u.1.2 ∧ True) ∧ okn g T u.1.2 u.2) (po g.1 vcl A (fun (u : (Int32 × Sto) × va_W) => [] ++ u.2)) A) args s0 0 0 A) (F0 m 2 ls []) := by
    intro n21
    induction n21 with
    | zero =>
      intro i21 s21 pl ls H locs hm21 hF hR hl hO hP hD hS
      refine lv_iload_n hx hb dME_goodOpen_2 rfl (lv_at hl 0 rfl) ?_
      refine lv_sipush (v := nI 256) hx hb dME_goodOpen_3 (by decide) ?_
      refine va_gets hx hb (hE.2.1 19 _ rfl).1 hS hown (hts _ (wg_t kw_1605)) (fun _ h9 => h9) dME_goodOpen_6 ?_
      refine lv_iload_n hx hb dME_goodOpen_9 rfl (lv_at hl 1 rfl) ?_
      refine va_ti (v := .int (nI 2)) hx hb (hE.2.1 19 _ rfl).2 hS (vp_in_nI (by decide) (by decide)) (by decide +kernel) dME_goodOpen_10 ?_
      refine mi_imul hx hb dME_goodOpen_11 ?_
      refine mi_as (show nI (256 * 2) = nI 512 from rfl) ?_
      refine mi_ge (tgt := 39) hx hb dME_goodOpen_12 (by decide) (by omega) (by omega) (fun h21 => ?_) (fun h21 => absurd h21 (by omega))
      refine lv_iconst (v := nI 1) hx hb dME_goodOpen_39 (by decide) ?_
      exact mp_zret hx hb hr hlk rfl hP hD hS ((nI 1, s21), pl) ⟨⟨hR.symm, rfl, hF, trivial⟩, hO⟩ [] rfl rfl rfl (by omega) (by omega) dME_goodOpen_40
    | succ n21 ih21 =>
      intro i21 s21 pl ls H locs hm21 hF hR hl hO hP hD hS
      refine lv_iload_n hx hb dME_goodOpen_2 rfl (lv_at hl 0 rfl) ?_
      refine lv_sipush (v := nI 256) hx hb dME_goodOpen_3 (by decide) ?_
      refine va_gets hx hb (hE.2.1 19 _ rfl).1 hS hown (hts _ (wg_t kw_1605)) (fun _ h9 => h9) dME_goodOpen_6 ?_
      refine lv_iload_n hx hb dME_goodOpen_9 rfl (lv_at hl 1 rfl) ?_
      refine va_ti (v := .int (nI 2)) hx hb (hE.2.1 19 _ rfl).2 hS (vp_in_nI (by decide) (by decide)) (by decide +kernel) dME_goodOpen_10 ?_
      refine mi_imul hx hb dME_goodOpen_11 ?_
      refine mi_as (show nI (256 * 2) = nI 512 from rfl) ?_
      refine mi_ge (tgt := 39) hx hb dME_goodOpen_12 (by decide) (by omega) (by omega) (fun h22 => absurd h22 (by omega)) (fun h22 => ?_)
      refine lv_aload_n hx hb dME_goodOpen_15 rfl (lv_at hl 2 rfl) ?_
      refine lv_bipush (v := nI 12) hx hb dME_goodOpen_16 (by decide) ?_
      refine lv_iload_n hx hb dME_goodOpen_18 rfl (lv_at hl 0 rfl) ?_
      refine mi_imul hx hb dME_goodOpen_19 ?_
      refine lv_bipush (v := nI 12) hx hb dME_goodOpen_20 (by decide) ?_
      refine mp_i (cx := []) (wr := []) hP hD hS hA [] [] rfl rfl rfl (by decide) (va_runSN (As := [.ref ek, .int (nI (12 * i21)), .int (nI 12)]) (rest := []) F (N_M_unpack l g _ T s21 pl hO hU ek pek 16384 (12 * i21) 12 k_ek n_ek (by omega) (by omega) (by omega)) ⟨va_cnB 3 hts (wg_in kw_1667) rfl rfl rfl (hE.2.2.2.2.2.2.2.1) (hts _ (wg_t kw_9)) (by decide +kernel) ⟨by decide, by decide⟩, hts _ (wg_t kw_1666), trivial⟩ (pp_S (en_ok g) hP hD hS hA hE [] rfl rfl) rfl rfl hl.1 rfl (lv_room (Nat.le_of_ble_eq_true rfl)) dME_goodOpen_22 ⟨by omega, by omega⟩) (fun r21 u21 H locs hu21 hP hD hS => ?_)
      obtain ⟨q21, pl⟩ := u21
      obtain ⟨⟨eq21, rfl, hFc21, -⟩, hO⟩ := hu21
      have hO : okn g T q21.2 pl := hO
      have hP : va_P g.1 vcl ([] ++ pl) _ := hP
      have hD : va_D _ ([] ++ pl) := hD
      have hFc21 : frm (M_M_unpack) s21 q21.2 := hFc21
      replace hR := bnd_step hR eq21
      have hF := frm_tr hF hFc21 (fun k hk => by unfold M_M_unpack at hk; unfold M_ME_goodOpen_0; omega)
      refine W.widen (k := 0) (n := 0) (by omega) (by omega) ?_
      refine lv_sipush (v := nI 3329) hx hb dME_goodOpen_25 (by decide) ?_
      refine lv_icmp_lt (tgt := 33) hx hb dME_goodOpen_28 (by decide) (fun h23 => ?_) (fun h23 => ?_)
      · replace hR := hR.trans (if_pos h23)
        refine mi_iinc (k := 0) (x := i21) (d := 1) (y := i21 + 1) (lv' := [(3, .int (nI (i21 + 1))), (1, .int (nI 0)), (2, .ref ek)]) hx hb dME_goodOpen_33 hl rfl (by decide) rfl (by decide) rfl (fun ls hl => ?_)
        refine lv_goto (tgt := 2) hx hb dME_goodOpen_36 (by decide) ?_
        exact ih21 (i21 + 1) q21.2 pl ls H locs (by omega) hF hR (lv_sub hl [0, 1, 2] rfl) hO hP hD hS
      · replace hR := hR.trans (if_neg h23)
        refine lv_iconst (v := nI 0) hx hb dME_goodOpen_31 (by decide) ?_
        exact mp_zret hx hb hr hlk rfl hP hD hS ((nI 0, q21.2), pl) ⟨⟨hR.symm, rfl, hF, trivial⟩, hO⟩ [] rfl rfl rfl (by omega) (by omega) dME_goodOpen_32
  exact lp21 512 0 s pl ls _ _ (by omega) hF hR (lv_sub hl [0, 2, 3] rfl) hO hP hD hS
def M_ME_goodOpen_1 (k : Nat) : Prop := (0 : Nat) = 1
noncomputable def F_ME_goodOpen_1_L0 (pek : Nat) : Nat → Nat → Sto → Int32 × Sto
  | 0, i21, s21 => (nI 1, s21)
  | n21 + 1, i21, s21 => bnd (F_M_unpack pek 16384 (12 * i21) 12 s21) fun q21 => if (q21.1) < (nI 3329) then F_ME_goodOpen_1_L0 pek n21 (i21 + 1) q21.2 else (nI 0, q21.2)
noncomputable def F_ME_goodOpen_1 (pek : Nat) (s : Sto) : Int32 × Sto := F_ME_goodOpen_1_L0 pek 768 0 s
set_option maxHeartbeats 8000000 in
set_option maxRecDepth 100000 in
theorem N_ME_goodOpen_1 (l : Launch) (g : Gd) (sz : Nat) (T : TyN) (s : Sto) (pl : va_W) (hO : okn g T s pl) (hU : inj T) (h0 ek : Nat) (pek : Nat) (k_h0 : T h0 = some 184) (k_ek : T ek = some pek) (n_ek : nsp pek = (1, 16384, []))  : Met l y_ME_goodOpen w_ME_goodOpen ({ frames := 1, cells := 0, slots := 0, locals := 24 } : Room) (va_Pc [.ref h0, .int (nI 1), .ref ek] (pr (en g) g.1 vcl sz ([] ++ pl))) (va_Qi (fun (r : Int32) (u : (Int32 × Sto) × va_W) => (u.1 = F_ME_goodOpen_1 pek s ∧ r = u.1.1 ∧ frm (M_ME_goodOpen_1) s u.1.2 ∧ True) ∧ okn g T u.1.2 u.2) (po g.1 vcl (va_A ([] ++ pl) sz) (fun (u : (Int32 × Sto) × va_W) => [] ++ u.2)) (va_A ([] ++ pl) sz)) 0 0 (va_A ([] ++ pl) sz) := by
  refine mc_entry (cc := c_ME_goodOpen) (maxL := 4) (ret := (some .boolean)) (by decide) rfl (Nat.le_of_ble_eq_true rfl) ?_
  intro p e s0 m args below meth c ls F hr hlk hnm hsz hP hD hE hA hl
  obtain ⟨hx, hb, hml, hown, hts⟩ := id F
  have hK := hE.1
  generalize va_A ([] ++ pl) sz = A at hD hE hA ⊢
  have hS : va_S A s0.heap s0.heap [] := va_S.rf
  have hl : lv_has ls 4 [(0, .ref h0), (1, .int (nI 1)), (2, .ref ek)] := hl
  have hR : F_ME_goodOpen_1 pek s = F_ME_goodOpen_1 pek s := rfl
  have hF : frm (M_ME_goodOpen_1) s s := frm_rf
  refine lv_iconst (v := nI 0) hx hb dME_goodOpen_0 (by decide) ?_
  refine lv_istore_n (lv' := [(3, .int (nI 0)), (0, .ref h0), (1, .int (nI 1)), (2, .ref ek)]) hx hb dME_goodOpen_1 rfl hl (by decide) rfl (fun ls hl => ?_)
  have lp21 : ∀ (n21 : Nat) (i21 : Nat) (s21 : Sto) (pl : va_W) (ls : Array Slot) (H : Heap) (locs : List Loc), n21 + i21 = 768 → frm (M_ME_goodOpen_1) s s21 → F_ME_goodOpen_1 pek s = F_ME_goodOpen_1_L0 pek n21 i21 s21 → lv_has ls 4 [(3, .int (nI i21)), (1, .int (nI 1)), (2, .ref ek)] → okn g T s21 pl → va_P g.1 vcl ([] ++ pl) H → va_D A ([] ++ pl) → va_S A s0.heap H locs → W p l e ({ frames := 1, cells := 0, slots := 0, locals := 24 } : Room) s0 m args below meth c H locs 0 0 (MQ below (va_Qi (fun (r : Int32) (u : (Int32 × Sto) × va_W) => (u.1 = F_ME_goodOpen_1 pek s ∧ r = u.1.1 ∧ frm (M_ME_goodOpen_1) s u.1.2 ∧ True) ∧ okn g T u.1.2 u.2) (po g.1 vcl A (fun (u : (Int32 × Sto) × va_W) => [] ++ u.2)) A) args s0 0 0 A) (F0 m 2 ls []) := by
    intro n21
    induction n21 with
    | zero =>
      intro i21 s21 pl ls H locs hm21 hF hR hl hO hP hD hS
      refine lv_iload_n hx hb dME_goodOpen_2 rfl (lv_at hl 0 rfl) ?_
      refine lv_sipush (v := nI 256) hx hb dME_goodOpen_3 (by decide) ?_
      refine va_gets hx hb (hE.2.1 19 _ rfl).1 hS hown (hts _ (wg_t kw_1605)) (fun _ h9 => h9) dME_goodOpen_6 ?_
      refine lv_iload_n hx hb dME_goodOpen_9 rfl (lv_at hl 1 rfl) ?_
      refine va_ti (v := .int (nI 3)) hx hb (hE.2.1 19 _ rfl).2 hS (vp_in_nI (by decide) (by decide)) (by decide +kernel) dME_goodOpen_10 ?_
      refine mi_imul hx hb dME_goodOpen_11 ?_
      refine mi_as (show nI (256 * 3) = nI 768 from rfl) ?_
      refine mi_ge (tgt := 39) hx hb dME_goodOpen_12 (by decide) (by omega) (by omega) (fun h21 => ?_) (fun h21 => absurd h21 (by omega))
      refine lv_iconst (v := nI 1) hx hb dME_goodOpen_39 (by decide) ?_
      exact mp_zret hx hb hr hlk rfl hP hD hS ((nI 1, s21), pl) ⟨⟨hR.symm, rfl, hF, trivial⟩, hO⟩ [] rfl rfl rfl (by omega) (by omega) dME_goodOpen_40
    | succ n21 ih21 =>
      intro i21 s21 pl ls H locs hm21 hF hR hl hO hP hD hS
      refine lv_iload_n hx hb dME_goodOpen_2 rfl (lv_at hl 0 rfl) ?_
      refine lv_sipush (v := nI 256) hx hb dME_goodOpen_3 (by decide) ?_
      refine va_gets hx hb (hE.2.1 19 _ rfl).1 hS hown (hts _ (wg_t kw_1605)) (fun _ h9 => h9) dME_goodOpen_6 ?_
      refine lv_iload_n hx hb dME_goodOpen_9 rfl (lv_at hl 1 rfl) ?_
      refine va_ti (v := .int (nI 3)) hx hb (hE.2.1 19 _ rfl).2 hS (vp_in_nI (by decide) (by decide)) (by decide +kernel) dME_goodOpen_10 ?_
      refine mi_imul hx hb dME_goodOpen_11 ?_
      refine mi_as (show nI (256 * 3) = nI 768 from rfl) ?_
      refine mi_ge (tgt := 39) hx hb dME_goodOpen_12 (by decide) (by omega) (by omega) (fun h22 => absurd h22 (by omega)) (fun h22 => ?_)
      refine lv_aload_n hx hb dME_goodOpen_15 rfl (lv_at hl 2 rfl) ?_
      refine lv_bipush (v := nI 12) hx hb dME_goodOpen_16 (by decide) ?_
      refine lv_iload_n hx hb dME_goodOpen_18 rfl (lv_at hl 0 rfl) ?_
      refine mi_imul hx hb dME_goodOpen_19 ?_
      refine lv_bipush (v := nI 12) hx hb dME_goodOpen_20 (by decide) ?_
      refine mp_i (cx := []) (wr := []) hP hD hS hA [] [] rfl rfl rfl (by decide) (va_runSN (As := [.ref ek, .int (nI (12 * i21)), .int (nI 12)]) (rest := []) F (N_M_unpack l g _ T s21 pl hO hU ek pek 16384 (12 * i21) 12 k_ek n_ek (by omega) (by omega) (by omega)) ⟨va_cnB 3 hts (wg_in kw_1667) rfl rfl rfl (hE.2.2.2.2.2.2.2.1) (hts _ (wg_t kw_9)) (by decide +kernel) ⟨by decide, by decide⟩, hts _ (wg_t kw_1666), trivial⟩ (pp_S (en_ok g) hP hD hS hA hE [] rfl rfl) rfl rfl hl.1 rfl (lv_room (Nat.le_of_ble_eq_true rfl)) dME_goodOpen_22 ⟨by omega, by omega⟩) (fun r21 u21 H locs hu21 hP hD hS => ?_)
      obtain ⟨q21, pl⟩ := u21
      obtain ⟨⟨eq21, rfl, hFc21, -⟩, hO⟩ := hu21
      have hO : okn g T q21.2 pl := hO
      have hP : va_P g.1 vcl ([] ++ pl) _ := hP
      have hD : va_D _ ([] ++ pl) := hD
      have hFc21 : frm (M_M_unpack) s21 q21.2 := hFc21
      replace hR := bnd_step hR eq21
      have hF := frm_tr hF hFc21 (fun k hk => by unfold M_M_unpack at hk; unfold M_ME_goodOpen_1; omega)
      refine W.widen (k := 0) (n := 0) (by omega) (by omega) ?_
      refine lv_sipush (v := nI 3329) hx hb dME_goodOpen_25 (by decide) ?_
      refine lv_icmp_lt (tgt := 33) hx hb dME_goodOpen_28 (by decide) (fun h23 => ?_) (fun h23 => ?_)
      · replace hR := hR.trans (if_pos h23)
        refine mi_iinc (k := 0) (x := i21) (d := 1) (y := i21 + 1) (lv' := [(3, .int (nI (i21 + 1))), (1, .int (nI 1)), (2, .ref ek)]) hx hb dME_goodOpen_33 hl rfl (by decide) rfl (by decide) rfl (fun ls hl => ?_)
        refine lv_goto (tgt := 2) hx hb dME_goodOpen_36 (by decide) ?_
        exact ih21 (i21 + 1) q21.2 pl ls H locs (by omega) hF hR (lv_sub hl [0, 1, 2] rfl) hO hP hD hS
      · replace hR := hR.trans (if_neg h23)
        refine lv_iconst (v := nI 0) hx hb dME_goodOpen_31 (by decide) ?_
        exact mp_zret hx hb hr hlk rfl hP hD hS ((nI 0, q21.2), pl) ⟨⟨hR.symm, rfl, hF, trivial⟩, hO⟩ [] rfl rfl rfl (by omega) (by omega) dME_goodOpen_32
  exact lp21 768 0 s pl ls _ _ (by omega) hF hR (lv_sub hl [0, 2, 3] rfl) hO hP hD hS
def M_ME_goodOpen_2 (k : Nat) : Prop := (0 : Nat) = 1
noncomputable def F_ME_goodOpen_2_L0 (pek : Nat) : Nat → Nat → Sto → Int32 × Sto
  | 0, i21, s21 => (nI 1, s21)
  | n21 + 1, i21, s21 => bnd (F_M_unpack pek 16384 (12 * i21) 12 s21) fun q21 => if (q21.1) < (nI 3329) then F_ME_goodOpen_2_L0 pek n21 (i21 + 1) q21.2 else (nI 0, q21.2)
noncomputable def F_ME_goodOpen_2 (pek : Nat) (s : Sto) : Int32 × Sto := F_ME_goodOpen_2_L0 pek 1024 0 s
set_option maxHeartbeats 8000000 in
set_option maxRecDepth 100000 in
theorem N_ME_goodOpen_2 (l : Launch) (g : Gd) (sz : Nat) (T : TyN) (s : Sto) (pl : va_W) (hO : okn g T s pl) (hU : inj T) (h0 ek : Nat) (pek : Nat) (k_h0 : T h0 = some 184) (k_ek : T ek = some pek) (n_ek : nsp pek = (1, 16384, []))  : Met l y_ME_goodOpen w_ME_goodOpen ({ frames := 1, cells := 0, slots := 0, locals := 24 } : Room) (va_Pc [.ref h0, .int (nI 2), .ref ek] (pr (en g) g.1 vcl sz ([] ++ pl))) (va_Qi (fun (r : Int32) (u : (Int32 × Sto) × va_W) => (u.1 = F_ME_goodOpen_2 pek s ∧ r = u.1.1 ∧ frm (M_ME_goodOpen_2) s u.1.2 ∧ True) ∧ okn g T u.1.2 u.2) (po g.1 vcl (va_A ([] ++ pl) sz) (fun (u : (Int32 × Sto) × va_W) => [] ++ u.2)) (va_A ([] ++ pl) sz)) 0 0 (va_A ([] ++ pl) sz) := by
  refine mc_entry (cc := c_ME_goodOpen) (maxL := 4) (ret := (some .boolean)) (by decide) rfl (Nat.le_of_ble_eq_true rfl) ?_
  intro p e s0 m args below meth c ls F hr hlk hnm hsz hP hD hE hA hl
  obtain ⟨hx, hb, hml, hown, hts⟩ := id F
  have hK := hE.1
  generalize va_A ([] ++ pl) sz = A at hD hE hA ⊢
  have hS : va_S A s0.heap s0.heap [] := va_S.rf
  have hl : lv_has ls 4 [(0, .ref h0), (1, .int (nI 2)), (2, .ref ek)] := hl
  have hR : F_ME_goodOpen_2 pek s = F_ME_goodOpen_2 pek s := rfl
  have hF : frm (M_ME_goodOpen_2) s s := frm_rf
  refine lv_iconst (v := nI 0) hx hb dME_goodOpen_0 (by decide) ?_
  refine lv_istore_n (lv' := [(3, .int (nI 0)), (0, .ref h0), (1, .int (nI 2)), (2, .ref ek)]) hx hb dME_goodOpen_1 rfl hl (by decide) rfl (fun ls hl => ?_)
  have lp21 : ∀ (n21 : Nat) (i21 : Nat) (s21 : Sto) (pl : va_W) (ls : Array Slot) (H : Heap) (locs : List Loc), n21 + i21 = 1024 → frm (M_ME_goodOpen_2) s s21 → F_ME_goodOpen_2 pek s = F_ME_goodOpen_2_L0 pek n21 i21 s21 → lv_has ls 4 [(3, .int (nI i21)), (1, .int (nI 2)), (2, .ref ek)] → okn g T s21 pl → va_P g.1 vcl ([] ++ pl) H → va_D A ([] ++ pl) → va_S A s0.heap H locs → W p l e ({ frames := 1, cells := 0, slots := 0, locals := 24 } : Room) s0 m args below meth c H locs 0 0 (MQ below (va_Qi (fun (r : Int32) (u : (Int32 × Sto) × va_W) => (u.1 = F_ME_goodOpen_2 pek s ∧ r = u.1.1 ∧ frm (M_ME_goodOpen_2) s u.1.2 ∧ True) ∧ okn g T u.1.2 u.2) (po g.1 vcl A (fun (u : (Int32 × Sto) × va_W) => [] ++ u.2)) A) args s0 0 0 A) (F0 m 2 ls []) := by
    intro n21
    induction n21 with
    | zero =>
      intro i21 s21 pl ls H locs hm21 hF hR hl hO hP hD hS
      refine lv_iload_n hx hb dME_goodOpen_2 rfl (lv_at hl 0 rfl) ?_
      refine lv_sipush (v := nI 256) hx hb dME_goodOpen_3 (by decide) ?_
      refine va_gets hx hb (hE.2.1 19 _ rfl).1 hS hown (hts _ (wg_t kw_1605)) (fun _ h9 => h9) dME_goodOpen_6 ?_
      refine lv_iload_n hx hb dME_goodOpen_9 rfl (lv_at hl 1 rfl) ?_
      refine va_ti (v := .int (nI 4)) hx hb (hE.2.1 19 _ rfl).2 hS (vp_in_nI (by decide) (by decide)) (by decide +kernel) dME_goodOpen_10 ?_
      refine mi_imul hx hb dME_goodOpen_11 ?_
      refine mi_as (show nI (256 * 4) = nI 1024 from rfl) ?_
      refine mi_ge (tgt := 39) hx hb dME_goodOpen_12 (by decide) (by omega) (by omega) (fun h21 => ?_) (fun h21 => absurd h21 (by omega))
      refine lv_iconst (v := nI 1) hx hb dME_goodOpen_39 (by decide) ?_
      exact mp_zret hx hb hr hlk rfl hP hD hS ((nI 1, s21), pl) ⟨⟨hR.symm, rfl, hF, trivial⟩, hO⟩ [] rfl rfl rfl (by omega) (by omega) dME_goodOpen_40
    | succ n21 ih21 =>
      intro i21 s21 pl ls H locs hm21 hF hR hl hO hP hD hS
      refine lv_iload_n hx hb dME_goodOpen_2 rfl (lv_at hl 0 rfl) ?_
      refine lv_sipush (v := nI 256) hx hb dME_goodOpen_3 (by decide) ?_
      refine va_gets hx hb (hE.2.1 19 _ rfl).1 hS hown (hts _ (wg_t kw_1605)) (fun _ h9 => h9) dME_goodOpen_6 ?_
      refine lv_iload_n hx hb dME_goodOpen_9 rfl (lv_at hl 1 rfl) ?_
      refine va_ti (v := .int (nI 4)) hx hb (hE.2.1 19 _ rfl).2 hS (vp_in_nI (by decide) (by decide)) (by decide +kernel) dME_goodOpen_10 ?_
      refine mi_imul hx hb dME_goodOpen_11 ?_
      refine mi_as (show nI (256 * 4) = nI 1024 from rfl) ?_
      refine mi_ge (tgt := 39) hx hb dME_goodOpen_12 (by decide) (by omega) (by omega) (fun h22 => absurd h22 (by omega)) (fun h22 => ?_)
      refine lv_aload_n hx hb dME_goodOpen_15 rfl (lv_at hl 2 rfl) ?_
      refine lv_bipush (v := nI 12) hx hb dME_goodOpen_16 (by decide) ?_
      refine lv_iload_n hx hb dME_goodOpen_18 rfl (lv_at hl 0 rfl) ?_
      refine mi_imul hx hb dME_goodOpen_19 ?_
      refine lv_bipush (v := nI 12) hx hb dME_goodOpen_20 (by decide) ?_
      refine mp_i (cx := []) (wr := []) hP hD hS hA [] [] rfl rfl rfl (by decide) (va_runSN (As := [.ref ek, .int (nI (12 * i21)), .int (nI 12)]) (rest := []) F (N_M_unpack l g _ T s21 pl hO hU ek pek 16384 (12 * i21) 12 k_ek n_ek (by omega) (by omega) (by omega)) ⟨va_cnB 3 hts (wg_in kw_1667) rfl rfl rfl (hE.2.2.2.2.2.2.2.1) (hts _ (wg_t kw_9)) (by decide +kernel) ⟨by decide, by decide⟩, hts _ (wg_t kw_1666), trivial⟩ (pp_S (en_ok g) hP hD hS hA hE [] rfl rfl) rfl rfl hl.1 rfl (lv_room (Nat.le_of_ble_eq_true rfl)) dME_goodOpen_22 ⟨by omega, by omega⟩) (fun r21 u21 H locs hu21 hP hD hS => ?_)
      obtain ⟨q21, pl⟩ := u21
      obtain ⟨⟨eq21, rfl, hFc21, -⟩, hO⟩ := hu21
      have hO : okn g T q21.2 pl := hO
      have hP : va_P g.1 vcl ([] ++ pl) _ := hP
      have hD : va_D _ ([] ++ pl) := hD
      have hFc21 : frm (M_M_unpack) s21 q21.2 := hFc21
      replace hR := bnd_step hR eq21
      have hF := frm_tr hF hFc21 (fun k hk => by unfold M_M_unpack at hk; unfold M_ME_goodOpen_2; omega)
      refine W.widen (k := 0) (n := 0) (by omega) (by omega) ?_
      refine lv_sipush (v := nI 3329) hx hb dME_goodOpen_25 (by decide) ?_
      refine lv_icmp_lt (tgt := 33) hx hb dME_goodOpen_28 (by decide) (fun h23 => ?_) (fun h23 => ?_)
      · replace hR := hR.trans (if_pos h23)
        refine mi_iinc (k := 0) (x := i21) (d := 1) (y := i21 + 1) (lv' := [(3, .int (nI (i21 + 1))), (1, .int (nI 2)), (2, .ref ek)]) hx hb dME_goodOpen_33 hl rfl (by decide) rfl (by decide) rfl (fun ls hl => ?_)
        refine lv_goto (tgt := 2) hx hb dME_goodOpen_36 (by decide) ?_
        exact ih21 (i21 + 1) q21.2 pl ls H locs (by omega) hF hR (lv_sub hl [0, 1, 2] rfl) hO hP hD hS
      · replace hR := hR.trans (if_neg h23)
        refine lv_iconst (v := nI 0) hx hb dME_goodOpen_31 (by decide) ?_
        exact mp_zret hx hb hr hlk rfl hP hD hS ((nI 0, q21.2), pl) ⟨⟨hR.symm, rfl, hF, trivial⟩, hO⟩ [] rfl rfl rfl (by omega) (by omega) dME_goodOpen_32
  exact lp21 1024 0 s pl ls _ _ (by omega) hF hR (lv_sub hl [0, 2, 3] rfl) hO hP hD hS
def M_ME_goodHidden_0 (k : Nat) : Prop := k = 172 ∨ k = 222 ∨ (0 : Nat) = 1
noncomputable def F_ME_goodHidden_0_L0 (pdk : Nat) : Nat → Nat → Sto → Int32 × Sto
  | 0, i21, s22 => (nI 1, s22)
  | n21 + 1, i21, s22 => if (s22.1 222 i21) = (s22.1 pdk (1568 + i21)) then F_ME_goodHidden_0_L0 pdk n21 (i21 + 1) s22 else (nI 0, s22)
noncomputable def F_ME_goodHidden_0 (pdk : Nat) (s : Sto) : Int32 × Sto := bnd (F_ME_openSize_0  s) fun q21 => bnd (q21.1.toNatClampNeg) fun z21 => bnd (F_ME_hash pdk 16384 768 800 222 32 0 q21.2) fun s21 => F_ME_goodHidden_0_L0 pdk 32 0 s21
set_option maxHeartbeats 8000000 in
set_option maxRecDepth 100000 in
theorem N_ME_goodHidden_0 (l : Launch) (g : Gd) (sz : Nat) (T : TyN) (s : Sto) (pl : va_W) (hO : okn g T s pl) (hU : inj T) (h0 dk : Nat) (pdk : Nat) (k_h0 : T h0 = some 184) (k_dk : T dk = some pdk) (n_dk : nsp pdk = (1, 16384, []))  : Met l y_ME_goodHidden w_ME_goodHidden ({ frames := 5, cells := 0, slots := 0, locals := 115 } : Room) (va_Pc [.ref h0, .int (nI 0), .ref dk] (pr (en g) g.1 vcl sz ([] ++ pl))) (va_Qi (fun (r : Int32) (u : (Int32 × Sto) × va_W) => (u.1 = F_ME_goodHidden_0 pdk s ∧ r = u.1.1 ∧ frm (M_ME_goodHidden_0) s u.1.2 ∧ True) ∧ okn g T u.1.2 u.2) (po g.1 vcl (va_A ([] ++ pl) sz) (fun (u : (Int32 × Sto) × va_W) => [] ++ u.2)) (va_A ([] ++ pl) sz)) 0 0 (va_A ([] ++ pl) sz) := by
  refine mc_entry (cc := c_ME_goodHidden) (maxL := 5) (ret := (some .boolean)) (by decide) rfl (Nat.le_of_ble_eq_true rfl) ?_
  intro p e s0 m args below meth c ls F hr hlk hnm hsz hP hD hE hA hl
  obtain ⟨hx, hb, hml, hown, hts⟩ := id F
  have hK := hE.1
  generalize va_A ([] ++ pl) sz = A at hD hE hA ⊢
  have hS : va_S A s0.heap s0.heap [] := va_S.rf
  have hl : lv_has ls 5 [(0, .ref h0), (1, .int (nI 0)), (2, .ref dk)] := hl
  have hR : F_ME_goodHidden_0 pdk s = F_ME_goodHidden_0 pdk s := rfl
  have hF : frm (M_ME_goodHidden_0) s s := frm_rf
  refine va_gets hx hb (hE.2.1 19 _ rfl).1 hS hown (hts _ (wg_t kw_1605)) (fun _ h9 => h9) dME_goodHidden_0 ?_
  refine lv_iload_n hx hb dME_goodHidden_3 rfl (lv_at hl 1 rfl) ?_
  refine va_ti (v := .int (nI 2)) hx hb (hE.2.1 19 _ rfl).2 hS (vp_in_nI (by decide) (by decide)) (by decide +kernel) dME_goodHidden_4 ?_
  refine lv_istore_n (lv' := [(3, .int (nI 2)), (0, .ref h0), (1, .int (nI 0)), (2, .ref dk)]) hx hb dME_goodHidden_5 rfl hl (by decide) rfl (fun ls hl => ?_)
  refine lv_aload_n hx hb dME_goodHidden_6 rfl (lv_at hl 1 rfl) ?_
  refine lv_aload_n hx hb dME_goodHidden_7 rfl (lv_at hl 3 rfl) ?_
  refine lv_sipush (v := nI 384) hx hb dME_goodHidden_8 (by decide) ?_
  refine lv_iload_n hx hb dME_goodHidden_11 rfl (lv_at hl 0 rfl) ?_
  refine mi_imul hx hb dME_goodHidden_12 ?_
  refine mi_as (show nI (384 * 2) = nI 768 from rfl) ?_
  refine lv_iload_n hx hb dME_goodHidden_13 rfl (lv_at hl 2 rfl) ?_
  refine mp_i (cx := []) (wr := []) hP hD hS hA [] [] rfl rfl rfl (by decide) (va_runS (As := [.int (nI 0)]) (rest := [.int (nI 768), .ref dk, .ref h0]) F (N_ME_openSize_0 l g _ T s pl hO hU ) (va_cwS 1 hts (wg_app (wg_c kw_1691 (wg_c kw_1692 (wg_c kw_11 wg_n))) kw_1693) rfl rfl rfl (by decide +kernel) ⟨by decide, by decide⟩) (pp_S (en_ok g) hP hD hS hA hE [] rfl rfl) rfl rfl hl.1 rfl (lv_room (Nat.le_of_ble_eq_true rfl)) dME_goodHidden_14 ⟨by omega, by omega⟩) (fun r21 u21 H locs hu21 hP hD hS => ?_)
  obtain ⟨q21, pl⟩ := u21
  obtain ⟨⟨eq21, rfl, hFc21, ⟨x21, hx_21, hb_21⟩, hxp21, -⟩, hO⟩ := hu21
  have hO : okn g T q21.2 pl := hO
  have hP : va_P g.1 vcl ([] ++ pl) _ := hP
  have hD : va_D _ ([] ++ pl) := hD
  have hFc21 : frm (M_ME_openSize_0) s q21.2 := hFc21
  have hb_21 : x21 < 801 := hb_21
  replace hR := bnd_step hR eq21
  have hF := frm_tr hF hFc21 (fun k hk => by unfold M_ME_openSize_0 at hk; unfold M_ME_goodHidden_0; omega)
  obtain ⟨z21, ez21, hz21, hz22⟩ := cl_of (b := 2147483648) hx_21 (by omega) (by decide)
  replace hR := bnd_step hR ez21
  refine mi_as hz21 ?_
  have hsz21 : z21 = 800 := (nI_eq (by omega) (by omega)).mp (hz21.symm.trans hxp21)
  subst hsz21
  refine W.widen (k := 0) (n := 0) (by omega) (by omega) ?_
  refine lv_aload_n hx hb dME_goodHidden_17 rfl (lv_at hl 1 rfl) ?_
  refine nw_get (C := "LatticeKeysModel$Secrets") (TT := T_ME) (N := 14) hx hb hts (wg_ft i_ME) hown hK hO k_h0 (kn := 184) (ci := 11) (fl := [(3, 172), (3, 178), (3, 185), (3, 202), (3, 207), (3, 212), (3, 217), (3, 218), (3, 219), (3, 220), (3, 221), (3, 222), (3, 223), (3, 224)]) rfl hP rfl 11 (by decide) (hts _ (wg_t kw_1390)) (fun _ h9 => h9) (cd := (3, 222)) rfl dME_goodHidden_18 (fun v21 hv21 => ?_)
  obtain ⟨r22, rfl, kr21⟩ := (show ∃ r : Nat, v21 = .ref r ∧ T r = some 222 from hv21)
  refine lv_iconst (v := nI 0) hx hb dME_goodHidden_21 (by decide) ?_
  refine mp_v (cx := []) (wr := []) hP hD hS hA [] [] rfl rfl rfl (by decide) (va_runV (As := [.ref dk, .int (nI 768), .int (nI 800), .ref r22, .int (nI 0)]) (rest := []) F (N_ME_hash l g _ T q21.2 pl hO hU h0 dk r22 pdk 16384 768 800 222 32 0 k_h0 k_dk n_dk kr21 rfl (by omega) (by omega) (by omega) (by omega)) (cwV 5 hts (wg_app (wg_c kw_1694 (wg_c kw_1696 (wg_c ks_59 (wg_c kw_11 wg_n)))) kw_1697) rfl rfl rfl (by decide +kernel) ⟨by decide, by decide⟩) (pn_W "LatticeKeysModel$Secrets" (en_ok g) (ci := 11) (kn := 184) (fl := [(3, 172), (3, 178), (3, 185), (3, 202), (3, 207), (3, 212), (3, 217), (3, 218), (3, 219), (3, 220), (3, 221), (3, 222), (3, 223), (3, 224)]) hK hO k_h0 rfl hP hD hS hA hE [] rfl rfl rfl) rfl rfl hl.1 rfl (lv_room (Nat.le_of_ble_eq_true rfl)) dME_goodHidden_22 ⟨by omega, by omega⟩) (fun  u22 H locs hu22 hP hD hS => ?_)
  obtain ⟨s21, pl⟩ := u22
  obtain ⟨⟨eq22, hFc22, -⟩, hO⟩ := hu22
  have hO : okn g T s21 pl := hO
  have hP : va_P g.1 vcl ([] ++ pl) _ := hP
  have hD : va_D _ ([] ++ pl) := hD
  have hFc22 : frm (M_ME_hash 222) q21.2 s21 := hFc22
  replace hR := bnd_step hR eq22
  have hF := frm_tr hF hFc22 (fun k hk => by unfold M_ME_hash at hk; unfold M_ME_goodHidden_0; omega)
  refine W.widen (k := 0) (n := 0) (by omega) (by omega) ?_
  refine lv_iconst (v := nI 0) hx hb dME_goodHidden_25 (by decide) ?_
  refine lv_istore (lv' := [(4, .int (nI 0)), (3, .int (nI 2)), (0, .ref h0), (1, .int (nI 0)), (2, .ref dk)]) hx hb dME_goodHidden_26 hl (by decide) rfl (fun ls hl => ?_)
  have lp21 : ∀ (n21 : Nat) (i21 : Nat) (s22 : Sto) (pl : va_W) (ls : Array Slot) (H : Heap) (locs : List Loc), n21 + i21 = 32 → frm (M_ME_goodHidden_0) s s22 → F_ME_goodHidden_0 pdk s = F_ME_goodHidden_0_L0 pdk n21 i21 s22 → lv_has ls 5 [(4, .int (nI i21)), (3, .int (nI 2)), (0, .ref h0), (2, .ref dk)] → okn g T s22 pl → va_P g.1 vcl ([] ++ pl) H → va_D A ([] ++ pl) → va_S A s0.heap H locs → W p l e ({ frames := 5, cells := 0, slots := 0, locals := 115 } : Room) s0 m args below meth c H locs 0 0 (MQ below (va_Qi (fun (r : Int32) (u : (Int32 × Sto) × va_W) => (u.1 = F_ME_goodHidden_0 pdk s ∧ r = u.1.1 ∧ frm (M_ME_goodHidden_0) s u.1.2 ∧ True) ∧ okn g T u.1.2 u.2) (po g.1 vcl A (fun (u : (Int32 × Sto) × va_W) => [] ++ u.2)) A) args s0 0 0 A) (F0 m 28 ls []) := by
    intro n21
    induction n21 with
    | zero =>
      intro i21 s22 pl ls H locs hm21 hF hR hl hO hP hD hS
      refine lv_iload hx hb dME_goodHidden_28 (lv_at hl 0 rfl) ?_
      refine lv_bipush (v := nI 32) hx hb dME_goodHidden_30 (by decide) ?_
      refine mi_ge (tgt := 66) hx hb dME_goodHidden_32 (by decide) (by omega) (by omega) (fun h21 => ?_) (fun h21 => absurd h21 (by omega))
      refine lv_iconst (v := nI 1) hx hb dME_goodHidden_66 (by decide) ?_
      exact mp_zret hx hb hr hlk rfl hP hD hS ((nI 1, s22), pl) ⟨⟨hR.symm, rfl, hF, trivial⟩, hO⟩ [] rfl rfl rfl (by omega) (by omega) dME_goodHidden_67
    | succ n21 ih21 =>
      intro i21 s22 pl ls H locs hm21 hF hR hl hO hP hD hS
      refine lv_iload hx hb dME_goodHidden_28 (lv_at hl 0 rfl) ?_
      refine lv_bipush (v := nI 32) hx hb dME_goodHidden_30 (by decide) ?_
      refine mi_ge (tgt := 66) hx hb dME_goodHidden_32 (by decide) (by omega) (by omega) (fun h22 => absurd h22 (by omega)) (fun h22 => ?_)
      refine lv_aload_n hx hb dME_goodHidden_35 rfl (lv_at hl 2 rfl) ?_
      refine nw_get (C := "LatticeKeysModel$Secrets") (TT := T_ME) (N := 14) hx hb hts (wg_ft i_ME) hown hK hO k_h0 (kn := 184) (ci := 11) (fl := [(3, 172), (3, 178), (3, 185), (3, 202), (3, 207), (3, 212), (3, 217), (3, 218), (3, 219), (3, 220), (3, 221), (3, 222), (3, 223), (3, 224)]) rfl hP rfl 11 (by decide) (hts _ (wg_t kw_1390)) (fun _ h9 => h9) (cd := (3, 222)) rfl dME_goodHidden_36 (fun v22 hv22 => ?_)
      obtain ⟨r23, rfl, kr22⟩ := (show ∃ r : Nat, v22 = .ref r ∧ T r = some 222 from hv22)
      refine lv_iload hx hb dME_goodHidden_39 (lv_at hl 0 rfl) ?_
      refine nw_bald hx hb hK hO kr22 (k := 222) rfl hP (by omega) (by omega) dME_goodHidden_41 ?_
      refine lv_aload_n hx hb dME_goodHidden_42 rfl (lv_at hl 3 rfl) ?_
      refine lv_sipush (v := nI 768) hx hb dME_goodHidden_43 (by decide) ?_
      refine lv_iload_n hx hb dME_goodHidden_46 rfl (lv_at hl 1 rfl) ?_
      refine mi_imul hx hb dME_goodHidden_47 ?_
      refine mi_as (show nI (768 * 2) = nI 1536 from rfl) ?_
      refine lv_bipush (v := nI 32) hx hb dME_goodHidden_48 (by decide) ?_
      refine mi_iadd hx hb dME_goodHidden_50 ?_
      refine mi_as (show nI (1536 + 32) = nI 1568 from rfl) ?_
      refine lv_iload hx hb dME_goodHidden_51 (lv_at hl 0 rfl) ?_
      refine mi_iadd hx hb dME_goodHidden_53 ?_
      refine nw_bald hx hb hK hO k_dk (k := pdk) n_dk hP (by omega) (by omega) dME_goodHidden_54 ?_
      refine lv_icmp_eq (tgt := 60) hx hb dME_goodHidden_55 (by decide) (fun h23 => ?_) (fun h23 => ?_)
      · replace hR := hR.trans (if_pos h23)
        refine mi_iinc (k := 0) (x := i21) (d := 1) (y := i21 + 1) (lv' := [(4, .int (nI (i21 + 1))), (3, .int (nI 2)), (0, .ref h0), (2, .ref dk)]) hx hb dME_goodHidden_60 hl rfl (by decide) rfl (by decide) rfl (fun ls hl => ?_)
        refine lv_goto (tgt := 28) hx hb dME_goodHidden_63 (by decide) ?_
        exact ih21 (i21 + 1) s22 pl ls H locs (by omega) hF hR (lv_sub hl [0, 1, 2, 3] rfl) hO hP hD hS
      · replace hR := hR.trans (if_neg h23)
        refine lv_iconst (v := nI 0) hx hb dME_goodHidden_58 (by decide) ?_
        exact mp_zret hx hb hr hlk rfl hP hD hS ((nI 0, s22), pl) ⟨⟨hR.symm, rfl, hF, trivial⟩, hO⟩ [] rfl rfl rfl (by omega) (by omega) dME_goodHidden_59
  exact lp21 32 0 s21 pl ls _ _ (by omega) hF hR (lv_sub hl [0, 1, 2, 4] rfl) hO hP hD hS
def M_ME_goodHidden_1 (k : Nat) : Prop := k = 172 ∨ k = 222 ∨ (0 : Nat) = 1
noncomputable def F_ME_goodHidden_1_L0 (pdk : Nat) : Nat → Nat → Sto → Int32 × Sto
  | 0, i21, s22 => (nI 1, s22)
  | n21 + 1, i21, s22 => if (s22.1 222 i21) = (s22.1 pdk (2336 + i21)) then F_ME_goodHidden_1_L0 pdk n21 (i21 + 1) s22 else (nI 0, s22)
noncomputable def F_ME_goodHidden_1 (pdk : Nat) (s : Sto) : Int32 × Sto := bnd (F_ME_openSize_1  s) fun q21 => bnd (q21.1.toNatClampNeg) fun z21 => bnd (F_ME_hash pdk 16384 1152 1184 222 32 0 q21.2) fun s21 => F_ME_goodHidden_1_L0 pdk 32 0 s21
set_option maxHeartbeats 8000000 in
set_option maxRecDepth 100000 in
theorem N_ME_goodHidden_1 (l : Launch) (g : Gd) (sz : Nat) (T : TyN) (s : Sto) (pl : va_W) (hO : okn g T s pl) (hU : inj T) (h0 dk : Nat) (pdk : Nat) (k_h0 : T h0 = some 184) (k_dk : T dk = some pdk) (n_dk : nsp pdk = (1, 16384, []))  : Met l y_ME_goodHidden w_ME_goodHidden ({ frames := 5, cells := 0, slots := 0, locals := 115 } : Room) (va_Pc [.ref h0, .int (nI 1), .ref dk] (pr (en g) g.1 vcl sz ([] ++ pl))) (va_Qi (fun (r : Int32) (u : (Int32 × Sto) × va_W) => (u.1 = F_ME_goodHidden_1 pdk s ∧ r = u.1.1 ∧ frm (M_ME_goodHidden_1) s u.1.2 ∧ True) ∧ okn g T u.1.2 u.2) (po g.1 vcl (va_A ([] ++ pl) sz) (fun (u : (Int32 × Sto) × va_W) => [] ++ u.2)) (va_A ([] ++ pl) sz)) 0 0 (va_A ([] ++ pl) sz) := by
  refine mc_entry (cc := c_ME_goodHidden) (maxL := 5) (ret := (some .boolean)) (by decide) rfl (Nat.le_of_ble_eq_true rfl) ?_
  intro p e s0 m args below meth c ls F hr hlk hnm hsz hP hD hE hA hl
  obtain ⟨hx, hb, hml, hown, hts⟩ := id F
  have hK := hE.1
  generalize va_A ([] ++ pl) sz = A at hD hE hA ⊢
  have hS : va_S A s0.heap s0.heap [] := va_S.rf
  have hl : lv_has ls 5 [(0, .ref h0), (1, .int (nI 1)), (2, .ref dk)] := hl
  have hR : F_ME_goodHidden_1 pdk s = F_ME_goodHidden_1 pdk s := rfl
  have hF : frm (M_ME_goodHidden_1) s s := frm_rf
  refine va_gets hx hb (hE.2.1 19 _ rfl).1 hS hown (hts _ (wg_t kw_1605)) (fun _ h9 => h9) dME_goodHidden_0 ?_
  refine lv_iload_n hx hb dME_goodHidden_3 rfl (lv_at hl 1 rfl) ?_
  refine va_ti (v := .int (nI 3)) hx hb (hE.2.1 19 _ rfl).2 hS (vp_in_nI (by decide) (by decide)) (by decide +kernel) dME_goodHidden_4 ?_
  refine lv_istore_n (lv' := [(3, .int (nI 3)), (0, .ref h0), (1, .int (nI 1)), (2, .ref dk)]) hx hb dME_goodHidden_5 rfl hl (by decide) rfl (fun ls hl => ?_)
  refine lv_aload_n hx hb dME_goodHidden_6 rfl (lv_at hl 1 rfl) ?_
  refine lv_aload_n hx hb dME_goodHidden_7 rfl (lv_at hl 3 rfl) ?_
  refine lv_sipush (v := nI 384) hx hb dME_goodHidden_8 (by decide) ?_
  refine lv_iload_n hx hb dME_goodHidden_11 rfl (lv_at hl 0 rfl) ?_
  refine mi_imul hx hb dME_goodHidden_12 ?_
  refine mi_as (show nI (384 * 3) = nI 1152 from rfl) ?_
  refine lv_iload_n hx hb dME_goodHidden_13 rfl (lv_at hl 2 rfl) ?_
  refine mp_i (cx := []) (wr := []) hP hD hS hA [] [] rfl rfl rfl (by decide) (va_runS (As := [.int (nI 1)]) (rest := [.int (nI 1152), .ref dk, .ref h0]) F (N_ME_openSize_1 l g _ T s pl hO hU ) (va_cwS 1 hts (wg_app (wg_c kw_1691 (wg_c kw_1692 (wg_c kw_11 wg_n))) kw_1693) rfl rfl rfl (by decide +kernel) ⟨by decide, by decide⟩) (pp_S (en_ok g) hP hD hS hA hE [] rfl rfl) rfl rfl hl.1 rfl (lv_room (Nat.le_of_ble_eq_true rfl)) dME_goodHidden_14 ⟨by omega, by omega⟩) (fun r21 u21 H locs hu21 hP hD hS => ?_)
  obtain ⟨q21, pl⟩ := u21
  obtain ⟨⟨eq21, rfl, hFc21, ⟨x21, hx_21, hb_21⟩, hxp21, -⟩, hO⟩ := hu21
  have hO : okn g T q21.2 pl := hO
  have hP : va_P g.1 vcl ([] ++ pl) _ := hP
  have hD : va_D _ ([] ++ pl) := hD
  have hFc21 : frm (M_ME_openSize_1) s q21.2 := hFc21
  have hb_21 : x21 < 1185 := hb_21
  replace hR := bnd_step hR eq21
  have hF := frm_tr hF hFc21 (fun k hk => by unfold M_ME_openSize_1 at hk; unfold M_ME_goodHidden_1; omega)
  obtain ⟨z21, ez21, hz21, hz22⟩ := cl_of (b := 2147483648) hx_21 (by omega) (by decide)
  replace hR := bnd_step hR ez21
  refine mi_as hz21 ?_
  have hsz21 : z21 = 1184 := (nI_eq (by omega) (by omega)).mp (hz21.symm.trans hxp21)
  subst hsz21
  refine W.widen (k := 0) (n := 0) (by omega) (by omega) ?_
  refine lv_aload_n hx hb dME_goodHidden_17 rfl (lv_at hl 1 rfl) ?_
  refine nw_get (C := "LatticeKeysModel$Secrets") (TT := T_ME) (N := 14) hx hb hts (wg_ft i_ME) hown hK hO k_h0 (kn := 184) (ci := 11) (fl := [(3, 172), (3, 178), (3, 185), (3, 202), (3, 207), (3, 212), (3, 217), (3, 218), (3, 219), (3, 220), (3, 221), (3, 222), (3, 223), (3, 224)]) rfl hP rfl 11 (by decide) (hts _ (wg_t kw_1390)) (fun _ h9 => h9) (cd := (3, 222)) rfl dME_goodHidden_18 (fun v21 hv21 => ?_)
  obtain ⟨r22, rfl, kr21⟩ := (show ∃ r : Nat, v21 = .ref r ∧ T r = some 222 from hv21)
  refine lv_iconst (v := nI 0) hx hb dME_goodHidden_21 (by decide) ?_
  refine mp_v (cx := []) (wr := []) hP hD hS hA [] [] rfl rfl rfl (by decide) (va_runV (As := [.ref dk, .int (nI 1152), .int (nI 1184), .ref r22, .int (nI 0)]) (rest := []) F (N_ME_hash l g _ T q21.2 pl hO hU h0 dk r22 pdk 16384 1152 1184 222 32 0 k_h0 k_dk n_dk kr21 rfl (by omega) (by omega) (by omega) (by omega)) (cwV 5 hts (wg_app (wg_c kw_1694 (wg_c kw_1696 (wg_c ks_59 (wg_c kw_11 wg_n)))) kw_1697) rfl rfl rfl (by decide +kernel) ⟨by decide, by decide⟩) (pn_W "LatticeKeysModel$Secrets" (en_ok g) (ci := 11) (kn := 184) (fl := [(3, 172), (3, 178), (3, 185), (3, 202), (3, 207), (3, 212), (3, 217), (3, 218), (3, 219), (3, 220), (3, 221), (3, 222), (3, 223), (3, 224)]) hK hO k_h0 rfl hP hD hS hA hE [] rfl rfl rfl) rfl rfl hl.1 rfl (lv_room (Nat.le_of_ble_eq_true rfl)) dME_goodHidden_22 ⟨by omega, by omega⟩) (fun  u22 H locs hu22 hP hD hS => ?_)
  obtain ⟨s21, pl⟩ := u22
  obtain ⟨⟨eq22, hFc22, -⟩, hO⟩ := hu22
  have hO : okn g T s21 pl := hO
  have hP : va_P g.1 vcl ([] ++ pl) _ := hP
  have hD : va_D _ ([] ++ pl) := hD
  have hFc22 : frm (M_ME_hash 222) q21.2 s21 := hFc22
  replace hR := bnd_step hR eq22
  have hF := frm_tr hF hFc22 (fun k hk => by unfold M_ME_hash at hk; unfold M_ME_goodHidden_1; omega)
  refine W.widen (k := 0) (n := 0) (by omega) (by omega) ?_
  refine lv_iconst (v := nI 0) hx hb dME_goodHidden_25 (by decide) ?_
  refine lv_istore (lv' := [(4, .int (nI 0)), (3, .int (nI 3)), (0, .ref h0), (1, .int (nI 1)), (2, .ref dk)]) hx hb dME_goodHidden_26 hl (by decide) rfl (fun ls hl => ?_)
  have lp21 : ∀ (n21 : Nat) (i21 : Nat) (s22 : Sto) (pl : va_W) (ls : Array Slot) (H : Heap) (locs : List Loc), n21 + i21 = 32 → frm (M_ME_goodHidden_1) s s22 → F_ME_goodHidden_1 pdk s = F_ME_goodHidden_1_L0 pdk n21 i21 s22 → lv_has ls 5 [(4, .int (nI i21)), (3, .int (nI 3)), (0, .ref h0), (2, .ref dk)] → okn g T s22 pl → va_P g.1 vcl ([] ++ pl) H → va_D A ([] ++ pl) → va_S A s0.heap H locs → W p l e ({ frames := 5, cells := 0, slots := 0, locals := 115 } : Room) s0 m args below meth c H locs 0 0 (MQ below (va_Qi (fun (r : Int32) (u : (Int32 × Sto) × va_W) => (u.1 = F_ME_goodHidden_1 pdk s ∧ r = u.1.1 ∧ frm (M_ME_goodHidden_1) s u.1.2 ∧ True) ∧ okn g T u.1.2 u.2) (po g.1 vcl A (fun (u : (Int32 × Sto) × va_W) => [] ++ u.2)) A) args s0 0 0 A) (F0 m 28 ls []) := by
    intro n21
    induction n21 with
    | zero =>
      intro i21 s22 pl ls H locs hm21 hF hR hl hO hP hD hS
      refine lv_iload hx hb dME_goodHidden_28 (lv_at hl 0 rfl) ?_
      refine lv_bipush (v := nI 32) hx hb dME_goodHidden_30 (by decide) ?_
      refine mi_ge (tgt := 66) hx hb dME_goodHidden_32 (by decide) (by omega) (by omega) (fun h21 => ?_) (fun h21 => absurd h21 (by omega))
      refine lv_iconst (v := nI 1) hx hb dME_goodHidden_66 (by decide) ?_
      exact mp_zret hx hb hr hlk rfl hP hD hS ((nI 1, s22), pl) ⟨⟨hR.symm, rfl, hF, trivial⟩, hO⟩ [] rfl rfl rfl (by omega) (by omega) dME_goodHidden_67
    | succ n21 ih21 =>
      intro i21 s22 pl ls H locs hm21 hF hR hl hO hP hD hS
      refine lv_iload hx hb dME_goodHidden_28 (lv_at hl 0 rfl) ?_
      refine lv_bipush (v := nI 32) hx hb dME_goodHidden_30 (by decide) ?_
      refine mi_ge (tgt := 66) hx hb dME_goodHidden_32 (by decide) (by omega) (by omega) (fun h22 => absurd h22 (by omega)) (fun h22 => ?_)
      refine lv_aload_n hx hb dME_goodHidden_35 rfl (lv_at hl 2 rfl) ?_
      refine nw_get (C := "LatticeKeysModel$Secrets") (TT := T_ME) (N := 14) hx hb hts (wg_ft i_ME) hown hK hO k_h0 (kn := 184) (ci := 11) (fl := [(3, 172), (3, 178), (3, 185), (3, 202), (3, 207), (3, 212), (3, 217), (3, 218), (3, 219), (3, 220), (3, 221), (3, 222), (3, 223), (3, 224)]) rfl hP rfl 11 (by decide) (hts _ (wg_t kw_1390)) (fun _ h9 => h9) (cd := (3, 222)) rfl dME_goodHidden_36 (fun v22 hv22 => ?_)
      obtain ⟨r23, rfl, kr22⟩ := (show ∃ r : Nat, v22 = .ref r ∧ T r = some 222 from hv22)
      refine lv_iload hx hb dME_goodHidden_39 (lv_at hl 0 rfl) ?_
      refine nw_bald hx hb hK hO kr22 (k := 222) rfl hP (by omega) (by omega) dME_goodHidden_41 ?_
      refine lv_aload_n hx hb dME_goodHidden_42 rfl (lv_at hl 3 rfl) ?_
      refine lv_sipush (v := nI 768) hx hb dME_goodHidden_43 (by decide) ?_
      refine lv_iload_n hx hb dME_goodHidden_46 rfl (lv_at hl 1 rfl) ?_
      refine mi_imul hx hb dME_goodHidden_47 ?_
      refine mi_as (show nI (768 * 3) = nI 2304 from rfl) ?_
      refine lv_bipush (v := nI 32) hx hb dME_goodHidden_48 (by decide) ?_
      refine mi_iadd hx hb dME_goodHidden_50 ?_
      refine mi_as (show nI (2304 + 32) = nI 2336 from rfl) ?_
      refine lv_iload hx hb dME_goodHidden_51 (lv_at hl 0 rfl) ?_
      refine mi_iadd hx hb dME_goodHidden_53 ?_
      refine nw_bald hx hb hK hO k_dk (k := pdk) n_dk hP (by omega) (by omega) dME_goodHidden_54 ?_
      refine lv_icmp_eq (tgt := 60) hx hb dME_goodHidden_55 (by decide) (fun h23 => ?_) (fun h23 => ?_)
      · replace hR := hR.trans (if_pos h23)
        refine mi_iinc (k := 0) (x := i21) (d := 1) (y := i21 + 1) (lv' := [(4, .int (nI (i21 + 1))), (3, .int (nI 3)), (0, .ref h0), (2, .ref dk)]) hx hb dME_goodHidden_60 hl rfl (by decide) rfl (by decide) rfl (fun ls hl => ?_)
        refine lv_goto (tgt := 28) hx hb dME_goodHidden_63 (by decide) ?_
        exact ih21 (i21 + 1) s22 pl ls H locs (by omega) hF hR (lv_sub hl [0, 1, 2, 3] rfl) hO hP hD hS
      · replace hR := hR.trans (if_neg h23)
        refine lv_iconst (v := nI 0) hx hb dME_goodHidden_58 (by decide) ?_
        exact mp_zret hx hb hr hlk rfl hP hD hS ((nI 0, s22), pl) ⟨⟨hR.symm, rfl, hF, trivial⟩, hO⟩ [] rfl rfl rfl (by omega) (by omega) dME_goodHidden_59
  exact lp21 32 0 s21 pl ls _ _ (by omega) hF hR (lv_sub hl [0, 1, 2, 4] rfl) hO hP hD hS
def M_ME_goodHidden_2 (k : Nat) : Prop := k = 172 ∨ k = 222 ∨ (0 : Nat) = 1
noncomputable def F_ME_goodHidden_2_L0 (pdk : Nat) : Nat → Nat → Sto → Int32 × Sto
  | 0, i21, s22 => (nI 1, s22)
  | n21 + 1, i21, s22 => if (s22.1 222 i21) = (s22.1 pdk (3104 + i21)) then F_ME_goodHidden_2_L0 pdk n21 (i21 + 1) s22 else (nI 0, s22)
noncomputable def F_ME_goodHidden_2 (pdk : Nat) (s : Sto) : Int32 × Sto := bnd (F_ME_openSize_2  s) fun q21 => bnd (q21.1.toNatClampNeg) fun z21 => bnd (F_ME_hash pdk 16384 1536 1568 222 32 0 q21.2) fun s21 => F_ME_goodHidden_2_L0 pdk 32 0 s21
set_option maxHeartbeats 8000000 in
set_option maxRecDepth 100000 in
theorem N_ME_goodHidden_2 (l : Launch) (g : Gd) (sz : Nat) (T : TyN) (s : Sto) (pl : va_W) (hO : okn g T s pl) (hU : inj T) (h0 dk : Nat) (pdk : Nat) (k_h0 : T h0 = some 184) (k_dk : T dk = some pdk) (n_dk : nsp pdk = (1, 16384, []))  : Met l y_ME_goodHidden w_ME_goodHidden ({ frames := 5, cells := 0, slots := 0, locals := 115 } : Room) (va_Pc [.ref h0, .int (nI 2), .ref dk] (pr (en g) g.1 vcl sz ([] ++ pl))) (va_Qi (fun (r : Int32) (u : (Int32 × Sto) × va_W) => (u.1 = F_ME_goodHidden_2 pdk s ∧ r = u.1.1 ∧ frm (M_ME_goodHidden_2) s u.1.2 ∧ True) ∧ okn g T u.1.2 u.2) (po g.1 vcl (va_A ([] ++ pl) sz) (fun (u : (Int32 × Sto) × va_W) => [] ++ u.2)) (va_A ([] ++ pl) sz)) 0 0 (va_A ([] ++ pl) sz) := by
  refine mc_entry (cc := c_ME_goodHidden) (maxL := 5) (ret := (some .boolean)) (by decide) rfl (Nat.le_of_ble_eq_true rfl) ?_
  intro p e s0 m args below meth c ls F hr hlk hnm hsz hP hD hE hA hl
  obtain ⟨hx, hb, hml, hown, hts⟩ := id F
  have hK := hE.1
  generalize va_A ([] ++ pl) sz = A at hD hE hA ⊢
  have hS : va_S A s0.heap s0.heap [] := va_S.rf
  have hl : lv_has ls 5 [(0, .ref h0), (1, .int (nI 2)), (2, .ref dk)] := hl
  have hR : F_ME_goodHidden_2 pdk s = F_ME_goodHidden_2 pdk s := rfl
  have hF : frm (M_ME_goodHidden_2) s s := frm_rf
  refine va_gets hx hb (hE.2.1 19 _ rfl).1 hS hown (hts _ (wg_t kw_1605)) (fun _ h9 => h9) dME_goodHidden_0 ?_
  refine lv_iload_n hx hb dME_goodHidden_3 rfl (lv_at hl 1 rfl) ?_
  refine va_ti (v := .int (nI 4)) hx hb (hE.2.1 19 _ rfl).2 hS (vp_in_nI (by decide) (by decide)) (by decide +kernel) dME_goodHidden_4 ?_
  refine lv_istore_n (lv' := [(3, .int (nI 4)), (0, .ref h0), (1, .int (nI 2)), (2, .ref dk)]) hx hb dME_goodHidden_5 rfl hl (by decide) rfl (fun ls hl => ?_)
  refine lv_aload_n hx hb dME_goodHidden_6 rfl (lv_at hl 1 rfl) ?_
  refine lv_aload_n hx hb dME_goodHidden_7 rfl (lv_at hl 3 rfl) ?_
  refine lv_sipush (v := nI 384) hx hb dME_goodHidden_8 (by decide) ?_
  refine lv_iload_n hx hb dME_goodHidden_11 rfl (lv_at hl 0 rfl) ?_
  refine mi_imul hx hb dME_goodHidden_12 ?_
  refine mi_as (show nI (384 * 4) = nI 1536 from rfl) ?_
  refine lv_iload_n hx hb dME_goodHidden_13 rfl (lv_at hl 2 rfl) ?_
  refine mp_i (cx := []) (wr := []) hP hD hS hA [] [] rfl rfl rfl (by decide) (va_runS (As := [.int (nI 2)]) (rest := [.int (nI 1536), .ref dk, .ref h0]) F (N_ME_openSize_2 l g _ T s pl hO hU ) (va_cwS 1 hts (wg_app (wg_c kw_1691 (wg_c kw_1692 (wg_c kw_11 wg_n))) kw_1693) rfl rfl rfl (by decide +kernel) ⟨by decide, by decide⟩) (pp_S (en_ok g) hP hD hS hA hE [] rfl rfl) rfl rfl hl.1 rfl (lv_room (Nat.le_of_ble_eq_true rfl)) dME_goodHidden_14 ⟨by omega, by omega⟩) (fun r21 u21 H locs hu21 hP hD hS => ?_)
  obtain ⟨q21, pl⟩ := u21
  obtain ⟨⟨eq21, rfl, hFc21, ⟨x21, hx_21, hb_21⟩, hxp21, -⟩, hO⟩ := hu21
  have hO : okn g T q21.2 pl := hO
  have hP : va_P g.1 vcl ([] ++ pl) _ := hP
  have hD : va_D _ ([] ++ pl) := hD
  have hFc21 : frm (M_ME_openSize_2) s q21.2 := hFc21
  have hb_21 : x21 < 1569 := hb_21
  replace hR := bnd_step hR eq21
  have hF := frm_tr hF hFc21 (fun k hk => by unfold M_ME_openSize_2 at hk; unfold M_ME_goodHidden_2; omega)
  obtain ⟨z21, ez21, hz21, hz22⟩ := cl_of (b := 2147483648) hx_21 (by omega) (by decide)
  replace hR := bnd_step hR ez21
  refine mi_as hz21 ?_
  have hsz21 : z21 = 1568 := (nI_eq (by omega) (by omega)).mp (hz21.symm.trans hxp21)
  subst hsz21
  refine W.widen (k := 0) (n := 0) (by omega) (by omega) ?_
  refine lv_aload_n hx hb dME_goodHidden_17 rfl (lv_at hl 1 rfl) ?_
  refine nw_get (C := "LatticeKeysModel$Secrets") (TT := T_ME) (N := 14) hx hb hts (wg_ft i_ME) hown hK hO k_h0 (kn := 184) (ci := 11) (fl := [(3, 172), (3, 178), (3, 185), (3, 202), (3, 207), (3, 212), (3, 217), (3, 218), (3, 219), (3, 220), (3, 221), (3, 222), (3, 223), (3, 224)]) rfl hP rfl 11 (by decide) (hts _ (wg_t kw_1390)) (fun _ h9 => h9) (cd := (3, 222)) rfl dME_goodHidden_18 (fun v21 hv21 => ?_)
  obtain ⟨r22, rfl, kr21⟩ := (show ∃ r : Nat, v21 = .ref r ∧ T r = some 222 from hv21)
  refine lv_iconst (v := nI 0) hx hb dME_goodHidden_21 (by decide) ?_
  refine mp_v (cx := []) (wr := []) hP hD hS hA [] [] rfl rfl rfl (by decide) (va_runV (As := [.ref dk, .int (nI 1536), .int (nI 1568), .ref r22, .int (nI 0)]) (rest := []) F (N_ME_hash l g _ T q21.2 pl hO hU h0 dk r22 pdk 16384 1536 1568 222 32 0 k_h0 k_dk n_dk kr21 rfl (by omega) (by omega) (by omega) (by omega)) (cwV 5 hts (wg_app (wg_c kw_1694 (wg_c kw_1696 (wg_c ks_59 (wg_c kw_11 wg_n)))) kw_1697) rfl rfl rfl (by decide +kernel) ⟨by decide, by decide⟩) (pn_W "LatticeKeysModel$Secrets" (en_ok g) (ci := 11) (kn := 184) (fl := [(3, 172), (3, 178), (3, 185), (3, 202), (3, 207), (3, 212), (3, 217), (3, 218), (3, 219), (3, 220), (3, 221), (3, 222), (3, 223), (3, 224)]) hK hO k_h0 rfl hP hD hS hA hE [] rfl rfl rfl) rfl rfl hl.1 rfl (lv_room (Nat.le_of_ble_eq_true rfl)) dME_goodHidden_22 ⟨by omega, by omega⟩) (fun  u22 H locs hu22 hP hD hS => ?_)
  obtain ⟨s21, pl⟩ := u22
  obtain ⟨⟨eq22, hFc22, -⟩, hO⟩ := hu22
  have hO : okn g T s21 pl := hO
  have hP : va_P g.1 vcl ([] ++ pl) _ := hP
  have hD : va_D _ ([] ++ pl) := hD
  have hFc22 : frm (M_ME_hash 222) q21.2 s21 := hFc22
  replace hR := bnd_step hR eq22
  have hF := frm_tr hF hFc22 (fun k hk => by unfold M_ME_hash at hk; unfold M_ME_goodHidden_2; omega)
  refine W.widen (k := 0) (n := 0) (by omega) (by omega) ?_
  refine lv_iconst (v := nI 0) hx hb dME_goodHidden_25 (by decide) ?_
  refine lv_istore (lv' := [(4, .int (nI 0)), (3, .int (nI 4)), (0, .ref h0), (1, .int (nI 2)), (2, .ref dk)]) hx hb dME_goodHidden_26 hl (by decide) rfl (fun ls hl => ?_)
  have lp21 : ∀ (n21 : Nat) (i21 : Nat) (s22 : Sto) (pl : va_W) (ls : Array Slot) (H : Heap) (locs : List Loc), n21 + i21 = 32 → frm (M_ME_goodHidden_2) s s22 → F_ME_goodHidden_2 pdk s = F_ME_goodHidden_2_L0 pdk n21 i21 s22 → lv_has ls 5 [(4, .int (nI i21)), (3, .int (nI 4)), (0, .ref h0), (2, .ref dk)] → okn g T s22 pl → va_P g.1 vcl ([] ++ pl) H → va_D A ([] ++ pl) → va_S A s0.heap H locs → W p l e ({ frames := 5, cells := 0, slots := 0, locals := 115 } : Room) s0 m args below meth c H locs 0 0 (MQ below (va_Qi (fun (r : Int32) (u : (Int32 × Sto) × va_W) => (u.1 = F_ME_goodHidden_2 pdk s ∧ r = u.1.1 ∧ frm (M_ME_goodHidden_2) s u.1.2 ∧ True) ∧ okn g T u.1.2 u.2) (po g.1 vcl A (fun (u : (Int32 × Sto) × va_W) => [] ++ u.2)) A) args s0 0 0 A) (F0 m 28 ls []) := by
    intro n21
    induction n21 with
    | zero =>
      intro i21 s22 pl ls H locs hm21 hF hR hl hO hP hD hS
      refine lv_iload hx hb dME_goodHidden_28 (lv_at hl 0 rfl) ?_
      refine lv_bipush (v := nI 32) hx hb dME_goodHidden_30 (by decide) ?_
      refine mi_ge (tgt := 66) hx hb dME_goodHidden_32 (by decide) (by omega) (by omega) (fun h21 => ?_) (fun h21 => absurd h21 (by omega))
      refine lv_iconst (v := nI 1) hx hb dME_goodHidden_66 (by decide) ?_
      exact mp_zret hx hb hr hlk rfl hP hD hS ((nI 1, s22), pl) ⟨⟨hR.symm, rfl, hF, trivial⟩, hO⟩ [] rfl rfl rfl (by omega) (by omega) dME_goodHidden_67
    | succ n21 ih21 =>
      intro i21 s22 pl ls H locs hm21 hF hR hl hO hP hD hS
      refine lv_iload hx hb dME_goodHidden_28 (lv_at hl 0 rfl) ?_
      refine lv_bipush (v := nI 32) hx hb dME_goodHidden_30 (by decide) ?_
      refine mi_ge (tgt := 66) hx hb dME_goodHidden_32 (by decide) (by omega) (by omega) (fun h22 => absurd h22 (by omega)) (fun h22 => ?_)
      refine lv_aload_n hx hb dME_goodHidden_35 rfl (lv_at hl 2 rfl) ?_
      refine nw_get (C := "LatticeKeysModel$Secrets") (TT := T_ME) (N := 14) hx hb hts (wg_ft i_ME) hown hK hO k_h0 (kn := 184) (ci := 11) (fl := [(3, 172), (3, 178), (3, 185), (3, 202), (3, 207), (3, 212), (3, 217), (3, 218), (3, 219), (3, 220), (3, 221), (3, 222), (3, 223), (3, 224)]) rfl hP rfl 11 (by decide) (hts _ (wg_t kw_1390)) (fun _ h9 => h9) (cd := (3, 222)) rfl dME_goodHidden_36 (fun v22 hv22 => ?_)
      obtain ⟨r23, rfl, kr22⟩ := (show ∃ r : Nat, v22 = .ref r ∧ T r = some 222 from hv22)
      refine lv_iload hx hb dME_goodHidden_39 (lv_at hl 0 rfl) ?_
      refine nw_bald hx hb hK hO kr22 (k := 222) rfl hP (by omega) (by omega) dME_goodHidden_41 ?_
      refine lv_aload_n hx hb dME_goodHidden_42 rfl (lv_at hl 3 rfl) ?_
      refine lv_sipush (v := nI 768) hx hb dME_goodHidden_43 (by decide) ?_
      refine lv_iload_n hx hb dME_goodHidden_46 rfl (lv_at hl 1 rfl) ?_
      refine mi_imul hx hb dME_goodHidden_47 ?_
      refine mi_as (show nI (768 * 4) = nI 3072 from rfl) ?_
      refine lv_bipush (v := nI 32) hx hb dME_goodHidden_48 (by decide) ?_
      refine mi_iadd hx hb dME_goodHidden_50 ?_
      refine mi_as (show nI (3072 + 32) = nI 3104 from rfl) ?_
      refine lv_iload hx hb dME_goodHidden_51 (lv_at hl 0 rfl) ?_
      refine mi_iadd hx hb dME_goodHidden_53 ?_
      refine nw_bald hx hb hK hO k_dk (k := pdk) n_dk hP (by omega) (by omega) dME_goodHidden_54 ?_
      refine lv_icmp_eq (tgt := 60) hx hb dME_goodHidden_55 (by decide) (fun h23 => ?_) (fun h23 => ?_)
      · replace hR := hR.trans (if_pos h23)
        refine mi_iinc (k := 0) (x := i21) (d := 1) (y := i21 + 1) (lv' := [(4, .int (nI (i21 + 1))), (3, .int (nI 4)), (0, .ref h0), (2, .ref dk)]) hx hb dME_goodHidden_60 hl rfl (by decide) rfl (by decide) rfl (fun ls hl => ?_)
        refine lv_goto (tgt := 28) hx hb dME_goodHidden_63 (by decide) ?_
        exact ih21 (i21 + 1) s22 pl ls H locs (by omega) hF hR (lv_sub hl [0, 1, 2, 3] rfl) hO hP hD hS
      · replace hR := hR.trans (if_neg h23)
        refine lv_iconst (v := nI 0) hx hb dME_goodHidden_58 (by decide) ?_
        exact mp_zret hx hb hr hlk rfl hP hD hS ((nI 0, s22), pl) ⟨⟨hR.symm, rfl, hF, trivial⟩, hO⟩ [] rfl rfl rfl (by omega) (by omega) dME_goodHidden_59
  exact lp21 32 0 s21 pl ls _ _ (by omega) hF hR (lv_sub hl [0, 1, 2, 4] rfl) hO hP hD hS
