abbrev c_KM_makePair : ByteArray := prog_6_method_2_code
abbrev y_KM_makePair : MethodName := ⟨"LatticeKeys$Kem", "makePair", "(LLatticeKeys$KemSet;[B[B[B)V"⟩
abbrev w_KM_makePair : List Cond := Cond.code y_KM_makePair c_KM_makePair 7 none :: WG
theorem dKM_makePair_0 : decode c_KM_makePair 0 = .ok (.aload_n 0, 1) := by decide +kernel
theorem dKM_makePair_1 : decode c_KM_makePair 1 = .ok (.getfield 10, 3) := by decide +kernel
theorem dKM_makePair_4 : decode c_KM_makePair 4 = .ok (.iconst 1, 1) := by decide +kernel
theorem dKM_makePair_5 : decode c_KM_makePair 5 = .ok (.invokevirtual 53, 3) := by decide +kernel
theorem dKM_makePair_8 : decode c_KM_makePair 8 = .ok (.aload_n 0, 1) := by decide +kernel
theorem dKM_makePair_9 : decode c_KM_makePair 9 = .ok (.getfield 10, 3) := by decide +kernel
theorem dKM_makePair_12 : decode c_KM_makePair 12 = .ok (.aload_n 2, 1) := by decide +kernel
theorem dKM_makePair_13 : decode c_KM_makePair 13 = .ok (.iconst 0, 1) := by decide +kernel
theorem dKM_makePair_14 : decode c_KM_makePair 14 = .ok (.bipush 32, 2) := by decide +kernel
theorem dKM_makePair_16 : decode c_KM_makePair 16 = .ok (.invokevirtual 57, 3) := by decide +kernel
theorem dKM_makePair_19 : decode c_KM_makePair 19 = .ok (.aload_n 0, 1) := by decide +kernel
theorem dKM_makePair_20 : decode c_KM_makePair 20 = .ok (.getfield 10, 3) := by decide +kernel
theorem dKM_makePair_23 : decode c_KM_makePair 23 = .ok (.aload_n 1, 1) := by decide +kernel
theorem dKM_makePair_24 : decode c_KM_makePair 24 = .ok (.getfield 61, 3) := by decide +kernel
theorem dKM_makePair_27 : decode c_KM_makePair 27 = .ok (.invokevirtual 67, 3) := by decide +kernel
theorem dKM_makePair_30 : decode c_KM_makePair 30 = .ok (.aload_n 0, 1) := by decide +kernel
theorem dKM_makePair_31 : decode c_KM_makePair 31 = .ok (.getfield 10, 3) := by decide +kernel
theorem dKM_makePair_34 : decode c_KM_makePair 34 = .ok (.invokevirtual 70, 3) := by decide +kernel
theorem dKM_makePair_37 : decode c_KM_makePair 37 = .ok (.aload_n 0, 1) := by decide +kernel
theorem dKM_makePair_38 : decode c_KM_makePair 38 = .ok (.getfield 10, 3) := by decide +kernel
theorem dKM_makePair_41 : decode c_KM_makePair 41 = .ok (.aload_n 0, 1) := by decide +kernel
theorem dKM_makePair_42 : decode c_KM_makePair 42 = .ok (.getfield 44, 3) := by decide +kernel
theorem dKM_makePair_45 : decode c_KM_makePair 45 = .ok (.iconst 0, 1) := by decide +kernel
theorem dKM_makePair_46 : decode c_KM_makePair 46 = .ok (.bipush 64, 2) := by decide +kernel
theorem dKM_makePair_48 : decode c_KM_makePair 48 = .ok (.invokevirtual 73, 3) := by decide +kernel
theorem dKM_makePair_51 : decode c_KM_makePair 51 = .ok (.aload_n 0, 1) := by decide +kernel
theorem dKM_makePair_52 : decode c_KM_makePair 52 = .ok (.getfield 44, 3) := by decide +kernel
theorem dKM_makePair_55 : decode c_KM_makePair 55 = .ok (.iconst 0, 1) := by decide +kernel
theorem dKM_makePair_56 : decode c_KM_makePair 56 = .ok (.aload_n 3, 1) := by decide +kernel
theorem dKM_makePair_57 : decode c_KM_makePair 57 = .ok (.aload_n 1, 1) := by decide +kernel
theorem dKM_makePair_58 : decode c_KM_makePair 58 = .ok (.getfield 76, 3) := by decide +kernel
theorem dKM_makePair_61 : decode c_KM_makePair 61 = .ok (.bipush 32, 2) := by decide +kernel
theorem dKM_makePair_63 : decode c_KM_makePair 63 = .ok (.isub, 1) := by decide +kernel
theorem dKM_makePair_64 : decode c_KM_makePair 64 = .ok (.bipush 32, 2) := by decide +kernel
theorem dKM_makePair_66 : decode c_KM_makePair 66 = .ok (.invokestatic 79, 3) := by decide +kernel
theorem dKM_makePair_69 : decode c_KM_makePair 69 = .ok (.iconst 0, 1) := by decide +kernel
theorem dKM_makePair_70 : decode c_KM_makePair 70 = .ok (.istore 5, 2) := by decide +kernel
theorem dKM_makePair_72 : decode c_KM_makePair 72 = .ok (.iload 5, 2) := by decide +kernel
theorem dKM_makePair_74 : decode c_KM_makePair 74 = .ok (.aload_n 1, 1) := by decide +kernel
theorem dKM_makePair_75 : decode c_KM_makePair 75 = .ok (.getfield 61, 3) := by decide +kernel
theorem dKM_makePair_78 : decode c_KM_makePair 78 = .ok (.if_icmp .ge 60, 3) := by decide +kernel
theorem dKM_makePair_81 : decode c_KM_makePair 81 = .ok (.aload_n 0, 1) := by decide +kernel
theorem dKM_makePair_82 : decode c_KM_makePair 82 = .ok (.aload_n 0, 1) := by decide +kernel
theorem dKM_makePair_83 : decode c_KM_makePair 83 = .ok (.getfield 27, 3) := by decide +kernel
theorem dKM_makePair_86 : decode c_KM_makePair 86 = .ok (.iload 5, 2) := by decide +kernel
theorem dKM_makePair_88 : decode c_KM_makePair 88 = .ok (.aaload, 1) := by decide +kernel
theorem dKM_makePair_89 : decode c_KM_makePair 89 = .ok (.aload_n 1, 1) := by decide +kernel
theorem dKM_makePair_90 : decode c_KM_makePair 90 = .ok (.getfield 85, 3) := by decide +kernel
theorem dKM_makePair_93 : decode c_KM_makePair 93 = .ok (.iload 5, 2) := by decide +kernel
theorem dKM_makePair_95 : decode c_KM_makePair 95 = .ok (.invokevirtual 88, 3) := by decide +kernel
theorem dKM_makePair_98 : decode c_KM_makePair 98 = .ok (.aload_n 0, 1) := by decide +kernel
theorem dKM_makePair_99 : decode c_KM_makePair 99 = .ok (.getfield 21, 3) := by decide +kernel
theorem dKM_makePair_102 : decode c_KM_makePair 102 = .ok (.aload_n 0, 1) := by decide +kernel
theorem dKM_makePair_103 : decode c_KM_makePair 103 = .ok (.getfield 27, 3) := by decide +kernel
theorem dKM_makePair_106 : decode c_KM_makePair 106 = .ok (.iload 5, 2) := by decide +kernel
theorem dKM_makePair_108 : decode c_KM_makePair 108 = .ok (.aaload, 1) := by decide +kernel
theorem dKM_makePair_109 : decode c_KM_makePair 109 = .ok (.invokevirtual 92, 3) := by decide +kernel
theorem dKM_makePair_112 : decode c_KM_makePair 112 = .ok (.aload_n 0, 1) := by decide +kernel
theorem dKM_makePair_113 : decode c_KM_makePair 113 = .ok (.getfield 27, 3) := by decide +kernel
theorem dKM_makePair_116 : decode c_KM_makePair 116 = .ok (.iload 5, 2) := by decide +kernel
theorem dKM_makePair_118 : decode c_KM_makePair 118 = .ok (.aaload, 1) := by decide +kernel
theorem dKM_makePair_119 : decode c_KM_makePair 119 = .ok (.bipush 12, 2) := by decide +kernel
theorem dKM_makePair_121 : decode c_KM_makePair 121 = .ok (.aload 4, 2) := by decide +kernel
theorem dKM_makePair_123 : decode c_KM_makePair 123 = .ok (.sipush 384, 3) := by decide +kernel
theorem dKM_makePair_126 : decode c_KM_makePair 126 = .ok (.iload 5, 2) := by decide +kernel
theorem dKM_makePair_128 : decode c_KM_makePair 128 = .ok (.imul, 1) := by decide +kernel
theorem dKM_makePair_129 : decode c_KM_makePair 129 = .ok (.invokestatic 96, 3) := by decide +kernel
theorem dKM_makePair_132 : decode c_KM_makePair 132 = .ok (.iinc 5 1, 3) := by decide +kernel
theorem dKM_makePair_135 : decode c_KM_makePair 135 = .ok (.goto (-63), 3) := by decide +kernel
theorem dKM_makePair_138 : decode c_KM_makePair 138 = .ok (.iconst 0, 1) := by decide +kernel
theorem dKM_makePair_139 : decode c_KM_makePair 139 = .ok (.istore 5, 2) := by decide +kernel
theorem dKM_makePair_141 : decode c_KM_makePair 141 = .ok (.iload 5, 2) := by decide +kernel
theorem dKM_makePair_143 : decode c_KM_makePair 143 = .ok (.aload_n 1, 1) := by decide +kernel
theorem dKM_makePair_144 : decode c_KM_makePair 144 = .ok (.getfield 61, 3) := by decide +kernel
theorem dKM_makePair_147 : decode c_KM_makePair 147 = .ok (.if_icmp .ge 111, 3) := by decide +kernel
theorem dKM_makePair_150 : decode c_KM_makePair 150 = .ok (.aload_n 0, 1) := by decide +kernel
theorem dKM_makePair_151 : decode c_KM_makePair 151 = .ok (.aload_n 0, 1) := by decide +kernel
theorem dKM_makePair_152 : decode c_KM_makePair 152 = .ok (.getfield 30, 3) := by decide +kernel
theorem dKM_makePair_155 : decode c_KM_makePair 155 = .ok (.aload_n 1, 1) := by decide +kernel
theorem dKM_makePair_156 : decode c_KM_makePair 156 = .ok (.getfield 85, 3) := by decide +kernel
theorem dKM_makePair_159 : decode c_KM_makePair 159 = .ok (.aload_n 1, 1) := by decide +kernel
theorem dKM_makePair_160 : decode c_KM_makePair 160 = .ok (.getfield 61, 3) := by decide +kernel
theorem dKM_makePair_163 : decode c_KM_makePair 163 = .ok (.iload 5, 2) := by decide +kernel
theorem dKM_makePair_165 : decode c_KM_makePair 165 = .ok (.iadd, 1) := by decide +kernel
theorem dKM_makePair_166 : decode c_KM_makePair 166 = .ok (.invokevirtual 88, 3) := by decide +kernel
theorem dKM_makePair_169 : decode c_KM_makePair 169 = .ok (.aload_n 0, 1) := by decide +kernel
theorem dKM_makePair_170 : decode c_KM_makePair 170 = .ok (.getfield 21, 3) := by decide +kernel
theorem dKM_makePair_173 : decode c_KM_makePair 173 = .ok (.aload_n 0, 1) := by decide +kernel
theorem dKM_makePair_174 : decode c_KM_makePair 174 = .ok (.getfield 30, 3) := by decide +kernel
theorem dKM_makePair_177 : decode c_KM_makePair 177 = .ok (.invokevirtual 92, 3) := by decide +kernel
theorem dKM_makePair_180 : decode c_KM_makePair 180 = .ok (.iconst 0, 1) := by decide +kernel
theorem dKM_makePair_181 : decode c_KM_makePair 181 = .ok (.istore 6, 2) := by decide +kernel
theorem dKM_makePair_183 : decode c_KM_makePair 183 = .ok (.iload 6, 2) := by decide +kernel
theorem dKM_makePair_185 : decode c_KM_makePair 185 = .ok (.aload_n 1, 1) := by decide +kernel
theorem dKM_makePair_186 : decode c_KM_makePair 186 = .ok (.getfield 61, 3) := by decide +kernel
theorem dKM_makePair_189 : decode c_KM_makePair 189 = .ok (.if_icmp .ge 47, 3) := by decide +kernel
theorem dKM_makePair_192 : decode c_KM_makePair 192 = .ok (.aload_n 0, 1) := by decide +kernel
theorem dKM_makePair_193 : decode c_KM_makePair 193 = .ok (.aload_n 3, 1) := by decide +kernel
theorem dKM_makePair_194 : decode c_KM_makePair 194 = .ok (.aload_n 1, 1) := by decide +kernel
theorem dKM_makePair_195 : decode c_KM_makePair 195 = .ok (.getfield 76, 3) := by decide +kernel
theorem dKM_makePair_198 : decode c_KM_makePair 198 = .ok (.bipush 32, 2) := by decide +kernel
theorem dKM_makePair_200 : decode c_KM_makePair 200 = .ok (.isub, 1) := by decide +kernel
theorem dKM_makePair_201 : decode c_KM_makePair 201 = .ok (.iload 6, 2) := by decide +kernel
theorem dKM_makePair_203 : decode c_KM_makePair 203 = .ok (.iload 5, 2) := by decide +kernel
theorem dKM_makePair_205 : decode c_KM_makePair 205 = .ok (.invokevirtual 102, 3) := by decide +kernel
theorem dKM_makePair_208 : decode c_KM_makePair 208 = .ok (.aload_n 0, 1) := by decide +kernel
theorem dKM_makePair_209 : decode c_KM_makePair 209 = .ok (.getfield 21, 3) := by decide +kernel
theorem dKM_makePair_212 : decode c_KM_makePair 212 = .ok (.aload_n 0, 1) := by decide +kernel
theorem dKM_makePair_213 : decode c_KM_makePair 213 = .ok (.getfield 30, 3) := by decide +kernel
theorem dKM_makePair_216 : decode c_KM_makePair 216 = .ok (.aload_n 0, 1) := by decide +kernel
theorem dKM_makePair_217 : decode c_KM_makePair 217 = .ok (.getfield 34, 3) := by decide +kernel
theorem dKM_makePair_220 : decode c_KM_makePair 220 = .ok (.aload_n 0, 1) := by decide +kernel
theorem dKM_makePair_221 : decode c_KM_makePair 221 = .ok (.getfield 27, 3) := by decide +kernel
theorem dKM_makePair_224 : decode c_KM_makePair 224 = .ok (.iload 6, 2) := by decide +kernel
theorem dKM_makePair_226 : decode c_KM_makePair 226 = .ok (.aaload, 1) := by decide +kernel
theorem dKM_makePair_227 : decode c_KM_makePair 227 = .ok (.invokevirtual 106, 3) := by decide +kernel
theorem dKM_makePair_230 : decode c_KM_makePair 230 = .ok (.iinc 6 1, 3) := by decide +kernel
theorem dKM_makePair_233 : decode c_KM_makePair 233 = .ok (.goto (-50), 3) := by decide +kernel
theorem dKM_makePair_236 : decode c_KM_makePair 236 = .ok (.aload_n 0, 1) := by decide +kernel
theorem dKM_makePair_237 : decode c_KM_makePair 237 = .ok (.getfield 30, 3) := by decide +kernel
theorem dKM_makePair_240 : decode c_KM_makePair 240 = .ok (.bipush 12, 2) := by decide +kernel
theorem dKM_makePair_242 : decode c_KM_makePair 242 = .ok (.aload_n 3, 1) := by decide +kernel
theorem dKM_makePair_243 : decode c_KM_makePair 243 = .ok (.sipush 384, 3) := by decide +kernel
theorem dKM_makePair_246 : decode c_KM_makePair 246 = .ok (.iload 5, 2) := by decide +kernel
theorem dKM_makePair_248 : decode c_KM_makePair 248 = .ok (.imul, 1) := by decide +kernel
theorem dKM_makePair_249 : decode c_KM_makePair 249 = .ok (.invokestatic 96, 3) := by decide +kernel
theorem dKM_makePair_252 : decode c_KM_makePair 252 = .ok (.iinc 5 1, 3) := by decide +kernel
theorem dKM_makePair_255 : decode c_KM_makePair 255 = .ok (.goto (-114), 3) := by decide +kernel
theorem dKM_makePair_258 : decode c_KM_makePair 258 = .ok (.aload_n 3, 1) := by decide +kernel
theorem dKM_makePair_259 : decode c_KM_makePair 259 = .ok (.iconst 0, 1) := by decide +kernel
theorem dKM_makePair_260 : decode c_KM_makePair 260 = .ok (.aload 4, 2) := by decide +kernel
theorem dKM_makePair_262 : decode c_KM_makePair 262 = .ok (.aload_n 1, 1) := by decide +kernel
theorem dKM_makePair_263 : decode c_KM_makePair 263 = .ok (.getfield 110, 3) := by decide +kernel
theorem dKM_makePair_266 : decode c_KM_makePair 266 = .ok (.aload_n 1, 1) := by decide +kernel
theorem dKM_makePair_267 : decode c_KM_makePair 267 = .ok (.getfield 76, 3) := by decide +kernel
theorem dKM_makePair_270 : decode c_KM_makePair 270 = .ok (.invokestatic 79, 3) := by decide +kernel
theorem dKM_makePair_273 : decode c_KM_makePair 273 = .ok (.aload_n 0, 1) := by decide +kernel
theorem dKM_makePair_274 : decode c_KM_makePair 274 = .ok (.aload_n 3, 1) := by decide +kernel
theorem dKM_makePair_275 : decode c_KM_makePair 275 = .ok (.iconst 0, 1) := by decide +kernel
theorem dKM_makePair_276 : decode c_KM_makePair 276 = .ok (.aload_n 1, 1) := by decide +kernel
theorem dKM_makePair_277 : decode c_KM_makePair 277 = .ok (.getfield 76, 3) := by decide +kernel
theorem dKM_makePair_280 : decode c_KM_makePair 280 = .ok (.invokevirtual 113, 3) := by decide +kernel
theorem dKM_makePair_283 : decode c_KM_makePair 283 = .ok (.aload_n 0, 1) := by decide +kernel
theorem dKM_makePair_284 : decode c_KM_makePair 284 = .ok (.getfield 41, 3) := by decide +kernel
theorem dKM_makePair_287 : decode c_KM_makePair 287 = .ok (.iconst 0, 1) := by decide +kernel
theorem dKM_makePair_288 : decode c_KM_makePair 288 = .ok (.aload 4, 2) := by decide +kernel
theorem dKM_makePair_290 : decode c_KM_makePair 290 = .ok (.aload_n 1, 1) := by decide +kernel
theorem dKM_makePair_291 : decode c_KM_makePair 291 = .ok (.getfield 116, 3) := by decide +kernel
theorem dKM_makePair_294 : decode c_KM_makePair 294 = .ok (.bipush 32, 2) := by decide +kernel
theorem dKM_makePair_296 : decode c_KM_makePair 296 = .ok (.invokestatic 79, 3) := by decide +kernel
theorem dKM_makePair_299 : decode c_KM_makePair 299 = .ok (.aload_n 2, 1) := by decide +kernel
theorem dKM_makePair_300 : decode c_KM_makePair 300 = .ok (.bipush 32, 2) := by decide +kernel
theorem dKM_makePair_302 : decode c_KM_makePair 302 = .ok (.aload 4, 2) := by decide +kernel
theorem dKM_makePair_304 : decode c_KM_makePair 304 = .ok (.aload_n 1, 1) := by decide +kernel
theorem dKM_makePair_305 : decode c_KM_makePair 305 = .ok (.getfield 119, 3) := by decide +kernel
theorem dKM_makePair_308 : decode c_KM_makePair 308 = .ok (.bipush 32, 2) := by decide +kernel
theorem dKM_makePair_310 : decode c_KM_makePair 310 = .ok (.invokestatic 79, 3) := by decide +kernel
theorem dKM_makePair_313 : decode c_KM_makePair 313 = .ok (.return_, 1) := by decide +kernel
abbrev c_KM_encapsulate : ByteArray := prog_6_method_3_code
abbrev y_KM_encapsulate : MethodName := ⟨"LatticeKeys$Kem", "encapsulate", "(LLatticeKeys$KemSet;[B[B[B)V"⟩
abbrev w_KM_encapsulate : List Cond := Cond.code y_KM_encapsulate c_KM_encapsulate 5 none :: WG
theorem dKM_encapsulate_0 : decode c_KM_encapsulate 0 = .ok (.aload_n 3, 1) := by decide +kernel
theorem dKM_encapsulate_1 : decode c_KM_encapsulate 1 = .ok (.iconst 0, 1) := by decide +kernel
theorem dKM_encapsulate_2 : decode c_KM_encapsulate 2 = .ok (.aload_n 0, 1) := by decide +kernel
theorem dKM_encapsulate_3 : decode c_KM_encapsulate 3 = .ok (.getfield 37, 3) := by decide +kernel
theorem dKM_encapsulate_6 : decode c_KM_encapsulate 6 = .ok (.iconst 0, 1) := by decide +kernel
theorem dKM_encapsulate_7 : decode c_KM_encapsulate 7 = .ok (.bipush 32, 2) := by decide +kernel
theorem dKM_encapsulate_9 : decode c_KM_encapsulate 9 = .ok (.invokestatic 79, 3) := by decide +kernel
theorem dKM_encapsulate_12 : decode c_KM_encapsulate 12 = .ok (.aload_n 0, 1) := by decide +kernel
theorem dKM_encapsulate_13 : decode c_KM_encapsulate 13 = .ok (.aload_n 2, 1) := by decide +kernel
theorem dKM_encapsulate_14 : decode c_KM_encapsulate 14 = .ok (.iconst 0, 1) := by decide +kernel
theorem dKM_encapsulate_15 : decode c_KM_encapsulate 15 = .ok (.aload_n 1, 1) := by decide +kernel
theorem dKM_encapsulate_16 : decode c_KM_encapsulate 16 = .ok (.getfield 76, 3) := by decide +kernel
theorem dKM_encapsulate_19 : decode c_KM_encapsulate 19 = .ok (.invokevirtual 113, 3) := by decide +kernel
theorem dKM_encapsulate_22 : decode c_KM_encapsulate 22 = .ok (.aload_n 0, 1) := by decide +kernel
theorem dKM_encapsulate_23 : decode c_KM_encapsulate 23 = .ok (.aload_n 0, 1) := by decide +kernel
theorem dKM_encapsulate_24 : decode c_KM_encapsulate 24 = .ok (.getfield 41, 3) := by decide +kernel
theorem dKM_encapsulate_27 : decode c_KM_encapsulate 27 = .ok (.iconst 0, 1) := by decide +kernel
theorem dKM_encapsulate_28 : decode c_KM_encapsulate 28 = .ok (.invokevirtual 122, 3) := by decide +kernel
theorem dKM_encapsulate_31 : decode c_KM_encapsulate 31 = .ok (.aload_n 0, 1) := by decide +kernel
theorem dKM_encapsulate_32 : decode c_KM_encapsulate 32 = .ok (.aload_n 1, 1) := by decide +kernel
theorem dKM_encapsulate_33 : decode c_KM_encapsulate 33 = .ok (.aload_n 2, 1) := by decide +kernel
theorem dKM_encapsulate_34 : decode c_KM_encapsulate 34 = .ok (.aload 4, 2) := by decide +kernel
theorem dKM_encapsulate_36 : decode c_KM_encapsulate 36 = .ok (.invokevirtual 126, 3) := by decide +kernel
theorem dKM_encapsulate_39 : decode c_KM_encapsulate 39 = .ok (.aload_n 0, 1) := by decide +kernel
theorem dKM_encapsulate_40 : decode c_KM_encapsulate 40 = .ok (.getfield 44, 3) := by decide +kernel
theorem dKM_encapsulate_43 : decode c_KM_encapsulate 43 = .ok (.iconst 0, 1) := by decide +kernel
theorem dKM_encapsulate_44 : decode c_KM_encapsulate 44 = .ok (.aload 4, 2) := by decide +kernel
theorem dKM_encapsulate_46 : decode c_KM_encapsulate 46 = .ok (.aload_n 1, 1) := by decide +kernel
theorem dKM_encapsulate_47 : decode c_KM_encapsulate 47 = .ok (.getfield 130, 3) := by decide +kernel
theorem dKM_encapsulate_50 : decode c_KM_encapsulate 50 = .ok (.bipush 32, 2) := by decide +kernel
theorem dKM_encapsulate_52 : decode c_KM_encapsulate 52 = .ok (.invokestatic 79, 3) := by decide +kernel
theorem dKM_encapsulate_55 : decode c_KM_encapsulate 55 = .ok (.return_, 1) := by decide +kernel
abbrev c_KM_decapsulate : ByteArray := prog_6_method_4_code
abbrev y_KM_decapsulate : MethodName := ⟨"LatticeKeys$Kem", "decapsulate", "(LLatticeKeys$KemSet;LLatticeKeys$KeyPair;[B[B)V"⟩
abbrev w_KM_decapsulate : List Cond := Cond.code y_KM_decapsulate c_KM_decapsulate 7 none :: WG
theorem dKM_decapsulate_0 : decode c_KM_decapsulate 0 = .ok (.aload_n 0, 1) := by decide +kernel
theorem dKM_decapsulate_1 : decode c_KM_decapsulate 1 = .ok (.aload_n 1, 1) := by decide +kernel
theorem dKM_decapsulate_2 : decode c_KM_decapsulate 2 = .ok (.aload_n 2, 1) := by decide +kernel
theorem dKM_decapsulate_3 : decode c_KM_decapsulate 3 = .ok (.getfield 133, 3) := by decide +kernel
theorem dKM_decapsulate_6 : decode c_KM_decapsulate 6 = .ok (.aload_n 3, 1) := by decide +kernel
theorem dKM_decapsulate_7 : decode c_KM_decapsulate 7 = .ok (.invokevirtual 138, 3) := by decide +kernel
theorem dKM_decapsulate_10 : decode c_KM_decapsulate 10 = .ok (.aload_n 0, 1) := by decide +kernel
theorem dKM_decapsulate_11 : decode c_KM_decapsulate 11 = .ok (.aload_n 2, 1) := by decide +kernel
theorem dKM_decapsulate_12 : decode c_KM_decapsulate 12 = .ok (.getfield 133, 3) := by decide +kernel
theorem dKM_decapsulate_15 : decode c_KM_decapsulate 15 = .ok (.aload_n 1, 1) := by decide +kernel
theorem dKM_decapsulate_16 : decode c_KM_decapsulate 16 = .ok (.getfield 116, 3) := by decide +kernel
theorem dKM_decapsulate_19 : decode c_KM_decapsulate 19 = .ok (.invokevirtual 122, 3) := by decide +kernel
theorem dKM_decapsulate_22 : decode c_KM_decapsulate 22 = .ok (.aload_n 0, 1) := by decide +kernel
theorem dKM_decapsulate_23 : decode c_KM_decapsulate 23 = .ok (.aload_n 1, 1) := by decide +kernel
theorem dKM_decapsulate_24 : decode c_KM_decapsulate 24 = .ok (.aload_n 2, 1) := by decide +kernel
theorem dKM_decapsulate_25 : decode c_KM_decapsulate 25 = .ok (.getfield 141, 3) := by decide +kernel
theorem dKM_decapsulate_28 : decode c_KM_decapsulate 28 = .ok (.aload_n 0, 1) := by decide +kernel
theorem dKM_decapsulate_29 : decode c_KM_decapsulate 29 = .ok (.getfield 50, 3) := by decide +kernel
theorem dKM_decapsulate_32 : decode c_KM_decapsulate 32 = .ok (.invokevirtual 126, 3) := by decide +kernel
theorem dKM_decapsulate_35 : decode c_KM_decapsulate 35 = .ok (.iconst 0, 1) := by decide +kernel
theorem dKM_decapsulate_36 : decode c_KM_decapsulate 36 = .ok (.istore 5, 2) := by decide +kernel
theorem dKM_decapsulate_38 : decode c_KM_decapsulate 38 = .ok (.iconst 0, 1) := by decide +kernel
theorem dKM_decapsulate_39 : decode c_KM_decapsulate 39 = .ok (.istore 6, 2) := by decide +kernel
theorem dKM_decapsulate_41 : decode c_KM_decapsulate 41 = .ok (.iload 6, 2) := by decide +kernel
theorem dKM_decapsulate_43 : decode c_KM_decapsulate 43 = .ok (.aload_n 1, 1) := by decide +kernel
theorem dKM_decapsulate_44 : decode c_KM_decapsulate 44 = .ok (.getfield 130, 3) := by decide +kernel
theorem dKM_decapsulate_47 : decode c_KM_decapsulate 47 = .ok (.if_icmp .ge 26, 3) := by decide +kernel
theorem dKM_decapsulate_50 : decode c_KM_decapsulate 50 = .ok (.iload 5, 2) := by decide +kernel
theorem dKM_decapsulate_52 : decode c_KM_decapsulate 52 = .ok (.aload_n 3, 1) := by decide +kernel
theorem dKM_decapsulate_53 : decode c_KM_decapsulate 53 = .ok (.iload 6, 2) := by decide +kernel
theorem dKM_decapsulate_55 : decode c_KM_decapsulate 55 = .ok (.baload, 1) := by decide +kernel
theorem dKM_decapsulate_56 : decode c_KM_decapsulate 56 = .ok (.aload_n 0, 1) := by decide +kernel
theorem dKM_decapsulate_57 : decode c_KM_decapsulate 57 = .ok (.getfield 50, 3) := by decide +kernel
theorem dKM_decapsulate_60 : decode c_KM_decapsulate 60 = .ok (.iload 6, 2) := by decide +kernel
theorem dKM_decapsulate_62 : decode c_KM_decapsulate 62 = .ok (.baload, 1) := by decide +kernel
theorem dKM_decapsulate_63 : decode c_KM_decapsulate 63 = .ok (.ixor, 1) := by decide +kernel
theorem dKM_decapsulate_64 : decode c_KM_decapsulate 64 = .ok (.ior, 1) := by decide +kernel
theorem dKM_decapsulate_65 : decode c_KM_decapsulate 65 = .ok (.istore 5, 2) := by decide +kernel
theorem dKM_decapsulate_67 : decode c_KM_decapsulate 67 = .ok (.iinc 6 1, 3) := by decide +kernel
theorem dKM_decapsulate_70 : decode c_KM_decapsulate 70 = .ok (.goto (-29), 3) := by decide +kernel
theorem dKM_decapsulate_73 : decode c_KM_decapsulate 73 = .ok (.iload 5, 2) := by decide +kernel
theorem dKM_decapsulate_75 : decode c_KM_decapsulate 75 = .ok (.ifCond .ne 17, 3) := by decide +kernel
theorem dKM_decapsulate_78 : decode c_KM_decapsulate 78 = .ok (.aload_n 0, 1) := by decide +kernel
theorem dKM_decapsulate_79 : decode c_KM_decapsulate 79 = .ok (.getfield 44, 3) := by decide +kernel
theorem dKM_decapsulate_82 : decode c_KM_decapsulate 82 = .ok (.iconst 0, 1) := by decide +kernel
theorem dKM_decapsulate_83 : decode c_KM_decapsulate 83 = .ok (.aload 4, 2) := by decide +kernel
theorem dKM_decapsulate_85 : decode c_KM_decapsulate 85 = .ok (.iconst 0, 1) := by decide +kernel
theorem dKM_decapsulate_86 : decode c_KM_decapsulate 86 = .ok (.bipush 32, 2) := by decide +kernel
theorem dKM_decapsulate_88 : decode c_KM_decapsulate 88 = .ok (.invokestatic 79, 3) := by decide +kernel
theorem dKM_decapsulate_91 : decode c_KM_decapsulate 91 = .ok (.return_, 1) := by decide +kernel
theorem dKM_decapsulate_92 : decode c_KM_decapsulate 92 = .ok (.aload_n 0, 1) := by decide +kernel
theorem dKM_decapsulate_93 : decode c_KM_decapsulate 93 = .ok (.getfield 10, 3) := by decide +kernel
theorem dKM_decapsulate_96 : decode c_KM_decapsulate 96 = .ok (.iconst 3, 1) := by decide +kernel
theorem dKM_decapsulate_97 : decode c_KM_decapsulate 97 = .ok (.invokevirtual 53, 3) := by decide +kernel
theorem dKM_decapsulate_100 : decode c_KM_decapsulate 100 = .ok (.aload_n 0, 1) := by decide +kernel
theorem dKM_decapsulate_101 : decode c_KM_decapsulate 101 = .ok (.getfield 10, 3) := by decide +kernel
theorem dKM_decapsulate_104 : decode c_KM_decapsulate 104 = .ok (.aload_n 2, 1) := by decide +kernel
theorem dKM_decapsulate_105 : decode c_KM_decapsulate 105 = .ok (.getfield 133, 3) := by decide +kernel
theorem dKM_decapsulate_108 : decode c_KM_decapsulate 108 = .ok (.aload_n 1, 1) := by decide +kernel
theorem dKM_decapsulate_109 : decode c_KM_decapsulate 109 = .ok (.getfield 119, 3) := by decide +kernel
theorem dKM_decapsulate_112 : decode c_KM_decapsulate 112 = .ok (.bipush 32, 2) := by decide +kernel
theorem dKM_decapsulate_114 : decode c_KM_decapsulate 114 = .ok (.invokevirtual 57, 3) := by decide +kernel
theorem dKM_decapsulate_117 : decode c_KM_decapsulate 117 = .ok (.aload_n 0, 1) := by decide +kernel
theorem dKM_decapsulate_118 : decode c_KM_decapsulate 118 = .ok (.getfield 10, 3) := by decide +kernel
theorem dKM_decapsulate_121 : decode c_KM_decapsulate 121 = .ok (.aload_n 3, 1) := by decide +kernel
theorem dKM_decapsulate_122 : decode c_KM_decapsulate 122 = .ok (.iconst 0, 1) := by decide +kernel
theorem dKM_decapsulate_123 : decode c_KM_decapsulate 123 = .ok (.aload_n 1, 1) := by decide +kernel
theorem dKM_decapsulate_124 : decode c_KM_decapsulate 124 = .ok (.getfield 130, 3) := by decide +kernel
theorem dKM_decapsulate_127 : decode c_KM_decapsulate 127 = .ok (.invokevirtual 57, 3) := by decide +kernel
theorem dKM_decapsulate_130 : decode c_KM_decapsulate 130 = .ok (.aload_n 0, 1) := by decide +kernel
theorem dKM_decapsulate_131 : decode c_KM_decapsulate 131 = .ok (.getfield 10, 3) := by decide +kernel
theorem dKM_decapsulate_134 : decode c_KM_decapsulate 134 = .ok (.invokevirtual 70, 3) := by decide +kernel
theorem dKM_decapsulate_137 : decode c_KM_decapsulate 137 = .ok (.aload_n 0, 1) := by decide +kernel
theorem dKM_decapsulate_138 : decode c_KM_decapsulate 138 = .ok (.getfield 10, 3) := by decide +kernel
theorem dKM_decapsulate_141 : decode c_KM_decapsulate 141 = .ok (.aload 4, 2) := by decide +kernel
theorem dKM_decapsulate_143 : decode c_KM_decapsulate 143 = .ok (.iconst 0, 1) := by decide +kernel
theorem dKM_decapsulate_144 : decode c_KM_decapsulate 144 = .ok (.bipush 32, 2) := by decide +kernel
theorem dKM_decapsulate_146 : decode c_KM_decapsulate 146 = .ok (.invokevirtual 73, 3) := by decide +kernel
theorem dKM_decapsulate_149 : decode c_KM_decapsulate 149 = .ok (.return_, 1) := by decide +kernel
abbrev c_KM_numbersFit : ByteArray := prog_6_method_5_code
abbrev y_KM_numbersFit : MethodName := ⟨"LatticeKeys$Kem", "numbersFit", "(LLatticeKeys$KemSet;[B)Z"⟩
abbrev w_KM_numbersFit : List Cond := Cond.code y_KM_numbersFit c_KM_numbersFit 5 (some .boolean) :: WG
theorem dKM_numbersFit_0 : decode c_KM_numbersFit 0 = .ok (.iconst 0, 1) := by decide +kernel
theorem dKM_numbersFit_1 : decode c_KM_numbersFit 1 = .ok (.istore_n 3, 1) := by decide +kernel
theorem dKM_numbersFit_2 : decode c_KM_numbersFit 2 = .ok (.iload_n 3, 1) := by decide +kernel
theorem dKM_numbersFit_3 : decode c_KM_numbersFit 3 = .ok (.aload_n 1, 1) := by decide +kernel
theorem dKM_numbersFit_4 : decode c_KM_numbersFit 4 = .ok (.getfield 61, 3) := by decide +kernel
theorem dKM_numbersFit_7 : decode c_KM_numbersFit 7 = .ok (.if_icmp .ge 56, 3) := by decide +kernel
theorem dKM_numbersFit_10 : decode c_KM_numbersFit 10 = .ok (.aload_n 0, 1) := by decide +kernel
theorem dKM_numbersFit_11 : decode c_KM_numbersFit 11 = .ok (.getfield 34, 3) := by decide +kernel
theorem dKM_numbersFit_14 : decode c_KM_numbersFit 14 = .ok (.bipush 12, 2) := by decide +kernel
theorem dKM_numbersFit_16 : decode c_KM_numbersFit 16 = .ok (.aload_n 2, 1) := by decide +kernel
theorem dKM_numbersFit_17 : decode c_KM_numbersFit 17 = .ok (.sipush 384, 3) := by decide +kernel
theorem dKM_numbersFit_20 : decode c_KM_numbersFit 20 = .ok (.iload_n 3, 1) := by decide +kernel
theorem dKM_numbersFit_21 : decode c_KM_numbersFit 21 = .ok (.imul, 1) := by decide +kernel
theorem dKM_numbersFit_22 : decode c_KM_numbersFit 22 = .ok (.invokestatic 144, 3) := by decide +kernel
theorem dKM_numbersFit_25 : decode c_KM_numbersFit 25 = .ok (.iconst 0, 1) := by decide +kernel
theorem dKM_numbersFit_26 : decode c_KM_numbersFit 26 = .ok (.istore 4, 2) := by decide +kernel
theorem dKM_numbersFit_28 : decode c_KM_numbersFit 28 = .ok (.iload 4, 2) := by decide +kernel
theorem dKM_numbersFit_30 : decode c_KM_numbersFit 30 = .ok (.sipush 256, 3) := by decide +kernel
theorem dKM_numbersFit_33 : decode c_KM_numbersFit 33 = .ok (.if_icmp .ge 24, 3) := by decide +kernel
theorem dKM_numbersFit_36 : decode c_KM_numbersFit 36 = .ok (.aload_n 0, 1) := by decide +kernel
theorem dKM_numbersFit_37 : decode c_KM_numbersFit 37 = .ok (.getfield 34, 3) := by decide +kernel
theorem dKM_numbersFit_40 : decode c_KM_numbersFit 40 = .ok (.iload 4, 2) := by decide +kernel
theorem dKM_numbersFit_42 : decode c_KM_numbersFit 42 = .ok (.iaload, 1) := by decide +kernel
theorem dKM_numbersFit_43 : decode c_KM_numbersFit 43 = .ok (.sipush 3329, 3) := by decide +kernel
theorem dKM_numbersFit_46 : decode c_KM_numbersFit 46 = .ok (.if_icmp .lt 5, 3) := by decide +kernel
theorem dKM_numbersFit_49 : decode c_KM_numbersFit 49 = .ok (.iconst 0, 1) := by decide +kernel
theorem dKM_numbersFit_50 : decode c_KM_numbersFit 50 = .ok (.ireturn, 1) := by decide +kernel
theorem dKM_numbersFit_51 : decode c_KM_numbersFit 51 = .ok (.iinc 4 1, 3) := by decide +kernel
theorem dKM_numbersFit_54 : decode c_KM_numbersFit 54 = .ok (.goto (-26), 3) := by decide +kernel
theorem dKM_numbersFit_57 : decode c_KM_numbersFit 57 = .ok (.iinc 3 1, 3) := by decide +kernel
theorem dKM_numbersFit_60 : decode c_KM_numbersFit 60 = .ok (.goto (-58), 3) := by decide +kernel
theorem dKM_numbersFit_63 : decode c_KM_numbersFit 63 = .ok (.iconst 1, 1) := by decide +kernel
theorem dKM_numbersFit_64 : decode c_KM_numbersFit 64 = .ok (.ireturn, 1) := by decide +kernel
abbrev c_KM_hashFits : ByteArray := prog_6_method_6_code
abbrev y_KM_hashFits : MethodName := ⟨"LatticeKeys$Kem", "hashFits", "(LLatticeKeys$KemSet;[B)Z"⟩
abbrev w_KM_hashFits : List Cond := Cond.code y_KM_hashFits c_KM_hashFits 4 (some .boolean) :: WG
theorem dKM_hashFits_0 : decode c_KM_hashFits 0 = .ok (.aload_n 0, 1) := by decide +kernel
theorem dKM_hashFits_1 : decode c_KM_hashFits 1 = .ok (.aload_n 2, 1) := by decide +kernel
theorem dKM_hashFits_2 : decode c_KM_hashFits 2 = .ok (.aload_n 1, 1) := by decide +kernel
theorem dKM_hashFits_3 : decode c_KM_hashFits 3 = .ok (.getfield 110, 3) := by decide +kernel
theorem dKM_hashFits_6 : decode c_KM_hashFits 6 = .ok (.aload_n 1, 1) := by decide +kernel
theorem dKM_hashFits_7 : decode c_KM_hashFits 7 = .ok (.getfield 76, 3) := by decide +kernel
theorem dKM_hashFits_10 : decode c_KM_hashFits 10 = .ok (.invokevirtual 113, 3) := by decide +kernel
theorem dKM_hashFits_13 : decode c_KM_hashFits 13 = .ok (.iconst 0, 1) := by decide +kernel
theorem dKM_hashFits_14 : decode c_KM_hashFits 14 = .ok (.istore_n 3, 1) := by decide +kernel
theorem dKM_hashFits_15 : decode c_KM_hashFits 15 = .ok (.iload_n 3, 1) := by decide +kernel
theorem dKM_hashFits_16 : decode c_KM_hashFits 16 = .ok (.bipush 32, 2) := by decide +kernel
theorem dKM_hashFits_18 : decode c_KM_hashFits 18 = .ok (.if_icmp .ge 28, 3) := by decide +kernel
theorem dKM_hashFits_21 : decode c_KM_hashFits 21 = .ok (.aload_n 0, 1) := by decide +kernel
theorem dKM_hashFits_22 : decode c_KM_hashFits 22 = .ok (.getfield 41, 3) := by decide +kernel
theorem dKM_hashFits_25 : decode c_KM_hashFits 25 = .ok (.iload_n 3, 1) := by decide +kernel
theorem dKM_hashFits_26 : decode c_KM_hashFits 26 = .ok (.baload, 1) := by decide +kernel
theorem dKM_hashFits_27 : decode c_KM_hashFits 27 = .ok (.aload_n 2, 1) := by decide +kernel
theorem dKM_hashFits_28 : decode c_KM_hashFits 28 = .ok (.aload_n 1, 1) := by decide +kernel
theorem dKM_hashFits_29 : decode c_KM_hashFits 29 = .ok (.getfield 116, 3) := by decide +kernel
theorem dKM_hashFits_32 : decode c_KM_hashFits 32 = .ok (.iload_n 3, 1) := by decide +kernel
theorem dKM_hashFits_33 : decode c_KM_hashFits 33 = .ok (.iadd, 1) := by decide +kernel
theorem dKM_hashFits_34 : decode c_KM_hashFits 34 = .ok (.baload, 1) := by decide +kernel
theorem dKM_hashFits_35 : decode c_KM_hashFits 35 = .ok (.if_icmp .eq 5, 3) := by decide +kernel
theorem dKM_hashFits_38 : decode c_KM_hashFits 38 = .ok (.iconst 0, 1) := by decide +kernel
theorem dKM_hashFits_39 : decode c_KM_hashFits 39 = .ok (.ireturn, 1) := by decide +kernel
theorem dKM_hashFits_40 : decode c_KM_hashFits 40 = .ok (.iinc 3 1, 3) := by decide +kernel
theorem dKM_hashFits_43 : decode c_KM_hashFits 43 = .ok (.goto (-28), 3) := by decide +kernel
theorem dKM_hashFits_46 : decode c_KM_hashFits 46 = .ok (.iconst 1, 1) := by decide +kernel
theorem dKM_hashFits_47 : decode c_KM_hashFits 47 = .ok (.ireturn, 1) := by decide +kernel
set_option maxHeartbeats 400000 in
set_option maxRecDepth 100000 in
theorem t_KM_makePair_0 (l : Launch) (g : Gd) (sz : Nat) (T : Ty) (xs : List Nat) (pl : va_W) (hO : okx g T xs pl) (hU : uni T) (hc0 : clo T xs 0) (hc2 : clo T xs 2) (h0 st ch pk sk n : Nat) (k_h0 : T h0 = some (13, 0)) (k_st : T st = some (40, 0)) (k_ch : T ch = some (1, n)) (k_pk : T pk = some (1, 800)) (k_sk : T sk = some (1, 1632)) (h1 : 64 ≤ n) (h2 : n < 65536)  : Met l y_KM_makePair w_KM_makePair ({ frames := 4, cells := 0, slots := 0, locals := 131 } : Room) (va_Pc [.ref h0, .ref st, .ref ch, .ref pk, .ref sk] (pr (en g) g.1 vcl sz ([] ++ pl))) (va_Qv (fun (u : va_W) => (True) ∧ okx g T xs u) (po g.1 vcl (va_A ([] ++ pl) sz) (fun (u : va_W) => [] ++ u)) (va_A ([] ++ pl) sz)) 0 0 (va_A ([] ++ pl) sz) := by
  sorry
set_option maxHeartbeats 400000 in
set_option maxRecDepth 100000 in
theorem t_KM_makePair_1 (l : Launch) (g : Gd) (sz : Nat) (T : Ty) (xs : List Nat) (pl : va_W) (hO : okx g T xs pl) (hU : uni T) (hc0 : clo T xs 0) (hc2 : clo T xs 2) (h0 st ch pk sk n : Nat) (k_h0 : T h0 = some (13, 0)) (k_st : T st = some (41, 0)) (k_ch : T ch = some (1, n)) (k_pk : T pk = some (1, 1184)) (k_sk : T sk = some (1, 2400)) (h1 : 64 ≤ n) (h2 : n < 65536)  : Met l y_KM_makePair w_KM_makePair ({ frames := 4, cells := 0, slots := 0, locals := 131 } : Room) (va_Pc [.ref h0, .ref st, .ref ch, .ref pk, .ref sk] (pr (en g) g.1 vcl sz ([] ++ pl))) (va_Qv (fun (u : va_W) => (True) ∧ okx g T xs u) (po g.1 vcl (va_A ([] ++ pl) sz) (fun (u : va_W) => [] ++ u)) (va_A ([] ++ pl) sz)) 0 0 (va_A ([] ++ pl) sz) := by
  sorry
set_option maxHeartbeats 400000 in
set_option maxRecDepth 100000 in
theorem t_KM_makePair_2 (l : Launch) (g : Gd) (sz : Nat) (T : Ty) (xs : List Nat) (pl : va_W) (hO : okx g T xs pl) (hU : uni T) (hc0 : clo T xs 0) (hc2 : clo T xs 2) (h0 st ch pk sk n : Nat) (k_h0 : T h0 = some (13, 0)) (k_st : T st = some (42, 0)) (k_ch : T ch = some (1, n)) (k_pk : T pk = some (1, 1568)) (k_sk : T sk = some (1, 3168)) (h1 : 64 ≤ n) (h2 : n < 65536)  : Met l y_KM_makePair w_KM_makePair ({ frames := 4, cells := 0, slots := 0, locals := 131 } : Room) (va_Pc [.ref h0, .ref st, .ref ch, .ref pk, .ref sk] (pr (en g) g.1 vcl sz ([] ++ pl))) (va_Qv (fun (u : va_W) => (True) ∧ okx g T xs u) (po g.1 vcl (va_A ([] ++ pl) sz) (fun (u : va_W) => [] ++ u)) (va_A ([] ++ pl) sz)) 0 0 (va_A ([] ++ pl) sz) := by
  sorry
set_option maxHeartbeats 400000 in
set_option maxRecDepth 100000 in
theorem t_KM_encapsulate_0 (l : Launch) (g : Gd) (sz : Nat) (T : Ty) (xs : List Nat) (pl : va_W) (hO : okx g T xs pl) (hU : uni T) (hc0 : clo T xs 0) (hc2 : clo T xs 2) (h0 st pk ch to n : Nat) (k_h0 : T h0 = some (13, 0)) (k_st : T st = some (40, 0)) (k_pk : T pk = some (1, 800)) (k_ch : T ch = some (1, n)) (k_to : T to = some (1, 8192)) (h1 : 32 ≤ n) (h2 : n < 65536)  : Met l y_KM_encapsulate w_KM_encapsulate ({ frames := 5, cells := 0, slots := 0, locals := 156 } : Room) (va_Pc [.ref h0, .ref st, .ref pk, .ref ch, .ref to] (pr (en g) g.1 vcl sz ([] ++ pl))) (va_Qv (fun (u : va_W) => (True) ∧ okx g T xs u) (po g.1 vcl (va_A ([] ++ pl) sz) (fun (u : va_W) => [] ++ u)) (va_A ([] ++ pl) sz)) 0 0 (va_A ([] ++ pl) sz) := by
  sorry
set_option maxHeartbeats 400000 in
set_option maxRecDepth 100000 in
theorem t_KM_encapsulate_1 (l : Launch) (g : Gd) (sz : Nat) (T : Ty) (xs : List Nat) (pl : va_W) (hO : okx g T xs pl) (hU : uni T) (hc0 : clo T xs 0) (hc2 : clo T xs 2) (h0 st pk ch to n : Nat) (k_h0 : T h0 = some (13, 0)) (k_st : T st = some (41, 0)) (k_pk : T pk = some (1, 1184)) (k_ch : T ch = some (1, n)) (k_to : T to = some (1, 8192)) (h1 : 32 ≤ n) (h2 : n < 65536)  : Met l y_KM_encapsulate w_KM_encapsulate ({ frames := 5, cells := 0, slots := 0, locals := 156 } : Room) (va_Pc [.ref h0, .ref st, .ref pk, .ref ch, .ref to] (pr (en g) g.1 vcl sz ([] ++ pl))) (va_Qv (fun (u : va_W) => (True) ∧ okx g T xs u) (po g.1 vcl (va_A ([] ++ pl) sz) (fun (u : va_W) => [] ++ u)) (va_A ([] ++ pl) sz)) 0 0 (va_A ([] ++ pl) sz) := by
  sorry
set_option maxHeartbeats 400000 in
set_option maxRecDepth 100000 in
theorem t_KM_encapsulate_2 (l : Launch) (g : Gd) (sz : Nat) (T : Ty) (xs : List Nat) (pl : va_W) (hO : okx g T xs pl) (hU : uni T) (hc0 : clo T xs 0) (hc2 : clo T xs 2) (h0 st pk ch to n : Nat) (k_h0 : T h0 = some (13, 0)) (k_st : T st = some (42, 0)) (k_pk : T pk = some (1, 1568)) (k_ch : T ch = some (1, n)) (k_to : T to = some (1, 8192)) (h1 : 32 ≤ n) (h2 : n < 65536)  : Met l y_KM_encapsulate w_KM_encapsulate ({ frames := 5, cells := 0, slots := 0, locals := 156 } : Room) (va_Pc [.ref h0, .ref st, .ref pk, .ref ch, .ref to] (pr (en g) g.1 vcl sz ([] ++ pl))) (va_Qv (fun (u : va_W) => (True) ∧ okx g T xs u) (po g.1 vcl (va_A ([] ++ pl) sz) (fun (u : va_W) => [] ++ u)) (va_A ([] ++ pl) sz)) 0 0 (va_A ([] ++ pl) sz) := by
  sorry
set_option maxHeartbeats 400000 in
set_option maxRecDepth 100000 in
theorem t_KM_decapsulate_0 (l : Launch) (g : Gd) (sz : Nat) (T : Ty) (xs : List Nat) (pl : va_W) (hO : okx g T xs pl) (hU : uni T) (hc0 : clo T xs 0) (hc2 : clo T xs 2) (h0 st kp ct to n : Nat) (k_h0 : T h0 = some (13, 0)) (k_st : T st = some (40, 0)) (k_kp : T kp = some (17, 0)) (k_ct : T ct = some (1, n)) (k_to : T to = some (1, 8192)) (h1 : 768 ≤ n) (h2 : n < 65536)  : Met l y_KM_decapsulate w_KM_decapsulate ({ frames := 5, cells := 0, slots := 0, locals := 156 } : Room) (va_Pc [.ref h0, .ref st, .ref kp, .ref ct, .ref to] (pr (en g) g.1 vcl sz ([] ++ pl))) (va_Qv (fun (u : va_W) => (True) ∧ okx g T xs u) (po g.1 vcl (va_A ([] ++ pl) sz) (fun (u : va_W) => [] ++ u)) (va_A ([] ++ pl) sz)) 0 0 (va_A ([] ++ pl) sz) := by
  sorry
set_option maxHeartbeats 400000 in
set_option maxRecDepth 100000 in
theorem t_KM_decapsulate_1 (l : Launch) (g : Gd) (sz : Nat) (T : Ty) (xs : List Nat) (pl : va_W) (hO : okx g T xs pl) (hU : uni T) (hc0 : clo T xs 0) (hc2 : clo T xs 2) (h0 st kp ct to n : Nat) (k_h0 : T h0 = some (13, 0)) (k_st : T st = some (41, 0)) (k_kp : T kp = some (17, 1)) (k_ct : T ct = some (1, n)) (k_to : T to = some (1, 8192)) (h1 : 1088 ≤ n) (h2 : n < 65536)  : Met l y_KM_decapsulate w_KM_decapsulate ({ frames := 5, cells := 0, slots := 0, locals := 156 } : Room) (va_Pc [.ref h0, .ref st, .ref kp, .ref ct, .ref to] (pr (en g) g.1 vcl sz ([] ++ pl))) (va_Qv (fun (u : va_W) => (True) ∧ okx g T xs u) (po g.1 vcl (va_A ([] ++ pl) sz) (fun (u : va_W) => [] ++ u)) (va_A ([] ++ pl) sz)) 0 0 (va_A ([] ++ pl) sz) := by
  sorry
set_option maxHeartbeats 400000 in
set_option maxRecDepth 100000 in
theorem t_KM_decapsulate_2 (l : Launch) (g : Gd) (sz : Nat) (T : Ty) (xs : List Nat) (pl : va_W) (hO : okx g T xs pl) (hU : uni T) (hc0 : clo T xs 0) (hc2 : clo T xs 2) (h0 st kp ct to n : Nat) (k_h0 : T h0 = some (13, 0)) (k_st : T st = some (42, 0)) (k_kp : T kp = some (17, 2)) (k_ct : T ct = some (1, n)) (k_to : T to = some (1, 8192)) (h1 : 1568 ≤ n) (h2 : n < 65536)  : Met l y_KM_decapsulate w_KM_decapsulate ({ frames := 5, cells := 0, slots := 0, locals := 156 } : Room) (va_Pc [.ref h0, .ref st, .ref kp, .ref ct, .ref to] (pr (en g) g.1 vcl sz ([] ++ pl))) (va_Qv (fun (u : va_W) => (True) ∧ okx g T xs u) (po g.1 vcl (va_A ([] ++ pl) sz) (fun (u : va_W) => [] ++ u)) (va_A ([] ++ pl) sz)) 0 0 (va_A ([] ++ pl) sz) := by
  sorry
set_option maxHeartbeats 400000 in
set_option maxRecDepth 100000 in
theorem t_KM_numbersFit_0 (l : Launch) (g : Gd) (sz : Nat) (T : Ty) (xs : List Nat) (pl : va_W) (hO : okx g T xs pl) (hU : uni T) (hc0 : clo T xs 0) (h0 st pk n : Nat) (k_h0 : T h0 = some (13, 0)) (k_st : T st = some (40, 0)) (k_pk : T pk = some (1, n)) (h1 : 800 ≤ n) (h2 : n < 65536)  : Met l y_KM_numbersFit w_KM_numbersFit ({ frames := 1, cells := 0, slots := 0, locals := 28 } : Room) (va_Pc [.ref h0, .ref st, .ref pk] (pr (en g) g.1 vcl sz ([] ++ pl))) (va_Qi (fun (r : Int32) (u : va_W) => (r = nI 0 ∨ r = nI 1) ∧ okx g T xs u) (po g.1 vcl (va_A ([] ++ pl) sz) (fun (u : va_W) => [] ++ u)) (va_A ([] ++ pl) sz)) 0 0 (va_A ([] ++ pl) sz) := by
  sorry
set_option maxHeartbeats 400000 in
set_option maxRecDepth 100000 in
theorem t_KM_numbersFit_1 (l : Launch) (g : Gd) (sz : Nat) (T : Ty) (xs : List Nat) (pl : va_W) (hO : okx g T xs pl) (hU : uni T) (hc0 : clo T xs 0) (h0 st pk n : Nat) (k_h0 : T h0 = some (13, 0)) (k_st : T st = some (41, 0)) (k_pk : T pk = some (1, n)) (h1 : 1184 ≤ n) (h2 : n < 65536)  : Met l y_KM_numbersFit w_KM_numbersFit ({ frames := 1, cells := 0, slots := 0, locals := 28 } : Room) (va_Pc [.ref h0, .ref st, .ref pk] (pr (en g) g.1 vcl sz ([] ++ pl))) (va_Qi (fun (r : Int32) (u : va_W) => (r = nI 0 ∨ r = nI 1) ∧ okx g T xs u) (po g.1 vcl (va_A ([] ++ pl) sz) (fun (u : va_W) => [] ++ u)) (va_A ([] ++ pl) sz)) 0 0 (va_A ([] ++ pl) sz) := by
  sorry
set_option maxHeartbeats 400000 in
set_option maxRecDepth 100000 in
theorem t_KM_numbersFit_2 (l : Launch) (g : Gd) (sz : Nat) (T : Ty) (xs : List Nat) (pl : va_W) (hO : okx g T xs pl) (hU : uni T) (hc0 : clo T xs 0) (h0 st pk n : Nat) (k_h0 : T h0 = some (13, 0)) (k_st : T st = some (42, 0)) (k_pk : T pk = some (1, n)) (h1 : 1568 ≤ n) (h2 : n < 65536)  : Met l y_KM_numbersFit w_KM_numbersFit ({ frames := 1, cells := 0, slots := 0, locals := 28 } : Room) (va_Pc [.ref h0, .ref st, .ref pk] (pr (en g) g.1 vcl sz ([] ++ pl))) (va_Qi (fun (r : Int32) (u : va_W) => (r = nI 0 ∨ r = nI 1) ∧ okx g T xs u) (po g.1 vcl (va_A ([] ++ pl) sz) (fun (u : va_W) => [] ++ u)) (va_A ([] ++ pl) sz)) 0 0 (va_A ([] ++ pl) sz) := by
  sorry
set_option maxHeartbeats 400000 in
set_option maxRecDepth 100000 in
theorem t_KM_hashFits_0 (l : Launch) (g : Gd) (sz : Nat) (T : Ty) (xs : List Nat) (pl : va_W) (hO : okx g T xs pl) (hU : uni T) (hc0 : clo T xs 0) (hc2 : clo T xs 2) (h0 st sk n : Nat) (k_h0 : T h0 = some (13, 0)) (k_st : T st = some (40, 0)) (k_sk : T sk = some (1, n)) (h1 : 1632 ≤ n) (h2 : n < 65536)  : Met l y_KM_hashFits w_KM_hashFits ({ frames := 4, cells := 0, slots := 0, locals := 123 } : Room) (va_Pc [.ref h0, .ref st, .ref sk] (pr (en g) g.1 vcl sz ([] ++ pl))) (va_Qi (fun (r : Int32) (u : va_W) => (r = nI 0 ∨ r = nI 1) ∧ okx g T xs u) (po g.1 vcl (va_A ([] ++ pl) sz) (fun (u : va_W) => [] ++ u)) (va_A ([] ++ pl) sz)) 0 0 (va_A ([] ++ pl) sz) := by
  sorry
set_option maxHeartbeats 400000 in
set_option maxRecDepth 100000 in
theorem t_KM_hashFits_1 (l : Launch) (g : Gd) (sz : Nat) (T : Ty) (xs : List Nat) (pl : va_W) (hO : okx g T xs pl) (hU : uni T) (hc0 : clo T xs 0) (hc2 : clo T xs 2) (h0 st sk n : Nat) (k_h0 : T h0 = some (13, 0)) (k_st : T st = some (41, 0)) (k_sk : T sk = some (1, n)) (h1 : 2400 ≤ n) (h2 : n < 65536)  : Met l y_KM_hashFits w_KM_hashFits ({ frames := 4, cells := 0, slots := 0, locals := 123 } : Room) (va_Pc [.ref h0, .ref st, .ref sk] (pr (en g) g.1 vcl sz ([] ++ pl))) (va_Qi (fun (r : Int32) (u : va_W) => (r = nI 0 ∨ r = nI 1) ∧ okx g T xs u) (po g.1 vcl (va_A ([] ++ pl) sz) (fun (u : va_W) => [] ++ u)) (va_A ([] ++ pl) sz)) 0 0 (va_A ([] ++ pl) sz) := by
  sorry
set_option maxHeartbeats 400000 in
set_option maxRecDepth 100000 in
theorem t_KM_hashFits_2 (l : Launch) (g : Gd) (sz : Nat) (T : Ty) (xs : List Nat) (pl : va_W) (hO : okx g T xs pl) (hU : uni T) (hc0 : clo T xs 0) (hc2 : clo T xs 2) (h0 st sk n : Nat) (k_h0 : T h0 = some (13, 0)) (k_st : T st = some (42, 0)) (k_sk : T sk = some (1, n)) (h1 : 3168 ≤ n) (h2 : n < 65536)  : Met l y_KM_hashFits w_KM_hashFits ({ frames := 4, cells := 0, slots := 0, locals := 123 } : Room) (va_Pc [.ref h0, .ref st, .ref sk] (pr (en g) g.1 vcl sz ([] ++ pl))) (va_Qi (fun (r : Int32) (u : va_W) => (r = nI 0 ∨ r = nI 1) ∧ okx g T xs u) (po g.1 vcl (va_A ([] ++ pl) sz) (fun (u : va_W) => [] ++ u)) (va_A ([] ++ pl) sz)) 0 0 (va_A ([] ++ pl) sz) := by
  sorry
