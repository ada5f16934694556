abbrev c_KM_makePair : ByteArray := prog_6_method_2_code
abbrev y_KM_makePair : MethodName := ⟨"LatticeKeys$Kem", "makePair", "(LLatticeKeys$KemSet;[B[B[B)V"⟩
abbrev w_KM_makePair : List Cond := Cond.code y_KM_makePair c_KM_makePair 7 none :: WG
theorem dKM_makePair_0 : decode c_KM_makePair 0 = .ok (.aload_n 0, 1) := by decide +kernel
theorem dKM_makePair_1 : decode c_KM_makePair 1 = .ok (.getfield 10, 3) := by decide +kernel
theorem dKM_makePair_4 : decode c_KM_makePair 4 = .ok (.iconst 1, 1) := by decide +kernel
theorem dKM_makePair_5 : decode c_KM_makePair 5 = .ok (.invokevirtual 53, 3) := by decide +kernel
theorem dKM_makePair_8 : decode c_KM_makePair 8 = .ok (.aload_n 0, 1) := by decide +kernel
theorem dKM_makePair_9 : decode c_KM_makePair 9 = .ok (.getfield 10, 3) := by decide +kernel
theorem dKM_makePair_12 : decode c_KM_makePair 12 = .ok (.aload_n 2, 1) := by decide +kernel
theorem dKM_makePair_13 : decode c_KM_makePair 13 = .ok (.iconst 0, 1) := by decide +kernel
theorem dKM_makePair_14 : decode c_KM_makePair 14 = .ok (.bipush 32, 2) := by decide +kernel
theorem dKM_makePair_16 : decode c_KM_makePair 16 = .ok (.invokevirtual 57, 3) := by decide +kernel
theorem dKM_makePair_19 : decode c_KM_makePair 19 = .ok (.aload_n 0, 1) := by decide +kernel
theorem dKM_makePair_20 : decode c_KM_makePair 20 = .ok (.getfield 10, 3) := by decide +kernel
theorem dKM_makePair_23 : decode c_KM_makePair 23 = .ok (.aload_n 1, 1) := by decide +kernel
theorem dKM_makePair_24 : decode c_KM_makePair 24 = .ok (.getfield 61, 3) := by decide +kernel
theorem dKM_makePair_27 : decode c_KM_makePair 27 = .ok (.invokevirtual 67, 3) := by decide +kernel
theorem dKM_makePair_30 : decode c_KM_makePair 30 = .ok (.aload_n 0, 1) := by decide +kernel
theorem dKM_makePair_31 : decode c_KM_makePair 31 = .ok (.getfield 10, 3) := by decide +kernel
theorem dKM_makePair_34 : decode c_KM_makePair 34 = .ok (.invokevirtual 70, 3) := by decide +kernel
theorem dKM_makePair_37 : decode c_KM_makePair 37 = .ok (.aload_n 0, 1) := by decide +kernel
theorem dKM_makePair_38 : decode c_KM_makePair 38 = .ok (.getfield 10, 3) := by decide +kernel
theorem dKM_makePair_41 : decode c_KM_makePair 41 = .ok (.aload_n 0, 1) := by decide +kernel
theorem dKM_makePair_42 : decode c_KM_makePair 42 = .ok (.getfield 44, 3) := by decide +kernel
theorem dKM_makePair_45 : decode c_KM_makePair 45 = .ok (.iconst 0, 1) := by decide +kernel
theorem dKM_makePair_46 : decode c_KM_makePair 46 = .ok (.bipush 64, 2) := by decide +kernel
theorem dKM_makePair_48 : decode c_KM_makePair 48 = .ok (.invokevirtual 73, 3) := by decide +kernel
theorem dKM_makePair_51 : decode c_KM_makePair 51 = .ok (.aload_n 0, 1) := by decide +kernel
theorem dKM_makePair_52 : decode c_KM_makePair 52 = .ok (.getfield 44, 3) := by decide +kernel
theorem dKM_makePair_55 : decode c_KM_makePair 55 = .ok (.iconst 0, 1) := by decide +kernel
theorem dKM_makePair_56 : decode c_KM_makePair 56 = .ok (.aload_n 3, 1) := by decide +kernel
theorem dKM_makePair_57 : decode c_KM_makePair 57 = .ok (.aload_n 1, 1) := by decide +kernel
theorem dKM_makePair_58 : decode c_KM_makePair 58 = .ok (.getfield 76, 3) := by decide +kernel
theorem dKM_makePair_61 : decode c_KM_makePair 61 = .ok (.bipush 32, 2) := by decide +kernel
theorem dKM_makePair_63 : decode c_KM_makePair 63 = .ok (.isub, 1) := by decide +kernel
theorem dKM_makePair_64 : decode c_KM_makePair 64 = .ok (.bipush 32, 2) := by decide +kernel
theorem dKM_makePair_66 : decode c_KM_makePair 66 = .ok (.invokestatic 79, 3) := by decide +kernel
theorem dKM_makePair_69 : decode c_KM_makePair 69 = .ok (.iconst 0, 1) := by decide +kernel
theorem dKM_makePair_70 : decode c_KM_makePair 70 = .ok (.istore 5, 2) := by decide +kernel
theorem dKM_makePair_72 : decode c_KM_makePair 72 = .ok (.iload 5, 2) := by decide +kernel
theorem dKM_makePair_74 : decode c_KM_makePair 74 = .ok (.aload_n 1, 1) := by decide +kernel
theorem dKM_makePair_75 : decode c_KM_makePair 75 = .ok (.getfield 61, 3) := by decide +kernel
theorem dKM_makePair_78 : decode c_KM_makePair 78 = .ok (.if_icmp .ge 60, 3) := by decide +kernel
theorem dKM_makePair_81 : decode c_KM_makePair 81 = .ok (.aload_n 0, 1) := by decide +kernel
theorem dKM_makePair_82 : decode c_KM_makePair 82 = .ok (.aload_n 0, 1) := by decide +kernel
theorem dKM_makePair_83 : decode c_KM_makePair 83 = .ok (.getfield 27, 3) := by decide +kernel
theorem dKM_makePair_86 : decode c_KM_makePair 86 = .ok (.iload 5, 2) := by decide +kernel
theorem dKM_makePair_88 : decode c_KM_makePair 88 = .ok (.aaload, 1) := by decide +kernel
theorem dKM_makePair_89 : decode c_KM_makePair 89 = .ok (.aload_n 1, 1) := by decide +kernel
theorem dKM_makePair_90 : decode c_KM_makePair 90 = .ok (.getfield 85, 3) := by decide +kernel
theorem dKM_makePair_93 : decode c_KM_makePair 93 = .ok (.iload 5, 2) := by decide +kernel
theorem dKM_makePair_95 : decode c_KM_makePair 95 = .ok (.invokevirtual 88, 3) := by decide +kernel
theorem dKM_makePair_98 : decode c_KM_makePair 98 = .ok (.aload_n 0, 1) := by decide +kernel
theorem dKM_makePair_99 : decode c_KM_makePair 99 = .ok (.getfield 21, 3) := by decide +kernel
theorem dKM_makePair_102 : decode c_KM_makePair 102 = .ok (.aload_n 0, 1) := by decide +kernel
theorem dKM_makePair_103 : decode c_KM_makePair 103 = .ok (.getfield 27, 3) := by decide +kernel
theorem dKM_makePair_106 : decode c_KM_makePair 106 = .ok (.iload 5, 2) := by decide +kernel
theorem dKM_makePair_108 : decode c_KM_makePair 108 = .ok (.aaload, 1) := by decide +kernel
theorem dKM_makePair_109 : decode c_KM_makePair 109 = .ok (.invokevirtual 92, 3) := by decide +kernel
theorem dKM_makePair_112 : decode c_KM_makePair 112 = .ok (.aload_n 0, 1) := by decide +kernel
theorem dKM_makePair_113 : decode c_KM_makePair 113 = .ok (.getfield 27, 3) := by decide +kernel
theorem dKM_makePair_116 : decode c_KM_makePair 116 = .ok (.iload 5, 2) := by decide +kernel
theorem dKM_makePair_118 : decode c_KM_makePair 118 = .ok (.aaload, 1) := by decide +kernel
theorem dKM_makePair_119 : decode c_KM_makePair 119 = .ok (.bipush 12, 2) := by decide +kernel
theorem dKM_makePair_121 : decode c_KM_makePair 121 = .ok (.aload 4, 2) := by decide +kernel
theorem dKM_makePair_123 : decode c_KM_makePair 123 = .ok (.sipush 384, 3) := by decide +kernel
theorem dKM_makePair_126 : decode c_KM_makePair 126 = .ok (.iload 5, 2) := by decide +kernel
theorem dKM_makePair_128 : decode c_KM_makePair 128 = .ok (.imul, 1) := by decide +kernel
theorem dKM_makePair_129 : decode c_KM_makePair 129 = .ok (.invokestatic 96, 3) := by decide +kernel
theorem dKM_makePair_132 : decode c_KM_makePair 132 = .ok (.iinc 5 1, 3) := by decide +kernel
theorem dKM_makePair_135 : decode c_KM_makePair 135 = .ok (.goto (-63), 3) := by decide +kernel
theorem dKM_makePair_138 : decode c_KM_makePair 138 = .ok (.iconst 0, 1) := by decide +kernel
theorem dKM_makePair_139 : decode c_KM_makePair 139 = .ok (.istore 5, 2) := by decide +kernel
theorem dKM_makePair_141 : decode c_KM_makePair 141 = .ok (.iload 5, 2) := by decide +kernel
theorem dKM_makePair_143 : decode c_KM_makePair 143 = .ok (.aload_n 1, 1) := by decide +kernel
theorem dKM_makePair_144 : decode c_KM_makePair 144 = .ok (.getfield 61, 3) := by decide +kernel
theorem dKM_makePair_147 : decode c_KM_makePair 147 = .ok (.if_icmp .ge 111, 3) := by decide +kernel
theorem dKM_makePair_150 : decode c_KM_makePair 150 = .ok (.aload_n 0, 1) := by decide +kernel
theorem dKM_makePair_151 : decode c_KM_makePair 151 = .ok (.aload_n 0, 1) := by decide +kernel
theorem dKM_makePair_152 : decode c_KM_makePair 152 = .ok (.getfield 30, 3) := by decide +kernel
theorem dKM_makePair_155 : decode c_KM_makePair 155 = .ok (.aload_n 1, 1) := by decide +kernel
theorem dKM_makePair_156 : decode c_KM_makePair 156 = .ok (.getfield 85, 3) := by decide +kernel
theorem dKM_makePair_159 : decode c_KM_makePair 159 = .ok (.aload_n 1, 1) := by decide +kernel
theorem dKM_makePair_160 : decode c_KM_makePair 160 = .ok (.getfield 61, 3) := by decide +kernel
theorem dKM_makePair_163 : decode c_KM_makePair 163 = .ok (.iload 5, 2) := by decide +kernel
theorem dKM_makePair_165 : decode c_KM_makePair 165 = .ok (.iadd, 1) := by decide +kernel
theorem dKM_makePair_166 : decode c_KM_makePair 166 = .ok (.invokevirtual 88, 3) := by decide +kernel
theorem dKM_makePair_169 : decode c_KM_makePair 169 = .ok (.aload_n 0, 1) := by decide +kernel
theorem dKM_makePair_170 : decode c_KM_makePair 170 = .ok (.getfield 21, 3) := by decide +kernel
theorem dKM_makePair_173 : decode c_KM_makePair 173 = .ok (.aload_n 0, 1) := by decide +kernel
theorem dKM_makePair_174 : decode c_KM_makePair 174 = .ok (.getfield 30, 3) := by decide +kernel
theorem dKM_makePair_177 : decode c_KM_makePair 177 = .ok (.invokevirtual 92, 3) := by decide +kernel
theorem dKM_makePair_180 : decode c_KM_makePair 180 = .ok (.iconst 0, 1) := by decide +kernel
theorem dKM_makePair_181 : decode c_KM_makePair 181 = .ok (.istore 6, 2) := by decide +kernel
theorem dKM_makePair_183 : decode c_KM_makePair 183 = .ok (.iload 6, 2) := by decide +kernel
theorem dKM_makePair_185 : decode c_KM_makePair 185 = .ok (.aload_n 1, 1) := by decide +kernel
theorem dKM_makePair_186 : decode c_KM_makePair 186 = .ok (.getfield 61, 3) := by decide +kernel
theorem dKM_makePair_189 : decode c_KM_makePair 189 = .ok (.if_icmp .ge 47, 3) := by decide +kernel
theorem dKM_makePair_192 : decode c_KM_makePair 192 = .ok (.aload_n 0, 1) := by decide +kernel
theorem dKM_makePair_193 : decode c_KM_makePair 193 = .ok (.aload_n 3, 1) := by decide +kernel
theorem dKM_makePair_194 : decode c_KM_makePair 194 = .ok (.aload_n 1, 1) := by decide +kernel
theorem dKM_makePair_195 : decode c_KM_makePair 195 = .ok (.getfield 76, 3) := by decide +kernel
theorem dKM_makePair_198 : decode c_KM_makePair 198 = .ok (.bipush 32, 2) := by decide +kernel
theorem dKM_makePair_200 : decode c_KM_makePair 200 = .ok (.isub, 1) := by decide +kernel
theorem dKM_makePair_201 : decode c_KM_makePair 201 = .ok (.iload 6, 2) := by decide +kernel
theorem dKM_makePair_203 : decode c_KM_makePair 203 = .ok (.iload 5, 2) := by decide +kernel
theorem dKM_makePair_205 : decode c_KM_makePair 205 = .ok (.invokevirtual 102, 3) := by decide +kernel
theorem dKM_makePair_208 : decode c_KM_makePair 208 = .ok (.aload_n 0, 1) := by decide +kernel
theorem dKM_makePair_209 : decode c_KM_makePair 209 = .ok (.getfield 21, 3) := by decide +kernel
theorem dKM_makePair_212 : decode c_KM_makePair 212 = .ok (.aload_n 0, 1) := by decide +kernel
theorem dKM_makePair_213 : decode c_KM_makePair 213 = .ok (.getfield 30, 3) := by decide +kernel
theorem dKM_makePair_216 : decode c_KM_makePair 216 = .ok (.aload_n 0, 1) := by decide +kernel
theorem dKM_makePair_217 : decode c_KM_makePair 217 = .ok (.getfield 34, 3) := by decide +kernel
theorem dKM_makePair_220 : decode c_KM_makePair 220 = .ok (.aload_n 0, 1) := by decide +kernel
theorem dKM_makePair_221 : decode c_KM_makePair 221 = .ok (.getfield 27, 3) := by decide +kernel
theorem dKM_makePair_224 : decode c_KM_makePair 224 = .ok (.iload 6, 2) := by decide +kernel
theorem dKM_makePair_226 : decode c_KM_makePair 226 = .ok (.aaload, 1) := by decide +kernel
theorem dKM_makePair_227 : decode c_KM_makePair 227 = .ok (.invokevirtual 106, 3) := by decide +kernel
theorem dKM_makePair_230 : decode c_KM_makePair 230 = .ok (.iinc 6 1, 3) := by decide +kernel
theorem dKM_makePair_233 : decode c_KM_makePair 233 = .ok (.goto (-50), 3) := by decide +kernel
theorem dKM_makePair_236 : decode c_KM_makePair 236 = .ok (.aload_n 0, 1) := by decide +kernel
theorem dKM_makePair_237 : decode c_KM_makePair 237 = .ok (.getfield 30, 3) := by decide +kernel
theorem dKM_makePair_240 : decode c_KM_makePair 240 = .ok (.bipush 12, 2) := by decide +kernel
theorem dKM_makePair_242 : decode c_KM_makePair 242 = .ok (.aload_n 3, 1) := by decide +kernel
theorem dKM_makePair_243 : decode c_KM_makePair 243 = .ok (.sipush 384, 3) := by decide +kernel
theorem dKM_makePair_246 : decode c_KM_makePair 246 = .ok (.iload 5, 2) := by decide +kernel
theorem dKM_makePair_248 : decode c_KM_makePair 248 = .ok (.imul, 1) := by decide +kernel
theorem dKM_makePair_249 : decode c_KM_makePair 249 = .ok (.invokestatic 96, 3) := by decide +kernel
theorem dKM_makePair_252 : decode c_KM_makePair 252 = .ok (.iinc 5 1, 3) := by decide +kernel
theorem dKM_makePair_255 : decode c_KM_makePair 255 = .ok (.goto (-114), 3) := by decide +kernel
theorem dKM_makePair_258 : decode c_KM_makePair 258 = .ok (.aload_n 3, 1) := by decide +kernel
theorem dKM_makePair_259 : decode c_KM_makePair 259 = .ok (.iconst 0, 1) := by decide +kernel
theorem dKM_makePair_260 : decode c_KM_makePair 260 = .ok (.aload 4, 2) := by decide +kernel
theorem dKM_makePair_262 : decode c_KM_makePair 262 = .ok (.aload_n 1, 1) := by decide +kernel
theorem dKM_makePair_263 : decode c_KM_makePair 263 = .ok (.getfield 110, 3) := by decide +kernel
theorem dKM_makePair_266 : decode c_KM_makePair 266 = .ok (.aload_n 1, 1) := by decide +kernel
theorem dKM_makePair_267 : decode c_KM_makePair 267 = .ok (.getfield 76, 3) := by decide +kernel
theorem dKM_makePair_270 : decode c_KM_makePair 270 = .ok (.invokestatic 79, 3) := by decide +kernel
theorem dKM_makePair_273 : decode c_KM_makePair 273 = .ok (.aload_n 0, 1) := by decide +kernel
theorem dKM_makePair_274 : decode c_KM_makePair 274 = .ok (.aload_n 3, 1) := by decide +kernel
theorem dKM_makePair_275 : decode c_KM_makePair 275 = .ok (.iconst 0, 1) := by decide +kernel
theorem dKM_makePair_276 : decode c_KM_makePair 276 = .ok (.aload_n 1, 1) := by decide +kernel
theorem dKM_makePair_277 : decode c_KM_makePair 277 = .ok (.getfield 76, 3) := by decide +kernel
theorem dKM_makePair_280 : decode c_KM_makePair 280 = .ok (.invokevirtual 113, 3) := by decide +kernel
theorem dKM_makePair_283 : decode c_KM_makePair 283 = .ok (.aload_n 0, 1) := by decide +kernel
theorem dKM_makePair_284 : decode c_KM_makePair 284 = .ok (.getfield 41, 3) := by decide +kernel
theorem dKM_makePair_287 : decode c_KM_makePair 287 = .ok (.iconst 0, 1) := by decide +kernel
theorem dKM_makePair_288 : decode c_KM_makePair 288 = .ok (.aload 4, 2) := by decide +kernel
theorem dKM_makePair_290 : decode c_KM_makePair 290 = .ok (.aload_n 1, 1) := by decide +kernel
theorem dKM_makePair_291 : decode c_KM_makePair 291 = .ok (.getfield 116, 3) := by decide +kernel
theorem dKM_makePair_294 : decode c_KM_makePair 294 = .ok (.bipush 32, 2) := by decide +kernel
theorem dKM_makePair_296 : decode c_KM_makePair 296 = .ok (.invokestatic 79, 3) := by decide +kernel
theorem dKM_makePair_299 : decode c_KM_makePair 299 = .ok (.aload_n 2, 1) := by decide +kernel
theorem dKM_makePair_300 : decode c_KM_makePair 300 = .ok (.bipush 32, 2) := by decide +kernel
theorem dKM_makePair_302 : decode c_KM_makePair 302 = .ok (.aload 4, 2) := by decide +kernel
theorem dKM_makePair_304 : decode c_KM_makePair 304 = .ok (.aload_n 1, 1) := by decide +kernel
theorem dKM_makePair_305 : decode c_KM_makePair 305 = .ok (.getfield 119, 3) := by decide +kernel
theorem dKM_makePair_308 : decode c_KM_makePair 308 = .ok (.bipush 32, 2) := by decide +kernel
theorem dKM_makePair_310 : decode c_KM_makePair 310 = .ok (.invokestatic 79, 3) := by decide +kernel
theorem dKM_makePair_313 : decode c_KM_makePair 313 = .ok (.return_, 1) := by decide +kernel
abbrev c_KM_encapsulate : ByteArray := prog_6_method_3_code
abbrev y_KM_encapsulate : MethodName := ⟨"LatticeKeys$Kem", "encapsulate", "(LLatticeKeys$KemSet;[B[B[B)V"⟩
abbrev w_KM_encapsulate : List Cond := Cond.code y_KM_encapsulate c_KM_encapsulate 5 none :: WG
theorem dKM_encapsulate_0 : decode c_KM_encapsulate 0 = .ok (.aload_n 3, 1) := by decide +kernel
theorem dKM_encapsulate_1 : decode c_KM_encapsulate 1 = .ok (.iconst 0, 1) := by decide +kernel
theorem dKM_encapsulate_2 : decode c_KM_encapsulate 2 = .ok (.aload_n 0, 1) := by decide +kernel
theorem dKM_encapsulate_3 : decode c_KM_encapsulate 3 = .ok (.getfield 37, 3) := by decide +kernel
theorem dKM_encapsulate_6 : decode c_KM_encapsulate 6 = .ok (.iconst 0, 1) := by decide +kernel
theorem dKM_encapsulate_7 : decode c_KM_encapsulate 7 = .ok (.bipush 32, 2) := by decide +kernel
theorem dKM_encapsulate_9 : decode c_KM_encapsulate 9 = .ok (.invokestatic 79, 3) := by decide +kernel
theorem dKM_encapsulate_12 : decode c_KM_encapsulate 12 = .ok (.aload_n 0, 1) := by decide +kernel
theorem dKM_encapsulate_13 : decode c_KM_encapsulate 13 = .ok (.aload_n 2, 1) := by decide +kernel
theorem dKM_encapsulate_14 : decode c_KM_encapsulate 14 = .ok (.iconst 0, 1) := by decide +kernel
theorem dKM_encapsulate_15 : decode c_KM_encapsulate 15 = .ok (.aload_n 1, 1) := by decide +kernel
theorem dKM_encapsulate_16 : decode c_KM_encapsulate 16 = .ok (.getfield 76, 3) := by decide +kernel
theorem dKM_encapsulate_19 : decode c_KM_encapsulate 19 = .ok (.invokevirtual 113, 3) := by decide +kernel
theorem dKM_encapsulate_22 : decode c_KM_encapsulate 22 = .ok (.aload_n 0, 1) := by decide +kernel
theorem dKM_encapsulate_23 : decode c_KM_encapsulate 23 = .ok (.aload_n 0, 1) := by decide +kernel
theorem dKM_encapsulate_24 : decode c_KM_encapsulate 24 = .ok (.getfield 41, 3) := by decide +kernel
theorem dKM_encapsulate_27 : decode c_KM_encapsulate 27 = .ok (.iconst 0, 1) := by decide +kernel
theorem dKM_encapsulate_28 : decode c_KM_encapsulate 28 = .ok (.invokevirtual 122, 3) := by decide +kernel
theorem dKM_encapsulate_31 : decode c_KM_encapsulate 31 = .ok (.aload_n 0, 1) := by decide +kernel
theorem dKM_encapsulate_32 : decode c_KM_encapsulate 32 = .ok (.aload_n 1, 1) := by decide +kernel
theorem dKM_encapsulate_33 : decode c_KM_encapsulate 33 = .ok (.aload_n 2, 1) := by decide +kernel
theorem dKM_encapsulate_34 : decode c_KM_encapsulate 34 = .ok (.aload 4, 2) := by decide +kernel
theorem dKM_encapsulate_36 : decode c_KM_encapsulate 36 = .ok (.invokevirtual 126, 3) := by decide +kernel
theorem dKM_encapsulate_39 : decode c_KM_encapsulate 39 = .ok (.aload_n 0, 1) := by decide +kernel
theorem dKM_encapsulate_40 : decode c_KM_encapsulate 40 = .ok (.getfield 44, 3) := by decide +kernel
theorem dKM_encapsulate_43 : decode c_KM_encapsulate 43 = .ok (.iconst 0, 1) := by decide +kernel
theorem dKM_encapsulate_44 : decode c_KM_encapsulate 44 = .ok (.aload 4, 2) := by decide +kernel
theorem dKM_encapsulate_46 : decode c_KM_encapsulate 46 = .ok (.aload_n 1, 1) := by decide +kernel
theorem dKM_encapsulate_47 : decode c_KM_encapsulate 47 = .ok (.getfield 130, 3) := by decide +kernel
theorem dKM_encapsulate_50 : decode c_KM_encapsulate 50 = .ok (.bipush 32, 2) := by decide +kernel
theorem dKM_encapsulate_52 : decode c_KM_encapsulate 52 = .ok (.invokestatic 79, 3) := by decide +kernel
theorem dKM_encapsulate_55 : decode c_KM_encapsulate 55 = .ok (.return_, 1) := by decide +kernel
abbrev c_KM_decapsulate : ByteArray := prog_6_method_4_code
abbrev y_KM_decapsulate : MethodName := ⟨"LatticeKeys$Kem", "decapsulate", "(LLatticeKeys$KemSet;LLatticeKeys$KeyPair;[B[B)V"⟩
abbrev w_KM_decapsulate : List Cond := Cond.code y_KM_decapsulate c_KM_decapsulate 7 none :: WG
theorem dKM_decapsulate_0 : decode c_KM_decapsulate 0 = .ok (.aload_n 0, 1) := by decide +kernel
theorem dKM_decapsulate_1 : decode c_KM_decapsulate 1 = .ok (.aload_n 1, 1) := by decide +kernel
theorem dKM_decapsulate_2 : decode c_KM_decapsulate 2 = .ok (.aload_n 2, 1) := by decide +kernel
theorem dKM_decapsulate_3 : decode c_KM_decapsulate 3 = .ok (.getfield 133, 3) := by decide +kernel
theorem dKM_decapsulate_6 : decode c_KM_decapsulate 6 = .ok (.aload_n 3, 1) := by decide +kernel
theorem dKM_decapsulate_7 : decode c_KM_decapsulate 7 = .ok (.invokevirtual 138, 3) := by decide +kernel
theorem dKM_decapsulate_10 : decode c_KM_decapsulate 10 = .ok (.aload_n 0, 1) := by decide +kernel
theorem dKM_decapsulate_11 : decode c_KM_decapsulate 11 = .ok (.aload_n 2, 1) := by decide +kernel
theorem dKM_decapsulate_12 : decode c_KM_decapsulate 12 = .ok (.getfield 133, 3) := by decide +kernel
theorem dKM_decapsulate_15 : decode c_KM_decapsulate 15 = .ok (.aload_n 1, 1) := by decide +kernel
theorem dKM_decapsulate_16 : decode c_KM_decapsulate 16 = .ok (.getfield 116, 3) := by decide +kernel
theorem dKM_decapsulate_19 : decode c_KM_decapsulate 19 = .ok (.invokevirtual 122, 3) := by decide +kernel
theorem dKM_decapsulate_22 : decode c_KM_decapsulate 22 = .ok (.aload_n 0, 1) := by decide +kernel
theorem dKM_decapsulate_23 : decode c_KM_decapsulate 23 = .ok (.aload_n 1, 1) := by decide +kernel
theorem dKM_decapsulate_24 : decode c_KM_decapsulate 24 = .ok (.aload_n 2, 1) := by decide +kernel
theorem dKM_decapsulate_25 : decode c_KM_decapsulate 25 = .ok (.getfield 141, 3) := by decide +kernel
theorem dKM_decapsulate_28 : decode c_KM_decapsulate 28 = .ok (.aload_n 0, 1) := by decide +kernel
theorem dKM_decapsulate_29 : decode c_KM_decapsulate 29 = .ok (.getfield 50, 3) := by decide +kernel
theorem dKM_decapsulate_32 : decode c_KM_decapsulate 32 = .ok (.invokevirtual 126, 3) := by decide +kernel
theorem dKM_decapsulate_35 : decode c_KM_decapsulate 35 = .ok (.iconst 0, 1) := by decide +kernel
theorem dKM_decapsulate_36 : decode c_KM_decapsulate 36 = .ok (.istore 5, 2) := by decide +kernel
theorem dKM_decapsulate_38 : decode c_KM_decapsulate 38 = .ok (.iconst 0, 1) := by decide +kernel
theorem dKM_decapsulate_39 : decode c_KM_decapsulate 39 = .ok (.istore 6, 2) := by decide +kernel
theorem dKM_decapsulate_41 : decode c_KM_decapsulate 41 = .ok (.iload 6, 2) := by decide +kernel
theorem dKM_decapsulate_43 : decode c_KM_decapsulate 43 = .ok (.aload_n 1, 1) := by decide +kernel
theorem dKM_decapsulate_44 : decode c_KM_decapsulate 44 = .ok (.getfield 130, 3) := by decide +kernel
theorem dKM_decapsulate_47 : decode c_KM_decapsulate 47 = .ok (.if_icmp .ge 26, 3) := by decide +kernel
theorem dKM_decapsulate_50 : decode c_KM_decapsulate 50 = .ok (.iload 5, 2) := by decide +kernel
theorem dKM_decapsulate_52 : decode c_KM_decapsulate 52 = .ok (.aload_n 3, 1) := by decide +kernel
theorem dKM_decapsulate_53 : decode c_KM_decapsulate 53 = .ok (.iload 6, 2) := by decide +kernel
theorem dKM_decapsulate_55 : decode c_KM_decapsulate 55 = .ok (.baload, 1) := by decide +kernel
theorem dKM_decapsulate_56 : decode c_KM_decapsulate 56 = .ok (.aload_n 0, 1) := by decide +kernel
theorem dKM_decapsulate_57 : decode c_KM_decapsulate 57 = .ok (.getfield 50, 3) := by decide +kernel
theorem dKM_decapsulate_60 : decode c_KM_decapsulate 60 = .ok (.iload 6, 2) := by decide +kernel
theorem dKM_decapsulate_62 : decode c_KM_decapsulate 62 = .ok (.baload, 1) := by decide +kernel
theorem dKM_decapsulate_63 : decode c_KM_decapsulate 63 = .ok (.ixor, 1) := by decide +kernel
theorem dKM_decapsulate_64 : decode c_KM_decapsulate 64 = .ok (.ior, 1) := by decide +kernel
theorem dKM_decapsulate_65 : decode c_KM_decapsulate 65 = .ok (.istore 5, 2) := by decide +kernel
theorem dKM_decapsulate_67 : decode c_KM_decapsulate 67 = .ok (.iinc 6 1, 3) := by decide +kernel
theorem dKM_decapsulate_70 : decode c_KM_decapsulate 70 = .ok (.goto (-29), 3) := by decide +kernel
theorem dKM_decapsulate_73 : decode c_KM_decapsulate 73 = .ok (.iload 5, 2) := by decide +kernel
theorem dKM_decapsulate_75 : decode c_KM_decapsulate 75 = .ok (.ifCond .ne 17, 3) := by decide +kernel
theorem dKM_decapsulate_78 : decode c_KM_decapsulate 78 = .ok (.aload_n 0, 1) := by decide +kernel
theorem dKM_decapsulate_79 : decode c_KM_decapsulate 79 = .ok (.getfield 44, 3) := by decide +kernel
theorem dKM_decapsulate_82 : decode c_KM_decapsulate 82 = .ok (.iconst 0, 1) := by decide +kernel
theorem dKM_decapsulate_83 : decode c_KM_decapsulate 83 = .ok (.aload 4, 2) := by decide +kernel
theorem dKM_decapsulate_85 : decode c_KM_decapsulate 85 = .ok (.iconst 0, 1) := by decide +kernel
theorem dKM_decapsulate_86 : decode c_KM_decapsulate 86 = .ok (.bipush 32, 2) := by decide +kernel
theorem dKM_decapsulate_88 : decode c_KM_decapsulate 88 = .ok (.invokestatic 79, 3) := by decide +kernel
theorem dKM_decapsulate_91 : decode c_KM_decapsulate 91 = .ok (.return_, 1) := by decide +kernel
theorem dKM_decapsulate_92 : decode c_KM_decapsulate 92 = .ok (.aload_n 0, 1) := by decide +kernel
theorem dKM_decapsulate_93 : decode c_KM_decapsulate 93 = .ok (.getfield 10, 3) := by decide +kernel
theorem dKM_decapsulate_96 : decode c_KM_decapsulate 96 = .ok (.iconst 3, 1) := by decide +kernel
theorem dKM_decapsulate_97 : decode c_KM_decapsulate 97 = .ok (.invokevirtual 53, 3) := by decide +kernel
theorem dKM_decapsulate_100 : decode c_KM_decapsulate 100 = .ok (.aload_n 0, 1) := by decide +kernel
theorem dKM_decapsulate_101 : decode c_KM_decapsulate 101 = .ok (.getfield 10, 3) := by decide +kernel
theorem dKM_decapsulate_104 : decode c_KM_decapsulate 104 = .ok (.aload_n 2, 1) := by decide +kernel
theorem dKM_decapsulate_105 : decode c_KM_decapsulate 105 = .ok (.getfield 133, 3) := by decide +kernel
theorem dKM_decapsulate_108 : decode c_KM_decapsulate 108 = .ok (.aload_n 1, 1) := by decide +kernel
theorem dKM_decapsulate_109 : decode c_KM_decapsulate 109 = .ok (.getfield 119, 3) := by decide +kernel
theorem dKM_decapsulate_112 : decode c_KM_decapsulate 112 = .ok (.bipush 32, 2) := by decide +kernel
theorem dKM_decapsulate_114 : decode c_KM_decapsulate 114 = .ok (.invokevirtual 57, 3) := by decide +kernel
theorem dKM_decapsulate_117 : decode c_KM_decapsulate 117 = .ok (.aload_n 0, 1) := by decide +kernel
theorem dKM_decapsulate_118 : decode c_KM_decapsulate 118 = .ok (.getfield 10, 3) := by decide +kernel
theorem dKM_decapsulate_121 : decode c_KM_decapsulate 121 = .ok (.aload_n 3, 1) := by decide +kernel
theorem dKM_decapsulate_122 : decode c_KM_decapsulate 122 = .ok (.iconst 0, 1) := by decide +kernel
theorem dKM_decapsulate_123 : decode c_KM_decapsulate 123 = .ok (.aload_n 1, 1) := by decide +kernel
theorem dKM_decapsulate_124 : decode c_KM_decapsulate 124 = .ok (.getfield 130, 3) := by decide +kernel
theorem dKM_decapsulate_127 : decode c_KM_decapsulate 127 = .ok (.invokevirtual 57, 3) := by decide +kernel
theorem dKM_decapsulate_130 : decode c_KM_decapsulate 130 = .ok (.aload_n 0, 1) := by decide +kernel
theorem dKM_decapsulate_131 : decode c_KM_decapsulate 131 = .ok (.getfield 10, 3) := by decide +kernel
theorem dKM_decapsulate_134 : decode c_KM_decapsulate 134 = .ok (.invokevirtual 70, 3) := by decide +kernel
theorem dKM_decapsulate_137 : decode c_KM_decapsulate 137 = .ok (.aload_n 0, 1) := by decide +kernel
theorem dKM_decapsulate_138 : decode c_KM_decapsulate 138 = .ok (.getfield 10, 3) := by decide +kernel
theorem dKM_decapsulate_141 : decode c_KM_decapsulate 141 = .ok (.aload 4, 2) := by decide +kernel
theorem dKM_decapsulate_143 : decode c_KM_decapsulate 143 = .ok (.iconst 0, 1) := by decide +kernel
theorem dKM_decapsulate_144 : decode c_KM_decapsulate 144 = .ok (.bipush 32, 2) := by decide +kernel
theorem dKM_decapsulate_146 : decode c_KM_decapsulate 146 = .ok (.invokevirtual 73, 3) := by decide +kernel
theorem dKM_decapsulate_149 : decode c_KM_decapsulate 149 = .ok (.return_, 1) := by decide +kernel
abbrev c_KM_numbersFit : ByteArray := prog_6_method_5_code
abbrev y_KM_numbersFit : MethodName := ⟨"LatticeKeys$Kem", "numbersFit", "(LLatticeKeys$KemSet;[B)Z"⟩
abbrev w_KM_numbersFit : List Cond := Cond.code y_KM_numbersFit c_KM_numbersFit 5 (some .boolean) :: WG
theorem dKM_numbersFit_0 : decode c_KM_numbersFit 0 = .ok (.iconst 0, 1) := by decide +kernel
theorem dKM_numbersFit_1 : decode c_KM_numbersFit 1 = .ok (.istore_n 3, 1) := by decide +kernel
theorem dKM_numbersFit_2 : decode c_KM_numbersFit 2 = .ok (.iload_n 3, 1) := by decide +kernel
theorem dKM_numbersFit_3 : decode c_KM_numbersFit 3 = .ok (.aload_n 1, 1) := by decide +kernel
theorem dKM_numbersFit_4 : decode c_KM_numbersFit 4 = .ok (.getfield 61, 3) := by decide +kernel
theorem dKM_numbersFit_7 : decode c_KM_numbersFit 7 = .ok (.if_icmp .ge 56, 3) := by decide +kernel
theorem dKM_numbersFit_10 : decode c_KM_numbersFit 10 = .ok (.aload_n 0, 1) := by decide +kernel
theorem dKM_numbersFit_11 : decode c_KM_numbersFit 11 = .ok (.getfield 34, 3) := by decide +kernel
theorem dKM_numbersFit_14 : decode c_KM_numbersFit 14 = .ok (.bipush 12, 2) := by decide +kernel
theorem dKM_numbersFit_16 : decode c_KM_numbersFit 16 = .ok (.aload_n 2, 1) := by decide +kernel
theorem dKM_numbersFit_17 : decode c_KM_numbersFit 17 = .ok (.sipush 384, 3) := by decide +kernel
theorem dKM_numbersFit_20 : decode c_KM_numbersFit 20 = .ok (.iload_n 3, 1) := by decide +kernel
theorem dKM_numbersFit_21 : decode c_KM_numbersFit 21 = .ok (.imul, 1) := by decide +kernel
theorem dKM_numbersFit_22 : decode c_KM_numbersFit 22 = .ok (.invokestatic 144, 3) := by decide +kernel
theorem dKM_numbersFit_25 : decode c_KM_numbersFit 25 = .ok (.iconst 0, 1) := by decide +kernel
theorem dKM_numbersFit_26 : decode c_KM_numbersFit 26 = .ok (.istore 4, 2) := by decide +kernel
theorem dKM_numbersFit_28 : decode c_KM_numbersFit 28 = .ok (.iload 4, 2) := by decide +kernel
theorem dKM_numbersFit_30 : decode c_KM_numbersFit 30 = .ok (.sipush 256, 3) := by decide +kernel
theorem dKM_numbersFit_33 : decode c_KM_numbersFit 33 = .ok (.if_icmp .ge 24, 3) := by decide +kernel
theorem dKM_numbersFit_36 : decode c_KM_numbersFit 36 = .ok (.aload_n 0, 1) := by decide +kernel
theorem dKM_numbersFit_37 : decode c_KM_numbersFit 37 = .ok (.getfield 34, 3) := by decide +kernel
theorem dKM_numbersFit_40 : decode c_KM_numbersFit 40 = .ok (.iload 4, 2) := by decide +kernel
theorem dKM_numbersFit_42 : decode c_KM_numbersFit 42 = .ok (.iaload, 1) := by decide +kernel
theorem dKM_numbersFit_43 : decode c_KM_numbersFit 43 = .ok (.sipush 3329, 3) := by decide +kernel
theorem dKM_numbersFit_46 : decode c_KM_numbersFit 46 = .ok (.if_icmp .lt 5, 3) := by decide +kernel
theorem dKM_numbersFit_49 : decode c_KM_numbersFit 49 = .ok (.iconst 0, 1) := by decide +kernel
theorem dKM_numbersFit_50 : decode c_KM_numbersFit 50 = .ok (.ireturn, 1) := by decide +kernel
theorem dKM_numbersFit_51 : decode c_KM_numbersFit 51 = .ok (.iinc 4 1, 3) := by decide +kernel
theorem dKM_numbersFit_54 : decode c_KM_numbersFit 54 = .ok (.goto (-26), 3) := by decide +kernel
theorem dKM_numbersFit_57 : decode c_KM_numbersFit 57 = .ok (.iinc 3 1, 3) := by decide +kernel
theorem dKM_numbersFit_60 : decode c_KM_numbersFit 60 = .ok (.goto (-58), 3) := by decide +kernel
theorem dKM_numbersFit_63 : decode c_KM_numbersFit 63 = .ok (.iconst 1, 1) := by decide +kernel
theorem dKM_numbersFit_64 : decode c_KM_numbersFit 64 = .ok (.ireturn, 1) := by decide +kernel
abbrev c_KM_hashFits : ByteArray := prog_6_method_6_code
abbrev y_KM_hashFits : MethodName := ⟨"LatticeKeys$Kem", "hashFits", "(LLatticeKeys$KemSet;[B)Z"⟩
abbrev w_KM_hashFits : List Cond := Cond.code y_KM_hashFits c_KM_hashFits 4 (some .boolean) :: WG
theorem dKM_hashFits_0 : decode c_KM_hashFits 0 = .ok (.aload_n 0, 1) := by decide +kernel
theorem dKM_hashFits_1 : decode c_KM_hashFits 1 = .ok (.aload_n 2, 1) := by decide +kernel
theorem dKM_hashFits_2 : decode c_KM_hashFits 2 = .ok (.aload_n 1, 1) := by decide +kernel
theorem dKM_hashFits_3 : decode c_KM_hashFits 3 = .ok (.getfield 110, 3) := by decide +kernel
theorem dKM_hashFits_6 : decode c_KM_hashFits 6 = .ok (.aload_n 1, 1) := by decide +kernel
theorem dKM_hashFits_7 : decode c_KM_hashFits 7 = .ok (.getfield 76, 3) := by decide +kernel
theorem dKM_hashFits_10 : decode c_KM_hashFits 10 = .ok (.invokevirtual 113, 3) := by decide +kernel
theorem dKM_hashFits_13 : decode c_KM_hashFits 13 = .ok (.iconst 0, 1) := by decide +kernel
theorem dKM_hashFits_14 : decode c_KM_hashFits 14 = .ok (.istore_n 3, 1) := by decide +kernel
theorem dKM_hashFits_15 : decode c_KM_hashFits 15 = .ok (.iload_n 3, 1) := by decide +kernel
theorem dKM_hashFits_16 : decode c_KM_hashFits 16 = .ok (.bipush 32, 2) := by decide +kernel
theorem dKM_hashFits_18 : decode c_KM_hashFits 18 = .ok (.if_icmp .ge 28, 3) := by decide +kernel
theorem dKM_hashFits_21 : decode c_KM_hashFits 21 = .ok (.aload_n 0, 1) := by decide +kernel
theorem dKM_hashFits_22 : decode c_KM_hashFits 22 = .ok (.getfield 41, 3) := by decide +kernel
theorem dKM_hashFits_25 : decode c_KM_hashFits 25 = .ok (.iload_n 3, 1) := by decide +kernel
theorem dKM_hashFits_26 : decode c_KM_hashFits 26 = .ok (.baload, 1) := by decide +kernel
theorem dKM_hashFits_27 : decode c_KM_hashFits 27 = .ok (.aload_n 2, 1) := by decide +kernel
theorem dKM_hashFits_28 : decode c_KM_hashFits 28 = .ok (.aload_n 1, 1) := by decide +kernel
theorem dKM_hashFits_29 : decode c_KM_hashFits 29 = .ok (.getfield 116, 3) := by decide +kernel
theorem dKM_hashFits_32 : decode c_KM_hashFits 32 = .ok (.iload_n 3, 1) := by decide +kernel
theorem dKM_hashFits_33 : decode c_KM_hashFits 33 = .ok (.iadd, 1) := by decide +kernel
theorem dKM_hashFits_34 : decode c_KM_hashFits 34 = .ok (.baload, 1) := by decide +kernel
theorem dKM_hashFits_35 : decode c_KM_hashFits 35 = .ok (.if_icmp .eq 5, 3) := by decide +kernel
theorem dKM_hashFits_38 : decode c_KM_hashFits 38 = .ok (.iconst 0, 1) := by decide +kernel
theorem dKM_hashFits_39 : decode c_KM_hashFits 39 = .ok (.ireturn, 1) := by decide +kernel
theorem dKM_hashFits_40 : decode c_KM_hashFits 40 = .ok (.iinc 3 1, 3) := by decide +kernel
theorem dKM_hashFits_43 : decode c_KM_hashFits 43 = .ok (.goto (-28), 3) := by decide +kernel
theorem dKM_hashFits_46 : decode c_KM_hashFits 46 = .ok (.iconst 1, 1) := by decide +kernel
theorem dKM_hashFits_47 : decode c_KM_hashFits 47 = .ok (.ireturn, 1) := by decide +kernel
set_option maxHeartbeats 400000 in
set_option maxRecDepth 100000 in
theorem t_KM_makePair_0 (l : Launch) (g : Gd) (sz : Nat) (T : Ty) (xs : List Nat) (pl : va_W) (hO : okx g T xs pl) (hU : uni T) (hc0 : clo T xs 0) (hc2 : clo T xs 2) (h0 st ch pk sk n : Nat) (k_h0 : T h0 = some (13, 0)) (k_st : T st = some (40, 0)) (k_ch : T ch = some (1, n)) (k_pk : T pk = some (1, 800)) (k_sk : T sk = some (1, 1632)) (h1 : 64 ≤ n) (h2 : n < 65536)  : Met l y_KM_makePair w_KM_makePair ({ frames := 4, cells := 0, slots := 0, locals := 131 } : Room) (va_Pc [.ref h0, .ref st, .ref ch, .ref pk, .ref sk] (pr (en g) g.1 vcl sz ([] ++ pl))) (va_Qv (fun (u : va_W) => (True) ∧ okx g T xs u) (po g.1 vcl (va_A ([] ++ pl) sz) (fun (u : va_W) => [] ++ u)) (va_A ([] ++ pl) sz)) 0 0 (va_A ([] ++ pl) sz) := by
  refine mc_entry (cc := c_KM_makePair) (maxL := 7) (ret := none) (by decide) rfl (Nat.le_of_ble_eq_true rfl) ?_
  intro p e s m args below meth c ls F hr hlk hnm hsz hP hD hE hA hl
  obtain ⟨hx, hb, hml, hown, hts⟩ := id F
  have hK := hE.1
  generalize va_A ([] ++ pl) sz = A at hD hE hA ⊢
  have hS : va_S A s.heap s.heap [] := va_S.rf
  have hl : lv_has ls 7 [(0, .ref h0), (1, .ref st), (2, .ref ch), (3, .ref pk), (4, .ref sk)] := hl
  refine lv_aload_n hx hb dKM_makePair_0 rfl (lv_at hl 0 rfl) ?_
  refine ty_get (ci := 5) (C := "LatticeKeys$Kem") (TT := T_KM) (N := 10) (kd := (13, 0)) hx hb hts (wg_ft i_KM) hown hK hO k_h0 (nxg hc0 k_h0 rfl) hP (fun _ h9 => h9) rfl 0 (by decide) (hts _ (wg_t kw_107)) (fun _ h9 => h9) (cd := (3, 10, 1)) rfl dKM_makePair_1 (fun v21 hv21 => ?_)
  obtain ⟨r21, rfl, kr21⟩ := (show ∃ r : Nat, v21 = .ref r ∧ T r = some (10, 1) from hv21)
  refine lv_iconst (v := nI 1) hx hb dKM_makePair_4 (by decide) ?_
  obtain ⟨e21, pl, hP, hD, hk21, hO⟩ := open1 hP hD hO kr21 (nxg hc2 kr21 rfl)
  obtain ⟨ln21, rt21, ps21, x21, rfl, kl21, hr21, hr22, hr23⟩ := hk21
  have kl21 : T ln21 = some (19, 1) := kl21
  obtain ⟨e22, pl, hP, hD, hk22, hO⟩ := open1 hP hD hO kl21 (nmc (knd_ne kl21 kr21 (by decide)) (nxg hc2 kl21 rfl))
  obtain ⟨f21, rfl⟩ := hk22
  have hP : va_P g.1 vcl ([(r21, .inr (3, [.ref ln21, .int (nI rt21), .int x21, .int (nI ps21)])), (ln21, .inl (g.2.1 2, 25, .inr (.inl f21)))] ++ pl) _ := hP
  have hD : va_D _ ([(r21, .inr (3, [.ref ln21, .int (nI rt21), .int x21, .int (nI ps21)])), (ln21, .inl (g.2.1 2, 25, .inr (.inl f21)))] ++ pl) := hD
  refine mp_v (cx := [(r21, .inr (3, [.ref ln21, .int (nI rt21), .int x21, .int (nI ps21)])), (ln21, .inl (g.2.1 2, 25, .inr (.inl f21)))]) (wr := []) hP hD hS hA [0, 1] [] rfl rfl rfl (by decide) (va_runV (As := [.int (nI 1)]) (rest := []) F (t_SP_start_1 l g _ T (ln21 :: (r21 :: xs)) pl hO hU  r21 ln21 rt21 ps21 x21 f21) (cwV 1 hts (wg_app (wg_c kw_578 (wg_c kw_579 (wg_c kw_580 (wg_c kw_2 wg_n)))) kw_581) rfl rfl rfl (by decide +kernel) ⟨by decide, by decide⟩) (pp_V (en_ok g) (q0 := 0) hK hP hD hS hA hE [0, 1] rfl rfl rfl rfl) rfl rfl hl.1 rfl (lv_room (Nat.le_of_ble_eq_true rfl)) dKM_makePair_5 ⟨by omega, by omega⟩) (fun  u21 H locs hu21 hP hD hS => ?_)
  obtain ⟨u22, pl⟩ := u21
  obtain ⟨hq21, hO⟩ := hu21
  have hP : va_P g.1 vcl ([(r21, .inr (3, [.ref ln21, .int (nI 72), .int (nI 6), .int (nI 0)])), (ln21, .inl (g.2.1 2, 25, .inr (.inl u22)))] ++ pl) _ := hP
  have hD : va_D _ ([(r21, .inr (3, [.ref ln21, .int (nI 72), .int (nI 6), .int (nI 0)])), (ln21, .inl (g.2.1 2, 25, .inr (.inl u22)))] ++ pl) := hD
  refine W.widen (k := 0) (n := 0) (by omega) (by omega) ?_
  refine lv_aload_n hx hb dKM_makePair_8 rfl (lv_at hl 0 rfl) ?_
  refine ty_get (ci := 5) (C := "LatticeKeys$Kem") (TT := T_KM) (N := 10) (kd := (13, 0)) hx hb hts (wg_ft i_KM) hown hK hO k_h0 (nxg (clo_cons (clo_cons hc0 kr21 (by decide)) kl21 (by decide)) k_h0 rfl) hP (fun _ h9 => h9) rfl 0 (by decide) (hts _ (wg_t kw_107)) (fun _ h9 => h9) (cd := (3, 10, 1)) rfl dKM_makePair_9 (fun v22 hv22 => ?_)
  obtain ⟨r22, rfl, kr22⟩ := (show ∃ r : Nat, v22 = .ref r ∧ T r = some (10, 1) from hv22)
  obtain rfl : r21 = r22 := hU _ _ _ (by decide) kr21 kr22
  refine lv_aload_n hx hb dKM_makePair_12 rfl (lv_at hl 2 rfl) ?_
  refine lv_iconst (v := nI 0) hx hb dKM_makePair_13 (by decide) ?_
  refine lv_bipush (v := nI 32) hx hb dKM_makePair_14 (by decide) ?_
  refine mp_v (cx := [(r21, .inr (3, [.ref ln21, .int (nI 72), .int (nI 6), .int (nI 0)])), (ln21, .inl (g.2.1 2, 25, .inr (.inl u22)))]) (wr := []) hP hD hS hA [0, 1] [] rfl rfl rfl (by decide) (va_runV (As := [.ref ch, .int (nI 0), .int (nI 32)]) (rest := []) F (t_SP_absorb l g _ T (ln21 :: (r21 :: xs)) pl hO hU (clo_cons (clo_cons hc0 kr21 (by decide)) kl21 (by decide)) ch n 0 32 r21 ln21 72 0 (nI 6) u22 k_ch (by omega) (by omega) (by omega) (by omega)) (cwV 3 hts (wg_app (wg_c kw_585 (wg_c kw_586 (wg_c kw_587 (wg_c kw_2 wg_n)))) kw_588) rfl rfl rfl (by decide +kernel) ⟨by decide, by decide⟩) (pp_V (en_ok g) (q0 := 0) hK hP hD hS hA hE [0, 1] rfl rfl rfl rfl) rfl rfl hl.1 rfl (lv_room (Nat.le_of_ble_eq_true rfl)) dKM_makePair_16 ⟨by omega, by omega⟩) (fun  u23 H locs hu22 hP hD hS => ?_)
  obtain ⟨u24, pl⟩ := u23
  obtain ⟨hq22, hO⟩ := hu22
  obtain ⟨k21, f22⟩ := u24
  have hP : va_P g.1 vcl ([(r21, .inr (3, [.ref ln21, .int (nI 72), .int (nI 6), .int (nI k21)])), (ln21, .inl (g.2.1 2, 25, .inr (.inl f22)))] ++ pl) _ := hP
  have hD : va_D _ ([(r21, .inr (3, [.ref ln21, .int (nI 72), .int (nI 6), .int (nI k21)])), (ln21, .inl (g.2.1 2, 25, .inr (.inl f22)))] ++ pl) := hD
  have hq22 : k21 < 72 := hq22
  refine W.widen (k := 0) (n := 0) (by omega) (by omega) ?_
  refine lv_aload_n hx hb dKM_makePair_19 rfl (lv_at hl 0 rfl) ?_
  refine ty_get (ci := 5) (C := "LatticeKeys$Kem") (TT := T_KM) (N := 10) (kd := (13, 0)) hx hb hts (wg_ft i_KM) hown hK hO k_h0 (nxg (clo_cons (clo_cons hc0 kr21 (by decide)) kl21 (by decide)) k_h0 rfl) hP (fun _ h9 => h9) rfl 0 (by decide) (hts _ (wg_t kw_107)) (fun _ h9 => h9) (cd := (3, 10, 1)) rfl dKM_makePair_20 (fun v23 hv23 => ?_)
  obtain ⟨r23, rfl, kr23⟩ := (show ∃ r : Nat, v23 = .ref r ∧ T r = some (10, 1) from hv23)
  obtain rfl : r21 = r23 := hU _ _ _ (by decide) kr21 kr23
  refine lv_aload_n hx hb dKM_makePair_23 rfl (lv_at hl 1 rfl) ?_
  refine ty_get (ci := 1) (C := "LatticeKeys$KemSet") (TT := T_KS) (N := 10) (kd := (40, 0)) hx hb hts (wg_ft i_KS) hown hK hO k_st (nxg (clo_cons (clo_cons hc0 kr21 (by decide)) kl21 (by decide)) k_st rfl) hP (fun _ h9 => h9) rfl 0 (by decide) (hts _ (wg_t kw_231)) (fun _ h9 => h9) (cd := (1, 0, 2)) rfl dKM_makePair_24 (fun v24 hv24 => ?_)
  obtain rfl := (show v24 = .int (nI 2) from hv24)
  refine mp_v (cx := [(r21, .inr (3, [.ref ln21, .int (nI 72), .int (nI 6), .int (nI k21)])), (ln21, .inl (g.2.1 2, 25, .inr (.inl f22)))]) (wr := []) hP hD hS hA [0, 1] [] rfl rfl rfl (by decide) (va_runV (As := [.int (nI 2)]) (rest := []) F (t_SP_absorbByte l g _ T (ln21 :: (r21 :: xs)) pl hO hU  (nI 2) r21 ln21 72 k21 (nI 6) f22 (by omega) (by omega)) (cwV 1 hts (wg_app (wg_c kw_609 (wg_c kw_590 (wg_c kw_591 (wg_c kw_2 wg_n)))) kw_592) rfl rfl rfl (by decide +kernel) ⟨by decide, by decide⟩) (pp_V (en_ok g) (q0 := 0) hK hP hD hS hA hE [0, 1] rfl rfl rfl rfl) rfl rfl hl.1 rfl (lv_room (Nat.le_of_ble_eq_true rfl)) dKM_makePair_27 ⟨by omega, by omega⟩) (fun  u25 H locs hu23 hP hD hS => ?_)
  obtain ⟨u26, pl⟩ := u25
  obtain ⟨hq23, hO⟩ := hu23
  obtain ⟨k22, f23⟩ := u26
  have hP : va_P g.1 vcl ([(r21, .inr (3, [.ref ln21, .int (nI 72), .int (nI 6), .int (nI k22)])), (ln21, .inl (g.2.1 2, 25, .inr (.inl f23)))] ++ pl) _ := hP
  have hD : va_D _ ([(r21, .inr (3, [.ref ln21, .int (nI 72), .int (nI 6), .int (nI k22)])), (ln21, .inl (g.2.1 2, 25, .inr (.inl f23)))] ++ pl) := hD
  have hq23 : k22 < 72 := hq23
  refine W.widen (k := 0) (n := 0) (by omega) (by omega) ?_
  refine lv_aload_n hx hb dKM_makePair_30 rfl (lv_at hl 0 rfl) ?_
  refine ty_get (ci := 5) (C := "LatticeKeys$Kem") (TT := T_KM) (N := 10) (kd := (13, 0)) hx hb hts (wg_ft i_KM) hown hK hO k_h0 (nxg (clo_cons (clo_cons hc0 kr21 (by decide)) kl21 (by decide)) k_h0 rfl) hP (fun _ h9 => h9) rfl 0 (by decide) (hts _ (wg_t kw_107)) (fun _ h9 => h9) (cd := (3, 10, 1)) rfl dKM_makePair_31 (fun v25 hv25 => ?_)
  obtain ⟨r24, rfl, kr24⟩ := (show ∃ r : Nat, v25 = .ref r ∧ T r = some (10, 1) from hv25)
  obtain rfl : r21 = r24 := hU _ _ _ (by decide) kr21 kr24
  refine mp_v (cx := [(r21, .inr (3, [.ref ln21, .int (nI 72), .int (nI 6), .int (nI k22)])), (ln21, .inl (g.2.1 2, 25, .inr (.inl f23)))]) (wr := []) hP hD hS hA [0, 1] [] rfl rfl rfl (by decide) (va_runV (As := []) (rest := []) F (t_SP_finish l g _ T (ln21 :: (r21 :: xs)) pl hO hU  r21 ln21 72 k22 (nI 6) f23 (by omega) (by omega)) (cwV 0 hts (wg_app (wg_c kw_610 (wg_c kw_611 (wg_c kw_612 (wg_c kw_2 wg_n)))) kw_613) rfl rfl rfl (by decide +kernel) ⟨by decide, by decide⟩) (pp_V (en_ok g) (q0 := 0) hK hP hD hS hA hE [0, 1] rfl rfl rfl rfl) rfl rfl hl.1 rfl (lv_room (Nat.le_of_ble_eq_true rfl)) dKM_makePair_34 ⟨by omega, by omega⟩) (fun  u27 H locs hu24 hP hD hS => ?_)
  obtain ⟨u28, pl⟩ := u27
  obtain ⟨hq24, hO⟩ := hu24
  have hP : va_P g.1 vcl ([(r21, .inr (3, [.ref ln21, .int (nI 72), .int (nI 6), .int (nI 72)])), (ln21, .inl (g.2.1 2, 25, .inr (.inl u28)))] ++ pl) _ := hP
  have hD : va_D _ ([(r21, .inr (3, [.ref ln21, .int (nI 72), .int (nI 6), .int (nI 72)])), (ln21, .inl (g.2.1 2, 25, .inr (.inl u28)))] ++ pl) := hD
  refine W.widen (k := 0) (n := 0) (by omega) (by omega) ?_
  refine lv_aload_n hx hb dKM_makePair_37 rfl (lv_at hl 0 rfl) ?_
  refine ty_get (ci := 5) (C := "LatticeKeys$Kem") (TT := T_KM) (N := 10) (kd := (13, 0)) hx hb hts (wg_ft i_KM) hown hK hO k_h0 (nxg (clo_cons (clo_cons hc0 kr21 (by decide)) kl21 (by decide)) k_h0 rfl) hP (fun _ h9 => h9) rfl 0 (by decide) (hts _ (wg_t kw_107)) (fun _ h9 => h9) (cd := (3, 10, 1)) rfl dKM_makePair_38 (fun v26 hv26 => ?_)
  obtain ⟨r25, rfl, kr25⟩ := (show ∃ r : Nat, v26 = .ref r ∧ T r = some (10, 1) from hv26)
  obtain rfl : r21 = r25 := hU _ _ _ (by decide) kr21 kr25
  refine lv_aload_n hx hb dKM_makePair_41 rfl (lv_at hl 0 rfl) ?_
  refine ty_get (ci := 5) (C := "LatticeKeys$Kem") (TT := T_KM) (N := 10) (kd := (13, 0)) hx hb hts (wg_ft i_KM) hown hK hO k_h0 (nxg (clo_cons (clo_cons hc0 kr21 (by decide)) kl21 (by decide)) k_h0 rfl) hP (fun _ h9 => h9) rfl 7 (by decide) (hts _ (wg_t kw_114)) (fun _ h9 => h9) (cd := (3, 1, 64)) rfl dKM_makePair_42 (fun v27 hv27 => ?_)
  obtain ⟨r26, rfl, kr26⟩ := (show ∃ r : Nat, v27 = .ref r ∧ T r = some (1, 64) from hv27)
  refine lv_iconst (v := nI 0) hx hb dKM_makePair_45 (by decide) ?_
  refine lv_bipush (v := nI 64) hx hb dKM_makePair_46 (by decide) ?_
  refine mp_v (cx := [(r21, .inr (3, [.ref ln21, .int (nI 72), .int (nI 6), .int (nI 72)])), (ln21, .inl (g.2.1 2, 25, .inr (.inl u28)))]) (wr := []) hP hD hS hA [0, 1] [] rfl rfl rfl (by decide) (va_runV (As := [.ref r26, .int (nI 0), .int (nI 64)]) (rest := []) F (t_SP_squeeze l g _ T (ln21 :: (r21 :: xs)) pl hO hU (clo_cons (clo_cons hc0 kr21 (by decide)) kl21 (by decide)) r26 64 0 64 r21 ln21 72 72 (nI 6) u28 kr26 (by omega) (by omega) (by omega) (by omega)) (cwV 3 hts (wg_app (wg_c kw_614 (wg_c kw_615 (wg_c kw_616 (wg_c kw_2 wg_n)))) kw_617) rfl rfl rfl (by decide +kernel) ⟨by decide, by decide⟩) (pp_V (en_ok g) (q0 := 0) hK hP hD hS hA hE [0, 1] rfl rfl rfl rfl) rfl rfl hl.1 rfl (lv_room (Nat.le_of_ble_eq_true rfl)) dKM_makePair_48 ⟨by omega, by omega⟩) (fun  u29 H locs hu25 hP hD hS => ?_)
  obtain ⟨u30, pl⟩ := u29
  obtain ⟨hq25, hO⟩ := hu25
  obtain ⟨k23, f24⟩ := u30
  have hP : va_P g.1 vcl ([(r21, .inr (3, [.ref ln21, .int (nI 72), .int (nI 6), .int (nI k23)])), (ln21, .inl (g.2.1 2, 25, .inr (.inl f24)))] ++ pl) _ := hP
  have hD : va_D _ ([(r21, .inr (3, [.ref ln21, .int (nI 72), .int (nI 6), .int (nI k23)])), (ln21, .inl (g.2.1 2, 25, .inr (.inl f24)))] ++ pl) := hD
  have hq25 : k23 ≤ 72 := hq25
  refine W.widen (k := 0) (n := 0) (by omega) (by omega) ?_
  refine lv_aload_n hx hb dKM_makePair_51 rfl (lv_at hl 0 rfl) ?_
  refine ty_get (ci := 5) (C := "LatticeKeys$Kem") (TT := T_KM) (N := 10) (kd := (13, 0)) hx hb hts (wg_ft i_KM) hown hK hO k_h0 (nxg (clo_cons (clo_cons hc0 kr21 (by decide)) kl21 (by decide)) k_h0 rfl) hP (fun _ h9 => h9) rfl 7 (by decide) (hts _ (wg_t kw_114)) (fun _ h9 => h9) (cd := (3, 1, 64)) rfl dKM_makePair_52 (fun v28 hv28 => ?_)
  obtain ⟨r27, rfl, kr27⟩ := (show ∃ r : Nat, v28 = .ref r ∧ T r = some (1, 64) from hv28)
  refine lv_iconst (v := nI 0) hx hb dKM_makePair_55 (by decide) ?_
  refine lv_aload_n hx hb dKM_makePair_56 rfl (lv_at hl 3 rfl) ?_
  refine lv_aload_n hx hb dKM_makePair_57 rfl (lv_at hl 1 rfl) ?_
  refine ty_get (ci := 1) (C := "LatticeKeys$KemSet") (TT := T_KS) (N := 10) (kd := (40, 0)) hx hb hts (wg_ft i_KS) hown hK hO k_st (nxg (clo_cons (clo_cons hc0 kr21 (by decide)) kl21 (by decide)) k_st rfl) hP (fun _ h9 => h9) rfl 4 (by decide) (hts _ (wg_t kw_239)) (fun _ h9 => h9) (cd := (1, 0, 800)) rfl dKM_makePair_58 (fun v29 hv29 => ?_)
  obtain rfl := (show v29 = .int (nI 800) from hv29)
  refine lv_bipush (v := nI 32) hx hb dKM_makePair_61 (by decide) ?_
  refine mi_isub hx hb dKM_makePair_63 (by omega) ?_
  refine mi_as (show nI (800 - 32) = nI 768 from rfl) ?_
  refine lv_bipush (v := nI 32) hx hb dKM_makePair_64 (by decide) ?_
  refine ty_copyb11 hx hb (hml.trans hl.1.symm) hown (hts _ (wg_t kw_622)) (hts _ (wg_t kw_526)) (hts _ (wg_t kw_525)) (hts _ (wg_t kw_19)) hK hO kr27 (nxg (clo_cons (clo_cons hc0 kr21 (by decide)) kl21 (by decide)) kr27 rfl) k_pk (nxg (clo_cons (clo_cons hc0 kr21 (by decide)) kl21 (by decide)) k_pk rfl) hP hD hS (sp := 0) (dp := 768) (n := 32) (by omega) (by omega) (by omega) (by decide) (Nat.le_of_ble_eq_true rfl) dKM_makePair_66 (fun pl H locs hO hP hD hS => ?_)
  refine lv_iconst (v := nI 0) hx hb dKM_makePair_69 (by decide) ?_
  refine lv_istore (lv' := [(5, .int (nI 0)), (0, .ref h0), (1, .ref st), (2, .ref ch), (3, .ref pk), (4, .ref sk)]) hx hb dKM_makePair_70 hl (by decide) rfl (fun ls hl => ?_)
  have hO := close1 (e := .inl (g.2.1 2, 25, .inr (.inl f24))) hO kl21 ⟨_, rfl⟩
  have hO := close1 (e := .inr (3, [.ref ln21, .int (nI 72), .int (nI 6), .int (nI k23)])) hO kr21 ⟨_, _, _, _, rfl, kl21, by omega, by omega, by omega⟩
  have hO : okx g T xs ((r21, .inr (3, [.ref ln21, .int (nI 72), .int (nI 6), .int (nI k23)])) :: (ln21, .inl (g.2.1 2, 25, .inr (.inl f24))) :: pl) := hO
  have hP : va_P g.1 vcl ([] ++ ((r21, .inr (3, [.ref ln21, .int (nI 72), .int (nI 6), .int (nI k23)])) :: (ln21, .inl (g.2.1 2, 25, .inr (.inl f24))) :: pl)) _ := hP
  have hD : va_D _ ([] ++ ((r21, .inr (3, [.ref ln21, .int (nI 72), .int (nI 6), .int (nI k23)])) :: (ln21, .inl (g.2.1 2, 25, .inr (.inl f24))) :: pl)) := hD
  generalize ((r21, .inr (3, [.ref ln21, .int (nI 72), .int (nI 6), .int (nI k23)])) :: (ln21, .inl (g.2.1 2, 25, .inr (.inl f24))) :: pl) = pl at hO hP hD
  have lp21 : ∀ (n21 : Nat) (i21 : Nat) (pl : va_W) (ls : Array Slot) (H : Heap) (locs : List Loc), n21 + i21 = 2 → lv_has ls 7 [(5, .int (nI i21)), (0, .ref h0), (1, .ref st), (2, .ref ch), (3, .ref pk), (4, .ref sk)] → okx g T xs pl → va_P g.1 vcl ([] ++ pl) H → va_D A ([] ++ pl) → va_S A s.heap H locs → W p l e ({ frames := 4, cells := 0, slots := 0, locals := 131 } : Room) s m args below meth c H locs 0 0 (MQ below (va_Qv (fun (u : va_W) => (True) ∧ okx g T xs u) (po g.1 vcl A (fun (u : va_W) => [] ++ u)) A) args s 0 0 A) (F0 m 72 ls []) := by
    intro n21
    induction n21 with
    | zero =>
      intro i21 pl ls H locs hm21  hl hO hP hD hS
      refine lv_iload hx hb dKM_makePair_72 (lv_at hl 0 rfl) ?_
      refine lv_aload_n hx hb dKM_makePair_74 rfl (lv_at hl 2 rfl) ?_
      refine ty_get (ci := 1) (C := "LatticeKeys$KemSet") (TT := T_KS) (N := 10) (kd := (40, 0)) hx hb hts (wg_ft i_KS) hown hK hO k_st (nxg hc0 k_st rfl) hP (fun _ h9 => h9) rfl 0 (by decide) (hts _ (wg_t kw_231)) (fun _ h9 => h9) (cd := (1, 0, 2)) rfl dKM_makePair_75 (fun v30 hv30 => ?_)
      obtain rfl := (show v30 = .int (nI 2) from hv30)
      refine mi_ge (tgt := 138) hx hb dKM_makePair_78 (by decide) (by omega) (by omega) (fun h21 => ?_) (fun h21 => absurd h21 (by omega))
      refine lv_iconst (v := nI 0) hx hb dKM_makePair_138 (by decide) ?_
      refine lv_istore (lv' := [(5, .int (nI 0)), (0, .ref h0), (1, .ref st), (2, .ref ch), (3, .ref pk), (4, .ref sk)]) hx hb dKM_makePair_139 hl (by decide) rfl (fun ls hl => ?_)
      have lp22 : ∀ (n22 : Nat) (i22 : Nat) (pl : va_W) (ls : Array Slot) (H : Heap) (locs : List Loc), n22 + i22 = 2 → lv_has ls 7 [(5, .int (nI i22)), (0, .ref h0), (1, .ref st), (2, .ref ch), (3, .ref pk), (4, .ref sk)] → okx g T xs pl → va_P g.1 vcl ([] ++ pl) H → va_D A ([] ++ pl) → va_S A s.heap H locs → W p l e ({ frames := 4, cells := 0, slots := 0, locals := 131 } : Room) s m args below meth c H locs 0 0 (MQ below (va_Qv (fun (u : va_W) => (True) ∧ okx g T xs u) (po g.1 vcl A (fun (u : va_W) => [] ++ u)) A) args s 0 0 A) (F0 m 141 ls []) := by
        intro n22
        induction n22 with
        | zero =>
          intro i22 pl ls H locs hm22  hl hO hP hD hS
          refine lv_iload hx hb dKM_makePair_141 (lv_at hl 0 rfl) ?_
          refine lv_aload_n hx hb dKM_makePair_143 rfl (lv_at hl 2 rfl) ?_
          refine ty_get (ci := 1) (C := "LatticeKeys$KemSet") (TT := T_KS) (N := 10) (kd := (40, 0)) hx hb hts (wg_ft i_KS) hown hK hO k_st (nxg hc0 k_st rfl) hP (fun _ h9 => h9) rfl 0 (by decide) (hts _ (wg_t kw_231)) (fun _ h9 => h9) (cd := (1, 0, 2)) rfl dKM_makePair_144 (fun v31 hv31 => ?_)
          obtain rfl := (show v31 = .int (nI 2) from hv31)
          refine mi_ge (tgt := 258) hx hb dKM_makePair_147 (by decide) (by omega) (by omega) (fun h22 => ?_) (fun h22 => absurd h22 (by omega))
          refine lv_aload_n hx hb dKM_makePair_258 rfl (lv_at hl 4 rfl) ?_
          refine lv_iconst (v := nI 0) hx hb dKM_makePair_259 (by decide) ?_
          refine lv_aload hx hb dKM_makePair_260 (lv_at hl 5 rfl) ?_
          refine lv_aload_n hx hb dKM_makePair_262 rfl (lv_at hl 2 rfl) ?_
          refine ty_get (ci := 1) (C := "LatticeKeys$KemSet") (TT := T_KS) (N := 10) (kd := (40, 0)) hx hb hts (wg_ft i_KS) hown hK hO k_st (nxg hc0 k_st rfl) hP (fun _ h9 => h9) rfl 7 (by decide) (hts _ (wg_t kw_247)) (fun _ h9 => h9) (cd := (1, 0, 768)) rfl dKM_makePair_263 (fun v32 hv32 => ?_)
          obtain rfl := (show v32 = .int (nI 768) from hv32)
          refine lv_aload_n hx hb dKM_makePair_266 rfl (lv_at hl 2 rfl) ?_
          refine ty_get (ci := 1) (C := "LatticeKeys$KemSet") (TT := T_KS) (N := 10) (kd := (40, 0)) hx hb hts (wg_ft i_KS) hown hK hO k_st (nxg hc0 k_st rfl) hP (fun _ h9 => h9) rfl 4 (by decide) (hts _ (wg_t kw_239)) (fun _ h9 => h9) (cd := (1, 0, 800)) rfl dKM_makePair_267 (fun v33 hv33 => ?_)
          obtain rfl := (show v33 = .int (nI 800) from hv33)
          refine ty_copyb11 hx hb (hml.trans hl.1.symm) hown (hts _ (wg_t kw_622)) (hts _ (wg_t kw_526)) (hts _ (wg_t kw_525)) (hts _ (wg_t kw_19)) hK hO k_pk (nxg hc0 k_pk rfl) k_sk (nxg hc0 k_sk rfl) hP hD hS (sp := 0) (dp := 768) (n := 800) (by omega) (by omega) (by omega) (by decide) (Nat.le_of_ble_eq_true rfl) dKM_makePair_270 (fun pl H locs hO hP hD hS => ?_)
          refine lv_aload_n hx hb dKM_makePair_273 rfl (lv_at hl 1 rfl) ?_
          refine lv_aload_n hx hb dKM_makePair_274 rfl (lv_at hl 4 rfl) ?_
          refine lv_iconst (v := nI 0) hx hb dKM_makePair_275 (by decide) ?_
          refine lv_aload_n hx hb dKM_makePair_276 rfl (lv_at hl 2 rfl) ?_
          refine ty_get (ci := 1) (C := "LatticeKeys$KemSet") (TT := T_KS) (N := 10) (kd := (40, 0)) hx hb hts (wg_ft i_KS) hown hK hO k_st (nxg hc0 k_st rfl) hP (fun _ h9 => h9) rfl 4 (by decide) (hts _ (wg_t kw_239)) (fun _ h9 => h9) (cd := (1, 0, 800)) rfl dKM_makePair_277 (fun v34 hv34 => ?_)
          obtain rfl := (show v34 = .int (nI 800) from hv34)
          refine mp_v (cx := []) (wr := []) hP hD hS hA [] [] rfl rfl rfl (by decide) (va_runV (As := [.ref pk, .int (nI 0), .int (nI 800)]) (rest := []) F (t_KM_digestOf l g _ T xs pl hO hU hc0 hc2 h0 pk 800 0 800 k_h0 k_pk (by omega) (by omega)) (cwV 3 hts (wg_app (wg_c kw_661 (wg_c kw_663 (wg_c ks_10 (wg_c kw_3 wg_n)))) kw_664) rfl rfl rfl (by decide +kernel) ⟨by decide, by decide⟩) (pp_VT (en_ok g) (ci := 5) (kd := (13, 0)) hK hO k_h0 (nxg hc0 k_h0 rfl) (fun _ h9 => ko1 h9) hP hD hS hA hE [] rfl rfl rfl) rfl rfl hl.1 rfl (lv_room (Nat.le_of_ble_eq_true rfl)) dKM_makePair_280 ⟨by omega, by omega⟩) (fun  pl H locs hu26 hP hD hS => ?_)
          obtain ⟨hq26, hO⟩ := hu26
          have hP : va_P g.1 vcl ([] ++ pl) _ := hP
          have hD : va_D _ ([] ++ pl) := hD
          refine W.widen (k := 0) (n := 0) (by omega) (by omega) ?_
          refine lv_aload_n hx hb dKM_makePair_283 rfl (lv_at hl 1 rfl) ?_
          refine ty_get (ci := 5) (C := "LatticeKeys$Kem") (TT := T_KM) (N := 10) (kd := (13, 0)) hx hb hts (wg_ft i_KM) hown hK hO k_h0 (nxg hc0 k_h0 rfl) hP (fun _ h9 => h9) rfl 6 (by decide) (hts _ (wg_t kw_113)) (fun _ h9 => h9) (cd := (3, 1, 32)) rfl dKM_makePair_284 (fun v35 hv35 => ?_)
          obtain ⟨r28, rfl, kr28⟩ := (show ∃ r : Nat, v35 = .ref r ∧ T r = some (1, 32) from hv35)
          refine lv_iconst (v := nI 0) hx hb dKM_makePair_287 (by decide) ?_
          refine lv_aload hx hb dKM_makePair_288 (lv_at hl 5 rfl) ?_
          refine lv_aload_n hx hb dKM_makePair_290 rfl (lv_at hl 2 rfl) ?_
          refine ty_get (ci := 1) (C := "LatticeKeys$KemSet") (TT := T_KS) (N := 10) (kd := (40, 0)) hx hb hts (wg_ft i_KS) hown hK hO k_st (nxg hc0 k_st rfl) hP (fun _ h9 => h9) rfl 8 (by decide) (hts _ (wg_t kw_250)) (fun _ h9 => h9) (cd := (1, 0, 1568)) rfl dKM_makePair_291 (fun v36 hv36 => ?_)
          obtain rfl := (show v36 = .int (nI 1568) from hv36)
          refine lv_bipush (v := nI 32) hx hb dKM_makePair_294 (by decide) ?_
          refine ty_copyb11 hx hb (hml.trans hl.1.symm) hown (hts _ (wg_t kw_622)) (hts _ (wg_t kw_526)) (hts _ (wg_t kw_525)) (hts _ (wg_t kw_19)) hK hO kr28 (nxg hc0 kr28 rfl) k_sk (nxg hc0 k_sk rfl) hP hD hS (sp := 0) (dp := 1568) (n := 32) (by omega) (by omega) (by omega) (by decide) (Nat.le_of_ble_eq_true rfl) dKM_makePair_296 (fun pl H locs hO hP hD hS => ?_)
          refine lv_aload_n hx hb dKM_makePair_299 rfl (lv_at hl 3 rfl) ?_
          refine lv_bipush (v := nI 32) hx hb dKM_makePair_300 (by decide) ?_
          refine lv_aload hx hb dKM_makePair_302 (lv_at hl 5 rfl) ?_
          refine lv_aload_n hx hb dKM_makePair_304 rfl (lv_at hl 2 rfl) ?_
          refine ty_get (ci := 1) (C := "LatticeKeys$KemSet") (TT := T_KS) (N := 10) (kd := (40, 0)) hx hb hts (wg_ft i_KS) hown hK hO k_st (nxg hc0 k_st rfl) hP (fun _ h9 => h9) rfl 9 (by decide) (hts _ (wg_t kw_252)) (fun _ h9 => h9) (cd := (1, 0, 1600)) rfl dKM_makePair_305 (fun v37 hv37 => ?_)
          obtain rfl := (show v37 = .int (nI 1600) from hv37)
          refine lv_bipush (v := nI 32) hx hb dKM_makePair_308 (by decide) ?_
          refine ty_copyb11 hx hb (hml.trans hl.1.symm) hown (hts _ (wg_t kw_622)) (hts _ (wg_t kw_526)) (hts _ (wg_t kw_525)) (hts _ (wg_t kw_19)) hK hO k_ch (nxg hc0 k_ch rfl) k_sk (nxg hc0 k_sk rfl) hP hD hS (sp := 32) (dp := 1600) (n := 32) (by omega) (by omega) (by omega) (by decide) (Nat.le_of_ble_eq_true rfl) dKM_makePair_310 (fun pl H locs hO hP hD hS => ?_)
          exact mp_vret hx hb hr hlk hP hD hS pl ⟨trivial, hO⟩ [] rfl rfl rfl (by omega) (by omega) dKM_makePair_313
        | succ n22 ih22 =>
          intro i22 pl ls H locs hm22  hl hO hP hD hS
          refine lv_iload hx hb dKM_makePair_141 (lv_at hl 0 rfl) ?_
          refine lv_aload_n hx hb dKM_makePair_143 rfl (lv_at hl 2 rfl) ?_
          refine ty_get (ci := 1) (C := "LatticeKeys$KemSet") (TT := T_KS) (N := 10) (kd := (40, 0)) hx hb hts (wg_ft i_KS) hown hK hO k_st (nxg hc0 k_st rfl) hP (fun _ h9 => h9) rfl 0 (by decide) (hts _ (wg_t kw_231)) (fun _ h9 => h9) (cd := (1, 0, 2)) rfl dKM_makePair_144 (fun v38 hv38 => ?_)
          obtain rfl := (show v38 = .int (nI 2) from hv38)
          refine mi_ge (tgt := 258) hx hb dKM_makePair_147 (by decide) (by omega) (by omega) (fun h23 => absurd h23 (by omega)) (fun h23 => ?_)
          refine lv_aload_n hx hb dKM_makePair_150 rfl (lv_at hl 1 rfl) ?_
          refine lv_aload_n hx hb dKM_makePair_151 rfl (lv_at hl 1 rfl) ?_
          refine ty_get (ci := 5) (C := "LatticeKeys$Kem") (TT := T_KM) (N := 10) (kd := (13, 0)) hx hb hts (wg_ft i_KM) hown hK hO k_h0 (nxg hc0 k_h0 rfl) hP (fun _ h9 => h9) rfl 3 (by decide) (hts _ (wg_t kw_110)) (fun _ h9 => h9) (cd := (3, 0, 256)) rfl dKM_makePair_152 (fun v39 hv39 => ?_)
          obtain ⟨r29, rfl, kr29⟩ := (show ∃ r : Nat, v39 = .ref r ∧ T r = some (0, 256) from hv39)
          refine lv_aload_n hx hb dKM_makePair_155 rfl (lv_at hl 2 rfl) ?_
          refine ty_get (ci := 1) (C := "LatticeKeys$KemSet") (TT := T_KS) (N := 10) (kd := (40, 0)) hx hb hts (wg_ft i_KS) hown hK hO k_st (nxg hc0 k_st rfl) hP (fun _ h9 => h9) rfl 1 (by decide) (hts _ (wg_t kw_233)) (fun _ h9 => h9) (cd := (1, 0, 3)) rfl dKM_makePair_156 (fun v40 hv40 => ?_)
          obtain rfl := (show v40 = .int (nI 3) from hv40)
          refine lv_aload_n hx hb dKM_makePair_159 rfl (lv_at hl 2 rfl) ?_
          refine ty_get (ci := 1) (C := "LatticeKeys$KemSet") (TT := T_KS) (N := 10) (kd := (40, 0)) hx hb hts (wg_ft i_KS) hown hK hO k_st (nxg hc0 k_st rfl) hP (fun _ h9 => h9) rfl 0 (by decide) (hts _ (wg_t kw_231)) (fun _ h9 => h9) (cd := (1, 0, 2)) rfl dKM_makePair_160 (fun v41 hv41 => ?_)
          obtain rfl := (show v41 = .int (nI 2) from hv41)
          refine lv_iload hx hb dKM_makePair_163 (lv_at hl 0 rfl) ?_
          refine mi_iadd hx hb dKM_makePair_165 ?_
          refine mp_v (cx := []) (wr := []) hP hD hS hA [] [] rfl rfl rfl (by decide) (va_runV (As := [.ref r29, .int (nI 3), .int (nI (2 + i22))]) (rest := []) F (t_KM_sampleNoise_3 l g _ T xs pl hO hU hc0 hc2 h0 r29 (nI (2 + i22)) k_h0 kr29) (cwV 3 hts (wg_app (wg_c kw_623 (wg_c kw_625 (wg_c ks_6 (wg_c kw_3 wg_n)))) kw_626) rfl rfl rfl (by decide +kernel) ⟨by decide, by decide⟩) (pp_VT (en_ok g) (ci := 5) (kd := (13, 0)) hK hO k_h0 (nxg hc0 k_h0 rfl) (fun _ h9 => ko1 h9) hP hD hS hA hE [] rfl rfl rfl) rfl rfl hl.1 rfl (lv_room (Nat.le_of_ble_eq_true rfl)) dKM_makePair_166 ⟨by omega, by omega⟩) (fun  pl H locs hu27 hP hD hS => ?_)
          obtain ⟨hq27, hO⟩ := hu27
          have hP : va_P g.1 vcl ([] ++ pl) _ := hP
          have hD : va_D _ ([] ++ pl) := hD
          refine W.widen (k := 0) (n := 0) (by omega) (by omega) ?_
          refine lv_aload_n hx hb dKM_makePair_169 rfl (lv_at hl 1 rfl) ?_
          refine ty_get (ci := 5) (C := "LatticeKeys$Kem") (TT := T_KM) (N := 10) (kd := (13, 0)) hx hb hts (wg_ft i_KM) hown hK hO k_h0 (nxg hc0 k_h0 rfl) hP (fun _ h9 => h9) rfl 1 (by decide) (hts _ (wg_t kw_108)) (fun _ h9 => h9) (cd := (3, 11, 0)) rfl dKM_makePair_170 (fun v42 hv42 => ?_)
          obtain ⟨r30, rfl, kr30⟩ := (show ∃ r : Nat, v42 = .ref r ∧ T r = some (11, 0) from hv42)
          refine lv_aload_n hx hb dKM_makePair_173 rfl (lv_at hl 1 rfl) ?_
          refine ty_get (ci := 5) (C := "LatticeKeys$Kem") (TT := T_KM) (N := 10) (kd := (13, 0)) hx hb hts (wg_ft i_KM) hown hK hO k_h0 (nxg hc0 k_h0 rfl) hP (fun _ h9 => h9) rfl 3 (by decide) (hts _ (wg_t kw_110)) (fun _ h9 => h9) (cd := (3, 0, 256)) rfl dKM_makePair_174 (fun v43 hv43 => ?_)
          obtain ⟨r31, rfl, kr31⟩ := (show ∃ r : Nat, v43 = .ref r ∧ T r = some (0, 256) from hv43)
          refine mp_v (cx := []) (wr := []) hP hD hS hA [] [] rfl rfl rfl (by decide) (va_runV (As := [.ref r31]) (rest := []) F (t_RG_transform_11 l g _ T xs pl hO hU hc0 r30 r31 kr30 kr31) (cwV 1 hts (wg_app (wg_c kw_636 (wg_c kw_637 (wg_c kw_638 (wg_c kw_4 wg_n)))) kw_639) rfl rfl rfl (by decide +kernel) ⟨by decide, by decide⟩) (pp_VT (en_ok g) (ci := 4) (kd := (11, 0)) hK hO kr30 (nxg hc0 kr30 rfl) (fun _ h9 => ko1 h9) hP hD hS hA hE [] rfl rfl rfl) rfl rfl hl.1 rfl (lv_room (Nat.le_of_ble_eq_true rfl)) dKM_makePair_177 ⟨by omega, by omega⟩) (fun  pl H locs hu28 hP hD hS => ?_)
          obtain ⟨hq28, hO⟩ := hu28
          have hP : va_P g.1 vcl ([] ++ pl) _ := hP
          have hD : va_D _ ([] ++ pl) := hD
          refine W.widen (k := 0) (n := 0) (by omega) (by omega) ?_
          refine lv_iconst (v := nI 0) hx hb dKM_makePair_180 (by decide) ?_
          refine lv_istore (lv' := [(6, .int (nI 0)), (5, .int (nI i22)), (0, .ref h0), (1, .ref st), (2, .ref ch), (3, .ref pk), (4, .ref sk)]) hx hb dKM_makePair_181 hl (by decide) rfl (fun ls hl => ?_)
          have lp23 : ∀ (n23 : Nat) (i23 : Nat) (pl : va_W) (ls : Array Slot) (H : Heap) (locs : List Loc), n23 + i23 = 2 → lv_has ls 7 [(6, .int (nI i23)), (5, .int (nI i22)), (0, .ref h0), (1, .ref st), (2, .ref ch), (3, .ref pk), (4, .ref sk)] → okx g T xs pl → va_P g.1 vcl ([] ++ pl) H → va_D A ([] ++ pl) → va_S A s.heap H locs → W p l e ({ frames := 4, cells := 0, slots := 0, locals := 131 } : Room) s m args below meth c H locs 0 0 (MQ below (va_Qv (fun (u : va_W) => (True) ∧ okx g T xs u) (po g.1 vcl A (fun (u : va_W) => [] ++ u)) A) args s 0 0 A) (F0 m 183 ls []) := by
            intro n23
            induction n23 with
            | zero =>
              intro i23 pl ls H locs hm23  hl hO hP hD hS
              refine lv_iload hx hb dKM_makePair_183 (lv_at hl 0 rfl) ?_
              refine lv_aload_n hx hb dKM_makePair_185 rfl (lv_at hl 3 rfl) ?_
              refine ty_get (ci := 1) (C := "LatticeKeys$KemSet") (TT := T_KS) (N := 10) (kd := (40, 0)) hx hb hts (wg_ft i_KS) hown hK hO k_st (nxg hc0 k_st rfl) hP (fun _ h9 => h9) rfl 0 (by decide) (hts _ (wg_t kw_231)) (fun _ h9 => h9) (cd := (1, 0, 2)) rfl dKM_makePair_186 (fun v44 hv44 => ?_)
              obtain rfl := (show v44 = .int (nI 2) from hv44)
              refine mi_ge (tgt := 236) hx hb dKM_makePair_189 (by decide) (by omega) (by omega) (fun h24 => ?_) (fun h24 => absurd h24 (by omega))
              refine lv_aload_n hx hb dKM_makePair_236 rfl (lv_at hl 2 rfl) ?_
              refine ty_get (ci := 5) (C := "LatticeKeys$Kem") (TT := T_KM) (N := 10) (kd := (13, 0)) hx hb hts (wg_ft i_KM) hown hK hO k_h0 (nxg hc0 k_h0 rfl) hP (fun _ h9 => h9) rfl 3 (by decide) (hts _ (wg_t kw_110)) (fun _ h9 => h9) (cd := (3, 0, 256)) rfl dKM_makePair_237 (fun v45 hv45 => ?_)
              obtain ⟨r32, rfl, kr32⟩ := (show ∃ r : Nat, v45 = .ref r ∧ T r = some (0, 256) from hv45)
              refine lv_bipush (v := nI 12) hx hb dKM_makePair_240 (by decide) ?_
              refine lv_aload_n hx hb dKM_makePair_242 rfl (lv_at hl 5 rfl) ?_
              refine lv_sipush (v := nI 384) hx hb dKM_makePair_243 (by decide) ?_
              refine lv_iload hx hb dKM_makePair_246 (lv_at hl 1 rfl) ?_
              refine mi_imul hx hb dKM_makePair_248 ?_
              refine mp_v (cx := []) (wr := []) hP hD hS hA [] [] rfl rfl rfl (by decide) (va_runS (As := [.ref r32, .int (nI 12), .ref pk, .int (nI (384 * i22))]) (rest := []) F (t_BT_pack l g _ T xs pl hO hU hc0 r32 pk 800 12 (384 * i22) kr32 k_pk (by omega) (by omega) (by omega)) (va_cwS 4 hts (wg_app (wg_c kw_644 (wg_c kw_645 (wg_c kw_22 wg_n))) kw_646) rfl rfl rfl (by decide +kernel) ⟨by decide, by decide⟩) (pp_S (en_ok g) hP hD hS hA hE [] rfl rfl) rfl rfl hl.1 rfl (lv_room (Nat.le_of_ble_eq_true rfl)) dKM_makePair_249 ⟨by omega, by omega⟩) (fun  pl H locs hu29 hP hD hS => ?_)
              obtain ⟨hq29, hO⟩ := hu29
              have hP : va_P g.1 vcl ([] ++ pl) _ := hP
              have hD : va_D _ ([] ++ pl) := hD
              refine W.widen (k := 0) (n := 0) (by omega) (by omega) ?_
              refine mi_iinc (k := 1) (x := i22) (d := 1) (y := i22 + 1) (lv' := [(5, .int (nI (i22 + 1))), (6, .int (nI i23)), (0, .ref h0), (1, .ref st), (2, .ref ch), (3, .ref pk), (4, .ref sk)]) hx hb dKM_makePair_252 hl rfl (by decide) rfl (by decide) rfl (fun ls hl => ?_)
              refine lv_goto (tgt := 141) hx hb dKM_makePair_255 (by decide) ?_
              exact ih22 (i22 + 1) pl ls H locs (by omega) (lv_sub hl [0, 2, 3, 4, 5, 6] rfl) hO hP hD hS
            | succ n23 ih23 =>
              intro i23 pl ls H locs hm23  hl hO hP hD hS
              refine lv_iload hx hb dKM_makePair_183 (lv_at hl 0 rfl) ?_
              refine lv_aload_n hx hb dKM_makePair_185 rfl (lv_at hl 3 rfl) ?_
              refine ty_get (ci := 1) (C := "LatticeKeys$KemSet") (TT := T_KS) (N := 10) (kd := (40, 0)) hx hb hts (wg_ft i_KS) hown hK hO k_st (nxg hc0 k_st rfl) hP (fun _ h9 => h9) rfl 0 (by decide) (hts _ (wg_t kw_231)) (fun _ h9 => h9) (cd := (1, 0, 2)) rfl dKM_makePair_186 (fun v46 hv46 => ?_)
              obtain rfl := (show v46 = .int (nI 2) from hv46)
              refine mi_ge (tgt := 236) hx hb dKM_makePair_189 (by decide) (by omega) (by omega) (fun h25 => absurd h25 (by omega)) (fun h25 => ?_)
              refine lv_aload_n hx hb dKM_makePair_192 rfl (lv_at hl 2 rfl) ?_
              refine lv_aload_n hx hb dKM_makePair_193 rfl (lv_at hl 5 rfl) ?_
              refine lv_aload_n hx hb dKM_makePair_194 rfl (lv_at hl 3 rfl) ?_
              refine ty_get (ci := 1) (C := "LatticeKeys$KemSet") (TT := T_KS) (N := 10) (kd := (40, 0)) hx hb hts (wg_ft i_KS) hown hK hO k_st (nxg hc0 k_st rfl) hP (fun _ h9 => h9) rfl 4 (by decide) (hts _ (wg_t kw_239)) (fun _ h9 => h9) (cd := (1, 0, 800)) rfl dKM_makePair_195 (fun v47 hv47 => ?_)
              obtain rfl := (show v47 = .int (nI 800) from hv47)
              refine lv_bipush (v := nI 32) hx hb dKM_makePair_198 (by decide) ?_
              refine mi_isub hx hb dKM_makePair_200 (by omega) ?_
              refine mi_as (show nI (800 - 32) = nI 768 from rfl) ?_
              refine lv_iload hx hb dKM_makePair_201 (lv_at hl 0 rfl) ?_
              refine lv_iload hx hb dKM_makePair_203 (lv_at hl 1 rfl) ?_
              refine mp_v (cx := []) (wr := []) hP hD hS hA [] [] rfl rfl rfl (by decide) (va_runV (As := [.ref pk, .int (nI 768), .int (nI i23), .int (nI i22)]) (rest := []) F (t_KM_sampleEntry l g _ T xs pl hO hU hc0 hc2 h0 pk 800 768 (nI i23) (nI i22) k_h0 k_pk (by omega) (by omega)) (cwV 4 hts (wg_app (wg_c kw_647 (wg_c kw_649 (wg_c ks_8 (wg_c kw_3 wg_n)))) kw_650) rfl rfl rfl (by decide +kernel) ⟨by decide, by decide⟩) (pp_VT (en_ok g) (ci := 5) (kd := (13, 0)) hK hO k_h0 (nxg hc0 k_h0 rfl) (fun _ h9 => ko1 h9) hP hD hS hA hE [] rfl rfl rfl) rfl rfl hl.1 rfl (lv_room (Nat.le_of_ble_eq_true rfl)) dKM_makePair_205 ⟨by omega, by omega⟩) (fun  pl H locs hu30 hP hD hS => ?_)
              obtain ⟨hq30, hO⟩ := hu30
              have hP : va_P g.1 vcl ([] ++ pl) _ := hP
              have hD : va_D _ ([] ++ pl) := hD
              refine W.widen (k := 0) (n := 0) (by omega) (by omega) ?_
              refine lv_aload_n hx hb dKM_makePair_208 rfl (lv_at hl 2 rfl) ?_
              refine ty_get (ci := 5) (C := "LatticeKeys$Kem") (TT := T_KM) (N := 10) (kd := (13, 0)) hx hb hts (wg_ft i_KM) hown hK hO k_h0 (nxg hc0 k_h0 rfl) hP (fun _ h9 => h9) rfl 1 (by decide) (hts _ (wg_t kw_108)) (fun _ h9 => h9) (cd := (3, 11, 0)) rfl dKM_makePair_209 (fun v48 hv48 => ?_)
              obtain ⟨r33, rfl, kr33⟩ := (show ∃ r : Nat, v48 = .ref r ∧ T r = some (11, 0) from hv48)
              refine lv_aload_n hx hb dKM_makePair_212 rfl (lv_at hl 2 rfl) ?_
              refine ty_get (ci := 5) (C := "LatticeKeys$Kem") (TT := T_KM) (N := 10) (kd := (13, 0)) hx hb hts (wg_ft i_KM) hown hK hO k_h0 (nxg hc0 k_h0 rfl) hP (fun _ h9 => h9) rfl 3 (by decide) (hts _ (wg_t kw_110)) (fun _ h9 => h9) (cd := (3, 0, 256)) rfl dKM_makePair_213 (fun v49 hv49 => ?_)
              obtain ⟨r34, rfl, kr34⟩ := (show ∃ r : Nat, v49 = .ref r ∧ T r = some (0, 256) from hv49)
              refine lv_aload_n hx hb dKM_makePair_216 rfl (lv_at hl 2 rfl) ?_
              refine ty_get (ci := 5) (C := "LatticeKeys$Kem") (TT := T_KM) (N := 10) (kd := (13, 0)) hx hb hts (wg_ft i_KM) hown hK hO k_h0 (nxg hc0 k_h0 rfl) hP (fun _ h9 => h9) rfl 4 (by decide) (hts _ (wg_t kw_111)) (fun _ h9 => h9) (cd := (3, 0, 256)) rfl dKM_makePair_217 (fun v50 hv50 => ?_)
              obtain ⟨r35, rfl, kr35⟩ := (show ∃ r : Nat, v50 = .ref r ∧ T r = some (0, 256) from hv50)
              refine lv_aload_n hx hb dKM_makePair_220 rfl (lv_at hl 2 rfl) ?_
              refine ty_get (ci := 5) (C := "LatticeKeys$Kem") (TT := T_KM) (N := 10) (kd := (13, 0)) hx hb hts (wg_ft i_KM) hown hK hO k_h0 (nxg hc0 k_h0 rfl) hP (fun _ h9 => h9) rfl 2 (by decide) (hts _ (wg_t kw_109)) (fun _ h9 => h9) (cd := (3, 3, 4)) rfl dKM_makePair_221 (fun v51 hv51 => ?_)
              obtain ⟨r36, rfl, kr36⟩ := (show ∃ r : Nat, v51 = .ref r ∧ T r = some (3, 4) from hv51)
              refine lv_iload hx hb dKM_makePair_224 (lv_at hl 0 rfl) ?_
              refine ty_aald3 hx hb hK hO kr36 (nxg hc0 kr36 rfl) hP (by omega) (by decide) dKM_makePair_226 (fun r37 kr37 => ?_)
              refine mp_v (cx := []) (wr := []) hP hD hS hA [] [] rfl rfl rfl (by decide) (va_runV (As := [.ref r34, .ref r35, .ref r37]) (rest := []) F (t_RG_addProduct_11 l g _ T xs pl hO hU hc0 r33 r34 r35 r37 kr33 kr34 kr35 kr37) (cwV 3 hts (wg_app (wg_c kw_653 (wg_c kw_654 (wg_c kw_655 (wg_c kw_4 wg_n)))) kw_656) rfl rfl rfl (by decide +kernel) ⟨by decide, by decide⟩) (pp_VT (en_ok g) (ci := 4) (kd := (11, 0)) hK hO kr33 (nxg hc0 kr33 rfl) (fun _ h9 => ko1 h9) hP hD hS hA hE [] rfl rfl rfl) rfl rfl hl.1 rfl (lv_room (Nat.le_of_ble_eq_true rfl)) dKM_makePair_227 ⟨by omega, by omega⟩) (fun  pl H locs hu31 hP hD hS => ?_)
              obtain ⟨hq31, hO⟩ := hu31
              have hP : va_P g.1 vcl ([] ++ pl) _ := hP
              have hD : va_D _ ([] ++ pl) := hD
              refine W.widen (k := 0) (n := 0) (by omega) (by omega) ?_
              refine mi_iinc (k := 0) (x := i23) (d := 1) (y := i23 + 1) (lv' := [(6, .int (nI (i23 + 1))), (5, .int (nI i22)), (0, .ref h0), (1, .ref st), (2, .ref ch), (3, .ref pk), (4, .ref sk)]) hx hb dKM_makePair_230 hl rfl (by decide) rfl (by decide) rfl (fun ls hl => ?_)
              refine lv_goto (tgt := 183) hx hb dKM_makePair_233 (by decide) ?_
              exact ih23 (i23 + 1) pl ls H locs (by omega) (lv_sub hl [0, 1, 2, 3, 4, 5, 6] rfl) hO hP hD hS
          exact lp23 2 0 pl ls _ _ (by omega) (lv_sub hl [0, 1, 2, 3, 4, 5, 6] rfl) hO hP hD hS
      exact lp22 2 0 pl ls _ _ (by omega) (lv_sub hl [0, 1, 2, 3, 4, 5] rfl) hO hP hD hS
    | succ n21 ih21 =>
      intro i21 pl ls H locs hm21  hl hO hP hD hS
      refine lv_iload hx hb dKM_makePair_72 (lv_at hl 0 rfl) ?_
      refine lv_aload_n hx hb dKM_makePair_74 rfl (lv_at hl 2 rfl) ?_
      refine ty_get (ci := 1) (C := "LatticeKeys$KemSet") (TT := T_KS) (N := 10) (kd := (40, 0)) hx hb hts (wg_ft i_KS) hown hK hO k_st (nxg hc0 k_st rfl) hP (fun _ h9 => h9) rfl 0 (by decide) (hts _ (wg_t kw_231)) (fun _ h9 => h9) (cd := (1, 0, 2)) rfl dKM_makePair_75 (fun v52 hv52 => ?_)
      obtain rfl := (show v52 = .int (nI 2) from hv52)
      refine mi_ge (tgt := 138) hx hb dKM_makePair_78 (by decide) (by omega) (by omega) (fun h26 => absurd h26 (by omega)) (fun h26 => ?_)
      refine lv_aload_n hx hb dKM_makePair_81 rfl (lv_at hl 1 rfl) ?_
      refine lv_aload_n hx hb dKM_makePair_82 rfl (lv_at hl 1 rfl) ?_
      refine ty_get (ci := 5) (C := "LatticeKeys$Kem") (TT := T_KM) (N := 10) (kd := (13, 0)) hx hb hts (wg_ft i_KM) hown hK hO k_h0 (nxg hc0 k_h0 rfl) hP (fun _ h9 => h9) rfl 2 (by decide) (hts _ (wg_t kw_109)) (fun _ h9 => h9) (cd := (3, 3, 4)) rfl dKM_makePair_83 (fun v53 hv53 => ?_)
      obtain ⟨r38, rfl, kr38⟩ := (show ∃ r : Nat, v53 = .ref r ∧ T r = some (3, 4) from hv53)
      refine lv_iload hx hb dKM_makePair_86 (lv_at hl 0 rfl) ?_
      refine ty_aald3 hx hb hK hO kr38 (nxg hc0 kr38 rfl) hP (by omega) (by decide) dKM_makePair_88 (fun r39 kr39 => ?_)
      refine lv_aload_n hx hb dKM_makePair_89 rfl (lv_at hl 2 rfl) ?_
      refine ty_get (ci := 1) (C := "LatticeKeys$KemSet") (TT := T_KS) (N := 10) (kd := (40, 0)) hx hb hts (wg_ft i_KS) hown hK hO k_st (nxg hc0 k_st rfl) hP (fun _ h9 => h9) rfl 1 (by decide) (hts _ (wg_t kw_233)) (fun _ h9 => h9) (cd := (1, 0, 3)) rfl dKM_makePair_90 (fun v54 hv54 => ?_)
      obtain rfl := (show v54 = .int (nI 3) from hv54)
      refine lv_iload hx hb dKM_makePair_93 (lv_at hl 0 rfl) ?_
      refine mp_v (cx := []) (wr := []) hP hD hS hA [] [] rfl rfl rfl (by decide) (va_runV (As := [.ref r39, .int (nI 3), .int (nI i21)]) (rest := []) F (t_KM_sampleNoise_3 l g _ T xs pl hO hU hc0 hc2 h0 r39 (nI i21) k_h0 kr39) (cwV 3 hts (wg_app (wg_c kw_623 (wg_c kw_625 (wg_c ks_6 (wg_c kw_3 wg_n)))) kw_626) rfl rfl rfl (by decide +kernel) ⟨by decide, by decide⟩) (pp_VT (en_ok g) (ci := 5) (kd := (13, 0)) hK hO k_h0 (nxg hc0 k_h0 rfl) (fun _ h9 => ko1 h9) hP hD hS hA hE [] rfl rfl rfl) rfl rfl hl.1 rfl (lv_room (Nat.le_of_ble_eq_true rfl)) dKM_makePair_95 ⟨by omega, by omega⟩) (fun  pl H locs hu32 hP hD hS => ?_)
      obtain ⟨hq32, hO⟩ := hu32
      have hP : va_P g.1 vcl ([] ++ pl) _ := hP
      have hD : va_D _ ([] ++ pl) := hD
      refine W.widen (k := 0) (n := 0) (by omega) (by omega) ?_
      refine lv_aload_n hx hb dKM_makePair_98 rfl (lv_at hl 1 rfl) ?_
      refine ty_get (ci := 5) (C := "LatticeKeys$Kem") (TT := T_KM) (N := 10) (kd := (13, 0)) hx hb hts (wg_ft i_KM) hown hK hO k_h0 (nxg hc0 k_h0 rfl) hP (fun _ h9 => h9) rfl 1 (by decide) (hts _ (wg_t kw_108)) (fun _ h9 => h9) (cd := (3, 11, 0)) rfl dKM_makePair_99 (fun v55 hv55 => ?_)
      obtain ⟨r40, rfl, kr40⟩ := (show ∃ r : Nat, v55 = .ref r ∧ T r = some (11, 0) from hv55)
      refine lv_aload_n hx hb dKM_makePair_102 rfl (lv_at hl 1 rfl) ?_
      refine ty_get (ci := 5) (C := "LatticeKeys$Kem") (TT := T_KM) (N := 10) (kd := (13, 0)) hx hb hts (wg_ft i_KM) hown hK hO k_h0 (nxg hc0 k_h0 rfl) hP (fun _ h9 => h9) rfl 2 (by decide) (hts _ (wg_t kw_109)) (fun _ h9 => h9) (cd := (3, 3, 4)) rfl dKM_makePair_103 (fun v56 hv56 => ?_)
      obtain ⟨r41, rfl, kr41⟩ := (show ∃ r : Nat, v56 = .ref r ∧ T r = some (3, 4) from hv56)
      refine lv_iload hx hb dKM_makePair_106 (lv_at hl 0 rfl) ?_
      refine ty_aald3 hx hb hK hO kr41 (nxg hc0 kr41 rfl) hP (by omega) (by decide) dKM_makePair_108 (fun r42 kr42 => ?_)
      refine mp_v (cx := []) (wr := []) hP hD hS hA [] [] rfl rfl rfl (by decide) (va_runV (As := [.ref r42]) (rest := []) F (t_RG_transform_11 l g _ T xs pl hO hU hc0 r40 r42 kr40 kr42) (cwV 1 hts (wg_app (wg_c kw_636 (wg_c kw_637 (wg_c kw_638 (wg_c kw_4 wg_n)))) kw_639) rfl rfl rfl (by decide +kernel) ⟨by decide, by decide⟩) (pp_VT (en_ok g) (ci := 4) (kd := (11, 0)) hK hO kr40 (nxg hc0 kr40 rfl) (fun _ h9 => ko1 h9) hP hD hS hA hE [] rfl rfl rfl) rfl rfl hl.1 rfl (lv_room (Nat.le_of_ble_eq_true rfl)) dKM_makePair_109 ⟨by omega, by omega⟩) (fun  pl H locs hu33 hP hD hS => ?_)
      obtain ⟨hq33, hO⟩ := hu33
      have hP : va_P g.1 vcl ([] ++ pl) _ := hP
      have hD : va_D _ ([] ++ pl) := hD
      refine W.widen (k := 0) (n := 0) (by omega) (by omega) ?_
      refine lv_aload_n hx hb dKM_makePair_112 rfl (lv_at hl 1 rfl) ?_
      refine ty_get (ci := 5) (C := "LatticeKeys$Kem") (TT := T_KM) (N := 10) (kd := (13, 0)) hx hb hts (wg_ft i_KM) hown hK hO k_h0 (nxg hc0 k_h0 rfl) hP (fun _ h9 => h9) rfl 2 (by decide) (hts _ (wg_t kw_109)) (fun _ h9 => h9) (cd := (3, 3, 4)) rfl dKM_makePair_113 (fun v57 hv57 => ?_)
      obtain ⟨r43, rfl, kr43⟩ := (show ∃ r : Nat, v57 = .ref r ∧ T r = some (3, 4) from hv57)
      refine lv_iload hx hb dKM_makePair_116 (lv_at hl 0 rfl) ?_
      refine ty_aald3 hx hb hK hO kr43 (nxg hc0 kr43 rfl) hP (by omega) (by decide) dKM_makePair_118 (fun r44 kr44 => ?_)
      refine lv_bipush (v := nI 12) hx hb dKM_makePair_119 (by decide) ?_
      refine lv_aload hx hb dKM_makePair_121 (lv_at hl 5 rfl) ?_
      refine lv_sipush (v := nI 384) hx hb dKM_makePair_123 (by decide) ?_
      refine lv_iload hx hb dKM_makePair_126 (lv_at hl 0 rfl) ?_
      refine mi_imul hx hb dKM_makePair_128 ?_
      refine mp_v (cx := []) (wr := []) hP hD hS hA [] [] rfl rfl rfl (by decide) (va_runS (As := [.ref r44, .int (nI 12), .ref sk, .int (nI (384 * i21))]) (rest := []) F (t_BT_pack l g _ T xs pl hO hU hc0 r44 sk 1632 12 (384 * i21) kr44 k_sk (by omega) (by omega) (by omega)) (va_cwS 4 hts (wg_app (wg_c kw_644 (wg_c kw_645 (wg_c kw_22 wg_n))) kw_646) rfl rfl rfl (by decide +kernel) ⟨by decide, by decide⟩) (pp_S (en_ok g) hP hD hS hA hE [] rfl rfl) rfl rfl hl.1 rfl (lv_room (Nat.le_of_ble_eq_true rfl)) dKM_makePair_129 ⟨by omega, by omega⟩) (fun  pl H locs hu34 hP hD hS => ?_)
      obtain ⟨hq34, hO⟩ := hu34
      have hP : va_P g.1 vcl ([] ++ pl) _ := hP
      have hD : va_D _ ([] ++ pl) := hD
      refine W.widen (k := 0) (n := 0) (by omega) (by omega) ?_
      refine mi_iinc (k := 0) (x := i21) (d := 1) (y := i21 + 1) (lv' := [(5, .int (nI (i21 + 1))), (0, .ref h0), (1, .ref st), (2, .ref ch), (3, .ref pk), (4, .ref sk)]) hx hb dKM_makePair_132 hl rfl (by decide) rfl (by decide) rfl (fun ls hl => ?_)
      refine lv_goto (tgt := 72) hx hb dKM_makePair_135 (by decide) ?_
      exact ih21 (i21 + 1) pl ls H locs (by omega) (lv_sub hl [0, 1, 2, 3, 4, 5] rfl) hO hP hD hS
  exact lp21 2 0 pl ls _ _ (by omega) (lv_sub hl [0, 1, 2, 3, 4, 5] rfl) hO hP hD hS
set_option maxHeartbeats 400000 in
set_option maxRecDepth 100000 in
theorem t_KM_makePair_1 (l : Launch) (g : Gd) (sz : Nat) (T : Ty) (xs : List Nat) (pl : va_W) (hO : okx g T xs pl) (hU : uni T) (hc0 : clo T xs 0) (hc2 : clo T xs 2) (h0 st ch pk sk n : Nat) (k_h0 : T h0 = some (13, 0)) (k_st : T st = some (41, 0)) (k_ch : T ch = some (1, n)) (k_pk : T pk = some (1, 1184)) (k_sk : T sk = some (1, 2400)) (h1 : 64 ≤ n) (h2 : n < 65536)  : Met l y_KM_makePair w_KM_makePair ({ frames := 4, cells := 0, slots := 0, locals := 131 } : Room) (va_Pc [.ref h0, .ref st, .ref ch, .ref pk, .ref sk] (pr (en g) g.1 vcl sz ([] ++ pl))) (va_Qv (fun (u : va_W) => (True) ∧ okx g T xs u) (po g.1 vcl (va_A ([] ++ pl) sz) (fun (u : va_W) => [] ++ u)) (va_A ([] ++ pl) sz)) 0 0 (va_A ([] ++ pl) sz) := by
  refine mc_entry (cc := c_KM_makePair) (maxL := 7) (ret := none) (by decide) rfl (Nat.le_of_ble_eq_true rfl) ?_
  intro p e s m args below meth c ls F hr hlk hnm hsz hP hD hE hA hl
  obtain ⟨hx, hb, hml, hown, hts⟩ := id F
  have hK := hE.1
  generalize va_A ([] ++ pl) sz = A at hD hE hA ⊢
  have hS : va_S A s.heap s.heap [] := va_S.rf
  have hl : lv_has ls 7 [(0, .ref h0), (1, .ref st), (2, .ref ch), (3, .ref pk), (4, .ref sk)] := hl
  refine lv_aload_n hx hb dKM_makePair_0 rfl (lv_at hl 0 rfl) ?_
  refine ty_get (ci := 5) (C := "LatticeKeys$Kem") (TT := T_KM) (N := 10) (kd := (13, 0)) hx hb hts (wg_ft i_KM) hown hK hO k_h0 (nxg hc0 k_h0 rfl) hP (fun _ h9 => h9) rfl 0 (by decide) (hts _ (wg_t kw_107)) (fun _ h9 => h9) (cd := (3, 10, 1)) rfl dKM_makePair_1 (fun v21 hv21 => ?_)
  obtain ⟨r21, rfl, kr21⟩ := (show ∃ r : Nat, v21 = .ref r ∧ T r = some (10, 1) from hv21)
  refine lv_iconst (v := nI 1) hx hb dKM_makePair_4 (by decide) ?_
  obtain ⟨e21, pl, hP, hD, hk21, hO⟩ := open1 hP hD hO kr21 (nxg hc2 kr21 rfl)
  obtain ⟨ln21, rt21, ps21, x21, rfl, kl21, hr21, hr22, hr23⟩ := hk21
  have kl21 : T ln21 = some (19, 1) := kl21
  obtain ⟨e22, pl, hP, hD, hk22, hO⟩ := open1 hP hD hO kl21 (nmc (knd_ne kl21 kr21 (by decide)) (nxg hc2 kl21 rfl))
  obtain ⟨f21, rfl⟩ := hk22
  have hP : va_P g.1 vcl ([(r21, .inr (3, [.ref ln21, .int (nI rt21), .int x21, .int (nI ps21)])), (ln21, .inl (g.2.1 2, 25, .inr (.inl f21)))] ++ pl) _ := hP
  have hD : va_D _ ([(r21, .inr (3, [.ref ln21, .int (nI rt21), .int x21, .int (nI ps21)])), (ln21, .inl (g.2.1 2, 25, .inr (.inl f21)))] ++ pl) := hD
  refine mp_v (cx := [(r21, .inr (3, [.ref ln21, .int (nI rt21), .int x21, .int (nI ps21)])), (ln21, .inl (g.2.1 2, 25, .inr (.inl f21)))]) (wr := []) hP hD hS hA [0, 1] [] rfl rfl rfl (by decide) (va_runV (As := [.int (nI 1)]) (rest := []) F (t_SP_start_1 l g _ T (ln21 :: (r21 :: xs)) pl hO hU  r21 ln21 rt21 ps21 x21 f21) (cwV 1 hts (wg_app (wg_c kw_578 (wg_c kw_579 (wg_c kw_580 (wg_c kw_2 wg_n)))) kw_581) rfl rfl rfl (by decide +kernel) ⟨by decide, by decide⟩) (pp_V (en_ok g) (q0 := 0) hK hP hD hS hA hE [0, 1] rfl rfl rfl rfl) rfl rfl hl.1 rfl (lv_room (Nat.le_of_ble_eq_true rfl)) dKM_makePair_5 ⟨by omega, by omega⟩) (fun  u21 H locs hu21 hP hD hS => ?_)
  obtain ⟨u22, pl⟩ := u21
  obtain ⟨hq21, hO⟩ := hu21
  have hP : va_P g.1 vcl ([(r21, .inr (3, [.ref ln21, .int (nI 72), .int (nI 6), .int (nI 0)])), (ln21, .inl (g.2.1 2, 25, .inr (.inl u22)))] ++ pl) _ := hP
  have hD : va_D _ ([(r21, .inr (3, [.ref ln21, .int (nI 72), .int (nI 6), .int (nI 0)])), (ln21, .inl (g.2.1 2, 25, .inr (.inl u22)))] ++ pl) := hD
  refine W.widen (k := 0) (n := 0) (by omega) (by omega) ?_
  refine lv_aload_n hx hb dKM_makePair_8 rfl (lv_at hl 0 rfl) ?_
  refine ty_get (ci := 5) (C := "LatticeKeys$Kem") (TT := T_KM) (N := 10) (kd := (13, 0)) hx hb hts (wg_ft i_KM) hown hK hO k_h0 (nxg (clo_cons (clo_cons hc0 kr21 (by decide)) kl21 (by decide)) k_h0 rfl) hP (fun _ h9 => h9) rfl 0 (by decide) (hts _ (wg_t kw_107)) (fun _ h9 => h9) (cd := (3, 10, 1)) rfl dKM_makePair_9 (fun v22 hv22 => ?_)
  obtain ⟨r22, rfl, kr22⟩ := (show ∃ r : Nat, v22 = .ref r ∧ T r = some (10, 1) from hv22)
  obtain rfl : r21 = r22 := hU _ _ _ (by decide) kr21 kr22
  refine lv_aload_n hx hb dKM_makePair_12 rfl (lv_at hl 2 rfl) ?_
  refine lv_iconst (v := nI 0) hx hb dKM_makePair_13 (by decide) ?_
  refine lv_bipush (v := nI 32) hx hb dKM_makePair_14 (by decide) ?_
  refine mp_v (cx := [(r21, .inr (3, [.ref ln21, .int (nI 72), .int (nI 6), .int (nI 0)])), (ln21, .inl (g.2.1 2, 25, .inr (.inl u22)))]) (wr := []) hP hD hS hA [0, 1] [] rfl rfl rfl (by decide) (va_runV (As := [.ref ch, .int (nI 0), .int (nI 32)]) (rest := []) F (t_SP_absorb l g _ T (ln21 :: (r21 :: xs)) pl hO hU (clo_cons (clo_cons hc0 kr21 (by decide)) kl21 (by decide)) ch n 0 32 r21 ln21 72 0 (nI 6) u22 k_ch (by omega) (by omega) (by omega) (by omega)) (cwV 3 hts (wg_app (wg_c kw_585 (wg_c kw_586 (wg_c kw_587 (wg_c kw_2 wg_n)))) kw_588) rfl rfl rfl (by decide +kernel) ⟨by decide, by decide⟩) (pp_V (en_ok g) (q0 := 0) hK hP hD hS hA hE [0, 1] rfl rfl rfl rfl) rfl rfl hl.1 rfl (lv_room (Nat.le_of_ble_eq_true rfl)) dKM_makePair_16 ⟨by omega, by omega⟩) (fun  u23 H locs hu22 hP hD hS => ?_)
  obtain ⟨u24, pl⟩ := u23
  obtain ⟨hq22, hO⟩ := hu22
  obtain ⟨k21, f22⟩ := u24
  have hP : va_P g.1 vcl ([(r21, .inr (3, [.ref ln21, .int (nI 72), .int (nI 6), .int (nI k21)])), (ln21, .inl (g.2.1 2, 25, .inr (.inl f22)))] ++ pl) _ := hP
  have hD : va_D _ ([(r21, .inr (3, [.ref ln21, .int (nI 72), .int (nI 6), .int (nI k21)])), (ln21, .inl (g.2.1 2, 25, .inr (.inl f22)))] ++ pl) := hD
  have hq22 : k21 < 72 := hq22
  refine W.widen (k := 0) (n := 0) (by omega) (by omega) ?_
  refine lv_aload_n hx hb dKM_makePair_19 rfl (lv_at hl 0 rfl) ?_
  refine ty_get (ci := 5) (C := "LatticeKeys$Kem") (TT := T_KM) (N := 10) (kd := (13, 0)) hx hb hts (wg_ft i_KM) hown hK hO k_h0 (nxg (clo_cons (clo_cons hc0 kr21 (by decide)) kl21 (by decide)) k_h0 rfl) hP (fun _ h9 => h9) rfl 0 (by decide) (hts _ (wg_t kw_107)) (fun _ h9 => h9) (cd := (3, 10, 1)) rfl dKM_makePair_20 (fun v23 hv23 => ?_)
  obtain ⟨r23, rfl, kr23⟩ := (show ∃ r : Nat, v23 = .ref r ∧ T r = some (10, 1) from hv23)
  obtain rfl : r21 = r23 := hU _ _ _ (by decide) kr21 kr23
  refine lv_aload_n hx hb dKM_makePair_23 rfl (lv_at hl 1 rfl) ?_
  refine ty_get (ci := 1) (C := "LatticeKeys$KemSet") (TT := T_KS) (N := 10) (kd := (41, 0)) hx hb hts (wg_ft i_KS) hown hK hO k_st (nxg (clo_cons (clo_cons hc0 kr21 (by decide)) kl21 (by decide)) k_st rfl) hP (fun _ h9 => h9) rfl 0 (by decide) (hts _ (wg_t kw_231)) (fun _ h9 => h9) (cd := (1, 0, 3)) rfl dKM_makePair_24 (fun v24 hv24 => ?_)
  obtain rfl := (show v24 = .int (nI 3) from hv24)
  refine mp_v (cx := [(r21, .inr (3, [.ref ln21, .int (nI 72), .int (nI 6), .int (nI k21)])), (ln21, .inl (g.2.1 2, 25, .inr (.inl f22)))]) (wr := []) hP hD hS hA [0, 1] [] rfl rfl rfl (by decide) (va_runV (As := [.int (nI 3)]) (rest := []) F (t_SP_absorbByte l g _ T (ln21 :: (r21 :: xs)) pl hO hU  (nI 3) r21 ln21 72 k21 (nI 6) f22 (by omega) (by omega)) (cwV 1 hts (wg_app (wg_c kw_609 (wg_c kw_590 (wg_c kw_591 (wg_c kw_2 wg_n)))) kw_592) rfl rfl rfl (by decide +kernel) ⟨by decide, by decide⟩) (pp_V (en_ok g) (q0 := 0) hK hP hD hS hA hE [0, 1] rfl rfl rfl rfl) rfl rfl hl.1 rfl (lv_room (Nat.le_of_ble_eq_true rfl)) dKM_makePair_27 ⟨by omega, by omega⟩) (fun  u25 H locs hu23 hP hD hS => ?_)
  obtain ⟨u26, pl⟩ := u25
  obtain ⟨hq23, hO⟩ := hu23
  obtain ⟨k22, f23⟩ := u26
  have hP : va_P g.1 vcl ([(r21, .inr (3, [.ref ln21, .int (nI 72), .int (nI 6), .int (nI k22)])), (ln21, .inl (g.2.1 2, 25, .inr (.inl f23)))] ++ pl) _ := hP
  have hD : va_D _ ([(r21, .inr (3, [.ref ln21, .int (nI 72), .int (nI 6), .int (nI k22)])), (ln21, .inl (g.2.1 2, 25, .inr (.inl f23)))] ++ pl) := hD
  have hq23 : k22 < 72 := hq23
  refine W.widen (k := 0) (n := 0) (by omega) (by omega) ?_
  refine lv_aload_n hx hb dKM_makePair_30 rfl (lv_at hl 0 rfl) ?_
  refine ty_get (ci := 5) (C := "LatticeKeys$Kem") (TT := T_KM) (N := 10) (kd := (13, 0)) hx hb hts (wg_ft i_KM) hown hK hO k_h0 (nxg (clo_cons (clo_cons hc0 kr21 (by decide)) kl21 (by decide)) k_h0 rfl) hP (fun _ h9 => h9) rfl 0 (by decide) (hts _ (wg_t kw_107)) (fun _ h9 => h9) (cd := (3, 10, 1)) rfl dKM_makePair_31 (fun v25 hv25 => ?_)
  obtain ⟨r24, rfl, kr24⟩ := (show ∃ r : Nat, v25 = .ref r ∧ T r = some (10, 1) from hv25)
  obtain rfl : r21 = r24 := hU _ _ _ (by decide) kr21 kr24
  refine mp_v (cx := [(r21, .inr (3, [.ref ln21, .int (nI 72), .int (nI 6), .int (nI k22)])), (ln21, .inl (g.2.1 2, 25, .inr (.inl f23)))]) (wr := []) hP hD hS hA [0, 1] [] rfl rfl rfl (by decide) (va_runV (As := []) (rest := []) F (t_SP_finish l g _ T (ln21 :: (r21 :: xs)) pl hO hU  r21 ln21 72 k22 (nI 6) f23 (by omega) (by omega)) (cwV 0 hts (wg_app (wg_c kw_610 (wg_c kw_611 (wg_c kw_612 (wg_c kw_2 wg_n)))) kw_613) rfl rfl rfl (by decide +kernel) ⟨by decide, by decide⟩) (pp_V (en_ok g) (q0 := 0) hK hP hD hS hA hE [0, 1] rfl rfl rfl rfl) rfl rfl hl.1 rfl (lv_room (Nat.le_of_ble_eq_true rfl)) dKM_makePair_34 ⟨by omega, by omega⟩) (fun  u27 H locs hu24 hP hD hS => ?_)
  obtain ⟨u28, pl⟩ := u27
  obtain ⟨hq24, hO⟩ := hu24
  have hP : va_P g.1 vcl ([(r21, .inr (3, [.ref ln21, .int (nI 72), .int (nI 6), .int (nI 72)])), (ln21, .inl (g.2.1 2, 25, .inr (.inl u28)))] ++ pl) _ := hP
  have hD : va_D _ ([(r21, .inr (3, [.ref ln21, .int (nI 72), .int (nI 6), .int (nI 72)])), (ln21, .inl (g.2.1 2, 25, .inr (.inl u28)))] ++ pl) := hD
  refine W.widen (k := 0) (n := 0) (by omega) (by omega) ?_
  refine lv_aload_n hx hb dKM_makePair_37 rfl (lv_at hl 0 rfl) ?_
  refine ty_get (ci := 5) (C := "LatticeKeys$Kem") (TT := T_KM) (N := 10) (kd := (13, 0)) hx hb hts (wg_ft i_KM) hown hK hO k_h0 (nxg (clo_cons (clo_cons hc0 kr21 (by decide)) kl21 (by decide)) k_h0 rfl) hP (fun _ h9 => h9) rfl 0 (by decide) (hts _ (wg_t kw_107)) (fun _ h9 => h9) (cd := (3, 10, 1)) rfl dKM_makePair_38 (fun v26 hv26 => ?_)
  obtain ⟨r25, rfl, kr25⟩ := (show ∃ r : Nat, v26 = .ref r ∧ T r = some (10, 1) from hv26)
  obtain rfl : r21 = r25 := hU _ _ _ (by decide) kr21 kr25
  refine lv_aload_n hx hb dKM_makePair_41 rfl (lv_at hl 0 rfl) ?_
  refine ty_get (ci := 5) (C := "LatticeKeys$Kem") (TT := T_KM) (N := 10) (kd := (13, 0)) hx hb hts (wg_ft i_KM) hown hK hO k_h0 (nxg (clo_cons (clo_cons hc0 kr21 (by decide)) kl21 (by decide)) k_h0 rfl) hP (fun _ h9 => h9) rfl 7 (by decide) (hts _ (wg_t kw_114)) (fun _ h9 => h9) (cd := (3, 1, 64)) rfl dKM_makePair_42 (fun v27 hv27 => ?_)
  obtain ⟨r26, rfl, kr26⟩ := (show ∃ r : Nat, v27 = .ref r ∧ T r = some (1, 64) from hv27)
  refine lv_iconst (v := nI 0) hx hb dKM_makePair_45 (by decide) ?_
  refine lv_bipush (v := nI 64) hx hb dKM_makePair_46 (by decide) ?_
  refine mp_v (cx := [(r21, .inr (3, [.ref ln21, .int (nI 72), .int (nI 6), .int (nI 72)])), (ln21, .inl (g.2.1 2, 25, .inr (.inl u28)))]) (wr := []) hP hD hS hA [0, 1] [] rfl rfl rfl (by decide) (va_runV (As := [.ref r26, .int (nI 0), .int (nI 64)]) (rest := []) F (t_SP_squeeze l g _ T (ln21 :: (r21 :: xs)) pl hO hU (clo_cons (clo_cons hc0 kr21 (by decide)) kl21 (by decide)) r26 64 0 64 r21 ln21 72 72 (nI 6) u28 kr26 (by omega) (by omega) (by omega) (by omega)) (cwV 3 hts (wg_app (wg_c kw_614 (wg_c kw_615 (wg_c kw_616 (wg_c kw_2 wg_n)))) kw_617) rfl rfl rfl (by decide +kernel) ⟨by decide, by decide⟩) (pp_V (en_ok g) (q0 := 0) hK hP hD hS hA hE [0, 1] rfl rfl rfl rfl) rfl rfl hl.1 rfl (lv_room (Nat.le_of_ble_eq_true rfl)) dKM_makePair_48 ⟨by omega, by omega⟩) (fun  u29 H locs hu25 hP hD hS => ?_)
  obtain ⟨u30, pl⟩ := u29
  obtain ⟨hq25, hO⟩ := hu25
  obtain ⟨k23, f24⟩ := u30
  have hP : va_P g.1 vcl ([(r21, .inr (3, [.ref ln21, .int (nI 72), .int (nI 6), .int (nI k23)])), (ln21, .inl (g.2.1 2, 25, .inr (.inl f24)))] ++ pl) _ := hP
  have hD : va_D _ ([(r21, .inr (3, [.ref ln21, .int (nI 72), .int (nI 6), .int (nI k23)])), (ln21, .inl (g.2.1 2, 25, .inr (.inl f24)))] ++ pl) := hD
  have hq25 : k23 ≤ 72 := hq25
  refine W.widen (k := 0) (n := 0) (by omega) (by omega) ?_
  refine lv_aload_n hx hb dKM_makePair_51 rfl (lv_at hl 0 rfl) ?_
  refine ty_get (ci := 5) (C := "LatticeKeys$Kem") (TT := T_KM) (N := 10) (kd := (13, 0)) hx hb hts (wg_ft i_KM) hown hK hO k_h0 (nxg (clo_cons (clo_cons hc0 kr21 (by decide)) kl21 (by decide)) k_h0 rfl) hP (fun _ h9 => h9) rfl 7 (by decide) (hts _ (wg_t kw_114)) (fun _ h9 => h9) (cd := (3, 1, 64)) rfl dKM_makePair_52 (fun v28 hv28 => ?_)
  obtain ⟨r27, rfl, kr27⟩ := (show ∃ r : Nat, v28 = .ref r ∧ T r = some (1, 64) from hv28)
  refine lv_iconst (v := nI 0) hx hb dKM_makePair_55 (by decide) ?_
  refine lv_aload_n hx hb dKM_makePair_56 rfl (lv_at hl 3 rfl) ?_
  refine lv_aload_n hx hb dKM_makePair_57 rfl (lv_at hl 1 rfl) ?_
  refine ty_get (ci := 1) (C := "LatticeKeys$KemSet") (TT := T_KS) (N := 10) (kd := (41, 0)) hx hb hts (wg_ft i_KS) hown hK hO k_st (nxg (clo_cons (clo_cons hc0 kr21 (by decide)) kl21 (by decide)) k_st rfl) hP (fun _ h9 => h9) rfl 4 (by decide) (hts _ (wg_t kw_239)) (fun _ h9 => h9) (cd := (1, 0, 1184)) rfl dKM_makePair_58 (fun v29 hv29 => ?_)
  obtain rfl := (show v29 = .int (nI 1184) from hv29)
  refine lv_bipush (v := nI 32) hx hb dKM_makePair_61 (by decide) ?_
  refine mi_isub hx hb dKM_makePair_63 (by omega) ?_
  refine mi_as (show nI (1184 - 32) = nI 1152 from rfl) ?_
  refine lv_bipush (v := nI 32) hx hb dKM_makePair_64 (by decide) ?_
  refine ty_copyb11 hx hb (hml.trans hl.1.symm) hown (hts _ (wg_t kw_622)) (hts _ (wg_t kw_526)) (hts _ (wg_t kw_525)) (hts _ (wg_t kw_19)) hK hO kr27 (nxg (clo_cons (clo_cons hc0 kr21 (by decide)) kl21 (by decide)) kr27 rfl) k_pk (nxg (clo_cons (clo_cons hc0 kr21 (by decide)) kl21 (by decide)) k_pk rfl) hP hD hS (sp := 0) (dp := 1152) (n := 32) (by omega) (by omega) (by omega) (by decide) (Nat.le_of_ble_eq_true rfl) dKM_makePair_66 (fun pl H locs hO hP hD hS => ?_)
  refine lv_iconst (v := nI 0) hx hb dKM_makePair_69 (by decide) ?_
  refine lv_istore (lv' := [(5, .int (nI 0)), (0, .ref h0), (1, .ref st), (2, .ref ch), (3, .ref pk), (4, .ref sk)]) hx hb dKM_makePair_70 hl (by decide) rfl (fun ls hl => ?_)
  have hO := close1 (e := .inl (g.2.1 2, 25, .inr (.inl f24))) hO kl21 ⟨_, rfl⟩
  have hO := close1 (e := .inr (3, [.ref ln21, .int (nI 72), .int (nI 6), .int (nI k23)])) hO kr21 ⟨_, _, _, _, rfl, kl21, by omega, by omega, by omega⟩
  have hO : okx g T xs ((r21, .inr (3, [.ref ln21, .int (nI 72), .int (nI 6), .int (nI k23)])) :: (ln21, .inl (g.2.1 2, 25, .inr (.inl f24))) :: pl) := hO
  have hP : va_P g.1 vcl ([] ++ ((r21, .inr (3, [.ref ln21, .int (nI 72), .int (nI 6), .int (nI k23)])) :: (ln21, .inl (g.2.1 2, 25, .inr (.inl f24))) :: pl)) _ := hP
  have hD : va_D _ ([] ++ ((r21, .inr (3, [.ref ln21, .int (nI 72), .int (nI 6), .int (nI k23)])) :: (ln21, .inl (g.2.1 2, 25, .inr (.inl f24))) :: pl)) := hD
  generalize ((r21, .inr (3, [.ref ln21, .int (nI 72), .int (nI 6), .int (nI k23)])) :: (ln21, .inl (g.2.1 2, 25, .inr (.inl f24))) :: pl) = pl at hO hP hD
  have lp21 : ∀ (n21 : Nat) (i21 : Nat) (pl : va_W) (ls : Array Slot) (H : Heap) (locs : List Loc), n21 + i21 = 3 → lv_has ls 7 [(5, .int (nI i21)), (0, .ref h0), (1, .ref st), (2, .ref ch), (3, .ref pk), (4, .ref sk)] → okx g T xs pl → va_P g.1 vcl ([] ++ pl) H → va_D A ([] ++ pl) → va_S A s.heap H locs → W p l e ({ frames := 4, cells := 0, slots := 0, locals := 131 } : Room) s m args below meth c H locs 0 0 (MQ below (va_Qv (fun (u : va_W) => (True) ∧ okx g T xs u) (po g.1 vcl A (fun (u : va_W) => [] ++ u)) A) args s 0 0 A) (F0 m 72 ls []) := by
    intro n21
    induction n21 with
    | zero =>
      intro i21 pl ls H locs hm21  hl hO hP hD hS
      refine lv_iload hx hb dKM_makePair_72 (lv_at hl 0 rfl) ?_
      refine lv_aload_n hx hb dKM_makePair_74 rfl (lv_at hl 2 rfl) ?_
      refine ty_get (ci := 1) (C := "LatticeKeys$KemSet") (TT := T_KS) (N := 10) (kd := (41, 0)) hx hb hts (wg_ft i_KS) hown hK hO k_st (nxg hc0 k_st rfl) hP (fun _ h9 => h9) rfl 0 (by decide) (hts _ (wg_t kw_231)) (fun _ h9 => h9) (cd := (1, 0, 3)) rfl dKM_makePair_75 (fun v30 hv30 => ?_)
      obtain rfl := (show v30 = .int (nI 3) from hv30)
      refine mi_ge (tgt := 138) hx hb dKM_makePair_78 (by decide) (by omega) (by omega) (fun h21 => ?_) (fun h21 => absurd h21 (by omega))
      refine lv_iconst (v := nI 0) hx hb dKM_makePair_138 (by decide) ?_
      refine lv_istore (lv' := [(5, .int (nI 0)), (0, .ref h0), (1, .ref st), (2, .ref ch), (3, .ref pk), (4, .ref sk)]) hx hb dKM_makePair_139 hl (by decide) rfl (fun ls hl => ?_)
      have lp22 : ∀ (n22 : Nat) (i22 : Nat) (pl : va_W) (ls : Array Slot) (H : Heap) (locs : List Loc), n22 + i22 = 3 → lv_has ls 7 [(5, .int (nI i22)), (0, .ref h0), (1, .ref st), (2, .ref ch), (3, .ref pk), (4, .ref sk)] → okx g T xs pl → va_P g.1 vcl ([] ++ pl) H → va_D A ([] ++ pl) → va_S A s.heap H locs → W p l e ({ frames := 4, cells := 0, slots := 0, locals := 131 } : Room) s m args below meth c H locs 0 0 (MQ below (va_Qv (fun (u : va_W) => (True) ∧ okx g T xs u) (po g.1 vcl A (fun (u : va_W) => [] ++ u)) A) args s 0 0 A) (F0 m 141 ls []) := by
        intro n22
        induction n22 with
        | zero =>
          intro i22 pl ls H locs hm22  hl hO hP hD hS
          refine lv_iload hx hb dKM_makePair_141 (lv_at hl 0 rfl) ?_
          refine lv_aload_n hx hb dKM_makePair_143 rfl (lv_at hl 2 rfl) ?_
          refine ty_get (ci := 1) (C := "LatticeKeys$KemSet") (TT := T_KS) (N := 10) (kd := (41, 0)) hx hb hts (wg_ft i_KS) hown hK hO k_st (nxg hc0 k_st rfl) hP (fun _ h9 => h9) rfl 0 (by decide) (hts _ (wg_t kw_231)) (fun _ h9 => h9) (cd := (1, 0, 3)) rfl dKM_makePair_144 (fun v31 hv31 => ?_)
          obtain rfl := (show v31 = .int (nI 3) from hv31)
          refine mi_ge (tgt := 258) hx hb dKM_makePair_147 (by decide) (by omega) (by omega) (fun h22 => ?_) (fun h22 => absurd h22 (by omega))
          refine lv_aload_n hx hb dKM_makePair_258 rfl (lv_at hl 4 rfl) ?_
          refine lv_iconst (v := nI 0) hx hb dKM_makePair_259 (by decide) ?_
          refine lv_aload hx hb dKM_makePair_260 (lv_at hl 5 rfl) ?_
          refine lv_aload_n hx hb dKM_makePair_262 rfl (lv_at hl 2 rfl) ?_
          refine ty_get (ci := 1) (C := "LatticeKeys$KemSet") (TT := T_KS) (N := 10) (kd := (41, 0)) hx hb hts (wg_ft i_KS) hown hK hO k_st (nxg hc0 k_st rfl) hP (fun _ h9 => h9) rfl 7 (by decide) (hts _ (wg_t kw_247)) (fun _ h9 => h9) (cd := (1, 0, 1152)) rfl dKM_makePair_263 (fun v32 hv32 => ?_)
          obtain rfl := (show v32 = .int (nI 1152) from hv32)
          refine lv_aload_n hx hb dKM_makePair_266 rfl (lv_at hl 2 rfl) ?_
          refine ty_get (ci := 1) (C := "LatticeKeys$KemSet") (TT := T_KS) (N := 10) (kd := (41, 0)) hx hb hts (wg_ft i_KS) hown hK hO k_st (nxg hc0 k_st rfl) hP (fun _ h9 => h9) rfl 4 (by decide) (hts _ (wg_t kw_239)) (fun _ h9 => h9) (cd := (1, 0, 1184)) rfl dKM_makePair_267 (fun v33 hv33 => ?_)
          obtain rfl := (show v33 = .int (nI 1184) from hv33)
          refine ty_copyb11 hx hb (hml.trans hl.1.symm) hown (hts _ (wg_t kw_622)) (hts _ (wg_t kw_526)) (hts _ (wg_t kw_525)) (hts _ (wg_t kw_19)) hK hO k_pk (nxg hc0 k_pk rfl) k_sk (nxg hc0 k_sk rfl) hP hD hS (sp := 0) (dp := 1152) (n := 1184) (by omega) (by omega) (by omega) (by decide) (Nat.le_of_ble_eq_true rfl) dKM_makePair_270 (fun pl H locs hO hP hD hS => ?_)
          refine lv_aload_n hx hb dKM_makePair_273 rfl (lv_at hl 1 rfl) ?_
          refine lv_aload_n hx hb dKM_makePair_274 rfl (lv_at hl 4 rfl) ?_
          refine lv_iconst (v := nI 0) hx hb dKM_makePair_275 (by decide) ?_
          refine lv_aload_n hx hb dKM_makePair_276 rfl (lv_at hl 2 rfl) ?_
          refine ty_get (ci := 1) (C := "LatticeKeys$KemSet") (TT := T_KS) (N := 10) (kd := (41, 0)) hx hb hts (wg_ft i_KS) hown hK hO k_st (nxg hc0 k_st rfl) hP (fun _ h9 => h9) rfl 4 (by decide) (hts _ (wg_t kw_239)) (fun _ h9 => h9) (cd := (1, 0, 1184)) rfl dKM_makePair_277 (fun v34 hv34 => ?_)
          obtain rfl := (show v34 = .int (nI 1184) from hv34)
          refine mp_v (cx := []) (wr := []) hP hD hS hA [] [] rfl rfl rfl (by decide) (va_runV (As := [.ref pk, .int (nI 0), .int (nI 1184)]) (rest := []) F (t_KM_digestOf l g _ T xs pl hO hU hc0 hc2 h0 pk 1184 0 1184 k_h0 k_pk (by omega) (by omega)) (cwV 3 hts (wg_app (wg_c kw_661 (wg_c kw_663 (wg_c ks_10 (wg_c kw_3 wg_n)))) kw_664) rfl rfl rfl (by decide +kernel) ⟨by decide, by decide⟩) (pp_VT (en_ok g) (ci := 5) (kd := (13, 0)) hK hO k_h0 (nxg hc0 k_h0 rfl) (fun _ h9 => ko1 h9) hP hD hS hA hE [] rfl rfl rfl) rfl rfl hl.1 rfl (lv_room (Nat.le_of_ble_eq_true rfl)) dKM_makePair_280 ⟨by omega, by omega⟩) (fun  pl H locs hu26 hP hD hS => ?_)
          obtain ⟨hq26, hO⟩ := hu26
          have hP : va_P g.1 vcl ([] ++ pl) _ := hP
          have hD : va_D _ ([] ++ pl) := hD
          refine W.widen (k := 0) (n := 0) (by omega) (by omega) ?_
          refine lv_aload_n hx hb dKM_makePair_283 rfl (lv_at hl 1 rfl) ?_
          refine ty_get (ci := 5) (C := "LatticeKeys$Kem") (TT := T_KM) (N := 10) (kd := (13, 0)) hx hb hts (wg_ft i_KM) hown hK hO k_h0 (nxg hc0 k_h0 rfl) hP (fun _ h9 => h9) rfl 6 (by decide) (hts _ (wg_t kw_113)) (fun _ h9 => h9) (cd := (3, 1, 32)) rfl dKM_makePair_284 (fun v35 hv35 => ?_)
          obtain ⟨r28, rfl, kr28⟩ := (show ∃ r : Nat, v35 = .ref r ∧ T r = some (1, 32) from hv35)
          refine lv_iconst (v := nI 0) hx hb dKM_makePair_287 (by decide) ?_
          refine lv_aload hx hb dKM_makePair_288 (lv_at hl 5 rfl) ?_
          refine lv_aload_n hx hb dKM_makePair_290 rfl (lv_at hl 2 rfl) ?_
          refine ty_get (ci := 1) (C := "LatticeKeys$KemSet") (TT := T_KS) (N := 10) (kd := (41, 0)) hx hb hts (wg_ft i_KS) hown hK hO k_st (nxg hc0 k_st rfl) hP (fun _ h9 => h9) rfl 8 (by decide) (hts _ (wg_t kw_250)) (fun _ h9 => h9) (cd := (1, 0, 2336)) rfl dKM_makePair_291 (fun v36 hv36 => ?_)
          obtain rfl := (show v36 = .int (nI 2336) from hv36)
          refine lv_bipush (v := nI 32) hx hb dKM_makePair_294 (by decide) ?_
          refine ty_copyb11 hx hb (hml.trans hl.1.symm) hown (hts _ (wg_t kw_622)) (hts _ (wg_t kw_526)) (hts _ (wg_t kw_525)) (hts _ (wg_t kw_19)) hK hO kr28 (nxg hc0 kr28 rfl) k_sk (nxg hc0 k_sk rfl) hP hD hS (sp := 0) (dp := 2336) (n := 32) (by omega) (by omega) (by omega) (by decide) (Nat.le_of_ble_eq_true rfl) dKM_makePair_296 (fun pl H locs hO hP hD hS => ?_)
          refine lv_aload_n hx hb dKM_makePair_299 rfl (lv_at hl 3 rfl) ?_
          refine lv_bipush (v := nI 32) hx hb dKM_makePair_300 (by decide) ?_
          refine lv_aload hx hb dKM_makePair_302 (lv_at hl 5 rfl) ?_
          refine lv_aload_n hx hb dKM_makePair_304 rfl (lv_at hl 2 rfl) ?_
          refine ty_get (ci := 1) (C := "LatticeKeys$KemSet") (TT := T_KS) (N := 10) (kd := (41, 0)) hx hb hts (wg_ft i_KS) hown hK hO k_st (nxg hc0 k_st rfl) hP (fun _ h9 => h9) rfl 9 (by decide) (hts _ (wg_t kw_252)) (fun _ h9 => h9) (cd := (1, 0, 2368)) rfl dKM_makePair_305 (fun v37 hv37 => ?_)
          obtain rfl := (show v37 = .int (nI 2368) from hv37)
          refine lv_bipush (v := nI 32) hx hb dKM_makePair_308 (by decide) ?_
          refine ty_copyb11 hx hb (hml.trans hl.1.symm) hown (hts _ (wg_t kw_622)) (hts _ (wg_t kw_526)) (hts _ (wg_t kw_525)) (hts _ (wg_t kw_19)) hK hO k_ch (nxg hc0 k_ch rfl) k_sk (nxg hc0 k_sk rfl) hP hD hS (sp := 32) (dp := 2368) (n := 32) (by omega) (by omega) (by omega) (by decide) (Nat.le_of_ble_eq_true rfl) dKM_makePair_310 (fun pl H locs hO hP hD hS => ?_)
          exact mp_vret hx hb hr hlk hP hD hS pl ⟨trivial, hO⟩ [] rfl rfl rfl (by omega) (by omega) dKM_makePair_313
        | succ n22 ih22 =>
          intro i22 pl ls H locs hm22  hl hO hP hD hS
          refine lv_iload hx hb dKM_makePair_141 (lv_at hl 0 rfl) ?_
          refine lv_aload_n hx hb dKM_makePair_143 rfl (lv_at hl 2 rfl) ?_
          refine ty_get (ci := 1) (C := "LatticeKeys$KemSet") (TT := T_KS) (N := 10) (kd := (41, 0)) hx hb hts (wg_ft i_KS) hown hK hO k_st (nxg hc0 k_st rfl) hP (fun _ h9 => h9) rfl 0 (by decide) (hts _ (wg_t kw_231)) (fun _ h9 => h9) (cd := (1, 0, 3)) rfl dKM_makePair_144 (fun v38 hv38 => ?_)
          obtain rfl := (show v38 = .int (nI 3) from hv38)
          refine mi_ge (tgt := 258) hx hb dKM_makePair_147 (by decide) (by omega) (by omega) (fun h23 => absurd h23 (by omega)) (fun h23 => ?_)
          refine lv_aload_n hx hb dKM_makePair_150 rfl (lv_at hl 1 rfl) ?_
          refine lv_aload_n hx hb dKM_makePair_151 rfl (lv_at hl 1 rfl) ?_
          refine ty_get (ci := 5) (C := "LatticeKeys$Kem") (TT := T_KM) (N := 10) (kd := (13, 0)) hx hb hts (wg_ft i_KM) hown hK hO k_h0 (nxg hc0 k_h0 rfl) hP (fun _ h9 => h9) rfl 3 (by decide) (hts _ (wg_t kw_110)) (fun _ h9 => h9) (cd := (3, 0, 256)) rfl dKM_makePair_152 (fun v39 hv39 => ?_)
          obtain ⟨r29, rfl, kr29⟩ := (show ∃ r : Nat, v39 = .ref r ∧ T r = some (0, 256) from hv39)
          refine lv_aload_n hx hb dKM_makePair_155 rfl (lv_at hl 2 rfl) ?_
          refine ty_get (ci := 1) (C := "LatticeKeys$KemSet") (TT := T_KS) (N := 10) (kd := (41, 0)) hx hb hts (wg_ft i_KS) hown hK hO k_st (nxg hc0 k_st rfl) hP (fun _ h9 => h9) rfl 1 (by decide) (hts _ (wg_t kw_233)) (fun _ h9 => h9) (cd := (1, 0, 2)) rfl dKM_makePair_156 (fun v40 hv40 => ?_)
          obtain rfl := (show v40 = .int (nI 2) from hv40)
          refine lv_aload_n hx hb dKM_makePair_159 rfl (lv_at hl 2 rfl) ?_
          refine ty_get (ci := 1) (C := "LatticeKeys$KemSet") (TT := T_KS) (N := 10) (kd := (41, 0)) hx hb hts (wg_ft i_KS) hown hK hO k_st (nxg hc0 k_st rfl) hP (fun _ h9 => h9) rfl 0 (by decide) (hts _ (wg_t kw_231)) (fun _ h9 => h9) (cd := (1, 0, 3)) rfl dKM_makePair_160 (fun v41 hv41 => ?_)
          obtain rfl := (show v41 = .int (nI 3) from hv41)
          refine lv_iload hx hb dKM_makePair_163 (lv_at hl 0 rfl) ?_
          refine mi_iadd hx hb dKM_makePair_165 ?_
          refine mp_v (cx := []) (wr := []) hP hD hS hA [] [] rfl rfl rfl (by decide) (va_runV (As := [.ref r29, .int (nI 2), .int (nI (3 + i22))]) (rest := []) F (t_KM_sampleNoise_2 l g _ T xs pl hO hU hc0 hc2 h0 r29 (nI (3 + i22)) k_h0 kr29) (cwV 3 hts (wg_app (wg_c kw_623 (wg_c kw_625 (wg_c ks_6 (wg_c kw_3 wg_n)))) kw_626) rfl rfl rfl (by decide +kernel) ⟨by decide, by decide⟩) (pp_VT (en_ok g) (ci := 5) (kd := (13, 0)) hK hO k_h0 (nxg hc0 k_h0 rfl) (fun _ h9 => ko1 h9) hP hD hS hA hE [] rfl rfl rfl) rfl rfl hl.1 rfl (lv_room (Nat.le_of_ble_eq_true rfl)) dKM_makePair_166 ⟨by omega, by omega⟩) (fun  pl H locs hu27 hP hD hS => ?_)
          obtain ⟨hq27, hO⟩ := hu27
          have hP : va_P g.1 vcl ([] ++ pl) _ := hP
          have hD : va_D _ ([] ++ pl) := hD
          refine W.widen (k := 0) (n := 0) (by omega) (by omega) ?_
          refine lv_aload_n hx hb dKM_makePair_169 rfl (lv_at hl 1 rfl) ?_
          refine ty_get (ci := 5) (C := "LatticeKeys$Kem") (TT := T_KM) (N := 10) (kd := (13, 0)) hx hb hts (wg_ft i_KM) hown hK hO k_h0 (nxg hc0 k_h0 rfl) hP (fun _ h9 => h9) rfl 1 (by decide) (hts _ (wg_t kw_108)) (fun _ h9 => h9) (cd := (3, 11, 0)) rfl dKM_makePair_170 (fun v42 hv42 => ?_)
          obtain ⟨r30, rfl, kr30⟩ := (show ∃ r : Nat, v42 = .ref r ∧ T r = some (11, 0) from hv42)
          refine lv_aload_n hx hb dKM_makePair_173 rfl (lv_at hl 1 rfl) ?_
          refine ty_get (ci := 5) (C := "LatticeKeys$Kem") (TT := T_KM) (N := 10) (kd := (13, 0)) hx hb hts (wg_ft i_KM) hown hK hO k_h0 (nxg hc0 k_h0 rfl) hP (fun _ h9 => h9) rfl 3 (by decide) (hts _ (wg_t kw_110)) (fun _ h9 => h9) (cd := (3, 0, 256)) rfl dKM_makePair_174 (fun v43 hv43 => ?_)
          obtain ⟨r31, rfl, kr31⟩ := (show ∃ r : Nat, v43 = .ref r ∧ T r = some (0, 256) from hv43)
          refine mp_v (cx := []) (wr := []) hP hD hS hA [] [] rfl rfl rfl (by decide) (va_runV (As := [.ref r31]) (rest := []) F (t_RG_transform_11 l g _ T xs pl hO hU hc0 r30 r31 kr30 kr31) (cwV 1 hts (wg_app (wg_c kw_636 (wg_c kw_637 (wg_c kw_638 (wg_c kw_4 wg_n)))) kw_639) rfl rfl rfl (by decide +kernel) ⟨by decide, by decide⟩) (pp_VT (en_ok g) (ci := 4) (kd := (11, 0)) hK hO kr30 (nxg hc0 kr30 rfl) (fun _ h9 => ko1 h9) hP hD hS hA hE [] rfl rfl rfl) rfl rfl hl.1 rfl (lv_room (Nat.le_of_ble_eq_true rfl)) dKM_makePair_177 ⟨by omega, by omega⟩) (fun  pl H locs hu28 hP hD hS => ?_)
          obtain ⟨hq28, hO⟩ := hu28
          have hP : va_P g.1 vcl ([] ++ pl) _ := hP
          have hD : va_D _ ([] ++ pl) := hD
          refine W.widen (k := 0) (n := 0) (by omega) (by omega) ?_
          refine lv_iconst (v := nI 0) hx hb dKM_makePair_180 (by decide) ?_
          refine lv_istore (lv' := [(6, .int (nI 0)), (5, .int (nI i22)), (0, .ref h0), (1, .ref st), (2, .ref ch), (3, .ref pk), (4, .ref sk)]) hx hb dKM_makePair_181 hl (by decide) rfl (fun ls hl => ?_)
          have lp23 : ∀ (n23 : Nat) (i23 : Nat) (pl : va_W) (ls : Array Slot) (H : Heap) (locs : List Loc), n23 + i23 = 3 → lv_has ls 7 [(6, .int (nI i23)), (5, .int (nI i22)), (0, .ref h0), (1, .ref st), (2, .ref ch), (3, .ref pk), (4, .ref sk)] → okx g T xs pl → va_P g.1 vcl ([] ++ pl) H → va_D A ([] ++ pl) → va_S A s.heap H locs → W p l e ({ frames := 4, cells := 0, slots := 0, locals := 131 } : Room) s m args below meth c H locs 0 0 (MQ below (va_Qv (fun (u : va_W) => (True) ∧ okx g T xs u) (po g.1 vcl A (fun (u : va_W) => [] ++ u)) A) args s 0 0 A) (F0 m 183 ls []) := by
            intro n23
            induction n23 with
            | zero =>
              intro i23 pl ls H locs hm23  hl hO hP hD hS
              refine lv_iload hx hb dKM_makePair_183 (lv_at hl 0 rfl) ?_
              refine lv_aload_n hx hb dKM_makePair_185 rfl (lv_at hl 3 rfl) ?_
              refine ty_get (ci := 1) (C := "LatticeKeys$KemSet") (TT := T_KS) (N := 10) (kd := (41, 0)) hx hb hts (wg_ft i_KS) hown hK hO k_st (nxg hc0 k_st rfl) hP (fun _ h9 => h9) rfl 0 (by decide) (hts _ (wg_t kw_231)) (fun _ h9 => h9) (cd := (1, 0, 3)) rfl dKM_makePair_186 (fun v44 hv44 => ?_)
              obtain rfl := (show v44 = .int (nI 3) from hv44)
              refine mi_ge (tgt := 236) hx hb dKM_makePair_189 (by decide) (by omega) (by omega) (fun h24 => ?_) (fun h24 => absurd h24 (by omega))
              refine lv_aload_n hx hb dKM_makePair_236 rfl (lv_at hl 2 rfl) ?_
              refine ty_get (ci := 5) (C := "LatticeKeys$Kem") (TT := T_KM) (N := 10) (kd := (13, 0)) hx hb hts (wg_ft i_KM) hown hK hO k_h0 (nxg hc0 k_h0 rfl) hP (fun _ h9 => h9) rfl 3 (by decide) (hts _ (wg_t kw_110)) (fun _ h9 => h9) (cd := (3, 0, 256)) rfl dKM_makePair_237 (fun v45 hv45 => ?_)
              obtain ⟨r32, rfl, kr32⟩ := (show ∃ r : Nat, v45 = .ref r ∧ T r = some (0, 256) from hv45)
              refine lv_bipush (v := nI 12) hx hb dKM_makePair_240 (by decide) ?_
              refine lv_aload_n hx hb dKM_makePair_242 rfl (lv_at hl 5 rfl) ?_
              refine lv_sipush (v := nI 384) hx hb dKM_makePair_243 (by decide) ?_
              refine lv_iload hx hb dKM_makePair_246 (lv_at hl 1 rfl) ?_
              refine mi_imul hx hb dKM_makePair_248 ?_
              refine mp_v (cx := []) (wr := []) hP hD hS hA [] [] rfl rfl rfl (by decide) (va_runS (As := [.ref r32, .int (nI 12), .ref pk, .int (nI (384 * i22))]) (rest := []) F (t_BT_pack l g _ T xs pl hO hU hc0 r32 pk 1184 12 (384 * i22) kr32 k_pk (by omega) (by omega) (by omega)) (va_cwS 4 hts (wg_app (wg_c kw_644 (wg_c kw_645 (wg_c kw_22 wg_n))) kw_646) rfl rfl rfl (by decide +kernel) ⟨by decide, by decide⟩) (pp_S (en_ok g) hP hD hS hA hE [] rfl rfl) rfl rfl hl.1 rfl (lv_room (Nat.le_of_ble_eq_true rfl)) dKM_makePair_249 ⟨by omega, by omega⟩) (fun  pl H locs hu29 hP hD hS => ?_)
              obtain ⟨hq29, hO⟩ := hu29
              have hP : va_P g.1 vcl ([] ++ pl) _ := hP
              have hD : va_D _ ([] ++ pl) := hD
              refine W.widen (k := 0) (n := 0) (by omega) (by omega) ?_
              refine mi_iinc (k := 1) (x := i22) (d := 1) (y := i22 + 1) (lv' := [(5, .int (nI (i22 + 1))), (6, .int (nI i23)), (0, .ref h0), (1, .ref st), (2, .ref ch), (3, .ref pk), (4, .ref sk)]) hx hb dKM_makePair_252 hl rfl (by decide) rfl (by decide) rfl (fun ls hl => ?_)
              refine lv_goto (tgt := 141) hx hb dKM_makePair_255 (by decide) ?_
              exact ih22 (i22 + 1) pl ls H locs (by omega) (lv_sub hl [0, 2, 3, 4, 5, 6] rfl) hO hP hD hS
            | succ n23 ih23 =>
              intro i23 pl ls H locs hm23  hl hO hP hD hS
              refine lv_iload hx hb dKM_makePair_183 (lv_at hl 0 rfl) ?_
              refine lv_aload_n hx hb dKM_makePair_185 rfl (lv_at hl 3 rfl) ?_
              refine ty_get (ci := 1) (C := "LatticeKeys$KemSet") (TT := T_KS) (N := 10) (kd := (41, 0)) hx hb hts (wg_ft i_KS) hown hK hO k_st (nxg hc0 k_st rfl) hP (fun _ h9 => h9) rfl 0 (by decide) (hts _ (wg_t kw_231)) (fun _ h9 => h9) (cd := (1, 0, 3)) rfl dKM_makePair_186 (fun v46 hv46 => ?_)
              obtain rfl := (show v46 = .int (nI 3) from hv46)
              refine mi_ge (tgt := 236) hx hb dKM_makePair_189 (by decide) (by omega) (by omega) (fun h25 => absurd h25 (by omega)) (fun h25 => ?_)
              refine lv_aload_n hx hb dKM_makePair_192 rfl (lv_at hl 2 rfl) ?_
              refine lv_aload_n hx hb dKM_makePair_193 rfl (lv_at hl 5 rfl) ?_
              refine lv_aload_n hx hb dKM_makePair_194 rfl (lv_at hl 3 rfl) ?_
              refine ty_get (ci := 1) (C := "LatticeKeys$KemSet") (TT := T_KS) (N := 10) (kd := (41, 0)) hx hb hts (wg_ft i_KS) hown hK hO k_st (nxg hc0 k_st rfl) hP (fun _ h9 => h9) rfl 4 (by decide) (hts _ (wg_t kw_239)) (fun _ h9 => h9) (cd := (1, 0, 1184)) rfl dKM_makePair_195 (fun v47 hv47 => ?_)
              obtain rfl := (show v47 = .int (nI 1184) from hv47)
              refine lv_bipush (v := nI 32) hx hb dKM_makePair_198 (by decide) ?_
              refine mi_isub hx hb dKM_makePair_200 (by omega) ?_
              refine mi_as (show nI (1184 - 32) = nI 1152 from rfl) ?_
              refine lv_iload hx hb dKM_makePair_201 (lv_at hl 0 rfl) ?_
              refine lv_iload hx hb dKM_makePair_203 (lv_at hl 1 rfl) ?_
              refine mp_v (cx := []) (wr := []) hP hD hS hA [] [] rfl rfl rfl (by decide) (va_runV (As := [.ref pk, .int (nI 1152), .int (nI i23), .int (nI i22)]) (rest := []) F (t_KM_sampleEntry l g _ T xs pl hO hU hc0 hc2 h0 pk 1184 1152 (nI i23) (nI i22) k_h0 k_pk (by omega) (by omega)) (cwV 4 hts (wg_app (wg_c kw_647 (wg_c kw_649 (wg_c ks_8 (wg_c kw_3 wg_n)))) kw_650) rfl rfl rfl (by decide +kernel) ⟨by decide, by decide⟩) (pp_VT (en_ok g) (ci := 5) (kd := (13, 0)) hK hO k_h0 (nxg hc0 k_h0 rfl) (fun _ h9 => ko1 h9) hP hD hS hA hE [] rfl rfl rfl) rfl rfl hl.1 rfl (lv_room (Nat.le_of_ble_eq_true rfl)) dKM_makePair_205 ⟨by omega, by omega⟩) (fun  pl H locs hu30 hP hD hS => ?_)
              obtain ⟨hq30, hO⟩ := hu30
              have hP : va_P g.1 vcl ([] ++ pl) _ := hP
              have hD : va_D _ ([] ++ pl) := hD
              refine W.widen (k := 0) (n := 0) (by omega) (by omega) ?_
              refine lv_aload_n hx hb dKM_makePair_208 rfl (lv_at hl 2 rfl) ?_
              refine ty_get (ci := 5) (C := "LatticeKeys$Kem") (TT := T_KM) (N := 10) (kd := (13, 0)) hx hb hts (wg_ft i_KM) hown hK hO k_h0 (nxg hc0 k_h0 rfl) hP (fun _ h9 => h9) rfl 1 (by decide) (hts _ (wg_t kw_108)) (fun _ h9 => h9) (cd := (3, 11, 0)) rfl dKM_makePair_209 (fun v48 hv48 => ?_)
              obtain ⟨r33, rfl, kr33⟩ := (show ∃ r : Nat, v48 = .ref r ∧ T r = some (11, 0) from hv48)
              refine lv_aload_n hx hb dKM_makePair_212 rfl (lv_at hl 2 rfl) ?_
              refine ty_get (ci := 5) (C := "LatticeKeys$Kem") (TT := T_KM) (N := 10) (kd := (13, 0)) hx hb hts (wg_ft i_KM) hown hK hO k_h0 (nxg hc0 k_h0 rfl) hP (fun _ h9 => h9) rfl 3 (by decide) (hts _ (wg_t kw_110)) (fun _ h9 => h9) (cd := (3, 0, 256)) rfl dKM_makePair_213 (fun v49 hv49 => ?_)
              obtain ⟨r34, rfl, kr34⟩ := (show ∃ r : Nat, v49 = .ref r ∧ T r = some (0, 256) from hv49)
              refine lv_aload_n hx hb dKM_makePair_216 rfl (lv_at hl 2 rfl) ?_
              refine ty_get (ci := 5) (C := "LatticeKeys$Kem") (TT := T_KM) (N := 10) (kd := (13, 0)) hx hb hts (wg_ft i_KM) hown hK hO k_h0 (nxg hc0 k_h0 rfl) hP (fun _ h9 => h9) rfl 4 (by decide) (hts _ (wg_t kw_111)) (fun _ h9 => h9) (cd := (3, 0, 256)) rfl dKM_makePair_217 (fun v50 hv50 => ?_)
              obtain ⟨r35, rfl, kr35⟩ := (show ∃ r : Nat, v50 = .ref r ∧ T r = some (0, 256) from hv50)
              refine lv_aload_n hx hb dKM_makePair_220 rfl (lv_at hl 2 rfl) ?_
              refine ty_get (ci := 5) (C := "LatticeKeys$Kem") (TT := T_KM) (N := 10) (kd := (13, 0)) hx hb hts (wg_ft i_KM) hown hK hO k_h0 (nxg hc0 k_h0 rfl) hP (fun _ h9 => h9) rfl 2 (by decide) (hts _ (wg_t kw_109)) (fun _ h9 => h9) (cd := (3, 3, 4)) rfl dKM_makePair_221 (fun v51 hv51 => ?_)
              obtain ⟨r36, rfl, kr36⟩ := (show ∃ r : Nat, v51 = .ref r ∧ T r = some (3, 4) from hv51)
              refine lv_iload hx hb dKM_makePair_224 (lv_at hl 0 rfl) ?_
              refine ty_aald3 hx hb hK hO kr36 (nxg hc0 kr36 rfl) hP (by omega) (by decide) dKM_makePair_226 (fun r37 kr37 => ?_)
              refine mp_v (cx := []) (wr := []) hP hD hS hA [] [] rfl rfl rfl (by decide) (va_runV (As := [.ref r34, .ref r35, .ref r37]) (rest := []) F (t_RG_addProduct_11 l g _ T xs pl hO hU hc0 r33 r34 r35 r37 kr33 kr34 kr35 kr37) (cwV 3 hts (wg_app (wg_c kw_653 (wg_c kw_654 (wg_c kw_655 (wg_c kw_4 wg_n)))) kw_656) rfl rfl rfl (by decide +kernel) ⟨by decide, by decide⟩) (pp_VT (en_ok g) (ci := 4) (kd := (11, 0)) hK hO kr33 (nxg hc0 kr33 rfl) (fun _ h9 => ko1 h9) hP hD hS hA hE [] rfl rfl rfl) rfl rfl hl.1 rfl (lv_room (Nat.le_of_ble_eq_true rfl)) dKM_makePair_227 ⟨by omega, by omega⟩) (fun  pl H locs hu31 hP hD hS => ?_)
              obtain ⟨hq31, hO⟩ := hu31
              have hP : va_P g.1 vcl ([] ++ pl) _ := hP
              have hD : va_D _ ([] ++ pl) := hD
              refine W.widen (k := 0) (n := 0) (by omega) (by omega) ?_
              refine mi_iinc (k := 0) (x := i23) (d := 1) (y := i23 + 1) (lv' := [(6, .int (nI (i23 + 1))), (5, .int (nI i22)), (0, .ref h0), (1, .ref st), (2, .ref ch), (3, .ref pk), (4, .ref sk)]) hx hb dKM_makePair_230 hl rfl (by decide) rfl (by decide) rfl (fun ls hl => ?_)
              refine lv_goto (tgt := 183) hx hb dKM_makePair_233 (by decide) ?_
              exact ih23 (i23 + 1) pl ls H locs (by omega) (lv_sub hl [0, 1, 2, 3, 4, 5, 6] rfl) hO hP hD hS
          exact lp23 3 0 pl ls _ _ (by omega) (lv_sub hl [0, 1, 2, 3, 4, 5, 6] rfl) hO hP hD hS
      exact lp22 3 0 pl ls _ _ (by omega) (lv_sub hl [0, 1, 2, 3, 4, 5] rfl) hO hP hD hS
    | succ n21 ih21 =>
      intro i21 pl ls H locs hm21  hl hO hP hD hS
      refine lv_iload hx hb dKM_makePair_72 (lv_at hl 0 rfl) ?_
      refine lv_aload_n hx hb dKM_makePair_74 rfl (lv_at hl 2 rfl) ?_
      refine ty_get (ci := 1) (C := "LatticeKeys$KemSet") (TT := T_KS) (N := 10) (kd := (41, 0)) hx hb hts (wg_ft i_KS) hown hK hO k_st (nxg hc0 k_st rfl) hP (fun _ h9 => h9) rfl 0 (by decide) (hts _ (wg_t kw_231)) (fun _ h9 => h9) (cd := (1, 0, 3)) rfl dKM_makePair_75 (fun v52 hv52 => ?_)
      obtain rfl := (show v52 = .int (nI 3) from hv52)
      refine mi_ge (tgt := 138) hx hb dKM_makePair_78 (by decide) (by omega) (by omega) (fun h26 => absurd h26 (by omega)) (fun h26 => ?_)
      refine lv_aload_n hx hb dKM_makePair_81 rfl (lv_at hl 1 rfl) ?_
      refine lv_aload_n hx hb dKM_makePair_82 rfl (lv_at hl 1 rfl) ?_
      refine ty_get (ci := 5) (C := "LatticeKeys$Kem") (TT := T_KM) (N := 10) (kd := (13, 0)) hx hb hts (wg_ft i_KM) hown hK hO k_h0 (nxg hc0 k_h0 rfl) hP (fun _ h9 => h9) rfl 2 (by decide) (hts _ (wg_t kw_109)) (fun _ h9 => h9) (cd := (3, 3, 4)) rfl dKM_makePair_83 (fun v53 hv53 => ?_)
      obtain ⟨r38, rfl, kr38⟩ := (show ∃ r : Nat, v53 = .ref r ∧ T r = some (3, 4) from hv53)
      refine lv_iload hx hb dKM_makePair_86 (lv_at hl 0 rfl) ?_
      refine ty_aald3 hx hb hK hO kr38 (nxg hc0 kr38 rfl) hP (by omega) (by decide) dKM_makePair_88 (fun r39 kr39 => ?_)
      refine lv_aload_n hx hb dKM_makePair_89 rfl (lv_at hl 2 rfl) ?_
      refine ty_get (ci := 1) (C := "LatticeKeys$KemSet") (TT := T_KS) (N := 10) (kd := (41, 0)) hx hb hts (wg_ft i_KS) hown hK hO k_st (nxg hc0 k_st rfl) hP (fun _ h9 => h9) rfl 1 (by decide) (hts _ (wg_t kw_233)) (fun _ h9 => h9) (cd := (1, 0, 2)) rfl dKM_makePair_90 (fun v54 hv54 => ?_)
      obtain rfl := (show v54 = .int (nI 2) from hv54)
      refine lv_iload hx hb dKM_makePair_93 (lv_at hl 0 rfl) ?_
      refine mp_v (cx := []) (wr := []) hP hD hS hA [] [] rfl rfl rfl (by decide) (va_runV (As := [.ref r39, .int (nI 2), .int (nI i21)]) (rest := []) F (t_KM_sampleNoise_2 l g _ T xs pl hO hU hc0 hc2 h0 r39 (nI i21) k_h0 kr39) (cwV 3 hts (wg_app (wg_c kw_623 (wg_c kw_625 (wg_c ks_6 (wg_c kw_3 wg_n)))) kw_626) rfl rfl rfl (by decide +kernel) ⟨by decide, by decide⟩) (pp_VT (en_ok g) (ci := 5) (kd := (13, 0)) hK hO k_h0 (nxg hc0 k_h0 rfl) (fun _ h9 => ko1 h9) hP hD hS hA hE [] rfl rfl rfl) rfl rfl hl.1 rfl (lv_room (Nat.le_of_ble_eq_true rfl)) dKM_makePair_95 ⟨by omega, by omega⟩) (fun  pl H locs hu32 hP hD hS => ?_)
      obtain ⟨hq32, hO⟩ := hu32
      have hP : va_P g.1 vcl ([] ++ pl) _ := hP
      have hD : va_D _ ([] ++ pl) := hD
      refine W.widen (k := 0) (n := 0) (by omega) (by omega) ?_
      refine lv_aload_n hx hb dKM_makePair_98 rfl (lv_at hl 1 rfl) ?_
      refine ty_get (ci := 5) (C := "LatticeKeys$Kem") (TT := T_KM) (N := 10) (kd := (13, 0)) hx hb hts (wg_ft i_KM) hown hK hO k_h0 (nxg hc0 k_h0 rfl) hP (fun _ h9 => h9) rfl 1 (by decide) (hts _ (wg_t kw_108)) (fun _ h9 => h9) (cd := (3, 11, 0)) rfl dKM_makePair_99 (fun v55 hv55 => ?_)
      obtain ⟨r40, rfl, kr40⟩ := (show ∃ r : Nat, v55 = .ref r ∧ T r = some (11, 0) from hv55)
      refine lv_aload_n hx hb dKM_makePair_102 rfl (lv_at hl 1 rfl) ?_
      refine ty_get (ci := 5) (C := "LatticeKeys$Kem") (TT := T_KM) (N := 10) (kd := (13, 0)) hx hb hts (wg_ft i_KM) hown hK hO k_h0 (nxg hc0 k_h0 rfl) hP (fun _ h9 => h9) rfl 2 (by decide) (hts _ (wg_t kw_109)) (fun _ h9 => h9) (cd := (3, 3, 4)) rfl dKM_makePair_103 (fun v56 hv56 => ?_)
      obtain ⟨r41, rfl, kr41⟩ := (show ∃ r : Nat, v56 = .ref r ∧ T r = some (3, 4) from hv56)
      refine lv_iload hx hb dKM_makePair_106 (lv_at hl 0 rfl) ?_
      refine ty_aald3 hx hb hK hO kr41 (nxg hc0 kr41 rfl) hP (by omega) (by decide) dKM_makePair_108 (fun r42 kr42 => ?_)
      refine mp_v (cx := []) (wr := []) hP hD hS hA [] [] rfl rfl rfl (by decide) (va_runV (As := [.ref r42]) (rest := []) F (t_RG_transform_11 l g _ T xs pl hO hU hc0 r40 r42 kr40 kr42) (cwV 1 hts (wg_app (wg_c kw_636 (wg_c kw_637 (wg_c kw_638 (wg_c kw_4 wg_n)))) kw_639) rfl rfl rfl (by decide +kernel) ⟨by decide, by decide⟩) (pp_VT (en_ok g) (ci := 4) (kd := (11, 0)) hK hO kr40 (nxg hc0 kr40 rfl) (fun _ h9 => ko1 h9) hP hD hS hA hE [] rfl rfl rfl) rfl rfl hl.1 rfl (lv_room (Nat.le_of_ble_eq_true rfl)) dKM_makePair_109 ⟨by omega, by omega⟩) (fun  pl H locs hu33 hP hD hS => ?_)
      obtain ⟨hq33, hO⟩ := hu33
      have hP : va_P g.1 vcl ([] ++ pl) _ := hP
      have hD : va_D _ ([] ++ pl) := hD
      refine W.widen (k := 0) (n := 0) (by omega) (by omega) ?_
      refine lv_aload_n hx hb dKM_makePair_112 rfl (lv_at hl 1 rfl) ?_
      refine ty_get (ci := 5) (C := "LatticeKeys$Kem") (TT := T_KM) (N := 10) (kd := (13, 0)) hx hb hts (wg_ft i_KM) hown hK hO k_h0 (nxg hc0 k_h0 rfl) hP (fun _ h9 => h9) rfl 2 (by decide) (hts _ (wg_t kw_109)) (fun _ h9 => h9) (cd := (3, 3, 4)) rfl dKM_makePair_113 (fun v57 hv57 => ?_)
      obtain ⟨r43, rfl, kr43⟩ := (show ∃ r : Nat, v57 = .ref r ∧ T r = some (3, 4) from hv57)
      refine lv_iload hx hb dKM_makePair_116 (lv_at hl 0 rfl) ?_
      refine ty_aald3 hx hb hK hO kr43 (nxg hc0 kr43 rfl) hP (by omega) (by decide) dKM_makePair_118 (fun r44 kr44 => ?_)
      refine lv_bipush (v := nI 12) hx hb dKM_makePair_119 (by decide) ?_
      refine lv_aload hx hb dKM_makePair_121 (lv_at hl 5 rfl) ?_
      refine lv_sipush (v := nI 384) hx hb dKM_makePair_123 (by decide) ?_
      refine lv_iload hx hb dKM_makePair_126 (lv_at hl 0 rfl) ?_
      refine mi_imul hx hb dKM_makePair_128 ?_
      refine mp_v (cx := []) (wr := []) hP hD hS hA [] [] rfl rfl rfl (by decide) (va_runS (As := [.ref r44, .int (nI 12), .ref sk, .int (nI (384 * i21))]) (rest := []) F (t_BT_pack l g _ T xs pl hO hU hc0 r44 sk 2400 12 (384 * i21) kr44 k_sk (by omega) (by omega) (by omega)) (va_cwS 4 hts (wg_app (wg_c kw_644 (wg_c kw_645 (wg_c kw_22 wg_n))) kw_646) rfl rfl rfl (by decide +kernel) ⟨by decide, by decide⟩) (pp_S (en_ok g) hP hD hS hA hE [] rfl rfl) rfl rfl hl.1 rfl (lv_room (Nat.le_of_ble_eq_true rfl)) dKM_makePair_129 ⟨by omega, by omega⟩) (fun  pl H locs hu34 hP hD hS => ?_)
      obtain ⟨hq34, hO⟩ := hu34
      have hP : va_P g.1 vcl ([] ++ pl) _ := hP
      have hD : va_D _ ([] ++ pl) := hD
      refine W.widen (k := 0) (n := 0) (by omega) (by omega) ?_
      refine mi_iinc (k := 0) (x := i21) (d := 1) (y := i21 + 1) (lv' := [(5, .int (nI (i21 + 1))), (0, .ref h0), (1, .ref st), (2, .ref ch), (3, .ref pk), (4, .ref sk)]) hx hb dKM_makePair_132 hl rfl (by decide) rfl (by decide) rfl (fun ls hl => ?_)
      refine lv_goto (tgt := 72) hx hb dKM_makePair_135 (by decide) ?_
      exact ih21 (i21 + 1) pl ls H locs (by omega) (lv_sub hl [0, 1, 2, 3, 4, 5] rfl) hO hP hD hS
  exact lp21 3 0 pl ls _ _ (by omega) (lv_sub hl [0, 1, 2, 3, 4, 5] rfl) hO hP hD hS
set_option maxHeartbeats 400000 in
set_option maxRecDepth 100000 in
theorem t_KM_makePair_2 (l : Launch) (g : Gd) (sz : Nat) (T : Ty) (xs : List Nat) (pl : va_W) (hO : okx g T xs pl) (hU : uni T) (hc0 : clo T xs 0) (hc2 : clo T xs 2) (h0 st ch pk sk n : Nat) (k_h0 : T h0 = some (13, 0)) (k_st : T st = some (42, 0)) (k_ch : T ch = some (1, n)) (k_pk : T pk = some (1, 1568)) (k_sk : T sk = some (1, 3168)) (h1 : 64 ≤ n) (h2 : n < 65536)  : Met l y_KM_makePair w_KM_makePair ({ frames := 4, cells := 0, slots := 0, locals := 131 } : Room) (va_Pc [.ref h0, .ref st, .ref ch, .ref pk, .ref sk] (pr (en g) g.1 vcl sz ([] ++ pl))) (va_Qv (fun (u : va_W) => (True) ∧ okx g T xs u) (po g.1 vcl (va_A ([] ++ pl) sz) (fun (u : va_W) => [] ++ u)) (va_A ([] ++ pl) sz)) 0 0 (va_A ([] ++ pl) sz) := by
  refine mc_entry (cc := c_KM_makePair) (maxL := 7) (ret := none) (by decide) rfl (Nat.le_of_ble_eq_true rfl) ?_
  intro p e s m args below meth c ls F hr hlk hnm hsz hP hD hE hA hl
  obtain ⟨hx, hb, hml, hown, hts⟩ := id F
  have hK := hE.1
  generalize va_A ([] ++ pl) sz = A at hD hE hA ⊢
  have hS : va_S A s.heap s.heap [] := va_S.rf
  have hl : lv_has ls 7 [(0, .ref h0), (1, .ref st), (2, .ref ch), (3, .ref pk), (4, .ref sk)] := hl
  refine lv_aload_n hx hb dKM_makePair_0 rfl (lv_at hl 0 rfl) ?_
  refine ty_get (ci := 5) (C := "LatticeKeys$Kem") (TT := T_KM) (N := 10) (kd := (13, 0)) hx hb hts (wg_ft i_KM) hown hK hO k_h0 (nxg hc0 k_h0 rfl) hP (fun _ h9 => h9) rfl 0 (by decide) (hts _ (wg_t kw_107)) (fun _ h9 => h9) (cd := (3, 10, 1)) rfl dKM_makePair_1 (fun v21 hv21 => ?_)
  obtain ⟨r21, rfl, kr21⟩ := (show ∃ r : Nat, v21 = .ref r ∧ T r = some (10, 1) from hv21)
  refine lv_iconst (v := nI 1) hx hb dKM_makePair_4 (by decide) ?_
  obtain ⟨e21, pl, hP, hD, hk21, hO⟩ := open1 hP hD hO kr21 (nxg hc2 kr21 rfl)
  obtain ⟨ln21, rt21, ps21, x21, rfl, kl21, hr21, hr22, hr23⟩ := hk21
  have kl21 : T ln21 = some (19, 1) := kl21
  obtain ⟨e22, pl, hP, hD, hk22, hO⟩ := open1 hP hD hO kl21 (nmc (knd_ne kl21 kr21 (by decide)) (nxg hc2 kl21 rfl))
  obtain ⟨f21, rfl⟩ := hk22
  have hP : va_P g.1 vcl ([(r21, .inr (3, [.ref ln21, .int (nI rt21), .int x21, .int (nI ps21)])), (ln21, .inl (g.2.1 2, 25, .inr (.inl f21)))] ++ pl) _ := hP
  have hD : va_D _ ([(r21, .inr (3, [.ref ln21, .int (nI rt21), .int x21, .int (nI ps21)])), (ln21, .inl (g.2.1 2, 25, .inr (.inl f21)))] ++ pl) := hD
  refine mp_v (cx := [(r21, .inr (3, [.ref ln21, .int (nI rt21), .int x21, .int (nI ps21)])), (ln21, .inl (g.2.1 2, 25, .inr (.inl f21)))]) (wr := []) hP hD hS hA [0, 1] [] rfl rfl rfl (by decide) (va_runV (As := [.int (nI 1)]) (rest := []) F (t_SP_start_1 l g _ T (ln21 :: (r21 :: xs)) pl hO hU  r21 ln21 rt21 ps21 x21 f21) (cwV 1 hts (wg_app (wg_c kw_578 (wg_c kw_579 (wg_c kw_580 (wg_c kw_2 wg_n)))) kw_581) rfl rfl rfl (by decide +kernel) ⟨by decide, by decide⟩) (pp_V (en_ok g) (q0 := 0) hK hP hD hS hA hE [0, 1] rfl rfl rfl rfl) rfl rfl hl.1 rfl (lv_room (Nat.le_of_ble_eq_true rfl)) dKM_makePair_5 ⟨by omega, by omega⟩) (fun  u21 H locs hu21 hP hD hS => ?_)
  obtain ⟨u22, pl⟩ := u21
  obtain ⟨hq21, hO⟩ := hu21
  have hP : va_P g.1 vcl ([(r21, .inr (3, [.ref ln21, .int (nI 72), .int (nI 6), .int (nI 0)])), (ln21, .inl (g.2.1 2, 25, .inr (.inl u22)))] ++ pl) _ := hP
  have hD : va_D _ ([(r21, .inr (3, [.ref ln21, .int (nI 72), .int (nI 6), .int (nI 0)])), (ln21, .inl (g.2.1 2, 25, .inr (.inl u22)))] ++ pl) := hD
  refine W.widen (k := 0) (n := 0) (by omega) (by omega) ?_
  refine lv_aload_n hx hb dKM_makePair_8 rfl (lv_at hl 0 rfl) ?_
  refine ty_get (ci := 5) (C := "LatticeKeys$Kem") (TT := T_KM) (N := 10) (kd := (13, 0)) hx hb hts (wg_ft i_KM) hown hK hO k_h0 (nxg (clo_cons (clo_cons hc0 kr21 (by decide)) kl21 (by decide)) k_h0 rfl) hP (fun _ h9 => h9) rfl 0 (by decide) (hts _ (wg_t kw_107)) (fun _ h9 => h9) (cd := (3, 10, 1)) rfl dKM_makePair_9 (fun v22 hv22 => ?_)
  obtain ⟨r22, rfl, kr22⟩ := (show ∃ r : Nat, v22 = .ref r ∧ T r = some (10, 1) from hv22)
  obtain rfl : r21 = r22 := hU _ _ _ (by decide) kr21 kr22
  refine lv_aload_n hx hb dKM_makePair_12 rfl (lv_at hl 2 rfl) ?_
  refine lv_iconst (v := nI 0) hx hb dKM_makePair_13 (by decide) ?_
  refine lv_bipush (v := nI 32) hx hb dKM_makePair_14 (by decide) ?_
  refine mp_v (cx := [(r21, .inr (3, [.ref ln21, .int (nI 72), .int (nI 6), .int (nI 0)])), (ln21, .inl (g.2.1 2, 25, .inr (.inl u22)))]) (wr := []) hP hD hS hA [0, 1] [] rfl rfl rfl (by decide) (va_runV (As := [.ref ch, .int (nI 0), .int (nI 32)]) (rest := []) F (t_SP_absorb l g _ T (ln21 :: (r21 :: xs)) pl hO hU (clo_cons (clo_cons hc0 kr21 (by decide)) kl21 (by decide)) ch n 0 32 r21 ln21 72 0 (nI 6) u22 k_ch (by omega) (by omega) (by omega) (by omega)) (cwV 3 hts (wg_app (wg_c kw_585 (wg_c kw_586 (wg_c kw_587 (wg_c kw_2 wg_n)))) kw_588) rfl rfl rfl (by decide +kernel) ⟨by decide, by decide⟩) (pp_V (en_ok g) (q0 := 0) hK hP hD hS hA hE [0, 1] rfl rfl rfl rfl) rfl rfl hl.1 rfl (lv_room (Nat.le_of_ble_eq_true rfl)) dKM_makePair_16 ⟨by omega, by omega⟩) (fun  u23 H locs hu22 hP hD hS => ?_)
  obtain ⟨u24, pl⟩ := u23
  obtain ⟨hq22, hO⟩ := hu22
  obtain ⟨k21, f22⟩ := u24
  have hP : va_P g.1 vcl ([(r21, .inr (3, [.ref ln21, .int (nI 72), .int (nI 6), .int (nI k21)])), (ln21, .inl (g.2.1 2, 25, .inr (.inl f22)))] ++ pl) _ := hP
  have hD : va_D _ ([(r21, .inr (3, [.ref ln21, .int (nI 72), .int (nI 6), .int (nI k21)])), (ln21, .inl (g.2.1 2, 25, .inr (.inl f22)))] ++ pl) := hD
  have hq22 : k21 < 72 := hq22
  refine W.widen (k := 0) (n := 0) (by omega) (by omega) ?_
  refine lv_aload_n hx hb dKM_makePair_19 rfl (lv_at hl 0 rfl) ?_
  refine ty_get (ci := 5) (C := "LatticeKeys$Kem") (TT := T_KM) (N := 10) (kd := (13, 0)) hx hb hts (wg_ft i_KM) hown hK hO k_h0 (nxg (clo_cons (clo_cons hc0 kr21 (by decide)) kl21 (by decide)) k_h0 rfl) hP (fun _ h9 => h9) rfl 0 (by decide) (hts _ (wg_t kw_107)) (fun _ h9 => h9) (cd := (3, 10, 1)) rfl dKM_makePair_20 (fun v23 hv23 => ?_)
  obtain ⟨r23, rfl, kr23⟩ := (show ∃ r : Nat, v23 = .ref r ∧ T r = some (10, 1) from hv23)
  obtain rfl : r21 = r23 := hU _ _ _ (by decide) kr21 kr23
  refine lv_aload_n hx hb dKM_makePair_23 rfl (lv_at hl 1 rfl) ?_
  refine ty_get (ci := 1) (C := "LatticeKeys$KemSet") (TT := T_KS) (N := 10) (kd := (42, 0)) hx hb hts (wg_ft i_KS) hown hK hO k_st (nxg (clo_cons (clo_cons hc0 kr21 (by decide)) kl21 (by decide)) k_st rfl) hP (fun _ h9 => h9) rfl 0 (by decide) (hts _ (wg_t kw_231)) (fun _ h9 => h9) (cd := (1, 0, 4)) rfl dKM_makePair_24 (fun v24 hv24 => ?_)
  obtain rfl := (show v24 = .int (nI 4) from hv24)
  refine mp_v (cx := [(r21, .inr (3, [.ref ln21, .int (nI 72), .int (nI 6), .int (nI k21)])), (ln21, .inl (g.2.1 2, 25, .inr (.inl f22)))]) (wr := []) hP hD hS hA [0, 1] [] rfl rfl rfl (by decide) (va_runV (As := [.int (nI 4)]) (rest := []) F (t_SP_absorbByte l g _ T (ln21 :: (r21 :: xs)) pl hO hU  (nI 4) r21 ln21 72 k21 (nI 6) f22 (by omega) (by omega)) (cwV 1 hts (wg_app (wg_c kw_609 (wg_c kw_590 (wg_c kw_591 (wg_c kw_2 wg_n)))) kw_592) rfl rfl rfl (by decide +kernel) ⟨by decide, by decide⟩) (pp_V (en_ok g) (q0 := 0) hK hP hD hS hA hE [0, 1] rfl rfl rfl rfl) rfl rfl hl.1 rfl (lv_room (Nat.le_of_ble_eq_true rfl)) dKM_makePair_27 ⟨by omega, by omega⟩) (fun  u25 H locs hu23 hP hD hS => ?_)
  obtain ⟨u26, pl⟩ := u25
  obtain ⟨hq23, hO⟩ := hu23
  obtain ⟨k22, f23⟩ := u26
  have hP : va_P g.1 vcl ([(r21, .inr (3, [.ref ln21, .int (nI 72), .int (nI 6), .int (nI k22)])), (ln21, .inl (g.2.1 2, 25, .inr (.inl f23)))] ++ pl) _ := hP
  have hD : va_D _ ([(r21, .inr (3, [.ref ln21, .int (nI 72), .int (nI 6), .int (nI k22)])), (ln21, .inl (g.2.1 2, 25, .inr (.inl f23)))] ++ pl) := hD
  have hq23 : k22 < 72 := hq23
  refine W.widen (k := 0) (n := 0) (by omega) (by omega) ?_
  refine lv_aload_n hx hb dKM_makePair_30 rfl (lv_at hl 0 rfl) ?_
  refine ty_get (ci := 5) (C := "LatticeKeys$Kem") (TT := T_KM) (N := 10) (kd := (13, 0)) hx hb hts (wg_ft i_KM) hown hK hO k_h0 (nxg (clo_cons (clo_cons hc0 kr21 (by decide)) kl21 (by decide)) k_h0 rfl) hP (fun _ h9 => h9) rfl 0 (by decide) (hts _ (wg_t kw_107)) (fun _ h9 => h9) (cd := (3, 10, 1)) rfl dKM_makePair_31 (fun v25 hv25 => ?_)
  obtain ⟨r24, rfl, kr24⟩ := (show ∃ r : Nat, v25 = .ref r ∧ T r = some (10, 1) from hv25)
  obtain rfl : r21 = r24 := hU _ _ _ (by decide) kr21 kr24
  refine mp_v (cx := [(r21, .inr (3, [.ref ln21, .int (nI 72), .int (nI 6), .int (nI k22)])), (ln21, .inl (g.2.1 2, 25, .inr (.inl f23)))]) (wr := []) hP hD hS hA [0, 1] [] rfl rfl rfl (by decide) (va_runV (As := []) (rest := []) F (t_SP_finish l g _ T (ln21 :: (r21 :: xs)) pl hO hU  r21 ln21 72 k22 (nI 6) f23 (by omega) (by omega)) (cwV 0 hts (wg_app (wg_c kw_610 (wg_c kw_611 (wg_c kw_612 (wg_c kw_2 wg_n)))) kw_613) rfl rfl rfl (by decide +kernel) ⟨by decide, by decide⟩) (pp_V (en_ok g) (q0 := 0) hK hP hD hS hA hE [0, 1] rfl rfl rfl rfl) rfl rfl hl.1 rfl (lv_room (Nat.le_of_ble_eq_true rfl)) dKM_makePair_34 ⟨by omega, by omega⟩) (fun  u27 H locs hu24 hP hD hS => ?_)
  obtain ⟨u28, pl⟩ := u27
  obtain ⟨hq24, hO⟩ := hu24
  have hP : va_P g.1 vcl ([(r21, .inr (3, [.ref ln21, .int (nI 72), .int (nI 6), .int (nI 72)])), (ln21, .inl (g.2.1 2, 25, .inr (.inl u28)))] ++ pl) _ := hP
  have hD : va_D _ ([(r21, .inr (3, [.ref ln21, .int (nI 72), .int (nI 6), .int (nI 72)])), (ln21, .inl (g.2.1 2, 25, .inr (.inl u28)))] ++ pl) := hD
  refine W.widen (k := 0) (n := 0) (by omega) (by omega) ?_
  refine lv_aload_n hx hb dKM_makePair_37 rfl (lv_at hl 0 rfl) ?_
  refine ty_get (ci := 5) (C := "LatticeKeys$Kem") (TT := T_KM) (N := 10) (kd := (13, 0)) hx hb hts (wg_ft i_KM) hown hK hO k_h0 (nxg (clo_cons (clo_cons hc0 kr21 (by decide)) kl21 (by decide)) k_h0 rfl) hP (fun _ h9 => h9) rfl 0 (by decide) (hts _ (wg_t kw_107)) (fun _ h9 => h9) (cd := (3, 10, 1)) rfl dKM_makePair_38 (fun v26 hv26 => ?_)
  obtain ⟨r25, rfl, kr25⟩ := (show ∃ r : Nat, v26 = .ref r ∧ T r = some (10, 1) from hv26)
  obtain rfl : r21 = r25 := hU _ _ _ (by decide) kr21 kr25
  refine lv_aload_n hx hb dKM_makePair_41 rfl (lv_at hl 0 rfl) ?_
  refine ty_get (ci := 5) (C := "LatticeKeys$Kem") (TT := T_KM) (N := 10) (kd := (13, 0)) hx hb hts (wg_ft i_KM) hown hK hO k_h0 (nxg (clo_cons (clo_cons hc0 kr21 (by decide)) kl21 (by decide)) k_h0 rfl) hP (fun _ h9 => h9) rfl 7 (by decide) (hts _ (wg_t kw_114)) (fun _ h9 => h9) (cd := (3, 1, 64)) rfl dKM_makePair_42 (fun v27 hv27 => ?_)
  obtain ⟨r26, rfl, kr26⟩ := (show ∃ r : Nat, v27 = .ref r ∧ T r = some (1, 64) from hv27)
  refine lv_iconst (v := nI 0) hx hb dKM_makePair_45 (by decide) ?_
  refine lv_bipush (v := nI 64) hx hb dKM_makePair_46 (by decide) ?_
  refine mp_v (cx := [(r21, .inr (3, [.ref ln21, .int (nI 72), .int (nI 6), .int (nI 72)])), (ln21, .inl (g.2.1 2, 25, .inr (.inl u28)))]) (wr := []) hP hD hS hA [0, 1] [] rfl rfl rfl (by decide) (va_runV (As := [.ref r26, .int (nI 0), .int (nI 64)]) (rest := []) F (t_SP_squeeze l g _ T (ln21 :: (r21 :: xs)) pl hO hU (clo_cons (clo_cons hc0 kr21 (by decide)) kl21 (by decide)) r26 64 0 64 r21 ln21 72 72 (nI 6) u28 kr26 (by omega) (by omega) (by omega) (by omega)) (cwV 3 hts (wg_app (wg_c kw_614 (wg_c kw_615 (wg_c kw_616 (wg_c kw_2 wg_n)))) kw_617) rfl rfl rfl (by decide +kernel) ⟨by decide, by decide⟩) (pp_V (en_ok g) (q0 := 0) hK hP hD hS hA hE [0, 1] rfl rfl rfl rfl) rfl rfl hl.1 rfl (lv_room (Nat.le_of_ble_eq_true rfl)) dKM_makePair_48 ⟨by omega, by omega⟩) (fun  u29 H locs hu25 hP hD hS => ?_)
  obtain ⟨u30, pl⟩ := u29
  obtain ⟨hq25, hO⟩ := hu25
  obtain ⟨k23, f24⟩ := u30
  have hP : va_P g.1 vcl ([(r21, .inr (3, [.ref ln21, .int (nI 72), .int (nI 6), .int (nI k23)])), (ln21, .inl (g.2.1 2, 25, .inr (.inl f24)))] ++ pl) _ := hP
  have hD : va_D _ ([(r21, .inr (3, [.ref ln21, .int (nI 72), .int (nI 6), .int (nI k23)])), (ln21, .inl (g.2.1 2, 25, .inr (.inl f24)))] ++ pl) := hD
  have hq25 : k23 ≤ 72 := hq25
  refine W.widen (k := 0) (n := 0) (by omega) (by omega) ?_
  refine lv_aload_n hx hb dKM_makePair_51 rfl (lv_at hl 0 rfl) ?_
  refine ty_get (ci := 5) (C := "LatticeKeys$Kem") (TT := T_KM) (N := 10) (kd := (13, 0)) hx hb hts (wg_ft i_KM) hown hK hO k_h0 (nxg (clo_cons (clo_cons hc0 kr21 (by decide)) kl21 (by decide)) k_h0 rfl) hP (fun _ h9 => h9) rfl 7 (by decide) (hts _ (wg_t kw_114)) (fun _ h9 => h9) (cd := (3, 1, 64)) rfl dKM_makePair_52 (fun v28 hv28 => ?_)
  obtain ⟨r27, rfl, kr27⟩ := (show ∃ r : Nat, v28 = .ref r ∧ T r = some (1, 64) from hv28)
  refine lv_iconst (v := nI 0) hx hb dKM_makePair_55 (by decide) ?_
  refine lv_aload_n hx hb dKM_makePair_56 rfl (lv_at hl 3 rfl) ?_
  refine lv_aload_n hx hb dKM_makePair_57 rfl (lv_at hl 1 rfl) ?_
  refine ty_get (ci := 1) (C := "LatticeKeys$KemSet") (TT := T_KS) (N := 10) (kd := (42, 0)) hx hb hts (wg_ft i_KS) hown hK hO k_st (nxg (clo_cons (clo_cons hc0 kr21 (by decide)) kl21 (by decide)) k_st rfl) hP (fun _ h9 => h9) rfl 4 (by decide) (hts _ (wg_t kw_239)) (fun _ h9 => h9) (cd := (1, 0, 1568)) rfl dKM_makePair_58 (fun v29 hv29 => ?_)
  obtain rfl := (show v29 = .int (nI 1568) from hv29)
  refine lv_bipush (v := nI 32) hx hb dKM_makePair_61 (by decide) ?_
  refine mi_isub hx hb dKM_makePair_63 (by omega) ?_
  refine mi_as (show nI (1568 - 32) = nI 1536 from rfl) ?_
  refine lv_bipush (v := nI 32) hx hb dKM_makePair_64 (by decide) ?_
  refine ty_copyb11 hx hb (hml.trans hl.1.symm) hown (hts _ (wg_t kw_622)) (hts _ (wg_t kw_526)) (hts _ (wg_t kw_525)) (hts _ (wg_t kw_19)) hK hO kr27 (nxg (clo_cons (clo_cons hc0 kr21 (by decide)) kl21 (by decide)) kr27 rfl) k_pk (nxg (clo_cons (clo_cons hc0 kr21 (by decide)) kl21 (by decide)) k_pk rfl) hP hD hS (sp := 0) (dp := 1536) (n := 32) (by omega) (by omega) (by omega) (by decide) (Nat.le_of_ble_eq_true rfl) dKM_makePair_66 (fun pl H locs hO hP hD hS => ?_)
  refine lv_iconst (v := nI 0) hx hb dKM_makePair_69 (by decide) ?_
  refine lv_istore (lv' := [(5, .int (nI 0)), (0, .ref h0), (1, .ref st), (2, .ref ch), (3, .ref pk), (4, .ref sk)]) hx hb dKM_makePair_70 hl (by decide) rfl (fun ls hl => ?_)
  have hO := close1 (e := .inl (g.2.1 2, 25, .inr (.inl f24))) hO kl21 ⟨_, rfl⟩
  have hO := close1 (e := .inr (3, [.ref ln21, .int (nI 72), .int (nI 6), .int (nI k23)])) hO kr21 ⟨_, _, _, _, rfl, kl21, by omega, by omega, by omega⟩
  have hO : okx g T xs ((r21, .inr (3, [.ref ln21, .int (nI 72), .int (nI 6), .int (nI k23)])) :: (ln21, .inl (g.2.1 2, 25, .inr (.inl f24))) :: pl) := hO
  have hP : va_P g.1 vcl ([] ++ ((r21, .inr (3, [.ref ln21, .int (nI 72), .int (nI 6), .int (nI k23)])) :: (ln21, .inl (g.2.1 2, 25, .inr (.inl f24))) :: pl)) _ := hP
  have hD : va_D _ ([] ++ ((r21, .inr (3, [.ref ln21, .int (nI 72), .int (nI 6), .int (nI k23)])) :: (ln21, .inl (g.2.1 2, 25, .inr (.inl f24))) :: pl)) := hD
  generalize ((r21, .inr (3, [.ref ln21, .int (nI 72), .int (nI 6), .int (nI k23)])) :: (ln21, .inl (g.2.1 2, 25, .inr (.inl f24))) :: pl) = pl at hO hP hD
  have lp21 : ∀ (n21 : Nat) (i21 : Nat) (pl : va_W) (ls : Array Slot) (H : Heap) (locs : List Loc), n21 + i21 = 4 → lv_has ls 7 [(5, .int (nI i21)), (0, .ref h0), (1, .ref st), (2, .ref ch), (3, .ref pk), (4, .ref sk)] → okx g T xs pl → va_P g.1 vcl ([] ++ pl) H → va_D A ([] ++ pl) → va_S A s.heap H locs → W p l e ({ frames := 4, cells := 0, slots := 0, locals := 131 } : Room) s m args below meth c H locs 0 0 (MQ below (va_Qv (fun (u : va_W) => (True) ∧ okx g T xs u) (po g.1 vcl A (fun (u : va_W) => [] ++ u)) A) args s 0 0 A) (F0 m 72 ls []) := by
    intro n21
    induction n21 with
    | zero =>
      intro i21 pl ls H locs hm21  hl hO hP hD hS
      refine lv_iload hx hb dKM_makePair_72 (lv_at hl 0 rfl) ?_
      refine lv_aload_n hx hb dKM_makePair_74 rfl (lv_at hl 2 rfl) ?_
      refine ty_get (ci := 1) (C := "LatticeKeys$KemSet") (TT := T_KS) (N := 10) (kd := (42, 0)) hx hb hts (wg_ft i_KS) hown hK hO k_st (nxg hc0 k_st rfl) hP (fun _ h9 => h9) rfl 0 (by decide) (hts _ (wg_t kw_231)) (fun _ h9 => h9) (cd := (1, 0, 4)) rfl dKM_makePair_75 (fun v30 hv30 => ?_)
      obtain rfl := (show v30 = .int (nI 4) from hv30)
      refine mi_ge (tgt := 138) hx hb dKM_makePair_78 (by decide) (by omega) (by omega) (fun h21 => ?_) (fun h21 => absurd h21 (by omega))
      refine lv_iconst (v := nI 0) hx hb dKM_makePair_138 (by decide) ?_
      refine lv_istore (lv' := [(5, .int (nI 0)), (0, .ref h0), (1, .ref st), (2, .ref ch), (3, .ref pk), (4, .ref sk)]) hx hb dKM_makePair_139 hl (by decide) rfl (fun ls hl => ?_)
      have lp22 : ∀ (n22 : Nat) (i22 : Nat) (pl : va_W) (ls : Array Slot) (H : Heap) (locs : List Loc), n22 + i22 = 4 → lv_has ls 7 [(5, .int (nI i22)), (0, .ref h0), (1, .ref st), (2, .ref ch), (3, .ref pk), (4, .ref sk)] → okx g T xs pl → va_P g.1 vcl ([] ++ pl) H → va_D A ([] ++ pl) → va_S A s.heap H locs → W p l e ({ frames := 4, cells := 0, slots := 0, locals := 131 } : Room) s m args below meth c H locs 0 0 (MQ below (va_Qv (fun (u : va_W) => (True) ∧ okx g T xs u) (po g.1 vcl A (fun (u : va_W) => [] ++ u)) A) args s 0 0 A) (F0 m 141 ls []) := by
        intro n22
        induction n22 with
        | zero =>
          intro i22 pl ls H locs hm22  hl hO hP hD hS
          refine lv_iload hx hb dKM_makePair_141 (lv_at hl 0 rfl) ?_
          refine lv_aload_n hx hb dKM_makePair_143 rfl (lv_at hl 2 rfl) ?_
          refine ty_get (ci := 1) (C := "LatticeKeys$KemSet") (TT := T_KS) (N := 10) (kd := (42, 0)) hx hb hts (wg_ft i_KS) hown hK hO k_st (nxg hc0 k_st rfl) hP (fun _ h9 => h9) rfl 0 (by decide) (hts _ (wg_t kw_231)) (fun _ h9 => h9) (cd := (1, 0, 4)) rfl dKM_makePair_144 (fun v31 hv31 => ?_)
          obtain rfl := (show v31 = .int (nI 4) from hv31)
          refine mi_ge (tgt := 258) hx hb dKM_makePair_147 (by decide) (by omega) (by omega) (fun h22 => ?_) (fun h22 => absurd h22 (by omega))
          refine lv_aload_n hx hb dKM_makePair_258 rfl (lv_at hl 4 rfl) ?_
          refine lv_iconst (v := nI 0) hx hb dKM_makePair_259 (by decide) ?_
          refine lv_aload hx hb dKM_makePair_260 (lv_at hl 5 rfl) ?_
          refine lv_aload_n hx hb dKM_makePair_262 rfl (lv_at hl 2 rfl) ?_
          refine ty_get (ci := 1) (C := "LatticeKeys$KemSet") (TT := T_KS) (N := 10) (kd := (42, 0)) hx hb hts (wg_ft i_KS) hown hK hO k_st (nxg hc0 k_st rfl) hP (fun _ h9 => h9) rfl 7 (by decide) (hts _ (wg_t kw_247)) (fun _ h9 => h9) (cd := (1, 0, 1536)) rfl dKM_makePair_263 (fun v32 hv32 => ?_)
          obtain rfl := (show v32 = .int (nI 1536) from hv32)
          refine lv_aload_n hx hb dKM_makePair_266 rfl (lv_at hl 2 rfl) ?_
          refine ty_get (ci := 1) (C := "LatticeKeys$KemSet") (TT := T_KS) (N := 10) (kd := (42, 0)) hx hb hts (wg_ft i_KS) hown hK hO k_st (nxg hc0 k_st rfl) hP (fun _ h9 => h9) rfl 4 (by decide) (hts _ (wg_t kw_239)) (fun _ h9 => h9) (cd := (1, 0, 1568)) rfl dKM_makePair_267 (fun v33 hv33 => ?_)
          obtain rfl := (show v33 = .int (nI 1568) from hv33)
          refine ty_copyb11 hx hb (hml.trans hl.1.symm) hown (hts _ (wg_t kw_622)) (hts _ (wg_t kw_526)) (hts _ (wg_t kw_525)) (hts _ (wg_t kw_19)) hK hO k_pk (nxg hc0 k_pk rfl) k_sk (nxg hc0 k_sk rfl) hP hD hS (sp := 0) (dp := 1536) (n := 1568) (by omega) (by omega) (by omega) (by decide) (Nat.le_of_ble_eq_true rfl) dKM_makePair_270 (fun pl H locs hO hP hD hS => ?_)
          refine lv_aload_n hx hb dKM_makePair_273 rfl (lv_at hl 1 rfl) ?_
          refine lv_aload_n hx hb dKM_makePair_274 rfl (lv_at hl 4 rfl) ?_
          refine lv_iconst (v := nI 0) hx hb dKM_makePair_275 (by decide) ?_
          refine lv_aload_n hx hb dKM_makePair_276 rfl (lv_at hl 2 rfl) ?_
          refine ty_get (ci := 1) (C := "LatticeKeys$KemSet") (TT := T_KS) (N := 10) (kd := (42, 0)) hx hb hts (wg_ft i_KS) hown hK hO k_st (nxg hc0 k_st rfl) hP (fun _ h9 => h9) rfl 4 (by decide) (hts _ (wg_t kw_239)) (fun _ h9 => h9) (cd := (1, 0, 1568)) rfl dKM_makePair_277 (fun v34 hv34 => ?_)
          obtain rfl := (show v34 = .int (nI 1568) from hv34)
          refine mp_v (cx := []) (wr := []) hP hD hS hA [] [] rfl rfl rfl (by decide) (va_runV (As := [.ref pk, .int (nI 0), .int (nI 1568)]) (rest := []) F (t_KM_digestOf l g _ T xs pl hO hU hc0 hc2 h0 pk 1568 0 1568 k_h0 k_pk (by omega) (by omega)) (cwV 3 hts (wg_app (wg_c kw_661 (wg_c kw_663 (wg_c ks_10 (wg_c kw_3 wg_n)))) kw_664) rfl rfl rfl (by decide +kernel) ⟨by decide, by decide⟩) (pp_VT (en_ok g) (ci := 5) (kd := (13, 0)) hK hO k_h0 (nxg hc0 k_h0 rfl) (fun _ h9 => ko1 h9) hP hD hS hA hE [] rfl rfl rfl) rfl rfl hl.1 rfl (lv_room (Nat.le_of_ble_eq_true rfl)) dKM_makePair_280 ⟨by omega, by omega⟩) (fun  pl H locs hu26 hP hD hS => ?_)
          obtain ⟨hq26, hO⟩ := hu26
          have hP : va_P g.1 vcl ([] ++ pl) _ := hP
          have hD : va_D _ ([] ++ pl) := hD
          refine W.widen (k := 0) (n := 0) (by omega) (by omega) ?_
          refine lv_aload_n hx hb dKM_makePair_283 rfl (lv_at hl 1 rfl) ?_
          refine ty_get (ci := 5) (C := "LatticeKeys$Kem") (TT := T_KM) (N := 10) (kd := (13, 0)) hx hb hts (wg_ft i_KM) hown hK hO k_h0 (nxg hc0 k_h0 rfl) hP (fun _ h9 => h9) rfl 6 (by decide) (hts _ (wg_t kw_113)) (fun _ h9 => h9) (cd := (3, 1, 32)) rfl dKM_makePair_284 (fun v35 hv35 => ?_)
          obtain ⟨r28, rfl, kr28⟩ := (show ∃ r : Nat, v35 = .ref r ∧ T r = some (1, 32) from hv35)
          refine lv_iconst (v := nI 0) hx hb dKM_makePair_287 (by decide) ?_
          refine lv_aload hx hb dKM_makePair_288 (lv_at hl 5 rfl) ?_
          refine lv_aload_n hx hb dKM_makePair_290 rfl (lv_at hl 2 rfl) ?_
          refine ty_get (ci := 1) (C := "LatticeKeys$KemSet") (TT := T_KS) (N := 10) (kd := (42, 0)) hx hb hts (wg_ft i_KS) hown hK hO k_st (nxg hc0 k_st rfl) hP (fun _ h9 => h9) rfl 8 (by decide) (hts _ (wg_t kw_250)) (fun _ h9 => h9) (cd := (1, 0, 3104)) rfl dKM_makePair_291 (fun v36 hv36 => ?_)
          obtain rfl := (show v36 = .int (nI 3104) from hv36)
          refine lv_bipush (v := nI 32) hx hb dKM_makePair_294 (by decide) ?_
          refine ty_copyb11 hx hb (hml.trans hl.1.symm) hown (hts _ (wg_t kw_622)) (hts _ (wg_t kw_526)) (hts _ (wg_t kw_525)) (hts _ (wg_t kw_19)) hK hO kr28 (nxg hc0 kr28 rfl) k_sk (nxg hc0 k_sk rfl) hP hD hS (sp := 0) (dp := 3104) (n := 32) (by omega) (by omega) (by omega) (by decide) (Nat.le_of_ble_eq_true rfl) dKM_makePair_296 (fun pl H locs hO hP hD hS => ?_)
          refine lv_aload_n hx hb dKM_makePair_299 rfl (lv_at hl 3 rfl) ?_
          refine lv_bipush (v := nI 32) hx hb dKM_makePair_300 (by decide) ?_
          refine lv_aload hx hb dKM_makePair_302 (lv_at hl 5 rfl) ?_
          refine lv_aload_n hx hb dKM_makePair_304 rfl (lv_at hl 2 rfl) ?_
          refine ty_get (ci := 1) (C := "LatticeKeys$KemSet") (TT := T_KS) (N := 10) (kd := (42, 0)) hx hb hts (wg_ft i_KS) hown hK hO k_st (nxg hc0 k_st rfl) hP (fun _ h9 => h9) rfl 9 (by decide) (hts _ (wg_t kw_252)) (fun _ h9 => h9) (cd := (1, 0, 3136)) rfl dKM_makePair_305 (fun v37 hv37 => ?_)
          obtain rfl := (show v37 = .int (nI 3136) from hv37)
          refine lv_bipush (v := nI 32) hx hb dKM_makePair_308 (by decide) ?_
          refine ty_copyb11 hx hb (hml.trans hl.1.symm) hown (hts _ (wg_t kw_622)) (hts _ (wg_t kw_526)) (hts _ (wg_t kw_525)) (hts _ (wg_t kw_19)) hK hO k_ch (nxg hc0 k_ch rfl) k_sk (nxg hc0 k_sk rfl) hP hD hS (sp := 32) (dp := 3136) (n := 32) (by omega) (by omega) (by omega) (by decide) (Nat.le_of_ble_eq_true rfl) dKM_makePair_310 (fun pl H locs hO hP hD hS => ?_)
          exact mp_vret hx hb hr hlk hP hD hS pl ⟨trivial, hO⟩ [] rfl rfl rfl (by omega) (by omega) dKM_makePair_313
        | succ n22 ih22 =>
          intro i22 pl ls H locs hm22  hl hO hP hD hS
          refine lv_iload hx hb dKM_makePair_141 (lv_at hl 0 rfl) ?_
          refine lv_aload_n hx hb dKM_makePair_143 rfl (lv_at hl 2 rfl) ?_
          refine ty_get (ci := 1) (C := "LatticeKeys$KemSet") (TT := T_KS) (N := 10) (kd := (42, 0)) hx hb hts (wg_ft i_KS) hown hK hO k_st (nxg hc0 k_st rfl) hP (fun _ h9 => h9) rfl 0 (by decide) (hts _ (wg_t kw_231)) (fun _ h9 => h9) (cd := (1, 0, 4)) rfl dKM_makePair_144 (fun v38 hv38 => ?_)
          obtain rfl := (show v38 = .int (nI 4) from hv38)
          refine mi_ge (tgt := 258) hx hb dKM_makePair_147 (by decide) (by omega) (by omega) (fun h23 => absurd h23 (by omega)) (fun h23 => ?_)
          refine lv_aload_n hx hb dKM_makePair_150 rfl (lv_at hl 1 rfl) ?_
          refine lv_aload_n hx hb dKM_makePair_151 rfl (lv_at hl 1 rfl) ?_
          refine ty_get (ci := 5) (C := "LatticeKeys$Kem") (TT := T_KM) (N := 10) (kd := (13, 0)) hx hb hts (wg_ft i_KM) hown hK hO k_h0 (nxg hc0 k_h0 rfl) hP (fun _ h9 => h9) rfl 3 (by decide) (hts _ (wg_t kw_110)) (fun _ h9 => h9) (cd := (3, 0, 256)) rfl dKM_makePair_152 (fun v39 hv39 => ?_)
          obtain ⟨r29, rfl, kr29⟩ := (show ∃ r : Nat, v39 = .ref r ∧ T r = some (0, 256) from hv39)
          refine lv_aload_n hx hb dKM_makePair_155 rfl (lv_at hl 2 rfl) ?_
          refine ty_get (ci := 1) (C := "LatticeKeys$KemSet") (TT := T_KS) (N := 10) (kd := (42, 0)) hx hb hts (wg_ft i_KS) hown hK hO k_st (nxg hc0 k_st rfl) hP (fun _ h9 => h9) rfl 1 (by decide) (hts _ (wg_t kw_233)) (fun _ h9 => h9) (cd := (1, 0, 2)) rfl dKM_makePair_156 (fun v40 hv40 => ?_)
          obtain rfl := (show v40 = .int (nI 2) from hv40)
          refine lv_aload_n hx hb dKM_makePair_159 rfl (lv_at hl 2 rfl) ?_
          refine ty_get (ci := 1) (C := "LatticeKeys$KemSet") (TT := T_KS) (N := 10) (kd := (42, 0)) hx hb hts (wg_ft i_KS) hown hK hO k_st (nxg hc0 k_st rfl) hP (fun _ h9 => h9) rfl 0 (by decide) (hts _ (wg_t kw_231)) (fun _ h9 => h9) (cd := (1, 0, 4)) rfl dKM_makePair_160 (fun v41 hv41 => ?_)
          obtain rfl := (show v41 = .int (nI 4) from hv41)
          refine lv_iload hx hb dKM_makePair_163 (lv_at hl 0 rfl) ?_
          refine mi_iadd hx hb dKM_makePair_165 ?_
          refine mp_v (cx := []) (wr := []) hP hD hS hA [] [] rfl rfl rfl (by decide) (va_runV (As := [.ref r29, .int (nI 2), .int (nI (4 + i22))]) (rest := []) F (t_KM_sampleNoise_2 l g _ T xs pl hO hU hc0 hc2 h0 r29 (nI (4 + i22)) k_h0 kr29) (cwV 3 hts (wg_app (wg_c kw_623 (wg_c kw_625 (wg_c ks_6 (wg_c kw_3 wg_n)))) kw_626) rfl rfl rfl (by decide +kernel) ⟨by decide, by decide⟩) (pp_VT (en_ok g) (ci := 5) (kd := (13, 0)) hK hO k_h0 (nxg hc0 k_h0 rfl) (fun _ h9 => ko1 h9) hP hD hS hA hE [] rfl rfl rfl) rfl rfl hl.1 rfl (lv_room (Nat.le_of_ble_eq_true rfl)) dKM_makePair_166 ⟨by omega, by omega⟩) (fun  pl H locs hu27 hP hD hS => ?_)
          obtain ⟨hq27, hO⟩ := hu27
          have hP : va_P g.1 vcl ([] ++ pl) _ := hP
          have hD : va_D _ ([] ++ pl) := hD
          refine W.widen (k := 0) (n := 0) (by omega) (by omega) ?_
          refine lv_aload_n hx hb dKM_makePair_169 rfl (lv_at hl 1 rfl) ?_
          refine ty_get (ci := 5) (C := "LatticeKeys$Kem") (TT := T_KM) (N := 10) (kd := (13, 0)) hx hb hts (wg_ft i_KM) hown hK hO k_h0 (nxg hc0 k_h0 rfl) hP (fun _ h9 => h9) rfl 1 (by decide) (hts _ (wg_t kw_108)) (fun _ h9 => h9) (cd := (3, 11, 0)) rfl dKM_makePair_170 (fun v42 hv42 => ?_)
          obtain ⟨r30, rfl, kr30⟩ := (show ∃ r : Nat, v42 = .ref r ∧ T r = some (11, 0) from hv42)
          refine lv_aload_n hx hb dKM_makePair_173 rfl (lv_at hl 1 rfl) ?_
          refine ty_get (ci := 5) (C := "LatticeKeys$Kem") (TT := T_KM) (N := 10) (kd := (13, 0)) hx hb hts (wg_ft i_KM) hown hK hO k_h0 (nxg hc0 k_h0 rfl) hP (fun _ h9 => h9) rfl 3 (by decide) (hts _ (wg_t kw_110)) (fun _ h9 => h9) (cd := (3, 0, 256)) rfl dKM_makePair_174 (fun v43 hv43 => ?_)
          obtain ⟨r31, rfl, kr31⟩ := (show ∃ r : Nat, v43 = .ref r ∧ T r = some (0, 256) from hv43)
          refine mp_v (cx := []) (wr := []) hP hD hS hA [] [] rfl rfl rfl (by decide) (va_runV (As := [.ref r31]) (rest := []) F (t_RG_transform_11 l g _ T xs pl hO hU hc0 r30 r31 kr30 kr31) (cwV 1 hts (wg_app (wg_c kw_636 (wg_c kw_637 (wg_c kw_638 (wg_c kw_4 wg_n)))) kw_639) rfl rfl rfl (by decide +kernel) ⟨by decide, by decide⟩) (pp_VT (en_ok g) (ci := 4) (kd := (11, 0)) hK hO kr30 (nxg hc0 kr30 rfl) (fun _ h9 => ko1 h9) hP hD hS hA hE [] rfl rfl rfl) rfl rfl hl.1 rfl (lv_room (Nat.le_of_ble_eq_true rfl)) dKM_makePair_177 ⟨by omega, by omega⟩) (fun  pl H locs hu28 hP hD hS => ?_)
          obtain ⟨hq28, hO⟩ := hu28
          have hP : va_P g.1 vcl ([] ++ pl) _ := hP
          have hD : va_D _ ([] ++ pl) := hD
          refine W.widen (k := 0) (n := 0) (by omega) (by omega) ?_
          refine lv_iconst (v := nI 0) hx hb dKM_makePair_180 (by decide) ?_
          refine lv_istore (lv' := [(6, .int (nI 0)), (5, .int (nI i22)), (0, .ref h0), (1, .ref st), (2, .ref ch), (3, .ref pk), (4, .ref sk)]) hx hb dKM_makePair_181 hl (by decide) rfl (fun ls hl => ?_)
          have lp23 : ∀ (n23 : Nat) (i23 : Nat) (pl : va_W) (ls : Array Slot) (H : Heap) (locs : List Loc), n23 + i23 = 4 → lv_has ls 7 [(6, .int (nI i23)), (5, .int (nI i22)), (0, .ref h0), (1, .ref st), (2, .ref ch), (3, .ref pk), (4, .ref sk)] → okx g T xs pl → va_P g.1 vcl ([] ++ pl) H → va_D A ([] ++ pl) → va_S A s.heap H locs → W p l e ({ frames := 4, cells := 0, slots := 0, locals := 131 } : Room) s m args below meth c H locs 0 0 (MQ below (va_Qv (fun (u : va_W) => (True) ∧ okx g T xs u) (po g.1 vcl A (fun (u : va_W) => [] ++ u)) A) args s 0 0 A) (F0 m 183 ls []) := by
            intro n23
            induction n23 with
            | zero =>
              intro i23 pl ls H locs hm23  hl hO hP hD hS
              refine lv_iload hx hb dKM_makePair_183 (lv_at hl 0 rfl) ?_
              refine lv_aload_n hx hb dKM_makePair_185 rfl (lv_at hl 3 rfl) ?_
              refine ty_get (ci := 1) (C := "LatticeKeys$KemSet") (TT := T_KS) (N := 10) (kd := (42, 0)) hx hb hts (wg_ft i_KS) hown hK hO k_st (nxg hc0 k_st rfl) hP (fun _ h9 => h9) rfl 0 (by decide) (hts _ (wg_t kw_231)) (fun _ h9 => h9) (cd := (1, 0, 4)) rfl dKM_makePair_186 (fun v44 hv44 => ?_)
              obtain rfl := (show v44 = .int (nI 4) from hv44)
              refine mi_ge (tgt := 236) hx hb dKM_makePair_189 (by decide) (by omega) (by omega) (fun h24 => ?_) (fun h24 => absurd h24 (by omega))
              refine lv_aload_n hx hb dKM_makePair_236 rfl (lv_at hl 2 rfl) ?_
              refine ty_get (ci := 5) (C := "LatticeKeys$Kem") (TT := T_KM) (N := 10) (kd := (13, 0)) hx hb hts (wg_ft i_KM) hown hK hO k_h0 (nxg hc0 k_h0 rfl) hP (fun _ h9 => h9) rfl 3 (by decide) (hts _ (wg_t kw_110)) (fun _ h9 => h9) (cd := (3, 0, 256)) rfl dKM_makePair_237 (fun v45 hv45 => ?_)
              obtain ⟨r32, rfl, kr32⟩ := (show ∃ r : Nat, v45 = .ref r ∧ T r = some (0, 256) from hv45)
              refine lv_bipush (v := nI 12) hx hb dKM_makePair_240 (by decide) ?_
              refine lv_aload_n hx hb dKM_makePair_242 rfl (lv_at hl 5 rfl) ?_
              refine lv_sipush (v := nI 384) hx hb dKM_makePair_243 (by decide) ?_
              refine lv_iload hx hb dKM_makePair_246 (lv_at hl 1 rfl) ?_
              refine mi_imul hx hb dKM_makePair_248 ?_
              refine mp_v (cx := []) (wr := []) hP hD hS hA [] [] rfl rfl rfl (by decide) (va_runS (As := [.ref r32, .int (nI 12), .ref pk, .int (nI (384 * i22))]) (rest := []) F (t_BT_pack l g _ T xs pl hO hU hc0 r32 pk 1568 12 (384 * i22) kr32 k_pk (by omega) (by omega) (by omega)) (va_cwS 4 hts (wg_app (wg_c kw_644 (wg_c kw_645 (wg_c kw_22 wg_n))) kw_646) rfl rfl rfl (by decide +kernel) ⟨by decide, by decide⟩) (pp_S (en_ok g) hP hD hS hA hE [] rfl rfl) rfl rfl hl.1 rfl (lv_room (Nat.le_of_ble_eq_true rfl)) dKM_makePair_249 ⟨by omega, by omega⟩) (fun  pl H locs hu29 hP hD hS => ?_)
              obtain ⟨hq29, hO⟩ := hu29
              have hP : va_P g.1 vcl ([] ++ pl) _ := hP
              have hD : va_D _ ([] ++ pl) := hD
              refine W.widen (k := 0) (n := 0) (by omega) (by omega) ?_
              refine mi_iinc (k := 1) (x := i22) (d := 1) (y := i22 + 1) (lv' := [(5, .int (nI (i22 + 1))), (6, .int (nI i23)), (0, .ref h0), (1, .ref st), (2, .ref ch), (3, .ref pk), (4, .ref sk)]) hx hb dKM_makePair_252 hl rfl (by decide) rfl (by decide) rfl (fun ls hl => ?_)
              refine lv_goto (tgt := 141) hx hb dKM_makePair_255 (by decide) ?_
              exact ih22 (i22 + 1) pl ls H locs (by omega) (lv_sub hl [0, 2, 3, 4, 5, 6] rfl) hO hP hD hS
            | succ n23 ih23 =>
              intro i23 pl ls H locs hm23  hl hO hP hD hS
              refine lv_iload hx hb dKM_makePair_183 (lv_at hl 0 rfl) ?_
              refine lv_aload_n hx hb dKM_makePair_185 rfl (lv_at hl 3 rfl) ?_
              refine ty_get (ci := 1) (C := "LatticeKeys$KemSet") (TT := T_KS) (N := 10) (kd := (42, 0)) hx hb hts (wg_ft i_KS) hown hK hO k_st (nxg hc0 k_st rfl) hP (fun _ h9 => h9) rfl 0 (by decide) (hts _ (wg_t kw_231)) (fun _ h9 => h9) (cd := (1, 0, 4)) rfl dKM_makePair_186 (fun v46 hv46 => ?_)
              obtain rfl := (show v46 = .int (nI 4) from hv46)
              refine mi_ge (tgt := 236) hx hb dKM_makePair_189 (by decide) (by omega) (by omega) (fun h25 => absurd h25 (by omega)) (fun h25 => ?_)
              refine lv_aload_n hx hb dKM_makePair_192 rfl (lv_at hl 2 rfl) ?_
              refine lv_aload_n hx hb dKM_makePair_193 rfl (lv_at hl 5 rfl) ?_
              refine lv_aload_n hx hb dKM_makePair_194 rfl (lv_at hl 3 rfl) ?_
              refine ty_get (ci := 1) (C := "LatticeKeys$KemSet") (TT := T_KS) (N := 10) (kd := (42, 0)) hx hb hts (wg_ft i_KS) hown hK hO k_st (nxg hc0 k_st rfl) hP (fun _ h9 => h9) rfl 4 (by decide) (hts _ (wg_t kw_239)) (fun _ h9 => h9) (cd := (1, 0, 1568)) rfl dKM_makePair_195 (fun v47 hv47 => ?_)
              obtain rfl := (show v47 = .int (nI 1568) from hv47)
              refine lv_bipush (v := nI 32) hx hb dKM_makePair_198 (by decide) ?_
              refine mi_isub hx hb dKM_makePair_200 (by omega) ?_
              refine mi_as (show nI (1568 - 32) = nI 1536 from rfl) ?_
              refine lv_iload hx hb dKM_makePair_201 (lv_at hl 0 rfl) ?_
              refine lv_iload hx hb dKM_makePair_203 (lv_at hl 1 rfl) ?_
              refine mp_v (cx := []) (wr := []) hP hD hS hA [] [] rfl rfl rfl (by decide) (va_runV (As := [.ref pk, .int (nI 1536), .int (nI i23), .int (nI i22)]) (rest := []) F (t_KM_sampleEntry l g _ T xs pl hO hU hc0 hc2 h0 pk 1568 1536 (nI i23) (nI i22) k_h0 k_pk (by omega) (by omega)) (cwV 4 hts (wg_app (wg_c kw_647 (wg_c kw_649 (wg_c ks_8 (wg_c kw_3 wg_n)))) kw_650) rfl rfl rfl (by decide +kernel) ⟨by decide, by decide⟩) (pp_VT (en_ok g) (ci := 5) (kd := (13, 0)) hK hO k_h0 (nxg hc0 k_h0 rfl) (fun _ h9 => ko1 h9) hP hD hS hA hE [] rfl rfl rfl) rfl rfl hl.1 rfl (lv_room (Nat.le_of_ble_eq_true rfl)) dKM_makePair_205 ⟨by omega, by omega⟩) (fun  pl H locs hu30 hP hD hS => ?_)
              obtain ⟨hq30, hO⟩ := hu30
              have hP : va_P g.1 vcl ([] ++ pl) _ := hP
              have hD : va_D _ ([] ++ pl) := hD
              refine W.widen (k := 0) (n := 0) (by omega) (by omega) ?_
              refine lv_aload_n hx hb dKM_makePair_208 rfl (lv_at hl 2 rfl) ?_
              refine ty_get (ci := 5) (C := "LatticeKeys$Kem") (TT := T_KM) (N := 10) (kd := (13, 0)) hx hb hts (wg_ft i_KM) hown hK hO k_h0 (nxg hc0 k_h0 rfl) hP (fun _ h9 => h9) rfl 1 (by decide) (hts _ (wg_t kw_108)) (fun _ h9 => h9) (cd := (3, 11, 0)) rfl dKM_makePair_209 (fun v48 hv48 => ?_)
              obtain ⟨r33, rfl, kr33⟩ := (show ∃ r : Nat, v48 = .ref r ∧ T r = some (11, 0) from hv48)
              refine lv_aload_n hx hb dKM_makePair_212 rfl (lv_at hl 2 rfl) ?_
              refine ty_get (ci := 5) (C := "LatticeKeys$Kem") (TT := T_KM) (N := 10) (kd := (13, 0)) hx hb hts (wg_ft i_KM) hown hK hO k_h0 (nxg hc0 k_h0 rfl) hP (fun _ h9 => h9) rfl 3 (by decide) (hts _ (wg_t kw_110)) (fun _ h9 => h9) (cd := (3, 0, 256)) rfl dKM_makePair_213 (fun v49 hv49 => ?_)
              obtain ⟨r34, rfl, kr34⟩ := (show ∃ r : Nat, v49 = .ref r ∧ T r = some (0, 256) from hv49)
              refine lv_aload_n hx hb dKM_makePair_216 rfl (lv_at hl 2 rfl) ?_
              refine ty_get (ci := 5) (C := "LatticeKeys$Kem") (TT := T_KM) (N := 10) (kd := (13, 0)) hx hb hts (wg_ft i_KM) hown hK hO k_h0 (nxg hc0 k_h0 rfl) hP (fun _ h9 => h9) rfl 4 (by decide) (hts _ (wg_t kw_111)) (fun _ h9 => h9) (cd := (3, 0, 256)) rfl dKM_makePair_217 (fun v50 hv50 => ?_)
              obtain ⟨r35, rfl, kr35⟩ := (show ∃ r : Nat, v50 = .ref r ∧ T r = some (0, 256) from hv50)
              refine lv_aload_n hx hb dKM_makePair_220 rfl (lv_at hl 2 rfl) ?_
              refine ty_get (ci := 5) (C := "LatticeKeys$Kem") (TT := T_KM) (N := 10) (kd := (13, 0)) hx hb hts (wg_ft i_KM) hown hK hO k_h0 (nxg hc0 k_h0 rfl) hP (fun _ h9 => h9) rfl 2 (by decide) (hts _ (wg_t kw_109)) (fun _ h9 => h9) (cd := (3, 3, 4)) rfl dKM_makePair_221 (fun v51 hv51 => ?_)
              obtain ⟨r36, rfl, kr36⟩ := (show ∃ r : Nat, v51 = .ref r ∧ T r = some (3, 4) from hv51)
              refine lv_iload hx hb dKM_makePair_224 (lv_at hl 0 rfl) ?_
              refine ty_aald3 hx hb hK hO kr36 (nxg hc0 kr36 rfl) hP (by omega) (by decide) dKM_makePair_226 (fun r37 kr37 => ?_)
              refine mp_v (cx := []) (wr := []) hP hD hS hA [] [] rfl rfl rfl (by decide) (va_runV (As := [.ref r34, .ref r35, .ref r37]) (rest := []) F (t_RG_addProduct_11 l g _ T xs pl hO hU hc0 r33 r34 r35 r37 kr33 kr34 kr35 kr37) (cwV 3 hts (wg_app (wg_c kw_653 (wg_c kw_654 (wg_c kw_655 (wg_c kw_4 wg_n)))) kw_656) rfl rfl rfl (by decide +kernel) ⟨by decide, by decide⟩) (pp_VT (en_ok g) (ci := 4) (kd := (11, 0)) hK hO kr33 (nxg hc0 kr33 rfl) (fun _ h9 => ko1 h9) hP hD hS hA hE [] rfl rfl rfl) rfl rfl hl.1 rfl (lv_room (Nat.le_of_ble_eq_true rfl)) dKM_makePair_227 ⟨by omega, by omega⟩) (fun  pl H locs hu31 hP hD hS => ?_)
              obtain ⟨hq31, hO⟩ := hu31
              have hP : va_P g.1 vcl ([] ++ pl) _ := hP
              have hD : va_D _ ([] ++ pl) := hD
              refine W.widen (k := 0) (n := 0) (by omega) (by omega) ?_
              refine mi_iinc (k := 0) (x := i23) (d := 1) (y := i23 + 1) (lv' := [(6, .int (nI (i23 + 1))), (5, .int (nI i22)), (0, .ref h0), (1, .ref st), (2, .ref ch), (3, .ref pk), (4, .ref sk)]) hx hb dKM_makePair_230 hl rfl (by decide) rfl (by decide) rfl (fun ls hl => ?_)
              refine lv_goto (tgt := 183) hx hb dKM_makePair_233 (by decide) ?_
              exact ih23 (i23 + 1) pl ls H locs (by omega) (lv_sub hl [0, 1, 2, 3, 4, 5, 6] rfl) hO hP hD hS
          exact lp23 4 0 pl ls _ _ (by omega) (lv_sub hl [0, 1, 2, 3, 4, 5, 6] rfl) hO hP hD hS
      exact lp22 4 0 pl ls _ _ (by omega) (lv_sub hl [0, 1, 2, 3, 4, 5] rfl) hO hP hD hS
    | succ n21 ih21 =>
      intro i21 pl ls H locs hm21  hl hO hP hD hS
      refine lv_iload hx hb dKM_makePair_72 (lv_at hl 0 rfl) ?_
      refine lv_aload_n hx hb dKM_makePair_74 rfl (lv_at hl 2 rfl) ?_
      refine ty_get (ci := 1) (C := "LatticeKeys$KemSet") (TT := T_KS) (N := 10) (kd := (42, 0)) hx hb hts (wg_ft i_KS) hown hK hO k_st (nxg hc0 k_st rfl) hP (fun _ h9 => h9) rfl 0 (by decide) (hts _ (wg_t kw_231)) (fun _ h9 => h9) (cd := (1, 0, 4)) rfl dKM_makePair_75 (fun v52 hv52 => ?_)
      obtain rfl := (show v52 = .int (nI 4) from hv52)
      refine mi_ge (tgt := 138) hx hb dKM_makePair_78 (by decide) (by omega) (by omega) (fun h26 => absurd h26 (by omega)) (fun h26 => ?_)
      refine lv_aload_n hx hb dKM_makePair_81 rfl (lv_at hl 1 rfl) ?_
      refine lv_aload_n hx hb dKM_makePair_82 rfl (lv_at hl 1 rfl) ?_
      refine ty_get (ci := 5) (C := "LatticeKeys$Kem") (TT := T_KM) (N := 10) (kd := (13, 0)) hx hb hts (wg_ft i_KM) hown hK hO k_h0 (nxg hc0 k_h0 rfl) hP (fun _ h9 => h9) rfl 2 (by decide) (hts _ (wg_t kw_109)) (fun _ h9 => h9) (cd := (3, 3, 4)) rfl dKM_makePair_83 (fun v53 hv53 => ?_)
      obtain ⟨r38, rfl, kr38⟩ := (show ∃ r : Nat, v53 = .ref r ∧ T r = some (3, 4) from hv53)
      refine lv_iload hx hb dKM_makePair_86 (lv_at hl 0 rfl) ?_
      refine ty_aald3 hx hb hK hO kr38 (nxg hc0 kr38 rfl) hP (by omega) (by decide) dKM_makePair_88 (fun r39 kr39 => ?_)
      refine lv_aload_n hx hb dKM_makePair_89 rfl (lv_at hl 2 rfl) ?_
      refine ty_get (ci := 1) (C := "LatticeKeys$KemSet") (TT := T_KS) (N := 10) (kd := (42, 0)) hx hb hts (wg_ft i_KS) hown hK hO k_st (nxg hc0 k_st rfl) hP (fun _ h9 => h9) rfl 1 (by decide) (hts _ (wg_t kw_233)) (fun _ h9 => h9) (cd := (1, 0, 2)) rfl dKM_makePair_90 (fun v54 hv54 => ?_)
      obtain rfl := (show v54 = .int (nI 2) from hv54)
      refine lv_iload hx hb dKM_makePair_93 (lv_at hl 0 rfl) ?_
      refine mp_v (cx := []) (wr := []) hP hD hS hA [] [] rfl rfl rfl (by decide) (va_runV (As := [.ref r39, .int (nI 2), .int (nI i21)]) (rest := []) F (t_KM_sampleNoise_2 l g _ T xs pl hO hU hc0 hc2 h0 r39 (nI i21) k_h0 kr39) (cwV 3 hts (wg_app (wg_c kw_623 (wg_c kw_625 (wg_c ks_6 (wg_c kw_3 wg_n)))) kw_626) rfl rfl rfl (by decide +kernel) ⟨by decide, by decide⟩) (pp_VT (en_ok g) (ci := 5) (kd := (13, 0)) hK hO k_h0 (nxg hc0 k_h0 rfl) (fun _ h9 => ko1 h9) hP hD hS hA hE [] rfl rfl rfl) rfl rfl hl.1 rfl (lv_room (Nat.le_of_ble_eq_true rfl)) dKM_makePair_95 ⟨by omega, by omega⟩) (fun  pl H locs hu32 hP hD hS => ?_)
      obtain ⟨hq32, hO⟩ := hu32
      have hP : va_P g.1 vcl ([] ++ pl) _ := hP
      have hD : va_D _ ([] ++ pl) := hD
      refine W.widen (k := 0) (n := 0) (by omega) (by omega) ?_
      refine lv_aload_n hx hb dKM_makePair_98 rfl (lv_at hl 1 rfl) ?_
      refine ty_get (ci := 5) (C := "LatticeKeys$Kem") (TT := T_KM) (N := 10) (kd := (13, 0)) hx hb hts (wg_ft i_KM) hown hK hO k_h0 (nxg hc0 k_h0 rfl) hP (fun _ h9 => h9) rfl 1 (by decide) (hts _ (wg_t kw_108)) (fun _ h9 => h9) (cd := (3, 11, 0)) rfl dKM_makePair_99 (fun v55 hv55 => ?_)
      obtain ⟨r40, rfl, kr40⟩ := (show ∃ r : Nat, v55 = .ref r ∧ T r = some (11, 0) from hv55)
      refine lv_aload_n hx hb dKM_makePair_102 rfl (lv_at hl 1 rfl) ?_
      refine ty_get (ci := 5) (C := "LatticeKeys$Kem") (TT := T_KM) (N := 10) (kd := (13, 0)) hx hb hts (wg_ft i_KM) hown hK hO k_h0 (nxg hc0 k_h0 rfl) hP (fun _ h9 => h9) rfl 2 (by decide) (hts _ (wg_t kw_109)) (fun _ h9 => h9) (cd := (3, 3, 4)) rfl dKM_makePair_103 (fun v56 hv56 => ?_)
      obtain ⟨r41, rfl, kr41⟩ := (show ∃ r : Nat, v56 = .ref r ∧ T r = some (3, 4) from hv56)
      refine lv_iload hx hb dKM_makePair_106 (lv_at hl 0 rfl) ?_
      refine ty_aald3 hx hb hK hO kr41 (nxg hc0 kr41 rfl) hP (by omega) (by decide) dKM_makePair_108 (fun r42 kr42 => ?_)
      refine mp_v (cx := []) (wr := []) hP hD hS hA [] [] rfl rfl rfl (by decide) (va_runV (As := [.ref r42]) (rest := []) F (t_RG_transform_11 l g _ T xs pl hO hU hc0 r40 r42 kr40 kr42) (cwV 1 hts (wg_app (wg_c kw_636 (wg_c kw_637 (wg_c kw_638 (wg_c kw_4 wg_n)))) kw_639) rfl rfl rfl (by decide +kernel) ⟨by decide, by decide⟩) (pp_VT (en_ok g) (ci := 4) (kd := (11, 0)) hK hO kr40 (nxg hc0 kr40 rfl) (fun _ h9 => ko1 h9) hP hD hS hA hE [] rfl rfl rfl) rfl rfl hl.1 rfl (lv_room (Nat.le_of_ble_eq_true rfl)) dKM_makePair_109 ⟨by omega, by omega⟩) (fun  pl H locs hu33 hP hD hS => ?_)
      obtain ⟨hq33, hO⟩ := hu33
      have hP : va_P g.1 vcl ([] ++ pl) _ := hP
      have hD : va_D _ ([] ++ pl) := hD
      refine W.widen (k := 0) (n := 0) (by omega) (by omega) ?_
      refine lv_aload_n hx hb dKM_makePair_112 rfl (lv_at hl 1 rfl) ?_
      refine ty_get (ci := 5) (C := "LatticeKeys$Kem") (TT := T_KM) (N := 10) (kd := (13, 0)) hx hb hts (wg_ft i_KM) hown hK hO k_h0 (nxg hc0 k_h0 rfl) hP (fun _ h9 => h9) rfl 2 (by decide) (hts _ (wg_t kw_109)) (fun _ h9 => h9) (cd := (3, 3, 4)) rfl dKM_makePair_113 (fun v57 hv57 => ?_)
      obtain ⟨r43, rfl, kr43⟩ := (show ∃ r : Nat, v57 = .ref r ∧ T r = some (3, 4) from hv57)
      refine lv_iload hx hb dKM_makePair_116 (lv_at hl 0 rfl) ?_
      refine ty_aald3 hx hb hK hO kr43 (nxg hc0 kr43 rfl) hP (by omega) (by decide) dKM_makePair_118 (fun r44 kr44 => ?_)
      refine lv_bipush (v := nI 12) hx hb dKM_makePair_119 (by decide) ?_
      refine lv_aload hx hb dKM_makePair_121 (lv_at hl 5 rfl) ?_
      refine lv_sipush (v := nI 384) hx hb dKM_makePair_123 (by decide) ?_
      refine lv_iload hx hb dKM_makePair_126 (lv_at hl 0 rfl) ?_
      refine mi_imul hx hb dKM_makePair_128 ?_
      refine mp_v (cx := []) (wr := []) hP hD hS hA [] [] rfl rfl rfl (by decide) (va_runS (As := [.ref r44, .int (nI 12), .ref sk, .int (nI (384 * i21))]) (rest := []) F (t_BT_pack l g _ T xs pl hO hU hc0 r44 sk 3168 12 (384 * i21) kr44 k_sk (by omega) (by omega) (by omega)) (va_cwS 4 hts (wg_app (wg_c kw_644 (wg_c kw_645 (wg_c kw_22 wg_n))) kw_646) rfl rfl rfl (by decide +kernel) ⟨by decide, by decide⟩) (pp_S (en_ok g) hP hD hS hA hE [] rfl rfl) rfl rfl hl.1 rfl (lv_room (Nat.le_of_ble_eq_true rfl)) dKM_makePair_129 ⟨by omega, by omega⟩) (fun  pl H locs hu34 hP hD hS => ?_)
      obtain ⟨hq34, hO⟩ := hu34
      have hP : va_P g.1 vcl ([] ++ pl) _ := hP
      have hD : va_D _ ([] ++ pl) := hD
      refine W.widen (k := 0) (n := 0) (by omega) (by omega) ?_
      refine mi_iinc (k := 0) (x := i21) (d := 1) (y := i21 + 1) (lv' := [(5, .int (nI (i21 + 1))), (0, .ref h0), (1, .ref st), (2, .ref ch), (3, .ref pk), (4, .ref sk)]) hx hb dKM_makePair_132 hl rfl (by decide) rfl (by decide) rfl (fun ls hl => ?_)
      refine lv_goto (tgt := 72) hx hb dKM_makePair_135 (by decide) ?_
      exact ih21 (i21 + 1) pl ls H locs (by omega) (lv_sub hl [0, 1, 2, 3, 4, 5] rfl) hO hP hD hS
  exact lp21 4 0 pl ls _ _ (by omega) (lv_sub hl [0, 1, 2, 3, 4, 5] rfl) hO hP hD hS
set_option maxHeartbeats 400000 in
set_option maxRecDepth 100000 in
theorem t_KM_encapsulate_0 (l : Launch) (g : Gd) (sz : Nat) (T : Ty) (xs : List Nat) (pl : va_W) (hO : okx g T xs pl) (hU : uni T) (hc0 : clo T xs 0) (hc2 : clo T xs 2) (h0 st pk ch to n : Nat) (k_h0 : T h0 = some (13, 0)) (k_st : T st = some (40, 0)) (k_pk : T pk = some (1, 800)) (k_ch : T ch = some (1, n)) (k_to : T to = some (1, 8192)) (h1 : 32 ≤ n) (h2 : n < 65536)  : Met l y_KM_encapsulate w_KM_encapsulate ({ frames := 5, cells := 0, slots := 0, locals := 156 } : Room) (va_Pc [.ref h0, .ref st, .ref pk, .ref ch, .ref to] (pr (en g) g.1 vcl sz ([] ++ pl))) (va_Qv (fun (u : va_W) => (True) ∧ okx g T xs u) (po g.1 vcl (va_A ([] ++ pl) sz) (fun (u : va_W) => [] ++ u)) (va_A ([] ++ pl) sz)) 0 0 (va_A ([] ++ pl) sz) := by
  refine mc_entry (cc := c_KM_encapsulate) (maxL := 5) (ret := none) (by decide) rfl (Nat.le_of_ble_eq_true rfl) ?_
  intro p e s m args below meth c ls F hr hlk hnm hsz hP hD hE hA hl
  obtain ⟨hx, hb, hml, hown, hts⟩ := id F
  have hK := hE.1
  generalize va_A ([] ++ pl) sz = A at hD hE hA ⊢
  have hS : va_S A s.heap s.heap [] := va_S.rf
  have hl : lv_has ls 5 [(0, .ref h0), (1, .ref st), (2, .ref pk), (3, .ref ch), (4, .ref to)] := hl
  refine lv_aload_n hx hb dKM_encapsulate_0 rfl (lv_at hl 3 rfl) ?_
  refine lv_iconst (v := nI 0) hx hb dKM_encapsulate_1 (by decide) ?_
  refine lv_aload_n hx hb dKM_encapsulate_2 rfl (lv_at hl 0 rfl) ?_
  refine ty_get (ci := 5) (C := "LatticeKeys$Kem") (TT := T_KM) (N := 10) (kd := (13, 0)) hx hb hts (wg_ft i_KM) hown hK hO k_h0 (nxg hc0 k_h0 rfl) hP (fun _ h9 => h9) rfl 5 (by decide) (hts _ (wg_t kw_112)) (fun _ h9 => h9) (cd := (3, 1, 32)) rfl dKM_encapsulate_3 (fun v21 hv21 => ?_)
  obtain ⟨r21, rfl, kr21⟩ := (show ∃ r : Nat, v21 = .ref r ∧ T r = some (1, 32) from hv21)
  refine lv_iconst (v := nI 0) hx hb dKM_encapsulate_6 (by decide) ?_
  refine lv_bipush (v := nI 32) hx hb dKM_encapsulate_7 (by decide) ?_
  refine ty_copyb11 hx hb (hml.trans hl.1.symm) hown (hts _ (wg_t kw_622)) (hts _ (wg_t kw_526)) (hts _ (wg_t kw_525)) (hts _ (wg_t kw_19)) hK hO k_ch (nxg hc0 k_ch rfl) kr21 (nxg hc0 kr21 rfl) hP hD hS (sp := 0) (dp := 0) (n := 32) (by omega) (by omega) (by omega) (by decide) (Nat.le_of_ble_eq_true rfl) dKM_encapsulate_9 (fun pl H locs hO hP hD hS => ?_)
  refine lv_aload_n hx hb dKM_encapsulate_12 rfl (lv_at hl 0 rfl) ?_
  refine lv_aload_n hx hb dKM_encapsulate_13 rfl (lv_at hl 2 rfl) ?_
  refine lv_iconst (v := nI 0) hx hb dKM_encapsulate_14 (by decide) ?_
  refine lv_aload_n hx hb dKM_encapsulate_15 rfl (lv_at hl 1 rfl) ?_
  refine ty_get (ci := 1) (C := "LatticeKeys$KemSet") (TT := T_KS) (N := 10) (kd := (40, 0)) hx hb hts (wg_ft i_KS) hown hK hO k_st (nxg hc0 k_st rfl) hP (fun _ h9 => h9) rfl 4 (by decide) (hts _ (wg_t kw_239)) (fun _ h9 => h9) (cd := (1, 0, 800)) rfl dKM_encapsulate_16 (fun v22 hv22 => ?_)
  obtain rfl := (show v22 = .int (nI 800) from hv22)
  refine mp_v (cx := []) (wr := []) hP hD hS hA [] [] rfl rfl rfl (by decide) (va_runV (As := [.ref pk, .int (nI 0), .int (nI 800)]) (rest := []) F (t_KM_digestOf l g _ T xs pl hO hU hc0 hc2 h0 pk 800 0 800 k_h0 k_pk (by omega) (by omega)) (cwV 3 hts (wg_app (wg_c kw_661 (wg_c kw_663 (wg_c ks_10 (wg_c kw_3 wg_n)))) kw_664) rfl rfl rfl (by decide +kernel) ⟨by decide, by decide⟩) (pp_VT (en_ok g) (ci := 5) (kd := (13, 0)) hK hO k_h0 (nxg hc0 k_h0 rfl) (fun _ h9 => ko1 h9) hP hD hS hA hE [] rfl rfl rfl) rfl rfl hl.1 rfl (lv_room (Nat.le_of_ble_eq_true rfl)) dKM_encapsulate_19 ⟨by omega, by omega⟩) (fun  pl H locs hu21 hP hD hS => ?_)
  obtain ⟨hq21, hO⟩ := hu21
  have hP : va_P g.1 vcl ([] ++ pl) _ := hP
  have hD : va_D _ ([] ++ pl) := hD
  refine W.widen (k := 0) (n := 0) (by omega) (by omega) ?_
  refine lv_aload_n hx hb dKM_encapsulate_22 rfl (lv_at hl 0 rfl) ?_
  refine lv_aload_n hx hb dKM_encapsulate_23 rfl (lv_at hl 0 rfl) ?_
  refine ty_get (ci := 5) (C := "LatticeKeys$Kem") (TT := T_KM) (N := 10) (kd := (13, 0)) hx hb hts (wg_ft i_KM) hown hK hO k_h0 (nxg hc0 k_h0 rfl) hP (fun _ h9 => h9) rfl 6 (by decide) (hts _ (wg_t kw_113)) (fun _ h9 => h9) (cd := (3, 1, 32)) rfl dKM_encapsulate_24 (fun v23 hv23 => ?_)
  obtain ⟨r22, rfl, kr22⟩ := (show ∃ r : Nat, v23 = .ref r ∧ T r = some (1, 32) from hv23)
  refine lv_iconst (v := nI 0) hx hb dKM_encapsulate_27 (by decide) ?_
  refine mp_v (cx := []) (wr := []) hP hD hS hA [] [] rfl rfl rfl (by decide) (va_runV (As := [.ref r22, .int (nI 0)]) (rest := []) F (t_KM_deriveSeeds l g _ T xs pl hO hU hc0 hc2 h0 r22 32 0 k_h0 kr22 (by omega) (by omega)) (cwV 2 hts (wg_app (wg_c kw_1114 (wg_c kw_1116 (wg_c ks_26 (wg_c kw_3 wg_n)))) kw_1117) rfl rfl rfl (by decide +kernel) ⟨by decide, by decide⟩) (pp_VT (en_ok g) (ci := 5) (kd := (13, 0)) hK hO k_h0 (nxg hc0 k_h0 rfl) (fun _ h9 => ko1 h9) hP hD hS hA hE [] rfl rfl rfl) rfl rfl hl.1 rfl (lv_room (Nat.le_of_ble_eq_true rfl)) dKM_encapsulate_28 ⟨by omega, by omega⟩) (fun  pl H locs hu22 hP hD hS => ?_)
  obtain ⟨hq22, hO⟩ := hu22
  have hP : va_P g.1 vcl ([] ++ pl) _ := hP
  have hD : va_D _ ([] ++ pl) := hD
  refine W.widen (k := 0) (n := 0) (by omega) (by omega) ?_
  refine lv_aload_n hx hb dKM_encapsulate_31 rfl (lv_at hl 0 rfl) ?_
  refine lv_aload_n hx hb dKM_encapsulate_32 rfl (lv_at hl 1 rfl) ?_
  refine lv_aload_n hx hb dKM_encapsulate_33 rfl (lv_at hl 2 rfl) ?_
  refine lv_aload hx hb dKM_encapsulate_34 (lv_at hl 4 rfl) ?_
  refine mp_v (cx := []) (wr := []) hP hD hS hA [] [] rfl rfl rfl (by decide) (va_runV (As := [.ref st, .ref pk, .ref to]) (rest := []) F (t_KM_encrypt_0 l g _ T xs pl hO hU hc0 hc2 h0 st pk to 8192 k_h0 k_st k_pk k_to (by omega) (by omega)) (cwV 3 hts (wg_app (wg_c kw_1118 (wg_c kw_1120 (wg_c ks_27 (wg_c kw_3 wg_n)))) kw_1121) rfl rfl rfl (by decide +kernel) ⟨by decide, by decide⟩) (pp_VT (en_ok g) (ci := 5) (kd := (13, 0)) hK hO k_h0 (nxg hc0 k_h0 rfl) (fun _ h9 => ko1 h9) hP hD hS hA hE [] rfl rfl rfl) rfl rfl hl.1 rfl (lv_room (Nat.le_of_ble_eq_true rfl)) dKM_encapsulate_36 ⟨by omega, by omega⟩) (fun  pl H locs hu23 hP hD hS => ?_)
  obtain ⟨hq23, hO⟩ := hu23
  have hP : va_P g.1 vcl ([] ++ pl) _ := hP
  have hD : va_D _ ([] ++ pl) := hD
  refine W.widen (k := 0) (n := 0) (by omega) (by omega) ?_
  refine lv_aload_n hx hb dKM_encapsulate_39 rfl (lv_at hl 0 rfl) ?_
  refine ty_get (ci := 5) (C := "LatticeKeys$Kem") (TT := T_KM) (N := 10) (kd := (13, 0)) hx hb hts (wg_ft i_KM) hown hK hO k_h0 (nxg hc0 k_h0 rfl) hP (fun _ h9 => h9) rfl 7 (by decide) (hts _ (wg_t kw_114)) (fun _ h9 => h9) (cd := (3, 1, 64)) rfl dKM_encapsulate_40 (fun v24 hv24 => ?_)
  obtain ⟨r23, rfl, kr23⟩ := (show ∃ r : Nat, v24 = .ref r ∧ T r = some (1, 64) from hv24)
  refine lv_iconst (v := nI 0) hx hb dKM_encapsulate_43 (by decide) ?_
  refine lv_aload hx hb dKM_encapsulate_44 (lv_at hl 4 rfl) ?_
  refine lv_aload_n hx hb dKM_encapsulate_46 rfl (lv_at hl 1 rfl) ?_
  refine ty_get (ci := 1) (C := "LatticeKeys$KemSet") (TT := T_KS) (N := 10) (kd := (40, 0)) hx hb hts (wg_ft i_KS) hown hK hO k_st (nxg hc0 k_st rfl) hP (fun _ h9 => h9) rfl 6 (by decide) (hts _ (wg_t kw_244)) (fun _ h9 => h9) (cd := (1, 0, 768)) rfl dKM_encapsulate_47 (fun v25 hv25 => ?_)
  obtain rfl := (show v25 = .int (nI 768) from hv25)
  refine lv_bipush (v := nI 32) hx hb dKM_encapsulate_50 (by decide) ?_
  refine ty_copyb11 hx hb (hml.trans hl.1.symm) hown (hts _ (wg_t kw_622)) (hts _ (wg_t kw_526)) (hts _ (wg_t kw_525)) (hts _ (wg_t kw_19)) hK hO kr23 (nxg hc0 kr23 rfl) k_to (nxg hc0 k_to rfl) hP hD hS (sp := 0) (dp := 768) (n := 32) (by omega) (by omega) (by omega) (by decide) (Nat.le_of_ble_eq_true rfl) dKM_encapsulate_52 (fun pl H locs hO hP hD hS => ?_)
  exact mp_vret hx hb hr hlk hP hD hS pl ⟨trivial, hO⟩ [] rfl rfl rfl (by omega) (by omega) dKM_encapsulate_55
set_option maxHeartbeats 400000 in
set_option maxRecDepth 100000 in
theorem t_KM_encapsulate_1 (l : Launch) (g : Gd) (sz : Nat) (T : Ty) (xs : List Nat) (pl : va_W) (hO : okx g T xs pl) (hU : uni T) (hc0 : clo T xs 0) (hc2 : clo T xs 2) (h0 st pk ch to n : Nat) (k_h0 : T h0 = some (13, 0)) (k_st : T st = some (41, 0)) (k_pk : T pk = some (1, 1184)) (k_ch : T ch = some (1, n)) (k_to : T to = some (1, 8192)) (h1 : 32 ≤ n) (h2 : n < 65536)  : Met l y_KM_encapsulate w_KM_encapsulate ({ frames := 5, cells := 0, slots := 0, locals := 156 } : Room) (va_Pc [.ref h0, .ref st, .ref pk, .ref ch, .ref to] (pr (en g) g.1 vcl sz ([] ++ pl))) (va_Qv (fun (u : va_W) => (True) ∧ okx g T xs u) (po g.1 vcl (va_A ([] ++ pl) sz) (fun (u : va_W) => [] ++ u)) (va_A ([] ++ pl) sz)) 0 0 (va_A ([] ++ pl) sz) := by
  refine mc_entry (cc := c_KM_encapsulate) (maxL := 5) (ret := none) (by decide) rfl (Nat.le_of_ble_eq_true rfl) ?_
  intro p e s m args below meth c ls F hr hlk hnm hsz hP hD hE hA hl
  obtain ⟨hx, hb, hml, hown, hts⟩ := id F
  have hK := hE.1
  generalize va_A ([] ++ pl) sz = A at hD hE hA ⊢
  have hS : va_S A s.heap s.heap [] := va_S.rf
  have hl : lv_has ls 5 [(0, .ref h0), (1, .ref st), (2, .ref pk), (3, .ref ch), (4, .ref to)] := hl
  refine lv_aload_n hx hb dKM_encapsulate_0 rfl (lv_at hl 3 rfl) ?_
  refine lv_iconst (v := nI 0) hx hb dKM_encapsulate_1 (by decide) ?_
  refine lv_aload_n hx hb dKM_encapsulate_2 rfl (lv_at hl 0 rfl) ?_
  refine ty_get (ci := 5) (C := "LatticeKeys$Kem") (TT := T_KM) (N := 10) (kd := (13, 0)) hx hb hts (wg_ft i_KM) hown hK hO k_h0 (nxg hc0 k_h0 rfl) hP (fun _ h9 => h9) rfl 5 (by decide) (hts _ (wg_t kw_112)) (fun _ h9 => h9) (cd := (3, 1, 32)) rfl dKM_encapsulate_3 (fun v21 hv21 => ?_)
  obtain ⟨r21, rfl, kr21⟩ := (show ∃ r : Nat, v21 = .ref r ∧ T r = some (1, 32) from hv21)
  refine lv_iconst (v := nI 0) hx hb dKM_encapsulate_6 (by decide) ?_
  refine lv_bipush (v := nI 32) hx hb dKM_encapsulate_7 (by decide) ?_
  refine ty_copyb11 hx hb (hml.trans hl.1.symm) hown (hts _ (wg_t kw_622)) (hts _ (wg_t kw_526)) (hts _ (wg_t kw_525)) (hts _ (wg_t kw_19)) hK hO k_ch (nxg hc0 k_ch rfl) kr21 (nxg hc0 kr21 rfl) hP hD hS (sp := 0) (dp := 0) (n := 32) (by omega) (by omega) (by omega) (by decide) (Nat.le_of_ble_eq_true rfl) dKM_encapsulate_9 (fun pl H locs hO hP hD hS => ?_)
  refine lv_aload_n hx hb dKM_encapsulate_12 rfl (lv_at hl 0 rfl) ?_
  refine lv_aload_n hx hb dKM_encapsulate_13 rfl (lv_at hl 2 rfl) ?_
  refine lv_iconst (v := nI 0) hx hb dKM_encapsulate_14 (by decide) ?_
  refine lv_aload_n hx hb dKM_encapsulate_15 rfl (lv_at hl 1 rfl) ?_
  refine ty_get (ci := 1) (C := "LatticeKeys$KemSet") (TT := T_KS) (N := 10) (kd := (41, 0)) hx hb hts (wg_ft i_KS) hown hK hO k_st (nxg hc0 k_st rfl) hP (fun _ h9 => h9) rfl 4 (by decide) (hts _ (wg_t kw_239)) (fun _ h9 => h9) (cd := (1, 0, 1184)) rfl dKM_encapsulate_16 (fun v22 hv22 => ?_)
  obtain rfl := (show v22 = .int (nI 1184) from hv22)
  refine mp_v (cx := []) (wr := []) hP hD hS hA [] [] rfl rfl rfl (by decide) (va_runV (As := [.ref pk, .int (nI 0), .int (nI 1184)]) (rest := []) F (t_KM_digestOf l g _ T xs pl hO hU hc0 hc2 h0 pk 1184 0 1184 k_h0 k_pk (by omega) (by omega)) (cwV 3 hts (wg_app (wg_c kw_661 (wg_c kw_663 (wg_c ks_10 (wg_c kw_3 wg_n)))) kw_664) rfl rfl rfl (by decide +kernel) ⟨by decide, by decide⟩) (pp_VT (en_ok g) (ci := 5) (kd := (13, 0)) hK hO k_h0 (nxg hc0 k_h0 rfl) (fun _ h9 => ko1 h9) hP hD hS hA hE [] rfl rfl rfl) rfl rfl hl.1 rfl (lv_room (Nat.le_of_ble_eq_true rfl)) dKM_encapsulate_19 ⟨by omega, by omega⟩) (fun  pl H locs hu21 hP hD hS => ?_)
  obtain ⟨hq21, hO⟩ := hu21
  have hP : va_P g.1 vcl ([] ++ pl) _ := hP
  have hD : va_D _ ([] ++ pl) := hD
  refine W.widen (k := 0) (n := 0) (by omega) (by omega) ?_
  refine lv_aload_n hx hb dKM_encapsulate_22 rfl (lv_at hl 0 rfl) ?_
  refine lv_aload_n hx hb dKM_encapsulate_23 rfl (lv_at hl 0 rfl) ?_
  refine ty_get (ci := 5) (C := "LatticeKeys$Kem") (TT := T_KM) (N := 10) (kd := (13, 0)) hx hb hts (wg_ft i_KM) hown hK hO k_h0 (nxg hc0 k_h0 rfl) hP (fun _ h9 => h9) rfl 6 (by decide) (hts _ (wg_t kw_113)) (fun _ h9 => h9) (cd := (3, 1, 32)) rfl dKM_encapsulate_24 (fun v23 hv23 => ?_)
  obtain ⟨r22, rfl, kr22⟩ := (show ∃ r : Nat, v23 = .ref r ∧ T r = some (1, 32) from hv23)
  refine lv_iconst (v := nI 0) hx hb dKM_encapsulate_27 (by decide) ?_
  refine mp_v (cx := []) (wr := []) hP hD hS hA [] [] rfl rfl rfl (by decide) (va_runV (As := [.ref r22, .int (nI 0)]) (rest := []) F (t_KM_deriveSeeds l g _ T xs pl hO hU hc0 hc2 h0 r22 32 0 k_h0 kr22 (by omega) (by omega)) (cwV 2 hts (wg_app (wg_c kw_1114 (wg_c kw_1116 (wg_c ks_26 (wg_c kw_3 wg_n)))) kw_1117) rfl rfl rfl (by decide +kernel) ⟨by decide, by decide⟩) (pp_VT (en_ok g) (ci := 5) (kd := (13, 0)) hK hO k_h0 (nxg hc0 k_h0 rfl) (fun _ h9 => ko1 h9) hP hD hS hA hE [] rfl rfl rfl) rfl rfl hl.1 rfl (lv_room (Nat.le_of_ble_eq_true rfl)) dKM_encapsulate_28 ⟨by omega, by omega⟩) (fun  pl H locs hu22 hP hD hS => ?_)
  obtain ⟨hq22, hO⟩ := hu22
  have hP : va_P g.1 vcl ([] ++ pl) _ := hP
  have hD : va_D _ ([] ++ pl) := hD
  refine W.widen (k := 0) (n := 0) (by omega) (by omega) ?_
  refine lv_aload_n hx hb dKM_encapsulate_31 rfl (lv_at hl 0 rfl) ?_
  refine lv_aload_n hx hb dKM_encapsulate_32 rfl (lv_at hl 1 rfl) ?_
  refine lv_aload_n hx hb dKM_encapsulate_33 rfl (lv_at hl 2 rfl) ?_
  refine lv_aload hx hb dKM_encapsulate_34 (lv_at hl 4 rfl) ?_
  refine mp_v (cx := []) (wr := []) hP hD hS hA [] [] rfl rfl rfl (by decide) (va_runV (As := [.ref st, .ref pk, .ref to]) (rest := []) F (t_KM_encrypt_1 l g _ T xs pl hO hU hc0 hc2 h0 st pk to 8192 k_h0 k_st k_pk k_to (by omega) (by omega)) (cwV 3 hts (wg_app (wg_c kw_1118 (wg_c kw_1120 (wg_c ks_27 (wg_c kw_3 wg_n)))) kw_1121) rfl rfl rfl (by decide +kernel) ⟨by decide, by decide⟩) (pp_VT (en_ok g) (ci := 5) (kd := (13, 0)) hK hO k_h0 (nxg hc0 k_h0 rfl) (fun _ h9 => ko1 h9) hP hD hS hA hE [] rfl rfl rfl) rfl rfl hl.1 rfl (lv_room (Nat.le_of_ble_eq_true rfl)) dKM_encapsulate_36 ⟨by omega, by omega⟩) (fun  pl H locs hu23 hP hD hS => ?_)
  obtain ⟨hq23, hO⟩ := hu23
  have hP : va_P g.1 vcl ([] ++ pl) _ := hP
  have hD : va_D _ ([] ++ pl) := hD
  refine W.widen (k := 0) (n := 0) (by omega) (by omega) ?_
  refine lv_aload_n hx hb dKM_encapsulate_39 rfl (lv_at hl 0 rfl) ?_
  refine ty_get (ci := 5) (C := "LatticeKeys$Kem") (TT := T_KM) (N := 10) (kd := (13, 0)) hx hb hts (wg_ft i_KM) hown hK hO k_h0 (nxg hc0 k_h0 rfl) hP (fun _ h9 => h9) rfl 7 (by decide) (hts _ (wg_t kw_114)) (fun _ h9 => h9) (cd := (3, 1, 64)) rfl dKM_encapsulate_40 (fun v24 hv24 => ?_)
  obtain ⟨r23, rfl, kr23⟩ := (show ∃ r : Nat, v24 = .ref r ∧ T r = some (1, 64) from hv24)
  refine lv_iconst (v := nI 0) hx hb dKM_encapsulate_43 (by decide) ?_
  refine lv_aload hx hb dKM_encapsulate_44 (lv_at hl 4 rfl) ?_
  refine lv_aload_n hx hb dKM_encapsulate_46 rfl (lv_at hl 1 rfl) ?_
  refine ty_get (ci := 1) (C := "LatticeKeys$KemSet") (TT := T_KS) (N := 10) (kd := (41, 0)) hx hb hts (wg_ft i_KS) hown hK hO k_st (nxg hc0 k_st rfl) hP (fun _ h9 => h9) rfl 6 (by decide) (hts _ (wg_t kw_244)) (fun _ h9 => h9) (cd := (1, 0, 1088)) rfl dKM_encapsulate_47 (fun v25 hv25 => ?_)
  obtain rfl := (show v25 = .int (nI 1088) from hv25)
  refine lv_bipush (v := nI 32) hx hb dKM_encapsulate_50 (by decide) ?_
  refine ty_copyb11 hx hb (hml.trans hl.1.symm) hown (hts _ (wg_t kw_622)) (hts _ (wg_t kw_526)) (hts _ (wg_t kw_525)) (hts _ (wg_t kw_19)) hK hO kr23 (nxg hc0 kr23 rfl) k_to (nxg hc0 k_to rfl) hP hD hS (sp := 0) (dp := 1088) (n := 32) (by omega) (by omega) (by omega) (by decide) (Nat.le_of_ble_eq_true rfl) dKM_encapsulate_52 (fun pl H locs hO hP hD hS => ?_)
  exact mp_vret hx hb hr hlk hP hD hS pl ⟨trivial, hO⟩ [] rfl rfl rfl (by omega) (by omega) dKM_encapsulate_55
set_option maxHeartbeats 400000 in
set_option maxRecDepth 100000 in
theorem t_KM_encapsulate_2 (l : Launch) (g : Gd) (sz : Nat) (T : Ty) (xs : List Nat) (pl : va_W) (hO : okx g T xs pl) (hU : uni T) (hc0 : clo T xs 0) (hc2 : clo T xs 2) (h0 st pk ch to n : Nat) (k_h0 : T h0 = some (13, 0)) (k_st : T st = some (42, 0)) (k_pk : T pk = some (1, 1568)) (k_ch : T ch = some (1, n)) (k_to : T to = some (1, 8192)) (h1 : 32 ≤ n) (h2 : n < 65536)  : Met l y_KM_encapsulate w_KM_encapsulate ({ frames := 5, cells := 0, slots := 0, locals := 156 } : Room) (va_Pc [.ref h0, .ref st, .ref pk, .ref ch, .ref to] (pr (en g) g.1 vcl sz ([] ++ pl))) (va_Qv (fun (u : va_W) => (True) ∧ okx g T xs u) (po g.1 vcl (va_A ([] ++ pl) sz) (fun (u : va_W) => [] ++ u)) (va_A ([] ++ pl) sz)) 0 0 (va_A ([] ++ pl) sz) := by
  refine mc_entry (cc := c_KM_encapsulate) (maxL := 5) (ret := none) (by decide) rfl (Nat.le_of_ble_eq_true rfl) ?_
  intro p e s m args below meth c ls F hr hlk hnm hsz hP hD hE hA hl
  obtain ⟨hx, hb, hml, hown, hts⟩ := id F
  have hK := hE.1
  generalize va_A ([] ++ pl) sz = A at hD hE hA ⊢
  have hS : va_S A s.heap s.heap [] := va_S.rf
  have hl : lv_has ls 5 [(0, .ref h0), (1, .ref st), (2, .ref pk), (3, .ref ch), (4, .ref to)] := hl
  refine lv_aload_n hx hb dKM_encapsulate_0 rfl (lv_at hl 3 rfl) ?_
  refine lv_iconst (v := nI 0) hx hb dKM_encapsulate_1 (by decide) ?_
  refine lv_aload_n hx hb dKM_encapsulate_2 rfl (lv_at hl 0 rfl) ?_
  refine ty_get (ci := 5) (C := "LatticeKeys$Kem") (TT := T_KM) (N := 10) (kd := (13, 0)) hx hb hts (wg_ft i_KM) hown hK hO k_h0 (nxg hc0 k_h0 rfl) hP (fun _ h9 => h9) rfl 5 (by decide) (hts _ (wg_t kw_112)) (fun _ h9 => h9) (cd := (3, 1, 32)) rfl dKM_encapsulate_3 (fun v21 hv21 => ?_)
  obtain ⟨r21, rfl, kr21⟩ := (show ∃ r : Nat, v21 = .ref r ∧ T r = some (1, 32) from hv21)
  refine lv_iconst (v := nI 0) hx hb dKM_encapsulate_6 (by decide) ?_
  refine lv_bipush (v := nI 32) hx hb dKM_encapsulate_7 (by decide) ?_
  refine ty_copyb11 hx hb (hml.trans hl.1.symm) hown (hts _ (wg_t kw_622)) (hts _ (wg_t kw_526)) (hts _ (wg_t kw_525)) (hts _ (wg_t kw_19)) hK hO k_ch (nxg hc0 k_ch rfl) kr21 (nxg hc0 kr21 rfl) hP hD hS (sp := 0) (dp := 0) (n := 32) (by omega) (by omega) (by omega) (by decide) (Nat.le_of_ble_eq_true rfl) dKM_encapsulate_9 (fun pl H locs hO hP hD hS => ?_)
  refine lv_aload_n hx hb dKM_encapsulate_12 rfl (lv_at hl 0 rfl) ?_
  refine lv_aload_n hx hb dKM_encapsulate_13 rfl (lv_at hl 2 rfl) ?_
  refine lv_iconst (v := nI 0) hx hb dKM_encapsulate_14 (by decide) ?_
  refine lv_aload_n hx hb dKM_encapsulate_15 rfl (lv_at hl 1 rfl) ?_
  refine ty_get (ci := 1) (C := "LatticeKeys$KemSet") (TT := T_KS) (N := 10) (kd := (42, 0)) hx hb hts (wg_ft i_KS) hown hK hO k_st (nxg hc0 k_st rfl) hP (fun _ h9 => h9) rfl 4 (by decide) (hts _ (wg_t kw_239)) (fun _ h9 => h9) (cd := (1, 0, 1568)) rfl dKM_encapsulate_16 (fun v22 hv22 => ?_)
  obtain rfl := (show v22 = .int (nI 1568) from hv22)
  refine mp_v (cx := []) (wr := []) hP hD hS hA [] [] rfl rfl rfl (by decide) (va_runV (As := [.ref pk, .int (nI 0), .int (nI 1568)]) (rest := []) F (t_KM_digestOf l g _ T xs pl hO hU hc0 hc2 h0 pk 1568 0 1568 k_h0 k_pk (by omega) (by omega)) (cwV 3 hts (wg_app (wg_c kw_661 (wg_c kw_663 (wg_c ks_10 (wg_c kw_3 wg_n)))) kw_664) rfl rfl rfl (by decide +kernel) ⟨by decide, by decide⟩) (pp_VT (en_ok g) (ci := 5) (kd := (13, 0)) hK hO k_h0 (nxg hc0 k_h0 rfl) (fun _ h9 => ko1 h9) hP hD hS hA hE [] rfl rfl rfl) rfl rfl hl.1 rfl (lv_room (Nat.le_of_ble_eq_true rfl)) dKM_encapsulate_19 ⟨by omega, by omega⟩) (fun  pl H locs hu21 hP hD hS => ?_)
  obtain ⟨hq21, hO⟩ := hu21
  have hP : va_P g.1 vcl ([] ++ pl) _ := hP
  have hD : va_D _ ([] ++ pl) := hD
  refine W.widen (k := 0) (n := 0) (by omega) (by omega) ?_
  refine lv_aload_n hx hb dKM_encapsulate_22 rfl (lv_at hl 0 rfl) ?_
  refine lv_aload_n hx hb dKM_encapsulate_23 rfl (lv_at hl 0 rfl) ?_
  refine ty_get (ci := 5) (C := "LatticeKeys$Kem") (TT := T_KM) (N := 10) (kd := (13, 0)) hx hb hts (wg_ft i_KM) hown hK hO k_h0 (nxg hc0 k_h0 rfl) hP (fun _ h9 => h9) rfl 6 (by decide) (hts _ (wg_t kw_113)) (fun _ h9 => h9) (cd := (3, 1, 32)) rfl dKM_encapsulate_24 (fun v23 hv23 => ?_)
  obtain ⟨r22, rfl, kr22⟩ := (show ∃ r : Nat, v23 = .ref r ∧ T r = some (1, 32) from hv23)
  refine lv_iconst (v := nI 0) hx hb dKM_encapsulate_27 (by decide) ?_
  refine mp_v (cx := []) (wr := []) hP hD hS hA [] [] rfl rfl rfl (by decide) (va_runV (As := [.ref r22, .int (nI 0)]) (rest := []) F (t_KM_deriveSeeds l g _ T xs pl hO hU hc0 hc2 h0 r22 32 0 k_h0 kr22 (by omega) (by omega)) (cwV 2 hts (wg_app (wg_c kw_1114 (wg_c kw_1116 (wg_c ks_26 (wg_c kw_3 wg_n)))) kw_1117) rfl rfl rfl (by decide +kernel) ⟨by decide, by decide⟩) (pp_VT (en_ok g) (ci := 5) (kd := (13, 0)) hK hO k_h0 (nxg hc0 k_h0 rfl) (fun _ h9 => ko1 h9) hP hD hS hA hE [] rfl rfl rfl) rfl rfl hl.1 rfl (lv_room (Nat.le_of_ble_eq_true rfl)) dKM_encapsulate_28 ⟨by omega, by omega⟩) (fun  pl H locs hu22 hP hD hS => ?_)
  obtain ⟨hq22, hO⟩ := hu22
  have hP : va_P g.1 vcl ([] ++ pl) _ := hP
  have hD : va_D _ ([] ++ pl) := hD
  refine W.widen (k := 0) (n := 0) (by omega) (by omega) ?_
  refine lv_aload_n hx hb dKM_encapsulate_31 rfl (lv_at hl 0 rfl) ?_
  refine lv_aload_n hx hb dKM_encapsulate_32 rfl (lv_at hl 1 rfl) ?_
  refine lv_aload_n hx hb dKM_encapsulate_33 rfl (lv_at hl 2 rfl) ?_
  refine lv_aload hx hb dKM_encapsulate_34 (lv_at hl 4 rfl) ?_
  refine mp_v (cx := []) (wr := []) hP hD hS hA [] [] rfl rfl rfl (by decide) (va_runV (As := [.ref st, .ref pk, .ref to]) (rest := []) F (t_KM_encrypt_2 l g _ T xs pl hO hU hc0 hc2 h0 st pk to 8192 k_h0 k_st k_pk k_to (by omega) (by omega)) (cwV 3 hts (wg_app (wg_c kw_1118 (wg_c kw_1120 (wg_c ks_27 (wg_c kw_3 wg_n)))) kw_1121) rfl rfl rfl (by decide +kernel) ⟨by decide, by decide⟩) (pp_VT (en_ok g) (ci := 5) (kd := (13, 0)) hK hO k_h0 (nxg hc0 k_h0 rfl) (fun _ h9 => ko1 h9) hP hD hS hA hE [] rfl rfl rfl) rfl rfl hl.1 rfl (lv_room (Nat.le_of_ble_eq_true rfl)) dKM_encapsulate_36 ⟨by omega, by omega⟩) (fun  pl H locs hu23 hP hD hS => ?_)
  obtain ⟨hq23, hO⟩ := hu23
  have hP : va_P g.1 vcl ([] ++ pl) _ := hP
  have hD : va_D _ ([] ++ pl) := hD
  refine W.widen (k := 0) (n := 0) (by omega) (by omega) ?_
  refine lv_aload_n hx hb dKM_encapsulate_39 rfl (lv_at hl 0 rfl) ?_
  refine ty_get (ci := 5) (C := "LatticeKeys$Kem") (TT := T_KM) (N := 10) (kd := (13, 0)) hx hb hts (wg_ft i_KM) hown hK hO k_h0 (nxg hc0 k_h0 rfl) hP (fun _ h9 => h9) rfl 7 (by decide) (hts _ (wg_t kw_114)) (fun _ h9 => h9) (cd := (3, 1, 64)) rfl dKM_encapsulate_40 (fun v24 hv24 => ?_)
  obtain ⟨r23, rfl, kr23⟩ := (show ∃ r : Nat, v24 = .ref r ∧ T r = some (1, 64) from hv24)
  refine lv_iconst (v := nI 0) hx hb dKM_encapsulate_43 (by decide) ?_
  refine lv_aload hx hb dKM_encapsulate_44 (lv_at hl 4 rfl) ?_
  refine lv_aload_n hx hb dKM_encapsulate_46 rfl (lv_at hl 1 rfl) ?_
  refine ty_get (ci := 1) (C := "LatticeKeys$KemSet") (TT := T_KS) (N := 10) (kd := (42, 0)) hx hb hts (wg_ft i_KS) hown hK hO k_st (nxg hc0 k_st rfl) hP (fun _ h9 => h9) rfl 6 (by decide) (hts _ (wg_t kw_244)) (fun _ h9 => h9) (cd := (1, 0, 1568)) rfl dKM_encapsulate_47 (fun v25 hv25 => ?_)
  obtain rfl := (show v25 = .int (nI 1568) from hv25)
  refine lv_bipush (v := nI 32) hx hb dKM_encapsulate_50 (by decide) ?_
  refine ty_copyb11 hx hb (hml.trans hl.1.symm) hown (hts _ (wg_t kw_622)) (hts _ (wg_t kw_526)) (hts _ (wg_t kw_525)) (hts _ (wg_t kw_19)) hK hO kr23 (nxg hc0 kr23 rfl) k_to (nxg hc0 k_to rfl) hP hD hS (sp := 0) (dp := 1568) (n := 32) (by omega) (by omega) (by omega) (by decide) (Nat.le_of_ble_eq_true rfl) dKM_encapsulate_52 (fun pl H locs hO hP hD hS => ?_)
  exact mp_vret hx hb hr hlk hP hD hS pl ⟨trivial, hO⟩ [] rfl rfl rfl (by omega) (by omega) dKM_encapsulate_55
set_option maxHeartbeats 400000 in
set_option maxRecDepth 100000 in
theorem t_KM_decapsulate_0 (l : Launch) (g : Gd) (sz : Nat) (T : Ty) (xs : List Nat) (pl : va_W) (hO : okx g T xs pl) (hU : uni T) (hc0 : clo T xs 0) (hc2 : clo T xs 2) (h0 st kp ct to n : Nat) (k_h0 : T h0 = some (13, 0)) (k_st : T st = some (40, 0)) (k_kp : T kp = some (17, 0)) (k_ct : T ct = some (1, n)) (k_to : T to = some (1, 8192)) (h1 : 768 ≤ n) (h2 : n < 65536)  : Met l y_KM_decapsulate w_KM_decapsulate ({ frames := 5, cells := 0, slots := 0, locals := 156 } : Room) (va_Pc [.ref h0, .ref st, .ref kp, .ref ct, .ref to] (pr (en g) g.1 vcl sz ([] ++ pl))) (va_Qv (fun (u : va_W) => (True) ∧ okx g T xs u) (po g.1 vcl (va_A ([] ++ pl) sz) (fun (u : va_W) => [] ++ u)) (va_A ([] ++ pl) sz)) 0 0 (va_A ([] ++ pl) sz) := by
  refine mc_entry (cc := c_KM_decapsulate) (maxL := 7) (ret := none) (by decide) rfl (Nat.le_of_ble_eq_true rfl) ?_
  intro p e s m args below meth c ls F hr hlk hnm hsz hP hD hE hA hl
  obtain ⟨hx, hb, hml, hown, hts⟩ := id F
  have hK := hE.1
  generalize va_A ([] ++ pl) sz = A at hD hE hA ⊢
  have hS : va_S A s.heap s.heap [] := va_S.rf
  have hl : lv_has ls 7 [(0, .ref h0), (1, .ref st), (2, .ref kp), (3, .ref ct), (4, .ref to)] := hl
  refine lv_aload_n hx hb dKM_decapsulate_0 rfl (lv_at hl 0 rfl) ?_
  refine lv_aload_n hx hb dKM_decapsulate_1 rfl (lv_at hl 1 rfl) ?_
  refine lv_aload_n hx hb dKM_decapsulate_2 rfl (lv_at hl 2 rfl) ?_
  refine ty_get (ci := 13) (C := "LatticeKeys$KeyPair") (TT := T_KP) (N := 3) (kd := (17, 0)) hx hb hts (wg_ft i_KP) hown hK hO k_kp (nxg hc0 k_kp rfl) hP (fun _ h9 => h9) rfl 2 (by decide) (hts _ (wg_t kw_751)) (fun _ h9 => h9) (cd := (3, 1, 1632)) rfl dKM_decapsulate_3 (fun v21 hv21 => ?_)
  obtain ⟨r21, rfl, kr21⟩ := (show ∃ r : Nat, v21 = .ref r ∧ T r = some (1, 1632) from hv21)
  refine lv_aload_n hx hb dKM_decapsulate_6 rfl (lv_at hl 3 rfl) ?_
  refine mp_v (cx := []) (wr := []) hP hD hS hA [] [] rfl rfl rfl (by decide) (va_runV (As := [.ref st, .ref r21, .ref ct]) (rest := []) F (t_KM_decrypt_0 l g _ T xs pl hO hU hc0 h0 st r21 ct n k_h0 k_st kr21 k_ct (by omega) (by omega)) (cwV 3 hts (wg_app (wg_c kw_1150 (wg_c kw_1152 (wg_c ks_31 (wg_c kw_3 wg_n)))) kw_1153) rfl rfl rfl (by decide +kernel) ⟨by decide, by decide⟩) (pp_VT (en_ok g) (ci := 5) (kd := (13, 0)) hK hO k_h0 (nxg hc0 k_h0 rfl) (fun _ h9 => ko1 h9) hP hD hS hA hE [] rfl rfl rfl) rfl rfl hl.1 rfl (lv_room (Nat.le_of_ble_eq_true rfl)) dKM_decapsulate_7 ⟨by omega, by omega⟩) (fun  pl H locs hu21 hP hD hS => ?_)
  obtain ⟨hq21, hO⟩ := hu21
  have hP : va_P g.1 vcl ([] ++ pl) _ := hP
  have hD : va_D _ ([] ++ pl) := hD
  refine W.widen (k := 0) (n := 0) (by omega) (by omega) ?_
  refine lv_aload_n hx hb dKM_decapsulate_10 rfl (lv_at hl 0 rfl) ?_
  refine lv_aload_n hx hb dKM_decapsulate_11 rfl (lv_at hl 2 rfl) ?_
  refine ty_get (ci := 13) (C := "LatticeKeys$KeyPair") (TT := T_KP) (N := 3) (kd := (17, 0)) hx hb hts (wg_ft i_KP) hown hK hO k_kp (nxg hc0 k_kp rfl) hP (fun _ h9 => h9) rfl 2 (by decide) (hts _ (wg_t kw_751)) (fun _ h9 => h9) (cd := (3, 1, 1632)) rfl dKM_decapsulate_12 (fun v22 hv22 => ?_)
  obtain ⟨r22, rfl, kr22⟩ := (show ∃ r : Nat, v22 = .ref r ∧ T r = some (1, 1632) from hv22)
  refine lv_aload_n hx hb dKM_decapsulate_15 rfl (lv_at hl 1 rfl) ?_
  refine ty_get (ci := 1) (C := "LatticeKeys$KemSet") (TT := T_KS) (N := 10) (kd := (40, 0)) hx hb hts (wg_ft i_KS) hown hK hO k_st (nxg hc0 k_st rfl) hP (fun _ h9 => h9) rfl 8 (by decide) (hts _ (wg_t kw_250)) (fun _ h9 => h9) (cd := (1, 0, 1568)) rfl dKM_decapsulate_16 (fun v23 hv23 => ?_)
  obtain rfl := (show v23 = .int (nI 1568) from hv23)
  refine mp_v (cx := []) (wr := []) hP hD hS hA [] [] rfl rfl rfl (by decide) (va_runV (As := [.ref r22, .int (nI 1568)]) (rest := []) F (t_KM_deriveSeeds l g _ T xs pl hO hU hc0 hc2 h0 r22 1632 1568 k_h0 kr22 (by omega) (by omega)) (cwV 2 hts (wg_app (wg_c kw_1114 (wg_c kw_1116 (wg_c ks_26 (wg_c kw_3 wg_n)))) kw_1117) rfl rfl rfl (by decide +kernel) ⟨by decide, by decide⟩) (pp_VT (en_ok g) (ci := 5) (kd := (13, 0)) hK hO k_h0 (nxg hc0 k_h0 rfl) (fun _ h9 => ko1 h9) hP hD hS hA hE [] rfl rfl rfl) rfl rfl hl.1 rfl (lv_room (Nat.le_of_ble_eq_true rfl)) dKM_decapsulate_19 ⟨by omega, by omega⟩) (fun  pl H locs hu22 hP hD hS => ?_)
  obtain ⟨hq22, hO⟩ := hu22
  have hP : va_P g.1 vcl ([] ++ pl) _ := hP
  have hD : va_D _ ([] ++ pl) := hD
  refine W.widen (k := 0) (n := 0) (by omega) (by omega) ?_
  refine lv_aload_n hx hb dKM_decapsulate_22 rfl (lv_at hl 0 rfl) ?_
  refine lv_aload_n hx hb dKM_decapsulate_23 rfl (lv_at hl 1 rfl) ?_
  refine lv_aload_n hx hb dKM_decapsulate_24 rfl (lv_at hl 2 rfl) ?_
  refine ty_get (ci := 13) (C := "LatticeKeys$KeyPair") (TT := T_KP) (N := 3) (kd := (17, 0)) hx hb hts (wg_ft i_KP) hown hK hO k_kp (nxg hc0 k_kp rfl) hP (fun _ h9 => h9) rfl 1 (by decide) (hts _ (wg_t kw_748)) (fun _ h9 => h9) (cd := (3, 1, 800)) rfl dKM_decapsulate_25 (fun v24 hv24 => ?_)
  obtain ⟨r23, rfl, kr23⟩ := (show ∃ r : Nat, v24 = .ref r ∧ T r = some (1, 800) from hv24)
  refine lv_aload_n hx hb dKM_decapsulate_28 rfl (lv_at hl 0 rfl) ?_
  refine ty_get (ci := 5) (C := "LatticeKeys$Kem") (TT := T_KM) (N := 10) (kd := (13, 0)) hx hb hts (wg_ft i_KM) hown hK hO k_h0 (nxg hc0 k_h0 rfl) hP (fun _ h9 => h9) rfl 9 (by decide) (hts _ (wg_t kw_116)) (fun _ h9 => h9) (cd := (3, 1, 1568)) rfl dKM_decapsulate_29 (fun v25 hv25 => ?_)
  obtain ⟨r24, rfl, kr24⟩ := (show ∃ r : Nat, v25 = .ref r ∧ T r = some (1, 1568) from hv25)
  refine mp_v (cx := []) (wr := []) hP hD hS hA [] [] rfl rfl rfl (by decide) (va_runV (As := [.ref st, .ref r23, .ref r24]) (rest := []) F (t_KM_encrypt_0 l g _ T xs pl hO hU hc0 hc2 h0 st r23 r24 1568 k_h0 k_st kr23 kr24 (by omega) (by omega)) (cwV 3 hts (wg_app (wg_c kw_1118 (wg_c kw_1120 (wg_c ks_27 (wg_c kw_3 wg_n)))) kw_1121) rfl rfl rfl (by decide +kernel) ⟨by decide, by decide⟩) (pp_VT (en_ok g) (ci := 5) (kd := (13, 0)) hK hO k_h0 (nxg hc0 k_h0 rfl) (fun _ h9 => ko1 h9) hP hD hS hA hE [] rfl rfl rfl) rfl rfl hl.1 rfl (lv_room (Nat.le_of_ble_eq_true rfl)) dKM_decapsulate_32 ⟨by omega, by omega⟩) (fun  pl H locs hu23 hP hD hS => ?_)
  obtain ⟨hq23, hO⟩ := hu23
  have hP : va_P g.1 vcl ([] ++ pl) _ := hP
  have hD : va_D _ ([] ++ pl) := hD
  refine W.widen (k := 0) (n := 0) (by omega) (by omega) ?_
  refine lv_iconst (v := nI 0) hx hb dKM_decapsulate_35 (by decide) ?_
  refine lv_istore (lv' := [(5, .int (nI 0)), (0, .ref h0), (1, .ref st), (2, .ref kp), (3, .ref ct), (4, .ref to)]) hx hb dKM_decapsulate_36 hl (by decide) rfl (fun ls hl => ?_)
  refine lv_iconst (v := nI 0) hx hb dKM_decapsulate_38 (by decide) ?_
  refine lv_istore (lv' := [(6, .int (nI 0)), (5, .int (nI 0)), (0, .ref h0), (1, .ref st), (2, .ref kp), (3, .ref ct), (4, .ref to)]) hx hb dKM_decapsulate_39 hl (by decide) rfl (fun ls hl => ?_)
  have lp21 : ∀ (n21 : Nat) (i21 : Nat) (z21 : Int32) (pl : va_W) (ls : Array Slot) (H : Heap) (locs : List Loc), n21 + i21 = 768 → lv_has ls 7 [(6, .int (nI i21)), (5, .int z21), (0, .ref h0), (1, .ref st), (2, .ref kp), (3, .ref ct), (4, .ref to)] → okx g T xs pl → va_P g.1 vcl ([] ++ pl) H → va_D A ([] ++ pl) → va_S A s.heap H locs → W p l e ({ frames := 5, cells := 0, slots := 0, locals := 156 } : Room) s m args below meth c H locs 0 0 (MQ below (va_Qv (fun (u : va_W) => (True) ∧ okx g T xs u) (po g.1 vcl A (fun (u : va_W) => [] ++ u)) A) args s 0 0 A) (F0 m 41 ls []) := by
    intro n21
    induction n21 with
    | zero =>
      intro i21 z21 pl ls H locs hm21  hl hO hP hD hS
      refine lv_iload hx hb dKM_decapsulate_41 (lv_at hl 0 rfl) ?_
      refine lv_aload_n hx hb dKM_decapsulate_43 rfl (lv_at hl 3 rfl) ?_
      refine ty_get (ci := 1) (C := "LatticeKeys$KemSet") (TT := T_KS) (N := 10) (kd := (40, 0)) hx hb hts (wg_ft i_KS) hown hK hO k_st (nxg hc0 k_st rfl) hP (fun _ h9 => h9) rfl 6 (by decide) (hts _ (wg_t kw_244)) (fun _ h9 => h9) (cd := (1, 0, 768)) rfl dKM_decapsulate_44 (fun v26 hv26 => ?_)
      obtain rfl := (show v26 = .int (nI 768) from hv26)
      refine mi_ge (tgt := 73) hx hb dKM_decapsulate_47 (by decide) (by omega) (by omega) (fun h21 => ?_) (fun h21 => absurd h21 (by omega))
      refine lv_iload hx hb dKM_decapsulate_73 (lv_at hl 1 rfl) ?_
      refine lv_if_ne (tgt := 92) hx hb dKM_decapsulate_75 (by decide) (fun h22 => ?_) (fun h22 => ?_)
      · refine lv_aload_n hx hb dKM_decapsulate_92 rfl (lv_at hl 2 rfl) ?_
        refine ty_get (ci := 5) (C := "LatticeKeys$Kem") (TT := T_KM) (N := 10) (kd := (13, 0)) hx hb hts (wg_ft i_KM) hown hK hO k_h0 (nxg hc0 k_h0 rfl) hP (fun _ h9 => h9) rfl 0 (by decide) (hts _ (wg_t kw_107)) (fun _ h9 => h9) (cd := (3, 10, 1)) rfl dKM_decapsulate_93 (fun v27 hv27 => ?_)
        obtain ⟨r25, rfl, kr25⟩ := (show ∃ r : Nat, v27 = .ref r ∧ T r = some (10, 1) from hv27)
        refine lv_iconst (v := nI 3) hx hb dKM_decapsulate_96 (by decide) ?_
        obtain ⟨e21, pl, hP, hD, hk21, hO⟩ := open1 hP hD hO kr25 (nxg hc2 kr25 rfl)
        obtain ⟨ln21, rt21, ps21, x21, rfl, kl21, hr21, hr22, hr23⟩ := hk21
        have kl21 : T ln21 = some (19, 1) := kl21
        obtain ⟨e22, pl, hP, hD, hk22, hO⟩ := open1 hP hD hO kl21 (nmc (knd_ne kl21 kr25 (by decide)) (nxg hc2 kl21 rfl))
        obtain ⟨f21, rfl⟩ := hk22
        have hP : va_P g.1 vcl ([(r25, .inr (3, [.ref ln21, .int (nI rt21), .int x21, .int (nI ps21)])), (ln21, .inl (g.2.1 2, 25, .inr (.inl f21)))] ++ pl) _ := hP
        have hD : va_D _ ([(r25, .inr (3, [.ref ln21, .int (nI rt21), .int x21, .int (nI ps21)])), (ln21, .inl (g.2.1 2, 25, .inr (.inl f21)))] ++ pl) := hD
        refine mp_v (cx := [(r25, .inr (3, [.ref ln21, .int (nI rt21), .int x21, .int (nI ps21)])), (ln21, .inl (g.2.1 2, 25, .inr (.inl f21)))]) (wr := []) hP hD hS hA [0, 1] [] rfl rfl rfl (by decide) (va_runV (As := [.int (nI 3)]) (rest := []) F (t_SP_start_3 l g _ T (ln21 :: (r25 :: xs)) pl hO hU  r25 ln21 rt21 ps21 x21 f21) (cwV 1 hts (wg_app (wg_c kw_578 (wg_c kw_579 (wg_c kw_580 (wg_c kw_2 wg_n)))) kw_581) rfl rfl rfl (by decide +kernel) ⟨by decide, by decide⟩) (pp_V (en_ok g) (q0 := 0) hK hP hD hS hA hE [0, 1] rfl rfl rfl rfl) rfl rfl hl.1 rfl (lv_room (Nat.le_of_ble_eq_true rfl)) dKM_decapsulate_97 ⟨by omega, by omega⟩) (fun  u21 H locs hu24 hP hD hS => ?_)
        obtain ⟨u22, pl⟩ := u21
        obtain ⟨hq24, hO⟩ := hu24
        have hP : va_P g.1 vcl ([(r25, .inr (3, [.ref ln21, .int (nI 136), .int (nI 31), .int (nI 0)])), (ln21, .inl (g.2.1 2, 25, .inr (.inl u22)))] ++ pl) _ := hP
        have hD : va_D _ ([(r25, .inr (3, [.ref ln21, .int (nI 136), .int (nI 31), .int (nI 0)])), (ln21, .inl (g.2.1 2, 25, .inr (.inl u22)))] ++ pl) := hD
        refine W.widen (k := 0) (n := 0) (by omega) (by omega) ?_
        refine lv_aload_n hx hb dKM_decapsulate_100 rfl (lv_at hl 2 rfl) ?_
        refine ty_get (ci := 5) (C := "LatticeKeys$Kem") (TT := T_KM) (N := 10) (kd := (13, 0)) hx hb hts (wg_ft i_KM) hown hK hO k_h0 (nxg (clo_cons (clo_cons hc0 kr25 (by decide)) kl21 (by decide)) k_h0 rfl) hP (fun _ h9 => h9) rfl 0 (by decide) (hts _ (wg_t kw_107)) (fun _ h9 => h9) (cd := (3, 10, 1)) rfl dKM_decapsulate_101 (fun v28 hv28 => ?_)
        obtain ⟨r26, rfl, kr26⟩ := (show ∃ r : Nat, v28 = .ref r ∧ T r = some (10, 1) from hv28)
        obtain rfl : r25 = r26 := hU _ _ _ (by decide) kr25 kr26
        refine lv_aload_n hx hb dKM_decapsulate_104 rfl (lv_at hl 4 rfl) ?_
        refine ty_get (ci := 13) (C := "LatticeKeys$KeyPair") (TT := T_KP) (N := 3) (kd := (17, 0)) hx hb hts (wg_ft i_KP) hown hK hO k_kp (nxg (clo_cons (clo_cons hc0 kr25 (by decide)) kl21 (by decide)) k_kp rfl) hP (fun _ h9 => h9) rfl 2 (by decide) (hts _ (wg_t kw_751)) (fun _ h9 => h9) (cd := (3, 1, 1632)) rfl dKM_decapsulate_105 (fun v29 hv29 => ?_)
        obtain ⟨r27, rfl, kr27⟩ := (show ∃ r : Nat, v29 = .ref r ∧ T r = some (1, 1632) from hv29)
        refine lv_aload_n hx hb dKM_decapsulate_108 rfl (lv_at hl 3 rfl) ?_
        refine ty_get (ci := 1) (C := "LatticeKeys$KemSet") (TT := T_KS) (N := 10) (kd := (40, 0)) hx hb hts (wg_ft i_KS) hown hK hO k_st (nxg (clo_cons (clo_cons hc0 kr25 (by decide)) kl21 (by decide)) k_st rfl) hP (fun _ h9 => h9) rfl 9 (by decide) (hts _ (wg_t kw_252)) (fun _ h9 => h9) (cd := (1, 0, 1600)) rfl dKM_decapsulate_109 (fun v30 hv30 => ?_)
        obtain rfl := (show v30 = .int (nI 1600) from hv30)
        refine lv_bipush (v := nI 32) hx hb dKM_decapsulate_112 (by decide) ?_
        refine mp_v (cx := [(r25, .inr (3, [.ref ln21, .int (nI 136), .int (nI 31), .int (nI 0)])), (ln21, .inl (g.2.1 2, 25, .inr (.inl u22)))]) (wr := []) hP hD hS hA [0, 1] [] rfl rfl rfl (by decide) (va_runV (As := [.ref r27, .int (nI 1600), .int (nI 32)]) (rest := []) F (t_SP_absorb l g _ T (ln21 :: (r25 :: xs)) pl hO hU (clo_cons (clo_cons hc0 kr25 (by decide)) kl21 (by decide)) r27 1632 1600 32 r25 ln21 136 0 (nI 31) u22 kr27 (by omega) (by omega) (by omega) (by omega)) (cwV 3 hts (wg_app (wg_c kw_585 (wg_c kw_586 (wg_c kw_587 (wg_c kw_2 wg_n)))) kw_588) rfl rfl rfl (by decide +kernel) ⟨by decide, by decide⟩) (pp_V (en_ok g) (q0 := 0) hK hP hD hS hA hE [0, 1] rfl rfl rfl rfl) rfl rfl hl.1 rfl (lv_room (Nat.le_of_ble_eq_true rfl)) dKM_decapsulate_114 ⟨by omega, by omega⟩) (fun  u23 H locs hu25 hP hD hS => ?_)
        obtain ⟨u24, pl⟩ := u23
        obtain ⟨hq25, hO⟩ := hu25
        obtain ⟨k21, f22⟩ := u24
        have hP : va_P g.1 vcl ([(r25, .inr (3, [.ref ln21, .int (nI 136), .int (nI 31), .int (nI k21)])), (ln21, .inl (g.2.1 2, 25, .inr (.inl f22)))] ++ pl) _ := hP
        have hD : va_D _ ([(r25, .inr (3, [.ref ln21, .int (nI 136), .int (nI 31), .int (nI k21)])), (ln21, .inl (g.2.1 2, 25, .inr (.inl f22)))] ++ pl) := hD
        have hq25 : k21 < 136 := hq25
        refine W.widen (k := 0) (n := 0) (by omega) (by omega) ?_
        refine lv_aload_n hx hb dKM_decapsulate_117 rfl (lv_at hl 2 rfl) ?_
        refine ty_get (ci := 5) (C := "LatticeKeys$Kem") (TT := T_KM) (N := 10) (kd := (13, 0)) hx hb hts (wg_ft i_KM) hown hK hO k_h0 (nxg (clo_cons (clo_cons hc0 kr25 (by decide)) kl21 (by decide)) k_h0 rfl) hP (fun _ h9 => h9) rfl 0 (by decide) (hts _ (wg_t kw_107)) (fun _ h9 => h9) (cd := (3, 10, 1)) rfl dKM_decapsulate_118 (fun v31 hv31 => ?_)
        obtain ⟨r28, rfl, kr28⟩ := (show ∃ r : Nat, v31 = .ref r ∧ T r = some (10, 1) from hv31)
        obtain rfl : r25 = r28 := hU _ _ _ (by decide) kr25 kr28
        refine lv_aload_n hx hb dKM_decapsulate_121 rfl (lv_at hl 5 rfl) ?_
        refine lv_iconst (v := nI 0) hx hb dKM_decapsulate_122 (by decide) ?_
        refine lv_aload_n hx hb dKM_decapsulate_123 rfl (lv_at hl 3 rfl) ?_
        refine ty_get (ci := 1) (C := "LatticeKeys$KemSet") (TT := T_KS) (N := 10) (kd := (40, 0)) hx hb hts (wg_ft i_KS) hown hK hO k_st (nxg (clo_cons (clo_cons hc0 kr25 (by decide)) kl21 (by decide)) k_st rfl) hP (fun _ h9 => h9) rfl 6 (by decide) (hts _ (wg_t kw_244)) (fun _ h9 => h9) (cd := (1, 0, 768)) rfl dKM_decapsulate_124 (fun v32 hv32 => ?_)
        obtain rfl := (show v32 = .int (nI 768) from hv32)
        refine mp_v (cx := [(r25, .inr (3, [.ref ln21, .int (nI 136), .int (nI 31), .int (nI k21)])), (ln21, .inl (g.2.1 2, 25, .inr (.inl f22)))]) (wr := []) hP hD hS hA [0, 1] [] rfl rfl rfl (by decide) (va_runV (As := [.ref ct, .int (nI 0), .int (nI 768)]) (rest := []) F (t_SP_absorb l g _ T (ln21 :: (r25 :: xs)) pl hO hU (clo_cons (clo_cons hc0 kr25 (by decide)) kl21 (by decide)) ct n 0 768 r25 ln21 136 k21 (nI 31) f22 k_ct (by omega) (by omega) (by omega) (by omega)) (cwV 3 hts (wg_app (wg_c kw_585 (wg_c kw_586 (wg_c kw_587 (wg_c kw_2 wg_n)))) kw_588) rfl rfl rfl (by decide +kernel) ⟨by decide, by decide⟩) (pp_V (en_ok g) (q0 := 0) hK hP hD hS hA hE [0, 1] rfl rfl rfl rfl) rfl rfl hl.1 rfl (lv_room (Nat.le_of_ble_eq_true rfl)) dKM_decapsulate_127 ⟨by omega, by omega⟩) (fun  u25 H locs hu26 hP hD hS => ?_)
        obtain ⟨u26, pl⟩ := u25
        obtain ⟨hq26, hO⟩ := hu26
        obtain ⟨k22, f23⟩ := u26
        have hP : va_P g.1 vcl ([(r25, .inr (3, [.ref ln21, .int (nI 136), .int (nI 31), .int (nI k22)])), (ln21, .inl (g.2.1 2, 25, .inr (.inl f23)))] ++ pl) _ := hP
        have hD : va_D _ ([(r25, .inr (3, [.ref ln21, .int (nI 136), .int (nI 31), .int (nI k22)])), (ln21, .inl (g.2.1 2, 25, .inr (.inl f23)))] ++ pl) := hD
        have hq26 : k22 < 136 := hq26
        refine W.widen (k := 0) (n := 0) (by omega) (by omega) ?_
        refine lv_aload_n hx hb dKM_decapsulate_130 rfl (lv_at hl 2 rfl) ?_
        refine ty_get (ci := 5) (C := "LatticeKeys$Kem") (TT := T_KM) (N := 10) (kd := (13, 0)) hx hb hts (wg_ft i_KM) hown hK hO k_h0 (nxg (clo_cons (clo_cons hc0 kr25 (by decide)) kl21 (by decide)) k_h0 rfl) hP (fun _ h9 => h9) rfl 0 (by decide) (hts _ (wg_t kw_107)) (fun _ h9 => h9) (cd := (3, 10, 1)) rfl dKM_decapsulate_131 (fun v33 hv33 => ?_)
        obtain ⟨r29, rfl, kr29⟩ := (show ∃ r : Nat, v33 = .ref r ∧ T r = some (10, 1) from hv33)
        obtain rfl : r25 = r29 := hU _ _ _ (by decide) kr25 kr29
        refine mp_v (cx := [(r25, .inr (3, [.ref ln21, .int (nI 136), .int (nI 31), .int (nI k22)])), (ln21, .inl (g.2.1 2, 25, .inr (.inl f23)))]) (wr := []) hP hD hS hA [0, 1] [] rfl rfl rfl (by decide) (va_runV (As := []) (rest := []) F (t_SP_finish l g _ T (ln21 :: (r25 :: xs)) pl hO hU  r25 ln21 136 k22 (nI 31) f23 (by omega) (by omega)) (cwV 0 hts (wg_app (wg_c kw_610 (wg_c kw_611 (wg_c kw_612 (wg_c kw_2 wg_n)))) kw_613) rfl rfl rfl (by decide +kernel) ⟨by decide, by decide⟩) (pp_V (en_ok g) (q0 := 0) hK hP hD hS hA hE [0, 1] rfl rfl rfl rfl) rfl rfl hl.1 rfl (lv_room (Nat.le_of_ble_eq_true rfl)) dKM_decapsulate_134 ⟨by omega, by omega⟩) (fun  u27 H locs hu27 hP hD hS => ?_)
        obtain ⟨u28, pl⟩ := u27
        obtain ⟨hq27, hO⟩ := hu27
        have hP : va_P g.1 vcl ([(r25, .inr (3, [.ref ln21, .int (nI 136), .int (nI 31), .int (nI 136)])), (ln21, .inl (g.2.1 2, 25, .inr (.inl u28)))] ++ pl) _ := hP
        have hD : va_D _ ([(r25, .inr (3, [.ref ln21, .int (nI 136), .int (nI 31), .int (nI 136)])), (ln21, .inl (g.2.1 2, 25, .inr (.inl u28)))] ++ pl) := hD
        refine W.widen (k := 0) (n := 0) (by omega) (by omega) ?_
        refine lv_aload_n hx hb dKM_decapsulate_137 rfl (lv_at hl 2 rfl) ?_
        refine ty_get (ci := 5) (C := "LatticeKeys$Kem") (TT := T_KM) (N := 10) (kd := (13, 0)) hx hb hts (wg_ft i_KM) hown hK hO k_h0 (nxg (clo_cons (clo_cons hc0 kr25 (by decide)) kl21 (by decide)) k_h0 rfl) hP (fun _ h9 => h9) rfl 0 (by decide) (hts _ (wg_t kw_107)) (fun _ h9 => h9) (cd := (3, 10, 1)) rfl dKM_decapsulate_138 (fun v34 hv34 => ?_)
        obtain ⟨r30, rfl, kr30⟩ := (show ∃ r : Nat, v34 = .ref r ∧ T r = some (10, 1) from hv34)
        obtain rfl : r25 = r30 := hU _ _ _ (by decide) kr25 kr30
        refine lv_aload hx hb dKM_decapsulate_141 (lv_at hl 6 rfl) ?_
        refine lv_iconst (v := nI 0) hx hb dKM_decapsulate_143 (by decide) ?_
        refine lv_bipush (v := nI 32) hx hb dKM_decapsulate_144 (by decide) ?_
        refine mp_v (cx := [(r25, .inr (3, [.ref ln21, .int (nI 136), .int (nI 31), .int (nI 136)])), (ln21, .inl (g.2.1 2, 25, .inr (.inl u28)))]) (wr := []) hP hD hS hA [0, 1] [] rfl rfl rfl (by decide) (va_runV (As := [.ref to, .int (nI 0), .int (nI 32)]) (rest := []) F (t_SP_squeeze l g _ T (ln21 :: (r25 :: xs)) pl hO hU (clo_cons (clo_cons hc0 kr25 (by decide)) kl21 (by decide)) to 8192 0 32 r25 ln21 136 136 (nI 31) u28 k_to (by omega) (by omega) (by omega) (by omega)) (cwV 3 hts (wg_app (wg_c kw_614 (wg_c kw_615 (wg_c kw_616 (wg_c kw_2 wg_n)))) kw_617) rfl rfl rfl (by decide +kernel) ⟨by decide, by decide⟩) (pp_V (en_ok g) (q0 := 0) hK hP hD hS hA hE [0, 1] rfl rfl rfl rfl) rfl rfl hl.1 rfl (lv_room (Nat.le_of_ble_eq_true rfl)) dKM_decapsulate_146 ⟨by omega, by omega⟩) (fun  u29 H locs hu28 hP hD hS => ?_)
        obtain ⟨u30, pl⟩ := u29
        obtain ⟨hq28, hO⟩ := hu28
        obtain ⟨k23, f24⟩ := u30
        have hP : va_P g.1 vcl ([(r25, .inr (3, [.ref ln21, .int (nI 136), .int (nI 31), .int (nI k23)])), (ln21, .inl (g.2.1 2, 25, .inr (.inl f24)))] ++ pl) _ := hP
        have hD : va_D _ ([(r25, .inr (3, [.ref ln21, .int (nI 136), .int (nI 31), .int (nI k23)])), (ln21, .inl (g.2.1 2, 25, .inr (.inl f24)))] ++ pl) := hD
        have hq28 : k23 ≤ 136 := hq28
        refine W.widen (k := 0) (n := 0) (by omega) (by omega) ?_
        have hO := close1 (e := .inl (g.2.1 2, 25, .inr (.inl f24))) hO kl21 ⟨_, rfl⟩
        have hO := close1 (e := .inr (3, [.ref ln21, .int (nI 136), .int (nI 31), .int (nI k23)])) hO kr25 ⟨_, _, _, _, rfl, kl21, by omega, by omega, by omega⟩
        have hO : okx g T xs ((r25, .inr (3, [.ref ln21, .int (nI 136), .int (nI 31), .int (nI k23)])) :: (ln21, .inl (g.2.1 2, 25, .inr (.inl f24))) :: pl) := hO
        have hP : va_P g.1 vcl ([] ++ ((r25, .inr (3, [.ref ln21, .int (nI 136), .int (nI 31), .int (nI k23)])) :: (ln21, .inl (g.2.1 2, 25, .inr (.inl f24))) :: pl)) _ := hP
        have hD : va_D _ ([] ++ ((r25, .inr (3, [.ref ln21, .int (nI 136), .int (nI 31), .int (nI k23)])) :: (ln21, .inl (g.2.1 2, 25, .inr (.inl f24))) :: pl)) := hD
        generalize ((r25, .inr (3, [.ref ln21, .int (nI 136), .int (nI 31), .int (nI k23)])) :: (ln21, .inl (g.2.1 2, 25, .inr (.inl f24))) :: pl) = pl at hO hP hD
        exact mp_vret hx hb hr hlk hP hD hS pl ⟨trivial, hO⟩ [] rfl rfl rfl (by omega) (by omega) dKM_decapsulate_149
      · refine lv_aload_n hx hb dKM_decapsulate_78 rfl (lv_at hl 2 rfl) ?_
        refine ty_get (ci := 5) (C := "LatticeKeys$Kem") (TT := T_KM) (N := 10) (kd := (13, 0)) hx hb hts (wg_ft i_KM) hown hK hO k_h0 (nxg hc0 k_h0 rfl) hP (fun _ h9 => h9) rfl 7 (by decide) (hts _ (wg_t kw_114)) (fun _ h9 => h9) (cd := (3, 1, 64)) rfl dKM_decapsulate_79 (fun v35 hv35 => ?_)
        obtain ⟨r31, rfl, kr31⟩ := (show ∃ r : Nat, v35 = .ref r ∧ T r = some (1, 64) from hv35)
        refine lv_iconst (v := nI 0) hx hb dKM_decapsulate_82 (by decide) ?_
        refine lv_aload hx hb dKM_decapsulate_83 (lv_at hl 6 rfl) ?_
        refine lv_iconst (v := nI 0) hx hb dKM_decapsulate_85 (by decide) ?_
        refine lv_bipush (v := nI 32) hx hb dKM_decapsulate_86 (by decide) ?_
        refine ty_copyb11 hx hb (hml.trans hl.1.symm) hown (hts _ (wg_t kw_622)) (hts _ (wg_t kw_526)) (hts _ (wg_t kw_525)) (hts _ (wg_t kw_19)) hK hO kr31 (nxg hc0 kr31 rfl) k_to (nxg hc0 k_to rfl) hP hD hS (sp := 0) (dp := 0) (n := 32) (by omega) (by omega) (by omega) (by decide) (Nat.le_of_ble_eq_true rfl) dKM_decapsulate_88 (fun pl H locs hO hP hD hS => ?_)
        exact mp_vret hx hb hr hlk hP hD hS pl ⟨trivial, hO⟩ [] rfl rfl rfl (by omega) (by omega) dKM_decapsulate_91
    | succ n21 ih21 =>
      intro i21 z21 pl ls H locs hm21  hl hO hP hD hS
      refine lv_iload hx hb dKM_decapsulate_41 (lv_at hl 0 rfl) ?_
      refine lv_aload_n hx hb dKM_decapsulate_43 rfl (lv_at hl 3 rfl) ?_
      refine ty_get (ci := 1) (C := "LatticeKeys$KemSet") (TT := T_KS) (N := 10) (kd := (40, 0)) hx hb hts (wg_ft i_KS) hown hK hO k_st (nxg hc0 k_st rfl) hP (fun _ h9 => h9) rfl 6 (by decide) (hts _ (wg_t kw_244)) (fun _ h9 => h9) (cd := (1, 0, 768)) rfl dKM_decapsulate_44 (fun v36 hv36 => ?_)
      obtain rfl := (show v36 = .int (nI 768) from hv36)
      refine mi_ge (tgt := 73) hx hb dKM_decapsulate_47 (by decide) (by omega) (by omega) (fun h23 => absurd h23 (by omega)) (fun h23 => ?_)
      refine lv_iload hx hb dKM_decapsulate_50 (lv_at hl 1 rfl) ?_
      refine lv_aload_n hx hb dKM_decapsulate_52 rfl (lv_at hl 5 rfl) ?_
      refine lv_iload hx hb dKM_decapsulate_53 (lv_at hl 0 rfl) ?_
      refine ty_bald hx hb hK hO k_ct (nxg hc0 k_ct rfl) hP (vp_in_nI (by omega) (by omega)) dKM_decapsulate_55 (fun z22 => ?_)
      refine lv_aload_n hx hb dKM_decapsulate_56 rfl (lv_at hl 2 rfl) ?_
      refine ty_get (ci := 5) (C := "LatticeKeys$Kem") (TT := T_KM) (N := 10) (kd := (13, 0)) hx hb hts (wg_ft i_KM) hown hK hO k_h0 (nxg hc0 k_h0 rfl) hP (fun _ h9 => h9) rfl 9 (by decide) (hts _ (wg_t kw_116)) (fun _ h9 => h9) (cd := (3, 1, 1568)) rfl dKM_decapsulate_57 (fun v37 hv37 => ?_)
      obtain ⟨r32, rfl, kr32⟩ := (show ∃ r : Nat, v37 = .ref r ∧ T r = some (1, 1568) from hv37)
      refine lv_iload hx hb dKM_decapsulate_60 (lv_at hl 0 rfl) ?_
      refine ty_bald hx hb hK hO kr32 (nxg hc0 kr32 rfl) hP (vp_in_nI (by omega) (by decide)) dKM_decapsulate_62 (fun z23 => ?_)
      refine lv_ixor hx hb dKM_decapsulate_63 ?_
      refine mi_any (fun z24 => ?_)
      refine lv_ior hx hb dKM_decapsulate_64 ?_
      refine mi_any (fun z25 => ?_)
      refine lv_istore (lv' := [(5, .int z25), (6, .int (nI i21)), (0, .ref h0), (1, .ref st), (2, .ref kp), (3, .ref ct), (4, .ref to)]) hx hb dKM_decapsulate_65 hl (by decide) rfl (fun ls hl => ?_)
      refine mi_iinc (k := 1) (x := i21) (d := 1) (y := i21 + 1) (lv' := [(6, .int (nI (i21 + 1))), (5, .int z25), (0, .ref h0), (1, .ref st), (2, .ref kp), (3, .ref ct), (4, .ref to)]) hx hb dKM_decapsulate_67 hl rfl (by decide) rfl (by decide) rfl (fun ls hl => ?_)
      refine lv_goto (tgt := 41) hx hb dKM_decapsulate_70 (by decide) ?_
      exact ih21 (i21 + 1) z25 pl ls H locs (by omega) (lv_sub hl [0, 1, 2, 3, 4, 5, 6] rfl) hO hP hD hS
  exact lp21 768 0 (nI 0) pl ls _ _ (by omega) (lv_sub hl [0, 1, 2, 3, 4, 5, 6] rfl) hO hP hD hS
set_option maxHeartbeats 400000 in
set_option maxRecDepth 100000 in
theorem t_KM_decapsulate_1 (l : Launch) (g : Gd) (sz : Nat) (T : Ty) (xs : List Nat) (pl : va_W) (hO : okx g T xs pl) (hU : uni T) (hc0 : clo T xs 0) (hc2 : clo T xs 2) (h0 st kp ct to n : Nat) (k_h0 : T h0 = some (13, 0)) (k_st : T st = some (41, 0)) (k_kp : T kp = some (17, 1)) (k_ct : T ct = some (1, n)) (k_to : T to = some (1, 8192)) (h1 : 1088 ≤ n) (h2 : n < 65536)  : Met l y_KM_decapsulate w_KM_decapsulate ({ frames := 5, cells := 0, slots := 0, locals := 156 } : Room) (va_Pc [.ref h0, .ref st, .ref kp, .ref ct, .ref to] (pr (en g) g.1 vcl sz ([] ++ pl))) (va_Qv (fun (u : va_W) => (True) ∧ okx g T xs u) (po g.1 vcl (va_A ([] ++ pl) sz) (fun (u : va_W) => [] ++ u)) (va_A ([] ++ pl) sz)) 0 0 (va_A ([] ++ pl) sz) := by
  refine mc_entry (cc := c_KM_decapsulate) (maxL := 7) (ret := none) (by decide) rfl (Nat.le_of_ble_eq_true rfl) ?_
  intro p e s m args below meth c ls F hr hlk hnm hsz hP hD hE hA hl
  obtain ⟨hx, hb, hml, hown, hts⟩ := id F
  have hK := hE.1
  generalize va_A ([] ++ pl) sz = A at hD hE hA ⊢
  have hS : va_S A s.heap s.heap [] := va_S.rf
  have hl : lv_has ls 7 [(0, .ref h0), (1, .ref st), (2, .ref kp), (3, .ref ct), (4, .ref to)] := hl
  refine lv_aload_n hx hb dKM_decapsulate_0 rfl (lv_at hl 0 rfl) ?_
  refine lv_aload_n hx hb dKM_decapsulate_1 rfl (lv_at hl 1 rfl) ?_
  refine lv_aload_n hx hb dKM_decapsulate_2 rfl (lv_at hl 2 rfl) ?_
  refine ty_get (ci := 13) (C := "LatticeKeys$KeyPair") (TT := T_KP) (N := 3) (kd := (17, 1)) hx hb hts (wg_ft i_KP) hown hK hO k_kp (nxg hc0 k_kp rfl) hP (fun _ h9 => h9) rfl 2 (by decide) (hts _ (wg_t kw_751)) (fun _ h9 => h9) (cd := (3, 1, 2400)) rfl dKM_decapsulate_3 (fun v21 hv21 => ?_)
  obtain ⟨r21, rfl, kr21⟩ := (show ∃ r : Nat, v21 = .ref r ∧ T r = some (1, 2400) from hv21)
  refine lv_aload_n hx hb dKM_decapsulate_6 rfl (lv_at hl 3 rfl) ?_
  refine mp_v (cx := []) (wr := []) hP hD hS hA [] [] rfl rfl rfl (by decide) (va_runV (As := [.ref st, .ref r21, .ref ct]) (rest := []) F (t_KM_decrypt_1 l g _ T xs pl hO hU hc0 h0 st r21 ct n k_h0 k_st kr21 k_ct (by omega) (by omega)) (cwV 3 hts (wg_app (wg_c kw_1150 (wg_c kw_1152 (wg_c ks_31 (wg_c kw_3 wg_n)))) kw_1153) rfl rfl rfl (by decide +kernel) ⟨by decide, by decide⟩) (pp_VT (en_ok g) (ci := 5) (kd := (13, 0)) hK hO k_h0 (nxg hc0 k_h0 rfl) (fun _ h9 => ko1 h9) hP hD hS hA hE [] rfl rfl rfl) rfl rfl hl.1 rfl (lv_room (Nat.le_of_ble_eq_true rfl)) dKM_decapsulate_7 ⟨by omega, by omega⟩) (fun  pl H locs hu21 hP hD hS => ?_)
  obtain ⟨hq21, hO⟩ := hu21
  have hP : va_P g.1 vcl ([] ++ pl) _ := hP
  have hD : va_D _ ([] ++ pl) := hD
  refine W.widen (k := 0) (n := 0) (by omega) (by omega) ?_
  refine lv_aload_n hx hb dKM_decapsulate_10 rfl (lv_at hl 0 rfl) ?_
  refine lv_aload_n hx hb dKM_decapsulate_11 rfl (lv_at hl 2 rfl) ?_
  refine ty_get (ci := 13) (C := "LatticeKeys$KeyPair") (TT := T_KP) (N := 3) (kd := (17, 1)) hx hb hts (wg_ft i_KP) hown hK hO k_kp (nxg hc0 k_kp rfl) hP (fun _ h9 => h9) rfl 2 (by decide) (hts _ (wg_t kw_751)) (fun _ h9 => h9) (cd := (3, 1, 2400)) rfl dKM_decapsulate_12 (fun v22 hv22 => ?_)
  obtain ⟨r22, rfl, kr22⟩ := (show ∃ r : Nat, v22 = .ref r ∧ T r = some (1, 2400) from hv22)
  refine lv_aload_n hx hb dKM_decapsulate_15 rfl (lv_at hl 1 rfl) ?_
  refine ty_get (ci := 1) (C := "LatticeKeys$KemSet") (TT := T_KS) (N := 10) (kd := (41, 0)) hx hb hts (wg_ft i_KS) hown hK hO k_st (nxg hc0 k_st rfl) hP (fun _ h9 => h9) rfl 8 (by decide) (hts _ (wg_t kw_250)) (fun _ h9 => h9) (cd := (1, 0, 2336)) rfl dKM_decapsulate_16 (fun v23 hv23 => ?_)
  obtain rfl := (show v23 = .int (nI 2336) from hv23)
  refine mp_v (cx := []) (wr := []) hP hD hS hA [] [] rfl rfl rfl (by decide) (va_runV (As := [.ref r22, .int (nI 2336)]) (rest := []) F (t_KM_deriveSeeds l g _ T xs pl hO hU hc0 hc2 h0 r22 2400 2336 k_h0 kr22 (by omega) (by omega)) (cwV 2 hts (wg_app (wg_c kw_1114 (wg_c kw_1116 (wg_c ks_26 (wg_c kw_3 wg_n)))) kw_1117) rfl rfl rfl (by decide +kernel) ⟨by decide, by decide⟩) (pp_VT (en_ok g) (ci := 5) (kd := (13, 0)) hK hO k_h0 (nxg hc0 k_h0 rfl) (fun _ h9 => ko1 h9) hP hD hS hA hE [] rfl rfl rfl) rfl rfl hl.1 rfl (lv_room (Nat.le_of_ble_eq_true rfl)) dKM_decapsulate_19 ⟨by omega, by omega⟩) (fun  pl H locs hu22 hP hD hS => ?_)
  obtain ⟨hq22, hO⟩ := hu22
  have hP : va_P g.1 vcl ([] ++ pl) _ := hP
  have hD : va_D _ ([] ++ pl) := hD
  refine W.widen (k := 0) (n := 0) (by omega) (by omega) ?_
  refine lv_aload_n hx hb dKM_decapsulate_22 rfl (lv_at hl 0 rfl) ?_
  refine lv_aload_n hx hb dKM_decapsulate_23 rfl (lv_at hl 1 rfl) ?_
  refine lv_aload_n hx hb dKM_decapsulate_24 rfl (lv_at hl 2 rfl) ?_
  refine ty_get (ci := 13) (C := "LatticeKeys$KeyPair") (TT := T_KP) (N := 3) (kd := (17, 1)) hx hb hts (wg_ft i_KP) hown hK hO k_kp (nxg hc0 k_kp rfl) hP (fun _ h9 => h9) rfl 1 (by decide) (hts _ (wg_t kw_748)) (fun _ h9 => h9) (cd := (3, 1, 1184)) rfl dKM_decapsulate_25 (fun v24 hv24 => ?_)
  obtain ⟨r23, rfl, kr23⟩ := (show ∃ r : Nat, v24 = .ref r ∧ T r = some (1, 1184) from hv24)
  refine lv_aload_n hx hb dKM_decapsulate_28 rfl (lv_at hl 0 rfl) ?_
  refine ty_get (ci := 5) (C := "LatticeKeys$Kem") (TT := T_KM) (N := 10) (kd := (13, 0)) hx hb hts (wg_ft i_KM) hown hK hO k_h0 (nxg hc0 k_h0 rfl) hP (fun _ h9 => h9) rfl 9 (by decide) (hts _ (wg_t kw_116)) (fun _ h9 => h9) (cd := (3, 1, 1568)) rfl dKM_decapsulate_29 (fun v25 hv25 => ?_)
  obtain ⟨r24, rfl, kr24⟩ := (show ∃ r : Nat, v25 = .ref r ∧ T r = some (1, 1568) from hv25)
  refine mp_v (cx := []) (wr := []) hP hD hS hA [] [] rfl rfl rfl (by decide) (va_runV (As := [.ref st, .ref r23, .ref r24]) (rest := []) F (t_KM_encrypt_1 l g _ T xs pl hO hU hc0 hc2 h0 st r23 r24 1568 k_h0 k_st kr23 kr24 (by omega) (by omega)) (cwV 3 hts (wg_app (wg_c kw_1118 (wg_c kw_1120 (wg_c ks_27 (wg_c kw_3 wg_n)))) kw_1121) rfl rfl rfl (by decide +kernel) ⟨by decide, by decide⟩) (pp_VT (en_ok g) (ci := 5) (kd := (13, 0)) hK hO k_h0 (nxg hc0 k_h0 rfl) (fun _ h9 => ko1 h9) hP hD hS hA hE [] rfl rfl rfl) rfl rfl hl.1 rfl (lv_room (Nat.le_of_ble_eq_true rfl)) dKM_decapsulate_32 ⟨by omega, by omega⟩) (fun  pl H locs hu23 hP hD hS => ?_)
  obtain ⟨hq23, hO⟩ := hu23
  have hP : va_P g.1 vcl ([] ++ pl) _ := hP
  have hD : va_D _ ([] ++ pl) := hD
  refine W.widen (k := 0) (n := 0) (by omega) (by omega) ?_
  refine lv_iconst (v := nI 0) hx hb dKM_decapsulate_35 (by decide) ?_
  refine lv_istore (lv' := [(5, .int (nI 0)), (0, .ref h0), (1, .ref st), (2, .ref kp), (3, .ref ct), (4, .ref to)]) hx hb dKM_decapsulate_36 hl (by decide) rfl (fun ls hl => ?_)
  refine lv_iconst (v := nI 0) hx hb dKM_decapsulate_38 (by decide) ?_
  refine lv_istore (lv' := [(6, .int (nI 0)), (5, .int (nI 0)), (0, .ref h0), (1, .ref st), (2, .ref kp), (3, .ref ct), (4, .ref to)]) hx hb dKM_decapsulate_39 hl (by decide) rfl (fun ls hl => ?_)
  have lp21 : ∀ (n21 : Nat) (i21 : Nat) (z21 : Int32) (pl : va_W) (ls : Array Slot) (H : Heap) (locs : List Loc), n21 + i21 = 1088 → lv_has ls 7 [(6, .int (nI i21)), (5, .int z21), (0, .ref h0), (1, .ref st), (2, .ref kp), (3, .ref ct), (4, .ref to)] → okx g T xs pl → va_P g.1 vcl ([] ++ pl) H → va_D A ([] ++ pl) → va_S A s.heap H locs → W p l e ({ frames := 5, cells := 0, slots := 0, locals := 156 } : Room) s m args below meth c H locs 0 0 (MQ below (va_Qv (fun (u : va_W) => (True) ∧ okx g T xs u) (po g.1 vcl A (fun (u : va_W) => [] ++ u)) A) args s 0 0 A) (F0 m 41 ls []) := by
    intro n21
    induction n21 with
    | zero =>
      intro i21 z21 pl ls H locs hm21  hl hO hP hD hS
      refine lv_iload hx hb dKM_decapsulate_41 (lv_at hl 0 rfl) ?_
      refine lv_aload_n hx hb dKM_decapsulate_43 rfl (lv_at hl 3 rfl) ?_
      refine ty_get (ci := 1) (C := "LatticeKeys$KemSet") (TT := T_KS) (N := 10) (kd := (41, 0)) hx hb hts (wg_ft i_KS) hown hK hO k_st (nxg hc0 k_st rfl) hP (fun _ h9 => h9) rfl 6 (by decide) (hts _ (wg_t kw_244)) (fun _ h9 => h9) (cd := (1, 0, 1088)) rfl dKM_decapsulate_44 (fun v26 hv26 => ?_)
      obtain rfl := (show v26 = .int (nI 1088) from hv26)
      refine mi_ge (tgt := 73) hx hb dKM_decapsulate_47 (by decide) (by omega) (by omega) (fun h21 => ?_) (fun h21 => absurd h21 (by omega))
      refine lv_iload hx hb dKM_decapsulate_73 (lv_at hl 1 rfl) ?_
      refine lv_if_ne (tgt := 92) hx hb dKM_decapsulate_75 (by decide) (fun h22 => ?_) (fun h22 => ?_)
      · refine lv_aload_n hx hb dKM_decapsulate_92 rfl (lv_at hl 2 rfl) ?_
        refine ty_get (ci := 5) (C := "LatticeKeys$Kem") (TT := T_KM) (N := 10) (kd := (13, 0)) hx hb hts (wg_ft i_KM) hown hK hO k_h0 (nxg hc0 k_h0 rfl) hP (fun _ h9 => h9) rfl 0 (by decide) (hts _ (wg_t kw_107)) (fun _ h9 => h9) (cd := (3, 10, 1)) rfl dKM_decapsulate_93 (fun v27 hv27 => ?_)
        obtain ⟨r25, rfl, kr25⟩ := (show ∃ r : Nat, v27 = .ref r ∧ T r = some (10, 1) from hv27)
        refine lv_iconst (v := nI 3) hx hb dKM_decapsulate_96 (by decide) ?_
        obtain ⟨e21, pl, hP, hD, hk21, hO⟩ := open1 hP hD hO kr25 (nxg hc2 kr25 rfl)
        obtain ⟨ln21, rt21, ps21, x21, rfl, kl21, hr21, hr22, hr23⟩ := hk21
        have kl21 : T ln21 = some (19, 1) := kl21
        obtain ⟨e22, pl, hP, hD, hk22, hO⟩ := open1 hP hD hO kl21 (nmc (knd_ne kl21 kr25 (by decide)) (nxg hc2 kl21 rfl))
        obtain ⟨f21, rfl⟩ := hk22
        have hP : va_P g.1 vcl ([(r25, .inr (3, [.ref ln21, .int (nI rt21), .int x21, .int (nI ps21)])), (ln21, .inl (g.2.1 2, 25, .inr (.inl f21)))] ++ pl) _ := hP
        have hD : va_D _ ([(r25, .inr (3, [.ref ln21, .int (nI rt21), .int x21, .int (nI ps21)])), (ln21, .inl (g.2.1 2, 25, .inr (.inl f21)))] ++ pl) := hD
        refine mp_v (cx := [(r25, .inr (3, [.ref ln21, .int (nI rt21), .int x21, .int (nI ps21)])), (ln21, .inl (g.2.1 2, 25, .inr (.inl f21)))]) (wr := []) hP hD hS hA [0, 1] [] rfl rfl rfl (by decide) (va_runV (As := [.int (nI 3)]) (rest := []) F (t_SP_start_3 l g _ T (ln21 :: (r25 :: xs)) pl hO hU  r25 ln21 rt21 ps21 x21 f21) (cwV 1 hts (wg_app (wg_c kw_578 (wg_c kw_579 (wg_c kw_580 (wg_c kw_2 wg_n)))) kw_581) rfl rfl rfl (by decide +kernel) ⟨by decide, by decide⟩) (pp_V (en_ok g) (q0 := 0) hK hP hD hS hA hE [0, 1] rfl rfl rfl rfl) rfl rfl hl.1 rfl (lv_room (Nat.le_of_ble_eq_true rfl)) dKM_decapsulate_97 ⟨by omega, by omega⟩) (fun  u21 H locs hu24 hP hD hS => ?_)
        obtain ⟨u22, pl⟩ := u21
        obtain ⟨hq24, hO⟩ := hu24
        have hP : va_P g.1 vcl ([(r25, .inr (3, [.ref ln21, .int (nI 136), .int (nI 31), .int (nI 0)])), (ln21, .inl (g.2.1 2, 25, .inr (.inl u22)))] ++ pl) _ := hP
        have hD : va_D _ ([(r25, .inr (3, [.ref ln21, .int (nI 136), .int (nI 31), .int (nI 0)])), (ln21, .inl (g.2.1 2, 25, .inr (.inl u22)))] ++ pl) := hD
        refine W.widen (k := 0) (n := 0) (by omega) (by omega) ?_
        refine lv_aload_n hx hb dKM_decapsulate_100 rfl (lv_at hl 2 rfl) ?_
        refine ty_get (ci := 5) (C := "LatticeKeys$Kem") (TT := T_KM) (N := 10) (kd := (13, 0)) hx hb hts (wg_ft i_KM) hown hK hO k_h0 (nxg (clo_cons (clo_cons hc0 kr25 (by decide)) kl21 (by decide)) k_h0 rfl) hP (fun _ h9 => h9) rfl 0 (by decide) (hts _ (wg_t kw_107)) (fun _ h9 => h9) (cd := (3, 10, 1)) rfl dKM_decapsulate_101 (fun v28 hv28 => ?_)
        obtain ⟨r26, rfl, kr26⟩ := (show ∃ r : Nat, v28 = .ref r ∧ T r = some (10, 1) from hv28)
        obtain rfl : r25 = r26 := hU _ _ _ (by decide) kr25 kr26
        refine lv_aload_n hx hb dKM_decapsulate_104 rfl (lv_at hl 4 rfl) ?_
        refine ty_get (ci := 13) (C := "LatticeKeys$KeyPair") (TT := T_KP) (N := 3) (kd := (17, 1)) hx hb hts (wg_ft i_KP) hown hK hO k_kp (nxg (clo_cons (clo_cons hc0 kr25 (by decide)) kl21 (by decide)) k_kp rfl) hP (fun _ h9 => h9) rfl 2 (by decide) (hts _ (wg_t kw_751)) (fun _ h9 => h9) (cd := (3, 1, 2400)) rfl dKM_decapsulate_105 (fun v29 hv29 => ?_)
        obtain ⟨r27, rfl, kr27⟩ := (show ∃ r : Nat, v29 = .ref r ∧ T r = some (1, 2400) from hv29)
        refine lv_aload_n hx hb dKM_decapsulate_108 rfl (lv_at hl 3 rfl) ?_
        refine ty_get (ci := 1) (C := "LatticeKeys$KemSet") (TT := T_KS) (N := 10) (kd := (41, 0)) hx hb hts (wg_ft i_KS) hown hK hO k_st (nxg (clo_cons (clo_cons hc0 kr25 (by decide)) kl21 (by decide)) k_st rfl) hP (fun _ h9 => h9) rfl 9 (by decide) (hts _ (wg_t kw_252)) (fun _ h9 => h9) (cd := (1, 0, 2368)) rfl dKM_decapsulate_109 (fun v30 hv30 => ?_)
        obtain rfl := (show v30 = .int (nI 2368) from hv30)
        refine lv_bipush (v := nI 32) hx hb dKM_decapsulate_112 (by decide) ?_
        refine mp_v (cx := [(r25, .inr (3, [.ref ln21, .int (nI 136), .int (nI 31), .int (nI 0)])), (ln21, .inl (g.2.1 2, 25, .inr (.inl u22)))]) (wr := []) hP hD hS hA [0, 1] [] rfl rfl rfl (by decide) (va_runV (As := [.ref r27, .int (nI 2368), .int (nI 32)]) (rest := []) F (t_SP_absorb l g _ T (ln21 :: (r25 :: xs)) pl hO hU (clo_cons (clo_cons hc0 kr25 (by decide)) kl21 (by decide)) r27 2400 2368 32 r25 ln21 136 0 (nI 31) u22 kr27 (by omega) (by omega) (by omega) (by omega)) (cwV 3 hts (wg_app (wg_c kw_585 (wg_c kw_586 (wg_c kw_587 (wg_c kw_2 wg_n)))) kw_588) rfl rfl rfl (by decide +kernel) ⟨by decide, by decide⟩) (pp_V (en_ok g) (q0 := 0) hK hP hD hS hA hE [0, 1] rfl rfl rfl rfl) rfl rfl hl.1 rfl (lv_room (Nat.le_of_ble_eq_true rfl)) dKM_decapsulate_114 ⟨by omega, by omega⟩) (fun  u23 H locs hu25 hP hD hS => ?_)
        obtain ⟨u24, pl⟩ := u23
        obtain ⟨hq25, hO⟩ := hu25
        obtain ⟨k21, f22⟩ := u24
        have hP : va_P g.1 vcl ([(r25, .inr (3, [.ref ln21, .int (nI 136), .int (nI 31), .int (nI k21)])), (ln21, .inl (g.2.1 2, 25, .inr (.inl f22)))] ++ pl) _ := hP
        have hD : va_D _ ([(r25, .inr (3, [.ref ln21, .int (nI 136), .int (nI 31), .int (nI k21)])), (ln21, .inl (g.2.1 2, 25, .inr (.inl f22)))] ++ pl) := hD
        have hq25 : k21 < 136 := hq25
        refine W.widen (k := 0) (n := 0) (by omega) (by omega) ?_
        refine lv_aload_n hx hb dKM_decapsulate_117 rfl (lv_at hl 2 rfl) ?_
        refine ty_get (ci := 5) (C := "LatticeKeys$Kem") (TT := T_KM) (N := 10) (kd := (13, 0)) hx hb hts (wg_ft i_KM) hown hK hO k_h0 (nxg (clo_cons (clo_cons hc0 kr25 (by decide)) kl21 (by decide)) k_h0 rfl) hP (fun _ h9 => h9) rfl 0 (by decide) (hts _ (wg_t kw_107)) (fun _ h9 => h9) (cd := (3, 10, 1)) rfl dKM_decapsulate_118 (fun v31 hv31 => ?_)
        obtain ⟨r28, rfl, kr28⟩ := (show ∃ r : Nat, v31 = .ref r ∧ T r = some (10, 1) from hv31)
        obtain rfl : r25 = r28 := hU _ _ _ (by decide) kr25 kr28
        refine lv_aload_n hx hb dKM_decapsulate_121 rfl (lv_at hl 5 rfl) ?_
        refine lv_iconst (v := nI 0) hx hb dKM_decapsulate_122 (by decide) ?_
        refine lv_aload_n hx hb dKM_decapsulate_123 rfl (lv_at hl 3 rfl) ?_
        refine ty_get (ci := 1) (C := "LatticeKeys$KemSet") (TT := T_KS) (N := 10) (kd := (41, 0)) hx hb hts (wg_ft i_KS) hown hK hO k_st (nxg (clo_cons (clo_cons hc0 kr25 (by decide)) kl21 (by decide)) k_st rfl) hP (fun _ h9 => h9) rfl 6 (by decide) (hts _ (wg_t kw_244)) (fun _ h9 => h9) (cd := (1, 0, 1088)) rfl dKM_decapsulate_124 (fun v32 hv32 => ?_)
        obtain rfl := (show v32 = .int (nI 1088) from hv32)
        refine mp_v (cx := [(r25, .inr (3, [.ref ln21, .int (nI 136), .int (nI 31), .int (nI k21)])), (ln21, .inl (g.2.1 2, 25, .inr (.inl f22)))]) (wr := []) hP hD hS hA [0, 1] [] rfl rfl rfl (by decide) (va_runV (As := [.ref ct, .int (nI 0), .int (nI 1088)]) (rest := []) F (t_SP_absorb l g _ T (ln21 :: (r25 :: xs)) pl hO hU (clo_cons (clo_cons hc0 kr25 (by decide)) kl21 (by decide)) ct n 0 1088 r25 ln21 136 k21 (nI 31) f22 k_ct (by omega) (by omega) (by omega) (by omega)) (cwV 3 hts (wg_app (wg_c kw_585 (wg_c kw_586 (wg_c kw_587 (wg_c kw_2 wg_n)))) kw_588) rfl rfl rfl (by decide +kernel) ⟨by decide, by decide⟩) (pp_V (en_ok g) (q0 := 0) hK hP hD hS hA hE [0, 1] rfl rfl rfl rfl) rfl rfl hl.1 rfl (lv_room (Nat.le_of_ble_eq_true rfl)) dKM_decapsulate_127 ⟨by omega, by omega⟩) (fun  u25 H locs hu26 hP hD hS => ?_)
        obtain ⟨u26, pl⟩ := u25
        obtain ⟨hq26, hO⟩ := hu26
        obtain ⟨k22, f23⟩ := u26
        have hP : va_P g.1 vcl ([(r25, .inr (3, [.ref ln21, .int (nI 136), .int (nI 31), .int (nI k22)])), (ln21, .inl (g.2.1 2, 25, .inr (.inl f23)))] ++ pl) _ := hP
        have hD : va_D _ ([(r25, .inr (3, [.ref ln21, .int (nI 136), .int (nI 31), .int (nI k22)])), (ln21, .inl (g.2.1 2, 25, .inr (.inl f23)))] ++ pl) := hD
        have hq26 : k22 < 136 := hq26
        refine W.widen (k := 0) (n := 0) (by omega) (by omega) ?_
        refine lv_aload_n hx hb dKM_decapsulate_130 rfl (lv_at hl 2 rfl) ?_
        refine ty_get (ci := 5) (C := "LatticeKeys$Kem") (TT := T_KM) (N := 10) (kd := (13, 0)) hx hb hts (wg_ft i_KM) hown hK hO k_h0 (nxg (clo_cons (clo_cons hc0 kr25 (by decide)) kl21 (by decide)) k_h0 rfl) hP (fun _ h9 => h9) rfl 0 (by decide) (hts _ (wg_t kw_107)) (fun _ h9 => h9) (cd := (3, 10, 1)) rfl dKM_decapsulate_131 (fun v33 hv33 => ?_)
        obtain ⟨r29, rfl, kr29⟩ := (show ∃ r : Nat, v33 = .ref r ∧ T r = some (10, 1) from hv33)
        obtain rfl : r25 = r29 := hU _ _ _ (by decide) kr25 kr29
        refine mp_v (cx := [(r25, .inr (3, [.ref ln21, .int (nI 136), .int (nI 31), .int (nI k22)])), (ln21, .inl (g.2.1 2, 25, .inr (.inl f23)))]) (wr := []) hP hD hS hA [0, 1] [] rfl rfl rfl (by decide) (va_runV (As := []) (rest := []) F (t_SP_finish l g _ T (ln21 :: (r25 :: xs)) pl hO hU  r25 ln21 136 k22 (nI 31) f23 (by omega) (by omega)) (cwV 0 hts (wg_app (wg_c kw_610 (wg_c kw_611 (wg_c kw_612 (wg_c kw_2 wg_n)))) kw_613) rfl rfl rfl (by decide +kernel) ⟨by decide, by decide⟩) (pp_V (en_ok g) (q0 := 0) hK hP hD hS hA hE [0, 1] rfl rfl rfl rfl) rfl rfl hl.1 rfl (lv_room (Nat.le_of_ble_eq_true rfl)) dKM_decapsulate_134 ⟨by omega, by omega⟩) (fun  u27 H locs hu27 hP hD hS => ?_)
        obtain ⟨u28, pl⟩ := u27
        obtain ⟨hq27, hO⟩ := hu27
        have hP : va_P g.1 vcl ([(r25, .inr (3, [.ref ln21, .int (nI 136), .int (nI 31), .int (nI 136)])), (ln21, .inl (g.2.1 2, 25, .inr (.inl u28)))] ++ pl) _ := hP
        have hD : va_D _ ([(r25, .inr (3, [.ref ln21, .int (nI 136), .int (nI 31), .int (nI 136)])), (ln21, .inl (g.2.1 2, 25, .inr (.inl u28)))] ++ pl) := hD
        refine W.widen (k := 0) (n := 0) (by omega) (by omega) ?_
        refine lv_aload_n hx hb dKM_decapsulate_137 rfl (lv_at hl 2 rfl) ?_
        refine ty_get (ci := 5) (C := "LatticeKeys$Kem") (TT := T_KM) (N := 10) (kd := (13, 0)) hx hb hts (wg_ft i_KM) hown hK hO k_h0 (nxg (clo_cons (clo_cons hc0 kr25 (by decide)) kl21 (by decide)) k_h0 rfl) hP (fun _ h9 => h9) rfl 0 (by decide) (hts _ (wg_t kw_107)) (fun _ h9 => h9) (cd := (3, 10, 1)) rfl dKM_decapsulate_138 (fun v34 hv34 => ?_)
        obtain ⟨r30, rfl, kr30⟩ := (show ∃ r : Nat, v34 = .ref r ∧ T r = some (10, 1) from hv34)
        obtain rfl : r25 = r30 := hU _ _ _ (by decide) kr25 kr30
        refine lv_aload hx hb dKM_decapsulate_141 (lv_at hl 6 rfl) ?_
        refine lv_iconst (v := nI 0) hx hb dKM_decapsulate_143 (by decide) ?_
        refine lv_bipush (v := nI 32) hx hb dKM_decapsulate_144 (by decide) ?_
        refine mp_v (cx := [(r25, .inr (3, [.ref ln21, .int (nI 136), .int (nI 31), .int (nI 136)])), (ln21, .inl (g.2.1 2, 25, .inr (.inl u28)))]) (wr := []) hP hD hS hA [0, 1] [] rfl rfl rfl (by decide) (va_runV (As := [.ref to, .int (nI 0), .int (nI 32)]) (rest := []) F (t_SP_squeeze l g _ T (ln21 :: (r25 :: xs)) pl hO hU (clo_cons (clo_cons hc0 kr25 (by decide)) kl21 (by decide)) to 8192 0 32 r25 ln21 136 136 (nI 31) u28 k_to (by omega) (by omega) (by omega) (by omega)) (cwV 3 hts (wg_app (wg_c kw_614 (wg_c kw_615 (wg_c kw_616 (wg_c kw_2 wg_n)))) kw_617) rfl rfl rfl (by decide +kernel) ⟨by decide, by decide⟩) (pp_V (en_ok g) (q0 := 0) hK hP hD hS hA hE [0, 1] rfl rfl rfl rfl) rfl rfl hl.1 rfl (lv_room (Nat.le_of_ble_eq_true rfl)) dKM_decapsulate_146 ⟨by omega, by omega⟩) (fun  u29 H locs hu28 hP hD hS => ?_)
        obtain ⟨u30, pl⟩ := u29
        obtain ⟨hq28, hO⟩ := hu28
        obtain ⟨k23, f24⟩ := u30
        have hP : va_P g.1 vcl ([(r25, .inr (3, [.ref ln21, .int (nI 136), .int (nI 31), .int (nI k23)])), (ln21, .inl (g.2.1 2, 25, .inr (.inl f24)))] ++ pl) _ := hP
        have hD : va_D _ ([(r25, .inr (3, [.ref ln21, .int (nI 136), .int (nI 31), .int (nI k23)])), (ln21, .inl (g.2.1 2, 25, .inr (.inl f24)))] ++ pl) := hD
        have hq28 : k23 ≤ 136 := hq28
        refine W.widen (k := 0) (n := 0) (by omega) (by omega) ?_
        have hO := close1 (e := .inl (g.2.1 2, 25, .inr (.inl f24))) hO kl21 ⟨_, rfl⟩
        have hO := close1 (e := .inr (3, [.ref ln21, .int (nI 136), .int (nI 31), .int (nI k23)])) hO kr25 ⟨_, _, _, _, rfl, kl21, by omega, by omega, by omega⟩
        have hO : okx g T xs ((r25, .inr (3, [.ref ln21, .int (nI 136), .int (nI 31), .int (nI k23)])) :: (ln21, .inl (g.2.1 2, 25, .inr (.inl f24))) :: pl) := hO
        have hP : va_P g.1 vcl ([] ++ ((r25, .inr (3, [.ref ln21, .int (nI 136), .int (nI 31), .int (nI k23)])) :: (ln21, .inl (g.2.1 2, 25, .inr (.inl f24))) :: pl)) _ := hP
        have hD : va_D _ ([] ++ ((r25, .inr (3, [.ref ln21, .int (nI 136), .int (nI 31), .int (nI k23)])) :: (ln21, .inl (g.2.1 2, 25, .inr (.inl f24))) :: pl)) := hD
        generalize ((r25, .inr (3, [.ref ln21, .int (nI 136), .int (nI 31), .int (nI k23)])) :: (ln21, .inl (g.2.1 2, 25, .inr (.inl f24))) :: pl) = pl at hO hP hD
        exact mp_vret hx hb hr hlk hP hD hS pl ⟨trivial, hO⟩ [] rfl rfl rfl (by omega) (by omega) dKM_decapsulate_149
      · refine lv_aload_n hx hb dKM_decapsulate_78 rfl (lv_at hl 2 rfl) ?_
        refine ty_get (ci := 5) (C := "LatticeKeys$Kem") (TT := T_KM) (N := 10) (kd := (13, 0)) hx hb hts (wg_ft i_KM) hown hK hO k_h0 (nxg hc0 k_h0 rfl) hP (fun _ h9 => h9) rfl 7 (by decide) (hts _ (wg_t kw_114)) (fun _ h9 => h9) (cd := (3, 1, 64)) rfl dKM_decapsulate_79 (fun v35 hv35 => ?_)
        obtain ⟨r31, rfl, kr31⟩ := (show ∃ r : Nat, v35 = .ref r ∧ T r = some (1, 64) from hv35)
        refine lv_iconst (v := nI 0) hx hb dKM_decapsulate_82 (by decide) ?_
        refine lv_aload hx hb dKM_decapsulate_83 (lv_at hl 6 rfl) ?_
        refine lv_iconst (v := nI 0) hx hb dKM_decapsulate_85 (by decide) ?_
        refine lv_bipush (v := nI 32) hx hb dKM_decapsulate_86 (by decide) ?_
        refine ty_copyb11 hx hb (hml.trans hl.1.symm) hown (hts _ (wg_t kw_622)) (hts _ (wg_t kw_526)) (hts _ (wg_t kw_525)) (hts _ (wg_t kw_19)) hK hO kr31 (nxg hc0 kr31 rfl) k_to (nxg hc0 k_to rfl) hP hD hS (sp := 0) (dp := 0) (n := 32) (by omega) (by omega) (by omega) (by decide) (Nat.le_of_ble_eq_true rfl) dKM_decapsulate_88 (fun pl H locs hO hP hD hS => ?_)
        exact mp_vret hx hb hr hlk hP hD hS pl ⟨trivial, hO⟩ [] rfl rfl rfl (by omega) (by omega) dKM_decapsulate_91
    | succ n21 ih21 =>
      intro i21 z21 pl ls H locs hm21  hl hO hP hD hS
      refine lv_iload hx hb dKM_decapsulate_41 (lv_at hl 0 rfl) ?_
      refine lv_aload_n hx hb dKM_decapsulate_43 rfl (lv_at hl 3 rfl) ?_
      refine ty_get (ci := 1) (C := "LatticeKeys$KemSet") (TT := T_KS) (N := 10) (kd := (41, 0)) hx hb hts (wg_ft i_KS) hown hK hO k_st (nxg hc0 k_st rfl) hP (fun _ h9 => h9) rfl 6 (by decide) (hts _ (wg_t kw_244)) (fun _ h9 => h9) (cd := (1, 0, 1088)) rfl dKM_decapsulate_44 (fun v36 hv36 => ?_)
      obtain rfl := (show v36 = .int (nI 1088) from hv36)
      refine mi_ge (tgt := 73) hx hb dKM_decapsulate_47 (by decide) (by omega) (by omega) (fun h23 => absurd h23 (by omega)) (fun h23 => ?_)
      refine lv_iload hx hb dKM_decapsulate_50 (lv_at hl 1 rfl) ?_
      refine lv_aload_n hx hb dKM_decapsulate_52 rfl (lv_at hl 5 rfl) ?_
      refine lv_iload hx hb dKM_decapsulate_53 (lv_at hl 0 rfl) ?_
      refine ty_bald hx hb hK hO k_ct (nxg hc0 k_ct rfl) hP (vp_in_nI (by omega) (by omega)) dKM_decapsulate_55 (fun z22 => ?_)
      refine lv_aload_n hx hb dKM_decapsulate_56 rfl (lv_at hl 2 rfl) ?_
      refine ty_get (ci := 5) (C := "LatticeKeys$Kem") (TT := T_KM) (N := 10) (kd := (13, 0)) hx hb hts (wg_ft i_KM) hown hK hO k_h0 (nxg hc0 k_h0 rfl) hP (fun _ h9 => h9) rfl 9 (by decide) (hts _ (wg_t kw_116)) (fun _ h9 => h9) (cd := (3, 1, 1568)) rfl dKM_decapsulate_57 (fun v37 hv37 => ?_)
      obtain ⟨r32, rfl, kr32⟩ := (show ∃ r : Nat, v37 = .ref r ∧ T r = some (1, 1568) from hv37)
      refine lv_iload hx hb dKM_decapsulate_60 (lv_at hl 0 rfl) ?_
      refine ty_bald hx hb hK hO kr32 (nxg hc0 kr32 rfl) hP (vp_in_nI (by omega) (by decide)) dKM_decapsulate_62 (fun z23 => ?_)
      refine lv_ixor hx hb dKM_decapsulate_63 ?_
      refine mi_any (fun z24 => ?_)
      refine lv_ior hx hb dKM_decapsulate_64 ?_
      refine mi_any (fun z25 => ?_)
      refine lv_istore (lv' := [(5, .int z25), (6, .int (nI i21)), (0, .ref h0), (1, .ref st), (2, .ref kp), (3, .ref ct), (4, .ref to)]) hx hb dKM_decapsulate_65 hl (by decide) rfl (fun ls hl => ?_)
      refine mi_iinc (k := 1) (x := i21) (d := 1) (y := i21 + 1) (lv' := [(6, .int (nI (i21 + 1))), (5, .int z25), (0, .ref h0), (1, .ref st), (2, .ref kp), (3, .ref ct), (4, .ref to)]) hx hb dKM_decapsulate_67 hl rfl (by decide) rfl (by decide) rfl (fun ls hl => ?_)
      refine lv_goto (tgt := 41) hx hb dKM_decapsulate_70 (by decide) ?_
      exact ih21 (i21 + 1) z25 pl ls H locs (by omega) (lv_sub hl [0, 1, 2, 3, 4, 5, 6] rfl) hO hP hD hS
  exact lp21 1088 0 (nI 0) pl ls _ _ (by omega) (lv_sub hl [0, 1, 2, 3, 4, 5, 6] rfl) hO hP hD hS
set_option maxHeartbeats 400000 in
set_option maxRecDepth 100000 in
theorem t_KM_decapsulate_2 (l : Launch) (g : Gd) (sz : Nat) (T : Ty) (xs : List Nat) (pl : va_W) (hO : okx g T xs pl) (hU : uni T) (hc0 : clo T xs 0) (hc2 : clo T xs 2) (h0 st kp ct to n : Nat) (k_h0 : T h0 = some (13, 0)) (k_st : T st = some (42, 0)) (k_kp : T kp = some (17, 2)) (k_ct : T ct = some (1, n)) (k_to : T to = some (1, 8192)) (h1 : 1568 ≤ n) (h2 : n < 65536)  : Met l y_KM_decapsulate w_KM_decapsulate ({ frames := 5, cells := 0, slots := 0, locals := 156 } : Room) (va_Pc [.ref h0, .ref st, .ref kp, .ref ct, .ref to] (pr (en g) g.1 vcl sz ([] ++ pl))) (va_Qv (fun (u : va_W) => (True) ∧ okx g T xs u) (po g.1 vcl (va_A ([] ++ pl) sz) (fun (u : va_W) => [] ++ u)) (va_A ([] ++ pl) sz)) 0 0 (va_A ([] ++ pl) sz) := by
  refine mc_entry (cc := c_KM_decapsulate) (maxL := 7) (ret := none) (by decide) rfl (Nat.le_of_ble_eq_true rfl) ?_
  intro p e s m args below meth c ls F hr hlk hnm hsz hP hD hE hA hl
  obtain ⟨hx, hb, hml, hown, hts⟩ := id F
  have hK := hE.1
  generalize va_A ([] ++ pl) sz = A at hD hE hA ⊢
  have hS : va_S A s.heap s.heap [] := va_S.rf
  have hl : lv_has ls 7 [(0, .ref h0), (1, .ref st), (2, .ref kp), (3, .ref ct), (4, .ref to)] := hl
  refine lv_aload_n hx hb dKM_decapsulate_0 rfl (lv_at hl 0 rfl) ?_
  refine lv_aload_n hx hb dKM_decapsulate_1 rfl (lv_at hl 1 rfl) ?_
  refine lv_aload_n hx hb dKM_decapsulate_2 rfl (lv_at hl 2 rfl) ?_
  refine ty_get (ci := 13) (C := "LatticeKeys$KeyPair") (TT := T_KP) (N := 3) (kd := (17, 2)) hx hb hts (wg_ft i_KP) hown hK hO k_kp (nxg hc0 k_kp rfl) hP (fun _ h9 => h9) rfl 2 (by decide) (hts _ (wg_t kw_751)) (fun _ h9 => h9) (cd := (3, 1, 3168)) rfl dKM_decapsulate_3 (fun v21 hv21 => ?_)
  obtain ⟨r21, rfl, kr21⟩ := (show ∃ r : Nat, v21 = .ref r ∧ T r = some (1, 3168) from hv21)
  refine lv_aload_n hx hb dKM_decapsulate_6 rfl (lv_at hl 3 rfl) ?_
  refine mp_v (cx := []) (wr := []) hP hD hS hA [] [] rfl rfl rfl (by decide) (va_runV (As := [.ref st, .ref r21, .ref ct]) (rest := []) F (t_KM_decrypt_2 l g _ T xs pl hO hU hc0 h0 st r21 ct n k_h0 k_st kr21 k_ct (by omega) (by omega)) (cwV 3 hts (wg_app (wg_c kw_1150 (wg_c kw_1152 (wg_c ks_31 (wg_c kw_3 wg_n)))) kw_1153) rfl rfl rfl (by decide +kernel) ⟨by decide, by decide⟩) (pp_VT (en_ok g) (ci := 5) (kd := (13, 0)) hK hO k_h0 (nxg hc0 k_h0 rfl) (fun _ h9 => ko1 h9) hP hD hS hA hE [] rfl rfl rfl) rfl rfl hl.1 rfl (lv_room (Nat.le_of_ble_eq_true rfl)) dKM_decapsulate_7 ⟨by omega, by omega⟩) (fun  pl H locs hu21 hP hD hS => ?_)
  obtain ⟨hq21, hO⟩ := hu21
  have hP : va_P g.1 vcl ([] ++ pl) _ := hP
  have hD : va_D _ ([] ++ pl) := hD
  refine W.widen (k := 0) (n := 0) (by omega) (by omega) ?_
  refine lv_aload_n hx hb dKM_decapsulate_10 rfl (lv_at hl 0 rfl) ?_
  refine lv_aload_n hx hb dKM_decapsulate_11 rfl (lv_at hl 2 rfl) ?_
  refine ty_get (ci := 13) (C := "LatticeKeys$KeyPair") (TT := T_KP) (N := 3) (kd := (17, 2)) hx hb hts (wg_ft i_KP) hown hK hO k_kp (nxg hc0 k_kp rfl) hP (fun _ h9 => h9) rfl 2 (by decide) (hts _ (wg_t kw_751)) (fun _ h9 => h9) (cd := (3, 1, 3168)) rfl dKM_decapsulate_12 (fun v22 hv22 => ?_)
  obtain ⟨r22, rfl, kr22⟩ := (show ∃ r : Nat, v22 = .ref r ∧ T r = some (1, 3168) from hv22)
  refine lv_aload_n hx hb dKM_decapsulate_15 rfl (lv_at hl 1 rfl) ?_
  refine ty_get (ci := 1) (C := "LatticeKeys$KemSet") (TT := T_KS) (N := 10) (kd := (42, 0)) hx hb hts (wg_ft i_KS) hown hK hO k_st (nxg hc0 k_st rfl) hP (fun _ h9 => h9) rfl 8 (by decide) (hts _ (wg_t kw_250)) (fun _ h9 => h9) (cd := (1, 0, 3104)) rfl dKM_decapsulate_16 (fun v23 hv23 => ?_)
  obtain rfl := (show v23 = .int (nI 3104) from hv23)
  refine mp_v (cx := []) (wr := []) hP hD hS hA [] [] rfl rfl rfl (by decide) (va_runV (As := [.ref r22, .int (nI 3104)]) (rest := []) F (t_KM_deriveSeeds l g _ T xs pl hO hU hc0 hc2 h0 r22 3168 3104 k_h0 kr22 (by omega) (by omega)) (cwV 2 hts (wg_app (wg_c kw_1114 (wg_c kw_1116 (wg_c ks_26 (wg_c kw_3 wg_n)))) kw_1117) rfl rfl rfl (by decide +kernel) ⟨by decide, by decide⟩) (pp_VT (en_ok g) (ci := 5) (kd := (13, 0)) hK hO k_h0 (nxg hc0 k_h0 rfl) (fun _ h9 => ko1 h9) hP hD hS hA hE [] rfl rfl rfl) rfl rfl hl.1 rfl (lv_room (Nat.le_of_ble_eq_true rfl)) dKM_decapsulate_19 ⟨by omega, by omega⟩) (fun  pl H locs hu22 hP hD hS => ?_)
  obtain ⟨hq22, hO⟩ := hu22
  have hP : va_P g.1 vcl ([] ++ pl) _ := hP
  have hD : va_D _ ([] ++ pl) := hD
  refine W.widen (k := 0) (n := 0) (by omega) (by omega) ?_
  refine lv_aload_n hx hb dKM_decapsulate_22 rfl (lv_at hl 0 rfl) ?_
  refine lv_aload_n hx hb dKM_decapsulate_23 rfl (lv_at hl 1 rfl) ?_
  refine lv_aload_n hx hb dKM_decapsulate_24 rfl (lv_at hl 2 rfl) ?_
  refine ty_get (ci := 13) (C := "LatticeKeys$KeyPair") (TT := T_KP) (N := 3) (kd := (17, 2)) hx hb hts (wg_ft i_KP) hown hK hO k_kp (nxg hc0 k_kp rfl) hP (fun _ h9 => h9) rfl 1 (by decide) (hts _ (wg_t kw_748)) (fun _ h9 => h9) (cd := (3, 1, 1568)) rfl dKM_decapsulate_25 (fun v24 hv24 => ?_)
  obtain ⟨r23, rfl, kr23⟩ := (show ∃ r : Nat, v24 = .ref r ∧ T r = some (1, 1568) from hv24)
  refine lv_aload_n hx hb dKM_decapsulate_28 rfl (lv_at hl 0 rfl) ?_
  refine ty_get (ci := 5) (C := "LatticeKeys$Kem") (TT := T_KM) (N := 10) (kd := (13, 0)) hx hb hts (wg_ft i_KM) hown hK hO k_h0 (nxg hc0 k_h0 rfl) hP (fun _ h9 => h9) rfl 9 (by decide) (hts _ (wg_t kw_116)) (fun _ h9 => h9) (cd := (3, 1, 1568)) rfl dKM_decapsulate_29 (fun v25 hv25 => ?_)
  obtain ⟨r24, rfl, kr24⟩ := (show ∃ r : Nat, v25 = .ref r ∧ T r = some (1, 1568) from hv25)
  refine mp_v (cx := []) (wr := []) hP hD hS hA [] [] rfl rfl rfl (by decide) (va_runV (As := [.ref st, .ref r23, .ref r24]) (rest := []) F (t_KM_encrypt_2 l g _ T xs pl hO hU hc0 hc2 h0 st r23 r24 1568 k_h0 k_st kr23 kr24 (by omega) (by omega)) (cwV 3 hts (wg_app (wg_c kw_1118 (wg_c kw_1120 (wg_c ks_27 (wg_c kw_3 wg_n)))) kw_1121) rfl rfl rfl (by decide +kernel) ⟨by decide, by decide⟩) (pp_VT (en_ok g) (ci := 5) (kd := (13, 0)) hK hO k_h0 (nxg hc0 k_h0 rfl) (fun _ h9 => ko1 h9) hP hD hS hA hE [] rfl rfl rfl) rfl rfl hl.1 rfl (lv_room (Nat.le_of_ble_eq_true rfl)) dKM_decapsulate_32 ⟨by omega, by omega⟩) (fun  pl H locs hu23 hP hD hS => ?_)
  obtain ⟨hq23, hO⟩ := hu23
  have hP : va_P g.1 vcl ([] ++ pl) _ := hP
  have hD : va_D _ ([] ++ pl) := hD
  refine W.widen (k := 0) (n := 0) (by omega) (by omega) ?_
  refine lv_iconst (v := nI 0) hx hb dKM_decapsulate_35 (by decide) ?_
  refine lv_istore (lv' := [(5, .int (nI 0)), (0, .ref h0), (1, .ref st), (2, .ref kp), (3, .ref ct), (4, .ref to)]) hx hb dKM_decapsulate_36 hl (by decide) rfl (fun ls hl => ?_)
  refine lv_iconst (v := nI 0) hx hb dKM_decapsulate_38 (by decide) ?_
  refine lv_istore (lv' := [(6, .int (nI 0)), (5, .int (nI 0)), (0, .ref h0), (1, .ref st), (2, .ref kp), (3, .ref ct), (4, .ref to)]) hx hb dKM_decapsulate_39 hl (by decide) rfl (fun ls hl => ?_)
  have lp21 : ∀ (n21 : Nat) (i21 : Nat) (z21 : Int32) (pl : va_W) (ls : Array Slot) (H : Heap) (locs : List Loc), n21 + i21 = 1568 → lv_has ls 7 [(6, .int (nI i21)), (5, .int z21), (0, .ref h0), (1, .ref st), (2, .ref kp), (3, .ref ct), (4, .ref to)] → okx g T xs pl → va_P g.1 vcl ([] ++ pl) H → va_D A ([] ++ pl) → va_S A s.heap H locs → W p l e ({ frames := 5, cells := 0, slots := 0, locals := 156 } : Room) s m args below meth c H locs 0 0 (MQ below (va_Qv (fun (u : va_W) => (True) ∧ okx g T xs u) (po g.1 vcl A (fun (u : va_W) => [] ++ u)) A) args s 0 0 A) (F0 m 41 ls []) := by
    intro n21
    induction n21 with
    | zero =>
      intro i21 z21 pl ls H locs hm21  hl hO hP hD hS
      refine lv_iload hx hb dKM_decapsulate_41 (lv_at hl 0 rfl) ?_
      refine lv_aload_n hx hb dKM_decapsulate_43 rfl (lv_at hl 3 rfl) ?_
      refine ty_get (ci := 1) (C := "LatticeKeys$KemSet") (TT := T_KS) (N := 10) (kd := (42, 0)) hx hb hts (wg_ft i_KS) hown hK hO k_st (nxg hc0 k_st rfl) hP (fun _ h9 => h9) rfl 6 (by decide) (hts _ (wg_t kw_244)) (fun _ h9 => h9) (cd := (1, 0, 1568)) rfl dKM_decapsulate_44 (fun v26 hv26 => ?_)
      obtain rfl := (show v26 = .int (nI 1568) from hv26)
      refine mi_ge (tgt := 73) hx hb dKM_decapsulate_47 (by decide) (by omega) (by omega) (fun h21 => ?_) (fun h21 => absurd h21 (by omega))
      refine lv_iload hx hb dKM_decapsulate_73 (lv_at hl 1 rfl) ?_
      refine lv_if_ne (tgt := 92) hx hb dKM_decapsulate_75 (by decide) (fun h22 => ?_) (fun h22 => ?_)
      · refine lv_aload_n hx hb dKM_decapsulate_92 rfl (lv_at hl 2 rfl) ?_
        refine ty_get (ci := 5) (C := "LatticeKeys$Kem") (TT := T_KM) (N := 10) (kd := (13, 0)) hx hb hts (wg_ft i_KM) hown hK hO k_h0 (nxg hc0 k_h0 rfl) hP (fun _ h9 => h9) rfl 0 (by decide) (hts _ (wg_t kw_107)) (fun _ h9 => h9) (cd := (3, 10, 1)) rfl dKM_decapsulate_93 (fun v27 hv27 => ?_)
        obtain ⟨r25, rfl, kr25⟩ := (show ∃ r : Nat, v27 = .ref r ∧ T r = some (10, 1) from hv27)
        refine lv_iconst (v := nI 3) hx hb dKM_decapsulate_96 (by decide) ?_
        obtain ⟨e21, pl, hP, hD, hk21, hO⟩ := open1 hP hD hO kr25 (nxg hc2 kr25 rfl)
        obtain ⟨ln21, rt21, ps21, x21, rfl, kl21, hr21, hr22, hr23⟩ := hk21
        have kl21 : T ln21 = some (19, 1) := kl21
        obtain ⟨e22, pl, hP, hD, hk22, hO⟩ := open1 hP hD hO kl21 (nmc (knd_ne kl21 kr25 (by decide)) (nxg hc2 kl21 rfl))
        obtain ⟨f21, rfl⟩ := hk22
        have hP : va_P g.1 vcl ([(r25, .inr (3, [.ref ln21, .int (nI rt21), .int x21, .int (nI ps21)])), (ln21, .inl (g.2.1 2, 25, .inr (.inl f21)))] ++ pl) _ := hP
        have hD : va_D _ ([(r25, .inr (3, [.ref ln21, .int (nI rt21), .int x21, .int (nI ps21)])), (ln21, .inl (g.2.1 2, 25, .inr (.inl f21)))] ++ pl) := hD
        refine mp_v (cx := [(r25, .inr (3, [.ref ln21, .int (nI rt21), .int x21, .int (nI ps21)])), (ln21, .inl (g.2.1 2, 25, .inr (.inl f21)))]) (wr := []) hP hD hS hA [0, 1] [] rfl rfl rfl (by decide) (va_runV (As := [.int (nI 3)]) (rest := []) F (t_SP_start_3 l g _ T (ln21 :: (r25 :: xs)) pl hO hU  r25 ln21 rt21 ps21 x21 f21) (cwV 1 hts (wg_app (wg_c kw_578 (wg_c kw_579 (wg_c kw_580 (wg_c kw_2 wg_n)))) kw_581) rfl rfl rfl (by decide +kernel) ⟨by decide, by decide⟩) (pp_V (en_ok g) (q0 := 0) hK hP hD hS hA hE [0, 1] rfl rfl rfl rfl) rfl rfl hl.1 rfl (lv_room (Nat.le_of_ble_eq_true rfl)) dKM_decapsulate_97 ⟨by omega, by omega⟩) (fun  u21 H locs hu24 hP hD hS => ?_)
        obtain ⟨u22, pl⟩ := u21
        obtain ⟨hq24, hO⟩ := hu24
        have hP : va_P g.1 vcl ([(r25, .inr (3, [.ref ln21, .int (nI 136), .int (nI 31), .int (nI 0)])), (ln21, .inl (g.2.1 2, 25, .inr (.inl u22)))] ++ pl) _ := hP
        have hD : va_D _ ([(r25, .inr (3, [.ref ln21, .int (nI 136), .int (nI 31), .int (nI 0)])), (ln21, .inl (g.2.1 2, 25, .inr (.inl u22)))] ++ pl) := hD
        refine W.widen (k := 0) (n := 0) (by omega) (by omega) ?_
        refine lv_aload_n hx hb dKM_decapsulate_100 rfl (lv_at hl 2 rfl) ?_
        refine ty_get (ci := 5) (C := "LatticeKeys$Kem") (TT := T_KM) (N := 10) (kd := (13, 0)) hx hb hts (wg_ft i_KM) hown hK hO k_h0 (nxg (clo_cons (clo_cons hc0 kr25 (by decide)) kl21 (by decide)) k_h0 rfl) hP (fun _ h9 => h9) rfl 0 (by decide) (hts _ (wg_t kw_107)) (fun _ h9 => h9) (cd := (3, 10, 1)) rfl dKM_decapsulate_101 (fun v28 hv28 => ?_)
        obtain ⟨r26, rfl, kr26⟩ := (show ∃ r : Nat, v28 = .ref r ∧ T r = some (10, 1) from hv28)
        obtain rfl : r25 = r26 := hU _ _ _ (by decide) kr25 kr26
        refine lv_aload_n hx hb dKM_decapsulate_104 rfl (lv_at hl 4 rfl) ?_
        refine ty_get (ci := 13) (C := "LatticeKeys$KeyPair") (TT := T_KP) (N := 3) (kd := (17, 2)) hx hb hts (wg_ft i_KP) hown hK hO k_kp (nxg (clo_cons (clo_cons hc0 kr25 (by decide)) kl21 (by decide)) k_kp rfl) hP (fun _ h9 => h9) rfl 2 (by decide) (hts _ (wg_t kw_751)) (fun _ h9 => h9) (cd := (3, 1, 3168)) rfl dKM_decapsulate_105 (fun v29 hv29 => ?_)
        obtain ⟨r27, rfl, kr27⟩ := (show ∃ r : Nat, v29 = .ref r ∧ T r = some (1, 3168) from hv29)
        refine lv_aload_n hx hb dKM_decapsulate_108 rfl (lv_at hl 3 rfl) ?_
        refine ty_get (ci := 1) (C := "LatticeKeys$KemSet") (TT := T_KS) (N := 10) (kd := (42, 0)) hx hb hts (wg_ft i_KS) hown hK hO k_st (nxg (clo_cons (clo_cons hc0 kr25 (by decide)) kl21 (by decide)) k_st rfl) hP (fun _ h9 => h9) rfl 9 (by decide) (hts _ (wg_t kw_252)) (fun _ h9 => h9) (cd := (1, 0, 3136)) rfl dKM_decapsulate_109 (fun v30 hv30 => ?_)
        obtain rfl := (show v30 = .int (nI 3136) from hv30)
        refine lv_bipush (v := nI 32) hx hb dKM_decapsulate_112 (by decide) ?_
        refine mp_v (cx := [(r25, .inr (3, [.ref ln21, .int (nI 136), .int (nI 31), .int (nI 0)])), (ln21, .inl (g.2.1 2, 25, .inr (.inl u22)))]) (wr := []) hP hD hS hA [0, 1] [] rfl rfl rfl (by decide) (va_runV (As := [.ref r27, .int (nI 3136), .int (nI 32)]) (rest := []) F (t_SP_absorb l g _ T (ln21 :: (r25 :: xs)) pl hO hU (clo_cons (clo_cons hc0 kr25 (by decide)) kl21 (by decide)) r27 3168 3136 32 r25 ln21 136 0 (nI 31) u22 kr27 (by omega) (by omega) (by omega) (by omega)) (cwV 3 hts (wg_app (wg_c kw_585 (wg_c kw_586 (wg_c kw_587 (wg_c kw_2 wg_n)))) kw_588) rfl rfl rfl (by decide +kernel) ⟨by decide, by decide⟩) (pp_V (en_ok g) (q0 := 0) hK hP hD hS hA hE [0, 1] rfl rfl rfl rfl) rfl rfl hl.1 rfl (lv_room (Nat.le_of_ble_eq_true rfl)) dKM_decapsulate_114 ⟨by omega, by omega⟩) (fun  u23 H locs hu25 hP hD hS => ?_)
        obtain ⟨u24, pl⟩ := u23
        obtain ⟨hq25, hO⟩ := hu25
        obtain ⟨k21, f22⟩ := u24
        have hP : va_P g.1 vcl ([(r25, .inr (3, [.ref ln21, .int (nI 136), .int (nI 31), .int (nI k21)])), (ln21, .inl (g.2.1 2, 25, .inr (.inl f22)))] ++ pl) _ := hP
        have hD : va_D _ ([(r25, .inr (3, [.ref ln21, .int (nI 136), .int (nI 31), .int (nI k21)])), (ln21, .inl (g.2.1 2, 25, .inr (.inl f22)))] ++ pl) := hD
        have hq25 : k21 < 136 := hq25
        refine W.widen (k := 0) (n := 0) (by omega) (by omega) ?_
        refine lv_aload_n hx hb dKM_decapsulate_117 rfl (lv_at hl 2 rfl) ?_
        refine ty_get (ci := 5) (C := "LatticeKeys$Kem") (TT := T_KM) (N := 10) (kd := (13, 0)) hx hb hts (wg_ft i_KM) hown hK hO k_h0 (nxg (clo_cons (clo_cons hc0 kr25 (by decide)) kl21 (by decide)) k_h0 rfl) hP (fun _ h9 => h9) rfl 0 (by decide) (hts _ (wg_t kw_107)) (fun _ h9 => h9) (cd := (3, 10, 1)) rfl dKM_decapsulate_118 (fun v31 hv31 => ?_)
        obtain ⟨r28, rfl, kr28⟩ := (show ∃ r : Nat, v31 = .ref r ∧ T r = some (10, 1) from hv31)
        obtain rfl : r25 = r28 := hU _ _ _ (by decide) kr25 kr28
        refine lv_aload_n hx hb dKM_decapsulate_121 rfl (lv_at hl 5 rfl) ?_
        refine lv_iconst (v := nI 0) hx hb dKM_decapsulate_122 (by decide) ?_
        refine lv_aload_n hx hb dKM_decapsulate_123 rfl (lv_at hl 3 rfl) ?_
        refine ty_get (ci := 1) (C := "LatticeKeys$KemSet") (TT := T_KS) (N := 10) (kd := (42, 0)) hx hb hts (wg_ft i_KS) hown hK hO k_st (nxg (clo_cons (clo_cons hc0 kr25 (by decide)) kl21 (by decide)) k_st rfl) hP (fun _ h9 => h9) rfl 6 (by decide) (hts _ (wg_t kw_244)) (fun _ h9 => h9) (cd := (1, 0, 1568)) rfl dKM_decapsulate_124 (fun v32 hv32 => ?_)
        obtain rfl := (show v32 = .int (nI 1568) from hv32)
        refine mp_v (cx := [(r25, .inr (3, [.ref ln21, .int (nI 136), .int (nI 31), .int (nI k21)])), (ln21, .inl (g.2.1 2, 25, .inr (.inl f22)))]) (wr := []) hP hD hS hA [0, 1] [] rfl rfl rfl (by decide) (va_runV (As := [.ref ct, .int (nI 0), .int (nI 1568)]) (rest := []) F (t_SP_absorb l g _ T (ln21 :: (r25 :: xs)) pl hO hU (clo_cons (clo_cons hc0 kr25 (by decide)) kl21 (by decide)) ct n 0 1568 r25 ln21 136 k21 (nI 31) f22 k_ct (by omega) (by omega) (by omega) (by omega)) (cwV 3 hts (wg_app (wg_c kw_585 (wg_c kw_586 (wg_c kw_587 (wg_c kw_2 wg_n)))) kw_588) rfl rfl rfl (by decide +kernel) ⟨by decide, by decide⟩) (pp_V (en_ok g) (q0 := 0) hK hP hD hS hA hE [0, 1] rfl rfl rfl rfl) rfl rfl hl.1 rfl (lv_room (Nat.le_of_ble_eq_true rfl)) dKM_decapsulate_127 ⟨by omega, by omega⟩) (fun  u25 H locs hu26 hP hD hS => ?_)
        obtain ⟨u26, pl⟩ := u25
        obtain ⟨hq26, hO⟩ := hu26
        obtain ⟨k22, f23⟩ := u26
        have hP : va_P g.1 vcl ([(r25, .inr (3, [.ref ln21, .int (nI 136), .int (nI 31), .int (nI k22)])), (ln21, .inl (g.2.1 2, 25, .inr (.inl f23)))] ++ pl) _ := hP
        have hD : va_D _ ([(r25, .inr (3, [.ref ln21, .int (nI 136), .int (nI 31), .int (nI k22)])), (ln21, .inl (g.2.1 2, 25, .inr (.inl f23)))] ++ pl) := hD
        have hq26 : k22 < 136 := hq26
        refine W.widen (k := 0) (n := 0) (by omega) (by omega) ?_
        refine lv_aload_n hx hb dKM_decapsulate_130 rfl (lv_at hl 2 rfl) ?_
        refine ty_get (ci := 5) (C := "LatticeKeys$Kem") (TT := T_KM) (N := 10) (kd := (13, 0)) hx hb hts (wg_ft i_KM) hown hK hO k_h0 (nxg (clo_cons (clo_cons hc0 kr25 (by decide)) kl21 (by decide)) k_h0 rfl) hP (fun _ h9 => h9) rfl 0 (by decide) (hts _ (wg_t kw_107)) (fun _ h9 => h9) (cd := (3, 10, 1)) rfl dKM_decapsulate_131 (fun v33 hv33 => ?_)
        obtain ⟨r29, rfl, kr29⟩ := (show ∃ r : Nat, v33 = .ref r ∧ T r = some (10, 1) from hv33)
        obtain rfl : r25 = r29 := hU _ _ _ (by decide) kr25 kr29
        refine mp_v (cx := [(r25, .inr (3, [.ref ln21, .int (nI 136), .int (nI 31), .int (nI k22)])), (ln21, .inl (g.2.1 2, 25, .inr (.inl f23)))]) (wr := []) hP hD hS hA [0, 1] [] rfl rfl rfl (by decide) (va_runV (As := []) (rest := []) F (t_SP_finish l g _ T (ln21 :: (r25 :: xs)) pl hO hU  r25 ln21 136 k22 (nI 31) f23 (by omega) (by omega)) (cwV 0 hts (wg_app (wg_c kw_610 (wg_c kw_611 (wg_c kw_612 (wg_c kw_2 wg_n)))) kw_613) rfl rfl rfl (by decide +kernel) ⟨by decide, by decide⟩) (pp_V (en_ok g) (q0 := 0) hK hP hD hS hA hE [0, 1] rfl rfl rfl rfl) rfl rfl hl.1 rfl (lv_room (Nat.le_of_ble_eq_true rfl)) dKM_decapsulate_134 ⟨by omega, by omega⟩) (fun  u27 H locs hu27 hP hD hS => ?_)
        obtain ⟨u28, pl⟩ := u27
        obtain ⟨hq27, hO⟩ := hu27
        have hP : va_P g.1 vcl ([(r25, .inr (3, [.ref ln21, .int (nI 136), .int (nI 31), .int (nI 136)])), (ln21, .inl (g.2.1 2, 25, .inr (.inl u28)))] ++ pl) _ := hP
        have hD : va_D _ ([(r25, .inr (3, [.ref ln21, .int (nI 136), .int (nI 31), .int (nI 136)])), (ln21, .inl (g.2.1 2, 25, .inr (.inl u28)))] ++ pl) := hD
        refine W.widen (k := 0) (n := 0) (by omega) (by omega) ?_
        refine lv_aload_n hx hb dKM_decapsulate_137 rfl (lv_at hl 2 rfl) ?_
        refine ty_get (ci := 5) (C := "LatticeKeys$Kem") (TT := T_KM) (N := 10) (kd := (13, 0)) hx hb hts (wg_ft i_KM) hown hK hO k_h0 (nxg (clo_cons (clo_cons hc0 kr25 (by decide)) kl21 (by decide)) k_h0 rfl) hP (fun _ h9 => h9) rfl 0 (by decide) (hts _ (wg_t kw_107)) (fun _ h9 => h9) (cd := (3, 10, 1)) rfl dKM_decapsulate_138 (fun v34 hv34 => ?_)
        obtain ⟨r30, rfl, kr30⟩ := (show ∃ r : Nat, v34 = .ref r ∧ T r = some (10, 1) from hv34)
        obtain rfl : r25 = r30 := hU _ _ _ (by decide) kr25 kr30
        refine lv_aload hx hb dKM_decapsulate_141 (lv_at hl 6 rfl) ?_
        refine lv_iconst (v := nI 0) hx hb dKM_decapsulate_143 (by decide) ?_
        refine lv_bipush (v := nI 32) hx hb dKM_decapsulate_144 (by decide) ?_
        refine mp_v (cx := [(r25, .inr (3, [.ref ln21, .int (nI 136), .int (nI 31), .int (nI 136)])), (ln21, .inl (g.2.1 2, 25, .inr (.inl u28)))]) (wr := []) hP hD hS hA [0, 1] [] rfl rfl rfl (by decide) (va_runV (As := [.ref to, .int (nI 0), .int (nI 32)]) (rest := []) F (t_SP_squeeze l g _ T (ln21 :: (r25 :: xs)) pl hO hU (clo_cons (clo_cons hc0 kr25 (by decide)) kl21 (by decide)) to 8192 0 32 r25 ln21 136 136 (nI 31) u28 k_to (by omega) (by omega) (by omega) (by omega)) (cwV 3 hts (wg_app (wg_c kw_614 (wg_c kw_615 (wg_c kw_616 (wg_c kw_2 wg_n)))) kw_617) rfl rfl rfl (by decide +kernel) ⟨by decide, by decide⟩) (pp_V (en_ok g) (q0 := 0) hK hP hD hS hA hE [0, 1] rfl rfl rfl rfl) rfl rfl hl.1 rfl (lv_room (Nat.le_of_ble_eq_true rfl)) dKM_decapsulate_146 ⟨by omega, by omega⟩) (fun  u29 H locs hu28 hP hD hS => ?_)
        obtain ⟨u30, pl⟩ := u29
        obtain ⟨hq28, hO⟩ := hu28
        obtain ⟨k23, f24⟩ := u30
        have hP : va_P g.1 vcl ([(r25, .inr (3, [.ref ln21, .int (nI 136), .int (nI 31), .int (nI k23)])), (ln21, .inl (g.2.1 2, 25, .inr (.inl f24)))] ++ pl) _ := hP
        have hD : va_D _ ([(r25, .inr (3, [.ref ln21, .int (nI 136), .int (nI 31), .int (nI k23)])), (ln21, .inl (g.2.1 2, 25, .inr (.inl f24)))] ++ pl) := hD
        have hq28 : k23 ≤ 136 := hq28
        refine W.widen (k := 0) (n := 0) (by omega) (by omega) ?_
        have hO := close1 (e := .inl (g.2.1 2, 25, .inr (.inl f24))) hO kl21 ⟨_, rfl⟩
        have hO := close1 (e := .inr (3, [.ref ln21, .int (nI 136), .int (nI 31), .int (nI k23)])) hO kr25 ⟨_, _, _, _, rfl, kl21, by omega, by omega, by omega⟩
        have hO : okx g T xs ((r25, .inr (3, [.ref ln21, .int (nI 136), .int (nI 31), .int (nI k23)])) :: (ln21, .inl (g.2.1 2, 25, .inr (.inl f24))) :: pl) := hO
        have hP : va_P g.1 vcl ([] ++ ((r25, .inr (3, [.ref ln21, .int (nI 136), .int (nI 31), .int (nI k23)])) :: (ln21, .inl (g.2.1 2, 25, .inr (.inl f24))) :: pl)) _ := hP
        have hD : va_D _ ([] ++ ((r25, .inr (3, [.ref ln21, .int (nI 136), .int (nI 31), .int (nI k23)])) :: (ln21, .inl (g.2.1 2, 25, .inr (.inl f24))) :: pl)) := hD
        generalize ((r25, .inr (3, [.ref ln21, .int (nI 136), .int (nI 31), .int (nI k23)])) :: (ln21, .inl (g.2.1 2, 25, .inr (.inl f24))) :: pl) = pl at hO hP hD
        exact mp_vret hx hb hr hlk hP hD hS pl ⟨trivial, hO⟩ [] rfl rfl rfl (by omega) (by omega) dKM_decapsulate_149
      · refine lv_aload_n hx hb dKM_decapsulate_78 rfl (lv_at hl 2 rfl) ?_
        refine ty_get (ci := 5) (C := "LatticeKeys$Kem") (TT := T_KM) (N := 10) (kd := (13, 0)) hx hb hts (wg_ft i_KM) hown hK hO k_h0 (nxg hc0 k_h0 rfl) hP (fun _ h9 => h9) rfl 7 (by decide) (hts _ (wg_t kw_114)) (fun _ h9 => h9) (cd := (3, 1, 64)) rfl dKM_decapsulate_79 (fun v35 hv35 => ?_)
        obtain ⟨r31, rfl, kr31⟩ := (show ∃ r : Nat, v35 = .ref r ∧ T r = some (1, 64) from hv35)
        refine lv_iconst (v := nI 0) hx hb dKM_decapsulate_82 (by decide) ?_
        refine lv_aload hx hb dKM_decapsulate_83 (lv_at hl 6 rfl) ?_
        refine lv_iconst (v := nI 0) hx hb dKM_decapsulate_85 (by decide) ?_
        refine lv_bipush (v := nI 32) hx hb dKM_decapsulate_86 (by decide) ?_
        refine ty_copyb11 hx hb (hml.trans hl.1.symm) hown (hts _ (wg_t kw_622)) (hts _ (wg_t kw_526)) (hts _ (wg_t kw_525)) (hts _ (wg_t kw_19)) hK hO kr31 (nxg hc0 kr31 rfl) k_to (nxg hc0 k_to rfl) hP hD hS (sp := 0) (dp := 0) (n := 32) (by omega) (by omega) (by omega) (by decide) (Nat.le_of_ble_eq_true rfl) dKM_decapsulate_88 (fun pl H locs hO hP hD hS => ?_)
        exact mp_vret hx hb hr hlk hP hD hS pl ⟨trivial, hO⟩ [] rfl rfl rfl (by omega) (by omega) dKM_decapsulate_91
    | succ n21 ih21 =>
      intro i21 z21 pl ls H locs hm21  hl hO hP hD hS
      refine lv_iload hx hb dKM_decapsulate_41 (lv_at hl 0 rfl) ?_
      refine lv_aload_n hx hb dKM_decapsulate_43 rfl (lv_at hl 3 rfl) ?_
      refine ty_get (ci := 1) (C := "LatticeKeys$KemSet") (TT := T_KS) (N := 10) (kd := (42, 0)) hx hb hts (wg_ft i_KS) hown hK hO k_st (nxg hc0 k_st rfl) hP (fun _ h9 => h9) rfl 6 (by decide) (hts _ (wg_t kw_244)) (fun _ h9 => h9) (cd := (1, 0, 1568)) rfl dKM_decapsulate_44 (fun v36 hv36 => ?_)
      obtain rfl := (show v36 = .int (nI 1568) from hv36)
      refine mi_ge (tgt := 73) hx hb dKM_decapsulate_47 (by decide) (by omega) (by omega) (fun h23 => absurd h23 (by omega)) (fun h23 => ?_)
      refine lv_iload hx hb dKM_decapsulate_50 (lv_at hl 1 rfl) ?_
      refine lv_aload_n hx hb dKM_decapsulate_52 rfl (lv_at hl 5 rfl) ?_
      refine lv_iload hx hb dKM_decapsulate_53 (lv_at hl 0 rfl) ?_
      refine ty_bald hx hb hK hO k_ct (nxg hc0 k_ct rfl) hP (vp_in_nI (by omega) (by omega)) dKM_decapsulate_55 (fun z22 => ?_)
      refine lv_aload_n hx hb dKM_decapsulate_56 rfl (lv_at hl 2 rfl) ?_
      refine ty_get (ci := 5) (C := "LatticeKeys$Kem") (TT := T_KM) (N := 10) (kd := (13, 0)) hx hb hts (wg_ft i_KM) hown hK hO k_h0 (nxg hc0 k_h0 rfl) hP (fun _ h9 => h9) rfl 9 (by decide) (hts _ (wg_t kw_116)) (fun _ h9 => h9) (cd := (3, 1, 1568)) rfl dKM_decapsulate_57 (fun v37 hv37 => ?_)
      obtain ⟨r32, rfl, kr32⟩ := (show ∃ r : Nat, v37 = .ref r ∧ T r = some (1, 1568) from hv37)
      refine lv_iload hx hb dKM_decapsulate_60 (lv_at hl 0 rfl) ?_
      refine ty_bald hx hb hK hO kr32 (nxg hc0 kr32 rfl) hP (vp_in_nI (by omega) (by decide)) dKM_decapsulate_62 (fun z23 => ?_)
      refine lv_ixor hx hb dKM_decapsulate_63 ?_
      refine mi_any (fun z24 => ?_)
      refine lv_ior hx hb dKM_decapsulate_64 ?_
      refine mi_any (fun z25 => ?_)
      refine lv_istore (lv' := [(5, .int z25), (6, .int (nI i21)), (0, .ref h0), (1, .ref st), (2, .ref kp), (3, .ref ct), (4, .ref to)]) hx hb dKM_decapsulate_65 hl (by decide) rfl (fun ls hl => ?_)
      refine mi_iinc (k := 1) (x := i21) (d := 1) (y := i21 + 1) (lv' := [(6, .int (nI (i21 + 1))), (5, .int z25), (0, .ref h0), (1, .ref st), (2, .ref kp), (3, .ref ct), (4, .ref to)]) hx hb dKM_decapsulate_67 hl rfl (by decide) rfl (by decide) rfl (fun ls hl => ?_)
      refine lv_goto (tgt := 41) hx hb dKM_decapsulate_70 (by decide) ?_
      exact ih21 (i21 + 1) z25 pl ls H locs (by omega) (lv_sub hl [0, 1, 2, 3, 4, 5, 6] rfl) hO hP hD hS
  exact lp21 1568 0 (nI 0) pl ls _ _ (by omega) (lv_sub hl [0, 1, 2, 3, 4, 5, 6] rfl) hO hP hD hS
set_option maxHeartbeats 400000 in
set_option maxRecDepth 100000 in
theorem t_KM_numbersFit_0 (l : Launch) (g : Gd) (sz : Nat) (T : Ty) (xs : List Nat) (pl : va_W) (hO : okx g T xs pl) (hU : uni T) (hc0 : clo T xs 0) (h0 st pk n : Nat) (k_h0 : T h0 = some (13, 0)) (k_st : T st = some (40, 0)) (k_pk : T pk = some (1, n)) (h1 : 800 ≤ n) (h2 : n < 65536)  : Met l y_KM_numbersFit w_KM_numbersFit ({ frames := 1, cells := 0, slots := 0, locals := 28 } : Room) (va_Pc [.ref h0, .ref st, .ref pk] (pr (en g) g.1 vcl sz ([] ++ pl))) (va_Qi (fun (r : Int32) (u : va_W) => (r = nI 0 ∨ r = nI 1) ∧ okx g T xs u) (po g.1 vcl (va_A ([] ++ pl) sz) (fun (u : va_W) => [] ++ u)) (va_A ([] ++ pl) sz)) 0 0 (va_A ([] ++ pl) sz) := by
  refine mc_entry (cc := c_KM_numbersFit) (maxL := 5) (ret := (some .boolean)) (by decide) rfl (Nat.le_of_ble_eq_true rfl) ?_
  intro p e s m args below meth c ls F hr hlk hnm hsz hP hD hE hA hl
  obtain ⟨hx, hb, hml, hown, hts⟩ := id F
  have hK := hE.1
  generalize va_A ([] ++ pl) sz = A at hD hE hA ⊢
  have hS : va_S A s.heap s.heap [] := va_S.rf
  have hl : lv_has ls 5 [(0, .ref h0), (1, .ref st), (2, .ref pk)] := hl
  refine lv_iconst (v := nI 0) hx hb dKM_numbersFit_0 (by decide) ?_
  refine lv_istore_n (lv' := [(3, .int (nI 0)), (0, .ref h0), (1, .ref st), (2, .ref pk)]) hx hb dKM_numbersFit_1 rfl hl (by decide) rfl (fun ls hl => ?_)
  have lp21 : ∀ (n21 : Nat) (i21 : Nat) (pl : va_W) (ls : Array Slot) (H : Heap) (locs : List Loc), n21 + i21 = 2 → lv_has ls 5 [(3, .int (nI i21)), (0, .ref h0), (1, .ref st), (2, .ref pk)] → okx g T xs pl → va_P g.1 vcl ([] ++ pl) H → va_D A ([] ++ pl) → va_S A s.heap H locs → W p l e ({ frames := 1, cells := 0, slots := 0, locals := 28 } : Room) s m args below meth c H locs 0 0 (MQ below (va_Qi (fun (r : Int32) (u : va_W) => (r = nI 0 ∨ r = nI 1) ∧ okx g T xs u) (po g.1 vcl A (fun (u : va_W) => [] ++ u)) A) args s 0 0 A) (F0 m 2 ls []) := by
    intro n21
    induction n21 with
    | zero =>
      intro i21 pl ls H locs hm21  hl hO hP hD hS
      refine lv_iload_n hx hb dKM_numbersFit_2 rfl (lv_at hl 0 rfl) ?_
      refine lv_aload_n hx hb dKM_numbersFit_3 rfl (lv_at hl 2 rfl) ?_
      refine ty_get (ci := 1) (C := "LatticeKeys$KemSet") (TT := T_KS) (N := 10) (kd := (40, 0)) hx hb hts (wg_ft i_KS) hown hK hO k_st (nxg hc0 k_st rfl) hP (fun _ h9 => h9) rfl 0 (by decide) (hts _ (wg_t kw_231)) (fun _ h9 => h9) (cd := (1, 0, 2)) rfl dKM_numbersFit_4 (fun v21 hv21 => ?_)
      obtain rfl := (show v21 = .int (nI 2) from hv21)
      refine mi_ge (tgt := 63) hx hb dKM_numbersFit_7 (by decide) (by omega) (by omega) (fun h21 => ?_) (fun h21 => absurd h21 (by omega))
      refine lv_iconst (v := nI 1) hx hb dKM_numbersFit_63 (by decide) ?_
      exact mp_zret hx hb hr hlk rfl hP hD hS pl ⟨(Or.inr rfl), hO⟩ [] rfl rfl rfl (by omega) (by omega) dKM_numbersFit_64
    | succ n21 ih21 =>
      intro i21 pl ls H locs hm21  hl hO hP hD hS
      refine lv_iload_n hx hb dKM_numbersFit_2 rfl (lv_at hl 0 rfl) ?_
      refine lv_aload_n hx hb dKM_numbersFit_3 rfl (lv_at hl 2 rfl) ?_
      refine ty_get (ci := 1) (C := "LatticeKeys$KemSet") (TT := T_KS) (N := 10) (kd := (40, 0)) hx hb hts (wg_ft i_KS) hown hK hO k_st (nxg hc0 k_st rfl) hP (fun _ h9 => h9) rfl 0 (by decide) (hts _ (wg_t kw_231)) (fun _ h9 => h9) (cd := (1, 0, 2)) rfl dKM_numbersFit_4 (fun v22 hv22 => ?_)
      obtain rfl := (show v22 = .int (nI 2) from hv22)
      refine mi_ge (tgt := 63) hx hb dKM_numbersFit_7 (by decide) (by omega) (by omega) (fun h22 => absurd h22 (by omega)) (fun h22 => ?_)
      refine lv_aload_n hx hb dKM_numbersFit_10 rfl (lv_at hl 1 rfl) ?_
      refine ty_get (ci := 5) (C := "LatticeKeys$Kem") (TT := T_KM) (N := 10) (kd := (13, 0)) hx hb hts (wg_ft i_KM) hown hK hO k_h0 (nxg hc0 k_h0 rfl) hP (fun _ h9 => h9) rfl 4 (by decide) (hts _ (wg_t kw_111)) (fun _ h9 => h9) (cd := (3, 0, 256)) rfl dKM_numbersFit_11 (fun v23 hv23 => ?_)
      obtain ⟨r21, rfl, kr21⟩ := (show ∃ r : Nat, v23 = .ref r ∧ T r = some (0, 256) from hv23)
      refine lv_bipush (v := nI 12) hx hb dKM_numbersFit_14 (by decide) ?_
      refine lv_aload_n hx hb dKM_numbersFit_16 rfl (lv_at hl 3 rfl) ?_
      refine lv_sipush (v := nI 384) hx hb dKM_numbersFit_17 (by decide) ?_
      refine lv_iload_n hx hb dKM_numbersFit_20 rfl (lv_at hl 0 rfl) ?_
      refine mi_imul hx hb dKM_numbersFit_21 ?_
      refine mp_v (cx := []) (wr := []) hP hD hS hA [] [] rfl rfl rfl (by decide) (va_runS (As := [.ref r21, .int (nI 12), .ref pk, .int (nI (384 * i21))]) (rest := []) F (t_BT_unpack l g _ T xs pl hO hU hc0 r21 pk n 12 (384 * i21) kr21 k_pk (by omega) (by omega) (by omega)) (va_cwS 4 hts (wg_app (wg_c kw_627 (wg_c kw_628 (wg_c kw_22 wg_n))) kw_629) rfl rfl rfl (by decide +kernel) ⟨by decide, by decide⟩) (pp_S (en_ok g) hP hD hS hA hE [] rfl rfl) rfl rfl hl.1 rfl (lv_room (Nat.le_of_ble_eq_true rfl)) dKM_numbersFit_22 ⟨by omega, by omega⟩) (fun  pl H locs hu21 hP hD hS => ?_)
      obtain ⟨hq21, hO⟩ := hu21
      have hP : va_P g.1 vcl ([] ++ pl) _ := hP
      have hD : va_D _ ([] ++ pl) := hD
      refine W.widen (k := 0) (n := 0) (by omega) (by omega) ?_
      refine lv_iconst (v := nI 0) hx hb dKM_numbersFit_25 (by decide) ?_
      refine lv_istore (lv' := [(4, .int (nI 0)), (3, .int (nI i21)), (0, .ref h0), (1, .ref st), (2, .ref pk)]) hx hb dKM_numbersFit_26 hl (by decide) rfl (fun ls hl => ?_)
      have lp22 : ∀ (n22 : Nat) (i22 : Nat) (pl : va_W) (ls : Array Slot) (H : Heap) (locs : List Loc), n22 + i22 = 256 → lv_has ls 5 [(4, .int (nI i22)), (3, .int (nI i21)), (0, .ref h0), (1, .ref st), (2, .ref pk)] → okx g T xs pl → va_P g.1 vcl ([] ++ pl) H → va_D A ([] ++ pl) → va_S A s.heap H locs → W p l e ({ frames := 1, cells := 0, slots := 0, locals := 28 } : Room) s m args below meth c H locs 0 0 (MQ below (va_Qi (fun (r : Int32) (u : va_W) => (r = nI 0 ∨ r = nI 1) ∧ okx g T xs u) (po g.1 vcl A (fun (u : va_W) => [] ++ u)) A) args s 0 0 A) (F0 m 28 ls []) := by
        intro n22
        induction n22 with
        | zero =>
          intro i22 pl ls H locs hm22  hl hO hP hD hS
          refine lv_iload hx hb dKM_numbersFit_28 (lv_at hl 0 rfl) ?_
          refine lv_sipush (v := nI 256) hx hb dKM_numbersFit_30 (by decide) ?_
          refine mi_ge (tgt := 57) hx hb dKM_numbersFit_33 (by decide) (by omega) (by omega) (fun h23 => ?_) (fun h23 => absurd h23 (by omega))
          refine mi_iinc (k := 1) (x := i21) (d := 1) (y := i21 + 1) (lv' := [(3, .int (nI (i21 + 1))), (4, .int (nI i22)), (0, .ref h0), (1, .ref st), (2, .ref pk)]) hx hb dKM_numbersFit_57 hl rfl (by decide) rfl (by decide) rfl (fun ls hl => ?_)
          refine lv_goto (tgt := 2) hx hb dKM_numbersFit_60 (by decide) ?_
          exact ih21 (i21 + 1) pl ls H locs (by omega) (lv_sub hl [0, 2, 3, 4] rfl) hO hP hD hS
        | succ n22 ih22 =>
          intro i22 pl ls H locs hm22  hl hO hP hD hS
          refine lv_iload hx hb dKM_numbersFit_28 (lv_at hl 0 rfl) ?_
          refine lv_sipush (v := nI 256) hx hb dKM_numbersFit_30 (by decide) ?_
          refine mi_ge (tgt := 57) hx hb dKM_numbersFit_33 (by decide) (by omega) (by omega) (fun h24 => absurd h24 (by omega)) (fun h24 => ?_)
          refine lv_aload_n hx hb dKM_numbersFit_36 rfl (lv_at hl 2 rfl) ?_
          refine ty_get (ci := 5) (C := "LatticeKeys$Kem") (TT := T_KM) (N := 10) (kd := (13, 0)) hx hb hts (wg_ft i_KM) hown hK hO k_h0 (nxg hc0 k_h0 rfl) hP (fun _ h9 => h9) rfl 4 (by decide) (hts _ (wg_t kw_111)) (fun _ h9 => h9) (cd := (3, 0, 256)) rfl dKM_numbersFit_37 (fun v24 hv24 => ?_)
          obtain ⟨r22, rfl, kr22⟩ := (show ∃ r : Nat, v24 = .ref r ∧ T r = some (0, 256) from hv24)
          refine lv_iload hx hb dKM_numbersFit_40 (lv_at hl 0 rfl) ?_
          refine ty_iald hx hb hK hO kr22 (nxg hc0 kr22 rfl) hP (vp_in_nI (by omega) (by decide)) dKM_numbersFit_42 (fun z21 => ?_)
          refine lv_sipush (v := nI 3329) hx hb dKM_numbersFit_43 (by decide) ?_
          refine lv_icmp_lt (tgt := 51) hx hb dKM_numbersFit_46 (by decide) (fun h25 => ?_) (fun h25 => ?_)
          · refine mi_iinc (k := 0) (x := i22) (d := 1) (y := i22 + 1) (lv' := [(4, .int (nI (i22 + 1))), (3, .int (nI i21)), (0, .ref h0), (1, .ref st), (2, .ref pk)]) hx hb dKM_numbersFit_51 hl rfl (by decide) rfl (by decide) rfl (fun ls hl => ?_)
            refine lv_goto (tgt := 28) hx hb dKM_numbersFit_54 (by decide) ?_
            exact ih22 (i22 + 1) pl ls H locs (by omega) (lv_sub hl [0, 1, 2, 3, 4] rfl) hO hP hD hS
          · refine lv_iconst (v := nI 0) hx hb dKM_numbersFit_49 (by decide) ?_
            exact mp_zret hx hb hr hlk rfl hP hD hS pl ⟨(Or.inl rfl), hO⟩ [] rfl rfl rfl (by omega) (by omega) dKM_numbersFit_50
      exact lp22 256 0 pl ls _ _ (by omega) (lv_sub hl [0, 1, 2, 3, 4] rfl) hO hP hD hS
  exact lp21 2 0 pl ls _ _ (by omega) (lv_sub hl [0, 1, 2, 3] rfl) hO hP hD hS
set_option maxHeartbeats 400000 in
set_option maxRecDepth 100000 in
theorem t_KM_numbersFit_1 (l : Launch) (g : Gd) (sz : Nat) (T : Ty) (xs : List Nat) (pl : va_W) (hO : okx g T xs pl) (hU : uni T) (hc0 : clo T xs 0) (h0 st pk n : Nat) (k_h0 : T h0 = some (13, 0)) (k_st : T st = some (41, 0)) (k_pk : T pk = some (1, n)) (h1 : 1184 ≤ n) (h2 : n < 65536)  : Met l y_KM_numbersFit w_KM_numbersFit ({ frames := 1, cells := 0, slots := 0, locals := 28 } : Room) (va_Pc [.ref h0, .ref st, .ref pk] (pr (en g) g.1 vcl sz ([] ++ pl))) (va_Qi (fun (r : Int32) (u : va_W) => (r = nI 0 ∨ r = nI 1) ∧ okx g T xs u) (po g.1 vcl (va_A ([] ++ pl) sz) (fun (u : va_W) => [] ++ u)) (va_A ([] ++ pl) sz)) 0 0 (va_A ([] ++ pl) sz) := by
  refine mc_entry (cc := c_KM_numbersFit) (maxL := 5) (ret := (some .boolean)) (by decide) rfl (Nat.le_of_ble_eq_true rfl) ?_
  intro p e s m args below meth c ls F hr hlk hnm hsz hP hD hE hA hl
  obtain ⟨hx, hb, hml, hown, hts⟩ := id F
  have hK := hE.1
  generalize va_A ([] ++ pl) sz = A at hD hE hA ⊢
  have hS : va_S A s.heap s.heap [] := va_S.rf
  have hl : lv_has ls 5 [(0, .ref h0), (1, .ref st), (2, .ref pk)] := hl
  refine lv_iconst (v := nI 0) hx hb dKM_numbersFit_0 (by decide) ?_
  refine lv_istore_n (lv' := [(3, .int (nI 0)), (0, .ref h0), (1, .ref st), (2, .ref pk)]) hx hb dKM_numbersFit_1 rfl hl (by decide) rfl (fun ls hl => ?_)
  have lp21 : ∀ (n21 : Nat) (i21 : Nat) (pl : va_W) (ls : Array Slot) (H : Heap) (locs : List Loc), n21 + i21 = 3 → lv_has ls 5 [(3, .int (nI i21)), (0, .ref h0), (1, .ref st), (2, .ref pk)] → okx g T xs pl → va_P g.1 vcl ([] ++ pl) H → va_D A ([] ++ pl) → va_S A s.heap H locs → W p l e ({ frames := 1, cells := 0, slots := 0, locals := 28 } : Room) s m args below meth c H locs 0 0 (MQ below (va_Qi (fun (r : Int32) (u : va_W) => (r = nI 0 ∨ r = nI 1) ∧ okx g T xs u) (po g.1 vcl A (fun (u : va_W) => [] ++ u)) A) args s 0 0 A) (F0 m 2 ls []) := by
    intro n21
    induction n21 with
    | zero =>
      intro i21 pl ls H locs hm21  hl hO hP hD hS
      refine lv_iload_n hx hb dKM_numbersFit_2 rfl (lv_at hl 0 rfl) ?_
      refine lv_aload_n hx hb dKM_numbersFit_3 rfl (lv_at hl 2 rfl) ?_
      refine ty_get (ci := 1) (C := "LatticeKeys$KemSet") (TT := T_KS) (N := 10) (kd := (41, 0)) hx hb hts (wg_ft i_KS) hown hK hO k_st (nxg hc0 k_st rfl) hP (fun _ h9 => h9) rfl 0 (by decide) (hts _ (wg_t kw_231)) (fun _ h9 => h9) (cd := (1, 0, 3)) rfl dKM_numbersFit_4 (fun v21 hv21 => ?_)
      obtain rfl := (show v21 = .int (nI 3) from hv21)
      refine mi_ge (tgt := 63) hx hb dKM_numbersFit_7 (by decide) (by omega) (by omega) (fun h21 => ?_) (fun h21 => absurd h21 (by omega))
      refine lv_iconst (v := nI 1) hx hb dKM_numbersFit_63 (by decide) ?_
      exact mp_zret hx hb hr hlk rfl hP hD hS pl ⟨(Or.inr rfl), hO⟩ [] rfl rfl rfl (by omega) (by omega) dKM_numbersFit_64
    | succ n21 ih21 =>
      intro i21 pl ls H locs hm21  hl hO hP hD hS
      refine lv_iload_n hx hb dKM_numbersFit_2 rfl (lv_at hl 0 rfl) ?_
      refine lv_aload_n hx hb dKM_numbersFit_3 rfl (lv_at hl 2 rfl) ?_
      refine ty_get (ci := 1) (C := "LatticeKeys$KemSet") (TT := T_KS) (N := 10) (kd := (41, 0)) hx hb hts (wg_ft i_KS) hown hK hO k_st (nxg hc0 k_st rfl) hP (fun _ h9 => h9) rfl 0 (by decide) (hts _ (wg_t kw_231)) (fun _ h9 => h9) (cd := (1, 0, 3)) rfl dKM_numbersFit_4 (fun v22 hv22 => ?_)
      obtain rfl := (show v22 = .int (nI 3) from hv22)
      refine mi_ge (tgt := 63) hx hb dKM_numbersFit_7 (by decide) (by omega) (by omega) (fun h22 => absurd h22 (by omega)) (fun h22 => ?_)
      refine lv_aload_n hx hb dKM_numbersFit_10 rfl (lv_at hl 1 rfl) ?_
      refine ty_get (ci := 5) (C := "LatticeKeys$Kem") (TT := T_KM) (N := 10) (kd := (13, 0)) hx hb hts (wg_ft i_KM) hown hK hO k_h0 (nxg hc0 k_h0 rfl) hP (fun _ h9 => h9) rfl 4 (by decide) (hts _ (wg_t kw_111)) (fun _ h9 => h9) (cd := (3, 0, 256)) rfl dKM_numbersFit_11 (fun v23 hv23 => ?_)
      obtain ⟨r21, rfl, kr21⟩ := (show ∃ r : Nat, v23 = .ref r ∧ T r = some (0, 256) from hv23)
      refine lv_bipush (v := nI 12) hx hb dKM_numbersFit_14 (by decide) ?_
      refine lv_aload_n hx hb dKM_numbersFit_16 rfl (lv_at hl 3 rfl) ?_
      refine lv_sipush (v := nI 384) hx hb dKM_numbersFit_17 (by decide) ?_
      refine lv_iload_n hx hb dKM_numbersFit_20 rfl (lv_at hl 0 rfl) ?_
      refine mi_imul hx hb dKM_numbersFit_21 ?_
      refine mp_v (cx := []) (wr := []) hP hD hS hA [] [] rfl rfl rfl (by decide) (va_runS (As := [.ref r21, .int (nI 12), .ref pk, .int (nI (384 * i21))]) (rest := []) F (t_BT_unpack l g _ T xs pl hO hU hc0 r21 pk n 12 (384 * i21) kr21 k_pk (by omega) (by omega) (by omega)) (va_cwS 4 hts (wg_app (wg_c kw_627 (wg_c kw_628 (wg_c kw_22 wg_n))) kw_629) rfl rfl rfl (by decide +kernel) ⟨by decide, by decide⟩) (pp_S (en_ok g) hP hD hS hA hE [] rfl rfl) rfl rfl hl.1 rfl (lv_room (Nat.le_of_ble_eq_true rfl)) dKM_numbersFit_22 ⟨by omega, by omega⟩) (fun  pl H locs hu21 hP hD hS => ?_)
      obtain ⟨hq21, hO⟩ := hu21
      have hP : va_P g.1 vcl ([] ++ pl) _ := hP
      have hD : va_D _ ([] ++ pl) := hD
      refine W.widen (k := 0) (n := 0) (by omega) (by omega) ?_
      refine lv_iconst (v := nI 0) hx hb dKM_numbersFit_25 (by decide) ?_
      refine lv_istore (lv' := [(4, .int (nI 0)), (3, .int (nI i21)), (0, .ref h0), (1, .ref st), (2, .ref pk)]) hx hb dKM_numbersFit_26 hl (by decide) rfl (fun ls hl => ?_)
      have lp22 : ∀ (n22 : Nat) (i22 : Nat) (pl : va_W) (ls : Array Slot) (H : Heap) (locs : List Loc), n22 + i22 = 256 → lv_has ls 5 [(4, .int (nI i22)), (3, .int (nI i21)), (0, .ref h0), (1, .ref st), (2, .ref pk)] → okx g T xs pl → va_P g.1 vcl ([] ++ pl) H → va_D A ([] ++ pl) → va_S A s.heap H locs → W p l e ({ frames := 1, cells := 0, slots := 0, locals := 28 } : Room) s m args below meth c H locs 0 0 (MQ below (va_Qi (fun (r : Int32) (u : va_W) => (r = nI 0 ∨ r = nI 1) ∧ okx g T xs u) (po g.1 vcl A (fun (u : va_W) => [] ++ u)) A) args s 0 0 A) (F0 m 28 ls []) := by
        intro n22
        induction n22 with
        | zero =>
          intro i22 pl ls H locs hm22  hl hO hP hD hS
          refine lv_iload hx hb dKM_numbersFit_28 (lv_at hl 0 rfl) ?_
          refine lv_sipush (v := nI 256) hx hb dKM_numbersFit_30 (by decide) ?_
          refine mi_ge (tgt := 57) hx hb dKM_numbersFit_33 (by decide) (by omega) (by omega) (fun h23 => ?_) (fun h23 => absurd h23 (by omega))
          refine mi_iinc (k := 1) (x := i21) (d := 1) (y := i21 + 1) (lv' := [(3, .int (nI (i21 + 1))), (4, .int (nI i22)), (0, .ref h0), (1, .ref st), (2, .ref pk)]) hx hb dKM_numbersFit_57 hl rfl (by decide) rfl (by decide) rfl (fun ls hl => ?_)
          refine lv_goto (tgt := 2) hx hb dKM_numbersFit_60 (by decide) ?_
          exact ih21 (i21 + 1) pl ls H locs (by omega) (lv_sub hl [0, 2, 3, 4] rfl) hO hP hD hS
        | succ n22 ih22 =>
          intro i22 pl ls H locs hm22  hl hO hP hD hS
          refine lv_iload hx hb dKM_numbersFit_28 (lv_at hl 0 rfl) ?_
          refine lv_sipush (v := nI 256) hx hb dKM_numbersFit_30 (by decide) ?_
          refine mi_ge (tgt := 57) hx hb dKM_numbersFit_33 (by decide) (by omega) (by omega) (fun h24 => absurd h24 (by omega)) (fun h24 => ?_)
          refine lv_aload_n hx hb dKM_numbersFit_36 rfl (lv_at hl 2 rfl) ?_
          refine ty_get (ci := 5) (C := "LatticeKeys$Kem") (TT := T_KM) (N := 10) (kd := (13, 0)) hx hb hts (wg_ft i_KM) hown hK hO k_h0 (nxg hc0 k_h0 rfl) hP (fun _ h9 => h9) rfl 4 (by decide) (hts _ (wg_t kw_111)) (fun _ h9 => h9) (cd := (3, 0, 256)) rfl dKM_numbersFit_37 (fun v24 hv24 => ?_)
          obtain ⟨r22, rfl, kr22⟩ := (show ∃ r : Nat, v24 = .ref r ∧ T r = some (0, 256) from hv24)
          refine lv_iload hx hb dKM_numbersFit_40 (lv_at hl 0 rfl) ?_
          refine ty_iald hx hb hK hO kr22 (nxg hc0 kr22 rfl) hP (vp_in_nI (by omega) (by decide)) dKM_numbersFit_42 (fun z21 => ?_)
          refine lv_sipush (v := nI 3329) hx hb dKM_numbersFit_43 (by decide) ?_
          refine lv_icmp_lt (tgt := 51) hx hb dKM_numbersFit_46 (by decide) (fun h25 => ?_) (fun h25 => ?_)
          · refine mi_iinc (k := 0) (x := i22) (d := 1) (y := i22 + 1) (lv' := [(4, .int (nI (i22 + 1))), (3, .int (nI i21)), (0, .ref h0), (1, .ref st), (2, .ref pk)]) hx hb dKM_numbersFit_51 hl rfl (by decide) rfl (by decide) rfl (fun ls hl => ?_)
            refine lv_goto (tgt := 28) hx hb dKM_numbersFit_54 (by decide) ?_
            exact ih22 (i22 + 1) pl ls H locs (by omega) (lv_sub hl [0, 1, 2, 3, 4] rfl) hO hP hD hS
          · refine lv_iconst (v := nI 0) hx hb dKM_numbersFit_49 (by decide) ?_
            exact mp_zret hx hb hr hlk rfl hP hD hS pl ⟨(Or.inl rfl), hO⟩ [] rfl rfl rfl (by omega) (by omega) dKM_numbersFit_50
      exact lp22 256 0 pl ls _ _ (by omega) (lv_sub hl [0, 1, 2, 3, 4] rfl) hO hP hD hS
  exact lp21 3 0 pl ls _ _ (by omega) (lv_sub hl [0, 1, 2, 3] rfl) hO hP hD hS
set_option maxHeartbeats 400000 in
set_option maxRecDepth 100000 in
theorem t_KM_numbersFit_2 (l : Launch) (g : Gd) (sz : Nat) (T : Ty) (xs : List Nat) (pl : va_W) (hO : okx g T xs pl) (hU : uni T) (hc0 : clo T xs 0) (h0 st pk n : Nat) (k_h0 : T h0 = some (13, 0)) (k_st : T st = some (42, 0)) (k_pk : T pk = some (1, n)) (h1 : 1568 ≤ n) (h2 : n < 65536)  : Met l y_KM_numbersFit w_KM_numbersFit ({ frames := 1, cells := 0, slots := 0, locals := 28 } : Room) (va_Pc [.ref h0, .ref st, .ref pk] (pr (en g) g.1 vcl sz ([] ++ pl))) (va_Qi (fun (r : Int32) (u : va_W) => (r = nI 0 ∨ r = nI 1) ∧ okx g T xs u) (po g.1 vcl (va_A ([] ++ pl) sz) (fun (u : va_W) => [] ++ u)) (va_A ([] ++ pl) sz)) 0 0 (va_A ([] ++ pl) sz) := by
  refine mc_entry (cc := c_KM_numbersFit) (maxL := 5) (ret := (some .boolean)) (by decide) rfl (Nat.le_of_ble_eq_true rfl) ?_
  intro p e s m args below meth c ls F hr hlk hnm hsz hP hD hE hA hl
  obtain ⟨hx, hb, hml, hown, hts⟩ := id F
  have hK := hE.1
  generalize va_A ([] ++ pl) sz = A at hD hE hA ⊢
  have hS : va_S A s.heap s.heap [] := va_S.rf
  have hl : lv_has ls 5 [(0, .ref h0), (1, .ref st), (2, .ref pk)] := hl
  refine lv_iconst (v := nI 0) hx hb dKM_numbersFit_0 (by decide) ?_
  refine lv_istore_n (lv' := [(3, .int (nI 0)), (0, .ref h0), (1, .ref st), (2, .ref pk)]) hx hb dKM_numbersFit_1 rfl hl (by decide) rfl (fun ls hl => ?_)
  have lp21 : ∀ (n21 : Nat) (i21 : Nat) (pl : va_W) (ls : Array Slot) (H : Heap) (locs : List Loc), n21 + i21 = 4 → lv_has ls 5 [(3, .int (nI i21)), (0, .ref h0), (1, .ref st), (2, .ref pk)] → okx g T xs pl → va_P g.1 vcl ([] ++ pl) H → va_D A ([] ++ pl) → va_S A s.heap H locs → W p l e ({ frames := 1, cells := 0, slots := 0, locals := 28 } : Room) s m args below meth c H locs 0 0 (MQ below (va_Qi (fun (r : Int32) (u : va_W) => (r = nI 0 ∨ r = nI 1) ∧ okx g T xs u) (po g.1 vcl A (fun (u : va_W) => [] ++ u)) A) args s 0 0 A) (F0 m 2 ls []) := by
    intro n21
    induction n21 with
    | zero =>
      intro i21 pl ls H locs hm21  hl hO hP hD hS
      refine lv_iload_n hx hb dKM_numbersFit_2 rfl (lv_at hl 0 rfl) ?_
      refine lv_aload_n hx hb dKM_numbersFit_3 rfl (lv_at hl 2 rfl) ?_
      refine ty_get (ci := 1) (C := "LatticeKeys$KemSet") (TT := T_KS) (N := 10) (kd := (42, 0)) hx hb hts (wg_ft i_KS) hown hK hO k_st (nxg hc0 k_st rfl) hP (fun _ h9 => h9) rfl 0 (by decide) (hts _ (wg_t kw_231)) (fun _ h9 => h9) (cd := (1, 0, 4)) rfl dKM_numbersFit_4 (fun v21 hv21 => ?_)
      obtain rfl := (show v21 = .int (nI 4) from hv21)
      refine mi_ge (tgt := 63) hx hb dKM_numbersFit_7 (by decide) (by omega) (by omega) (fun h21 => ?_) (fun h21 => absurd h21 (by omega))
      refine lv_iconst (v := nI 1) hx hb dKM_numbersFit_63 (by decide) ?_
      exact mp_zret hx hb hr hlk rfl hP hD hS pl ⟨(Or.inr rfl), hO⟩ [] rfl rfl rfl (by omega) (by omega) dKM_numbersFit_64
    | succ n21 ih21 =>
      intro i21 pl ls H locs hm21  hl hO hP hD hS
      refine lv_iload_n hx hb dKM_numbersFit_2 rfl (lv_at hl 0 rfl) ?_
      refine lv_aload_n hx hb dKM_numbersFit_3 rfl (lv_at hl 2 rfl) ?_
      refine ty_get (ci := 1) (C := "LatticeKeys$KemSet") (TT := T_KS) (N := 10) (kd := (42, 0)) hx hb hts (wg_ft i_KS) hown hK hO k_st (nxg hc0 k_st rfl) hP (fun _ h9 => h9) rfl 0 (by decide) (hts _ (wg_t kw_231)) (fun _ h9 => h9) (cd := (1, 0, 4)) rfl dKM_numbersFit_4 (fun v22 hv22 => ?_)
      obtain rfl := (show v22 = .int (nI 4) from hv22)
      refine mi_ge (tgt := 63) hx hb dKM_numbersFit_7 (by decide) (by omega) (by omega) (fun h22 => absurd h22 (by omega)) (fun h22 => ?_)
      refine lv_aload_n hx hb dKM_numbersFit_10 rfl (lv_at hl 1 rfl) ?_
      refine ty_get (ci := 5) (C := "LatticeKeys$Kem") (TT := T_KM) (N := 10) (kd := (13, 0)) hx hb hts (wg_ft i_KM) hown hK hO k_h0 (nxg hc0 k_h0 rfl) hP (fun _ h9 => h9) rfl 4 (by decide) (hts _ (wg_t kw_111)) (fun _ h9 => h9) (cd := (3, 0, 256)) rfl dKM_numbersFit_11 (fun v23 hv23 => ?_)
      obtain ⟨r21, rfl, kr21⟩ := (show ∃ r : Nat, v23 = .ref r ∧ T r = some (0, 256) from hv23)
      refine lv_bipush (v := nI 12) hx hb dKM_numbersFit_14 (by decide) ?_
      refine lv_aload_n hx hb dKM_numbersFit_16 rfl (lv_at hl 3 rfl) ?_
      refine lv_sipush (v := nI 384) hx hb dKM_numbersFit_17 (by decide) ?_
      refine lv_iload_n hx hb dKM_numbersFit_20 rfl (lv_at hl 0 rfl) ?_
      refine mi_imul hx hb dKM_numbersFit_21 ?_
      refine mp_v (cx := []) (wr := []) hP hD hS hA [] [] rfl rfl rfl (by decide) (va_runS (As := [.ref r21, .int (nI 12), .ref pk, .int (nI (384 * i21))]) (rest := []) F (t_BT_unpack l g _ T xs pl hO hU hc0 r21 pk n 12 (384 * i21) kr21 k_pk (by omega) (by omega) (by omega)) (va_cwS 4 hts (wg_app (wg_c kw_627 (wg_c kw_628 (wg_c kw_22 wg_n))) kw_629) rfl rfl rfl (by decide +kernel) ⟨by decide, by decide⟩) (pp_S (en_ok g) hP hD hS hA hE [] rfl rfl) rfl rfl hl.1 rfl (lv_room (Nat.le_of_ble_eq_true rfl)) dKM_numbersFit_22 ⟨by omega, by omega⟩) (fun  pl H locs hu21 hP hD hS => ?_)
      obtain ⟨hq21, hO⟩ := hu21
      have hP : va_P g.1 vcl ([] ++ pl) _ := hP
      have hD : va_D _ ([] ++ pl) := hD
      refine W.widen (k := 0) (n := 0) (by omega) (by omega) ?_
      refine lv_iconst (v := nI 0) hx hb dKM_numbersFit_25 (by decide) ?_
      refine lv_istore (lv' := [(4, .int (nI 0)), (3, .int (nI i21)), (0, .ref h0), (1, .ref st), (2, .ref pk)]) hx hb dKM_numbersFit_26 hl (by decide) rfl (fun ls hl => ?_)
      have lp22 : ∀ (n22 : Nat) (i22 : Nat) (pl : va_W) (ls : Array Slot) (H : Heap) (locs : List Loc), n22 + i22 = 256 → lv_has ls 5 [(4, .int (nI i22)), (3, .int (nI i21)), (0, .ref h0), (1, .ref st), (2, .ref pk)] → okx g T xs pl → va_P g.1 vcl ([] ++ pl) H → va_D A ([] ++ pl) → va_S A s.heap H locs → W p l e ({ frames := 1, cells := 0, slots := 0, locals := 28 } : Room) s m args below meth c H locs 0 0 (MQ below (va_Qi (fun (r : Int32) (u : va_W) => (r = nI 0 ∨ r = nI 1) ∧ okx g T xs u) (po g.1 vcl A (fun (u : va_W) => [] ++ u)) A) args s 0 0 A) (F0 m 28 ls []) := by
        intro n22
        induction n22 with
        | zero =>
          intro i22 pl ls H locs hm22  hl hO hP hD hS
          refine lv_iload hx hb dKM_numbersFit_28 (lv_at hl 0 rfl) ?_
          refine lv_sipush (v := nI 256) hx hb dKM_numbersFit_30 (by decide) ?_
          refine mi_ge (tgt := 57) hx hb dKM_numbersFit_33 (by decide) (by omega) (by omega) (fun h23 => ?_) (fun h23 => absurd h23 (by omega))
          refine mi_iinc (k := 1) (x := i21) (d := 1) (y := i21 + 1) (lv' := [(3, .int (nI (i21 + 1))), (4, .int (nI i22)), (0, .ref h0), (1, .ref st), (2, .ref pk)]) hx hb dKM_numbersFit_57 hl rfl (by decide) rfl (by decide) rfl (fun ls hl => ?_)
          refine lv_goto (tgt := 2) hx hb dKM_numbersFit_60 (by decide) ?_
          exact ih21 (i21 + 1) pl ls H locs (by omega) (lv_sub hl [0, 2, 3, 4] rfl) hO hP hD hS
        | succ n22 ih22 =>
          intro i22 pl ls H locs hm22  hl hO hP hD hS
          refine lv_iload hx hb dKM_numbersFit_28 (lv_at hl 0 rfl) ?_
          refine lv_sipush (v := nI 256) hx hb dKM_numbersFit_30 (by decide) ?_
          refine mi_ge (tgt := 57) hx hb dKM_numbersFit_33 (by decide) (by omega) (by omega) (fun h24 => absurd h24 (by omega)) (fun h24 => ?_)
          refine lv_aload_n hx hb dKM_numbersFit_36 rfl (lv_at hl 2 rfl) ?_
          refine ty_get (ci := 5) (C := "LatticeKeys$Kem") (TT := T_KM) (N := 10) (kd := (13, 0)) hx hb hts (wg_ft i_KM) hown hK hO k_h0 (nxg hc0 k_h0 rfl) hP (fun _ h9 => h9) rfl 4 (by decide) (hts _ (wg_t kw_111)) (fun _ h9 => h9) (cd := (3, 0, 256)) rfl dKM_numbersFit_37 (fun v24 hv24 => ?_)
          obtain ⟨r22, rfl, kr22⟩ := (show ∃ r : Nat, v24 = .ref r ∧ T r = some (0, 256) from hv24)
          refine lv_iload hx hb dKM_numbersFit_40 (lv_at hl 0 rfl) ?_
          refine ty_iald hx hb hK hO kr22 (nxg hc0 kr22 rfl) hP (vp_in_nI (by omega) (by decide)) dKM_numbersFit_42 (fun z21 => ?_)
          refine lv_sipush (v := nI 3329) hx hb dKM_numbersFit_43 (by decide) ?_
          refine lv_icmp_lt (tgt := 51) hx hb dKM_numbersFit_46 (by decide) (fun h25 => ?_) (fun h25 => ?_)
          · refine mi_iinc (k := 0) (x := i22) (d := 1) (y := i22 + 1) (lv' := [(4, .int (nI (i22 + 1))), (3, .int (nI i21)), (0, .ref h0), (1, .ref st), (2, .ref pk)]) hx hb dKM_numbersFit_51 hl rfl (by decide) rfl (by decide) rfl (fun ls hl => ?_)
            refine lv_goto (tgt := 28) hx hb dKM_numbersFit_54 (by decide) ?_
            exact ih22 (i22 + 1) pl ls H locs (by omega) (lv_sub hl [0, 1, 2, 3, 4] rfl) hO hP hD hS
          · refine lv_iconst (v := nI 0) hx hb dKM_numbersFit_49 (by decide) ?_
            exact mp_zret hx hb hr hlk rfl hP hD hS pl ⟨(Or.inl rfl), hO⟩ [] rfl rfl rfl (by omega) (by omega) dKM_numbersFit_50
      exact lp22 256 0 pl ls _ _ (by omega) (lv_sub hl [0, 1, 2, 3, 4] rfl) hO hP hD hS
  exact lp21 4 0 pl ls _ _ (by omega) (lv_sub hl [0, 1, 2, 3] rfl) hO hP hD hS
set_option maxHeartbeats 400000 in
set_option maxRecDepth 100000 in
theorem t_KM_hashFits_0 (l : Launch) (g : Gd) (sz : Nat) (T : Ty) (xs : List Nat) (pl : va_W) (hO : okx g T xs pl) (hU : uni T) (hc0 : clo T xs 0) (hc2 : clo T xs 2) (h0 st sk n : Nat) (k_h0 : T h0 = some (13, 0)) (k_st : T st = some (40, 0)) (k_sk : T sk = some (1, n)) (h1 : 1632 ≤ n) (h2 : n < 65536)  : Met l y_KM_hashFits w_KM_hashFits ({ frames := 4, cells := 0, slots := 0, locals := 123 } : Room) (va_Pc [.ref h0, .ref st, .ref sk] (pr (en g) g.1 vcl sz ([] ++ pl))) (va_Qi (fun (r : Int32) (u : va_W) => (r = nI 0 ∨ r = nI 1) ∧ okx g T xs u) (po g.1 vcl (va_A ([] ++ pl) sz) (fun (u : va_W) => [] ++ u)) (va_A ([] ++ pl) sz)) 0 0 (va_A ([] ++ pl) sz) := by
  refine mc_entry (cc := c_KM_hashFits) (maxL := 4) (ret := (some .boolean)) (by decide) rfl (Nat.le_of_ble_eq_true rfl) ?_
  intro p e s m args below meth c ls F hr hlk hnm hsz hP hD hE hA hl
  obtain ⟨hx, hb, hml, hown, hts⟩ := id F
  have hK := hE.1
  generalize va_A ([] ++ pl) sz = A at hD hE hA ⊢
  have hS : va_S A s.heap s.heap [] := va_S.rf
  have hl : lv_has ls 4 [(0, .ref h0), (1, .ref st), (2, .ref sk)] := hl
  refine lv_aload_n hx hb dKM_hashFits_0 rfl (lv_at hl 0 rfl) ?_
  refine lv_aload_n hx hb dKM_hashFits_1 rfl (lv_at hl 2 rfl) ?_
  refine lv_aload_n hx hb dKM_hashFits_2 rfl (lv_at hl 1 rfl) ?_
  refine ty_get (ci := 1) (C := "LatticeKeys$KemSet") (TT := T_KS) (N := 10) (kd := (40, 0)) hx hb hts (wg_ft i_KS) hown hK hO k_st (nxg hc0 k_st rfl) hP (fun _ h9 => h9) rfl 7 (by decide) (hts _ (wg_t kw_247)) (fun _ h9 => h9) (cd := (1, 0, 768)) rfl dKM_hashFits_3 (fun v21 hv21 => ?_)
  obtain rfl := (show v21 = .int (nI 768) from hv21)
  refine lv_aload_n hx hb dKM_hashFits_6 rfl (lv_at hl 1 rfl) ?_
  refine ty_get (ci := 1) (C := "LatticeKeys$KemSet") (TT := T_KS) (N := 10) (kd := (40, 0)) hx hb hts (wg_ft i_KS) hown hK hO k_st (nxg hc0 k_st rfl) hP (fun _ h9 => h9) rfl 4 (by decide) (hts _ (wg_t kw_239)) (fun _ h9 => h9) (cd := (1, 0, 800)) rfl dKM_hashFits_7 (fun v22 hv22 => ?_)
  obtain rfl := (show v22 = .int (nI 800) from hv22)
  refine mp_v (cx := []) (wr := []) hP hD hS hA [] [] rfl rfl rfl (by decide) (va_runV (As := [.ref sk, .int (nI 768), .int (nI 800)]) (rest := []) F (t_KM_digestOf l g _ T xs pl hO hU hc0 hc2 h0 sk n 768 800 k_h0 k_sk (by omega) (by omega)) (cwV 3 hts (wg_app (wg_c kw_661 (wg_c kw_663 (wg_c ks_10 (wg_c kw_3 wg_n)))) kw_664) rfl rfl rfl (by decide +kernel) ⟨by decide, by decide⟩) (pp_VT (en_ok g) (ci := 5) (kd := (13, 0)) hK hO k_h0 (nxg hc0 k_h0 rfl) (fun _ h9 => ko1 h9) hP hD hS hA hE [] rfl rfl rfl) rfl rfl hl.1 rfl (lv_room (Nat.le_of_ble_eq_true rfl)) dKM_hashFits_10 ⟨by omega, by omega⟩) (fun  pl H locs hu21 hP hD hS => ?_)
  obtain ⟨hq21, hO⟩ := hu21
  have hP : va_P g.1 vcl ([] ++ pl) _ := hP
  have hD : va_D _ ([] ++ pl) := hD
  refine W.widen (k := 0) (n := 0) (by omega) (by omega) ?_
  refine lv_iconst (v := nI 0) hx hb dKM_hashFits_13 (by decide) ?_
  refine lv_istore_n (lv' := [(3, .int (nI 0)), (0, .ref h0), (1, .ref st), (2, .ref sk)]) hx hb dKM_hashFits_14 rfl hl (by decide) rfl (fun ls hl => ?_)
  have lp21 : ∀ (n21 : Nat) (i21 : Nat) (pl : va_W) (ls : Array Slot) (H : Heap) (locs : List Loc), n21 + i21 = 32 → lv_has ls 4 [(3, .int (nI i21)), (0, .ref h0), (1, .ref st), (2, .ref sk)] → okx g T xs pl → va_P g.1 vcl ([] ++ pl) H → va_D A ([] ++ pl) → va_S A s.heap H locs → W p l e ({ frames := 4, cells := 0, slots := 0, locals := 123 } : Room) s m args below meth c H locs 0 0 (MQ below (va_Qi (fun (r : Int32) (u : va_W) => (r = nI 0 ∨ r = nI 1) ∧ okx g T xs u) (po g.1 vcl A (fun (u : va_W) => [] ++ u)) A) args s 0 0 A) (F0 m 15 ls []) := by
    intro n21
    induction n21 with
    | zero =>
      intro i21 pl ls H locs hm21  hl hO hP hD hS
      refine lv_iload_n hx hb dKM_hashFits_15 rfl (lv_at hl 0 rfl) ?_
      refine lv_bipush (v := nI 32) hx hb dKM_hashFits_16 (by decide) ?_
      refine mi_ge (tgt := 46) hx hb dKM_hashFits_18 (by decide) (by omega) (by omega) (fun h21 => ?_) (fun h21 => absurd h21 (by omega))
      refine lv_iconst (v := nI 1) hx hb dKM_hashFits_46 (by decide) ?_
      exact mp_zret hx hb hr hlk rfl hP hD hS pl ⟨(Or.inr rfl), hO⟩ [] rfl rfl rfl (by omega) (by omega) dKM_hashFits_47
    | succ n21 ih21 =>
      intro i21 pl ls H locs hm21  hl hO hP hD hS
      refine lv_iload_n hx hb dKM_hashFits_15 rfl (lv_at hl 0 rfl) ?_
      refine lv_bipush (v := nI 32) hx hb dKM_hashFits_16 (by decide) ?_
      refine mi_ge (tgt := 46) hx hb dKM_hashFits_18 (by decide) (by omega) (by omega) (fun h22 => absurd h22 (by omega)) (fun h22 => ?_)
      refine lv_aload_n hx hb dKM_hashFits_21 rfl (lv_at hl 1 rfl) ?_
      refine ty_get (ci := 5) (C := "LatticeKeys$Kem") (TT := T_KM) (N := 10) (kd := (13, 0)) hx hb hts (wg_ft i_KM) hown hK hO k_h0 (nxg hc0 k_h0 rfl) hP (fun _ h9 => h9) rfl 6 (by decide) (hts _ (wg_t kw_113)) (fun _ h9 => h9) (cd := (3, 1, 32)) rfl dKM_hashFits_22 (fun v23 hv23 => ?_)
      obtain ⟨r21, rfl, kr21⟩ := (show ∃ r : Nat, v23 = .ref r ∧ T r = some (1, 32) from hv23)
      refine lv_iload_n hx hb dKM_hashFits_25 rfl (lv_at hl 0 rfl) ?_
      refine ty_bald hx hb hK hO kr21 (nxg hc0 kr21 rfl) hP (vp_in_nI (by omega) (by decide)) dKM_hashFits_26 (fun z21 => ?_)
      refine lv_aload_n hx hb dKM_hashFits_27 rfl (lv_at hl 3 rfl) ?_
      refine lv_aload_n hx hb dKM_hashFits_28 rfl (lv_at hl 2 rfl) ?_
      refine ty_get (ci := 1) (C := "LatticeKeys$KemSet") (TT := T_KS) (N := 10) (kd := (40, 0)) hx hb hts (wg_ft i_KS) hown hK hO k_st (nxg hc0 k_st rfl) hP (fun _ h9 => h9) rfl 8 (by decide) (hts _ (wg_t kw_250)) (fun _ h9 => h9) (cd := (1, 0, 1568)) rfl dKM_hashFits_29 (fun v24 hv24 => ?_)
      obtain rfl := (show v24 = .int (nI 1568) from hv24)
      refine lv_iload_n hx hb dKM_hashFits_32 rfl (lv_at hl 0 rfl) ?_
      refine mi_iadd hx hb dKM_hashFits_33 ?_
      refine ty_bald hx hb hK hO k_sk (nxg hc0 k_sk rfl) hP (vp_in_nI (by omega) (by omega)) dKM_hashFits_34 (fun z22 => ?_)
      refine lv_icmp_eq (tgt := 40) hx hb dKM_hashFits_35 (by decide) (fun h23 => ?_) (fun h23 => ?_)
      · refine mi_iinc (k := 0) (x := i21) (d := 1) (y := i21 + 1) (lv' := [(3, .int (nI (i21 + 1))), (0, .ref h0), (1, .ref st), (2, .ref sk)]) hx hb dKM_hashFits_40 hl rfl (by decide) rfl (by decide) rfl (fun ls hl => ?_)
        refine lv_goto (tgt := 15) hx hb dKM_hashFits_43 (by decide) ?_
        exact ih21 (i21 + 1) pl ls H locs (by omega) (lv_sub hl [0, 1, 2, 3] rfl) hO hP hD hS
      · refine lv_iconst (v := nI 0) hx hb dKM_hashFits_38 (by decide) ?_
        exact mp_zret hx hb hr hlk rfl hP hD hS pl ⟨(Or.inl rfl), hO⟩ [] rfl rfl rfl (by omega) (by omega) dKM_hashFits_39
  exact lp21 32 0 pl ls _ _ (by omega) (lv_sub hl [0, 1, 2, 3] rfl) hO hP hD hS
set_option maxHeartbeats 400000 in
set_option maxRecDepth 100000 in
theorem t_KM_hashFits_1 (l : Launch) (g : Gd) (sz : Nat) (T : Ty) (xs : List Nat) (pl : va_W) (hO : okx g T xs pl) (hU : uni T) (hc0 : clo T xs 0) (hc2 : clo T xs 2) (h0 st sk n : Nat) (k_h0 : T h0 = some (13, 0)) (k_st : T st = some (41, 0)) (k_sk : T sk = some (1, n)) (h1 : 2400 ≤ n) (h2 : n < 65536)  : Met l y_KM_hashFits w_KM_hashFits ({ frames := 4, cells := 0, slots := 0, locals := 123 } : Room) (va_Pc [.ref h0, .ref st, .ref sk] (pr (en g) g.1 vcl sz ([] ++ pl))) (va_Qi (fun (r : Int32) (u : va_W) => (r = nI 0 ∨ r = nI 1) ∧ okx g T xs u) (po g.1 vcl (va_A ([] ++ pl) sz) (fun (u : va_W) => [] ++ u)) (va_A ([] ++ pl) sz)) 0 0 (va_A ([] ++ pl) sz) := by
  refine mc_entry (cc := c_KM_hashFits) (maxL := 4) (ret := (some .boolean)) (by decide) rfl (Nat.le_of_ble_eq_true rfl) ?_
  intro p e s m args below meth c ls F hr hlk hnm hsz hP hD hE hA hl
  obtain ⟨hx, hb, hml, hown, hts⟩ := id F
  have hK := hE.1
  generalize va_A ([] ++ pl) sz = A at hD hE hA ⊢
  have hS : va_S A s.heap s.heap [] := va_S.rf
  have hl : lv_has ls 4 [(0, .ref h0), (1, .ref st), (2, .ref sk)] := hl
  refine lv_aload_n hx hb dKM_hashFits_0 rfl (lv_at hl 0 rfl) ?_
  refine lv_aload_n hx hb dKM_hashFits_1 rfl (lv_at hl 2 rfl) ?_
  refine lv_aload_n hx hb dKM_hashFits_2 rfl (lv_at hl 1 rfl) ?_
  refine ty_get (ci := 1) (C := "LatticeKeys$KemSet") (TT := T_KS) (N := 10) (kd := (41, 0)) hx hb hts (wg_ft i_KS) hown hK hO k_st (nxg hc0 k_st rfl) hP (fun _ h9 => h9) rfl 7 (by decide) (hts _ (wg_t kw_247)) (fun _ h9 => h9) (cd := (1, 0, 1152)) rfl dKM_hashFits_3 (fun v21 hv21 => ?_)
  obtain rfl := (show v21 = .int (nI 1152) from hv21)
  refine lv_aload_n hx hb dKM_hashFits_6 rfl (lv_at hl 1 rfl) ?_
  refine ty_get (ci := 1) (C := "LatticeKeys$KemSet") (TT := T_KS) (N := 10) (kd := (41, 0)) hx hb hts (wg_ft i_KS) hown hK hO k_st (nxg hc0 k_st rfl) hP (fun _ h9 => h9) rfl 4 (by decide) (hts _ (wg_t kw_239)) (fun _ h9 => h9) (cd := (1, 0, 1184)) rfl dKM_hashFits_7 (fun v22 hv22 => ?_)
  obtain rfl := (show v22 = .int (nI 1184) from hv22)
  refine mp_v (cx := []) (wr := []) hP hD hS hA [] [] rfl rfl rfl (by decide) (va_runV (As := [.ref sk, .int (nI 1152), .int (nI 1184)]) (rest := []) F (t_KM_digestOf l g _ T xs pl hO hU hc0 hc2 h0 sk n 1152 1184 k_h0 k_sk (by omega) (by omega)) (cwV 3 hts (wg_app (wg_c kw_661 (wg_c kw_663 (wg_c ks_10 (wg_c kw_3 wg_n)))) kw_664) rfl rfl rfl (by decide +kernel) ⟨by decide, by decide⟩) (pp_VT (en_ok g) (ci := 5) (kd := (13, 0)) hK hO k_h0 (nxg hc0 k_h0 rfl) (fun _ h9 => ko1 h9) hP hD hS hA hE [] rfl rfl rfl) rfl rfl hl.1 rfl (lv_room (Nat.le_of_ble_eq_true rfl)) dKM_hashFits_10 ⟨by omega, by omega⟩) (fun  pl H locs hu21 hP hD hS => ?_)
  obtain ⟨hq21, hO⟩ := hu21
  have hP : va_P g.1 vcl ([] ++ pl) _ := hP
  have hD : va_D _ ([] ++ pl) := hD
  refine W.widen (k := 0) (n := 0) (by omega) (by omega) ?_
  refine lv_iconst (v := nI 0) hx hb dKM_hashFits_13 (by decide) ?_
  refine lv_istore_n (lv' := [(3, .int (nI 0)), (0, .ref h0), (1, .ref st), (2, .ref sk)]) hx hb dKM_hashFits_14 rfl hl (by decide) rfl (fun ls hl => ?_)
  have lp21 : ∀ (n21 : Nat) (i21 : Nat) (pl : va_W) (ls : Array Slot) (H : Heap) (locs : List Loc), n21 + i21 = 32 → lv_has ls 4 [(3, .int (nI i21)), (0, .ref h0), (1, .ref st), (2, .ref sk)] → okx g T xs pl → va_P g.1 vcl ([] ++ pl) H → va_D A ([] ++ pl) → va_S A s.heap H locs → W p l e ({ frames := 4, cells := 0, slots := 0, locals := 123 } : Room) s m args below meth c H locs 0 0 (MQ below (va_Qi (fun (r : Int32) (u : va_W) => (r = nI 0 ∨ r = nI 1) ∧ okx g T xs u) (po g.1 vcl A (fun (u : va_W) => [] ++ u)) A) args s 0 0 A) (F0 m 15 ls []) := by
    intro n21
    induction n21 with
    | zero =>
      intro i21 pl ls H locs hm21  hl hO hP hD hS
      refine lv_iload_n hx hb dKM_hashFits_15 rfl (lv_at hl 0 rfl) ?_
      refine lv_bipush (v := nI 32) hx hb dKM_hashFits_16 (by decide) ?_
      refine mi_ge (tgt := 46) hx hb dKM_hashFits_18 (by decide) (by omega) (by omega) (fun h21 => ?_) (fun h21 => absurd h21 (by omega))
      refine lv_iconst (v := nI 1) hx hb dKM_hashFits_46 (by decide) ?_
      exact mp_zret hx hb hr hlk rfl hP hD hS pl ⟨(Or.inr rfl), hO⟩ [] rfl rfl rfl (by omega) (by omega) dKM_hashFits_47
    | succ n21 ih21 =>
      intro i21 pl ls H locs hm21  hl hO hP hD hS
      refine lv_iload_n hx hb dKM_hashFits_15 rfl (lv_at hl 0 rfl) ?_
      refine lv_bipush (v := nI 32) hx hb dKM_hashFits_16 (by decide) ?_
      refine mi_ge (tgt := 46) hx hb dKM_hashFits_18 (by decide) (by omega) (by omega) (fun h22 => absurd h22 (by omega)) (fun h22 => ?_)
      refine lv_aload_n hx hb dKM_hashFits_21 rfl (lv_at hl 1 rfl) ?_
      refine ty_get (ci := 5) (C := "LatticeKeys$Kem") (TT := T_KM) (N := 10) (kd := (13, 0)) hx hb hts (wg_ft i_KM) hown hK hO k_h0 (nxg hc0 k_h0 rfl) hP (fun _ h9 => h9) rfl 6 (by decide) (hts _ (wg_t kw_113)) (fun _ h9 => h9) (cd := (3, 1, 32)) rfl dKM_hashFits_22 (fun v23 hv23 => ?_)
      obtain ⟨r21, rfl, kr21⟩ := (show ∃ r : Nat, v23 = .ref r ∧ T r = some (1, 32) from hv23)
      refine lv_iload_n hx hb dKM_hashFits_25 rfl (lv_at hl 0 rfl) ?_
      refine ty_bald hx hb hK hO kr21 (nxg hc0 kr21 rfl) hP (vp_in_nI (by omega) (by decide)) dKM_hashFits_26 (fun z21 => ?_)
      refine lv_aload_n hx hb dKM_hashFits_27 rfl (lv_at hl 3 rfl) ?_
      refine lv_aload_n hx hb dKM_hashFits_28 rfl (lv_at hl 2 rfl) ?_
      refine ty_get (ci := 1) (C := "LatticeKeys$KemSet") (TT := T_KS) (N := 10) (kd := (41, 0)) hx hb hts (wg_ft i_KS) hown hK hO k_st (nxg hc0 k_st rfl) hP (fun _ h9 => h9) rfl 8 (by decide) (hts _ (wg_t kw_250)) (fun _ h9 => h9) (cd := (1, 0, 2336)) rfl dKM_hashFits_29 (fun v24 hv24 => ?_)
      obtain rfl := (show v24 = .int (nI 2336) from hv24)
      refine lv_iload_n hx hb dKM_hashFits_32 rfl (lv_at hl 0 rfl) ?_
      refine mi_iadd hx hb dKM_hashFits_33 ?_
      refine ty_bald hx hb hK hO k_sk (nxg hc0 k_sk rfl) hP (vp_in_nI (by omega) (by omega)) dKM_hashFits_34 (fun z22 => ?_)
      refine lv_icmp_eq (tgt := 40) hx hb dKM_hashFits_35 (by decide) (fun h23 => ?_) (fun h23 => ?_)
      · refine mi_iinc (k := 0) (x := i21) (d := 1) (y := i21 + 1) (lv' := [(3, .int (nI (i21 + 1))), (0, .ref h0), (1, .ref st), (2, .ref sk)]) hx hb dKM_hashFits_40 hl rfl (by decide) rfl (by decide) rfl (fun ls hl => ?_)
        refine lv_goto (tgt := 15) hx hb dKM_hashFits_43 (by decide) ?_
        exact ih21 (i21 + 1) pl ls H locs (by omega) (lv_sub hl [0, 1, 2, 3] rfl) hO hP hD hS
      · refine lv_iconst (v := nI 0) hx hb dKM_hashFits_38 (by decide) ?_
        exact mp_zret hx hb hr hlk rfl hP hD hS pl ⟨(Or.inl rfl), hO⟩ [] rfl rfl rfl (by omega) (by omega) dKM_hashFits_39
  exact lp21 32 0 pl ls _ _ (by omega) (lv_sub hl [0, 1, 2, 3] rfl) hO hP hD hS
set_option maxHeartbeats 400000 in
set_option maxRecDepth 100000 in
theorem t_KM_hashFits_2 (l : Launch) (g : Gd) (sz : Nat) (T : Ty) (xs : List Nat) (pl : va_W) (hO : okx g T xs pl) (hU : uni T) (hc0 : clo T xs 0) (hc2 : clo T xs 2) (h0 st sk n : Nat) (k_h0 : T h0 = some (13, 0)) (k_st : T st = some (42, 0)) (k_sk : T sk = some (1, n)) (h1 : 3168 ≤ n) (h2 : n < 65536)  : Met l y_KM_hashFits w_KM_hashFits ({ frames := 4, cells := 0, slots := 0, locals := 123 } : Room) (va_Pc [.ref h0, .ref st, .ref sk] (pr (en g) g.1 vcl sz ([] ++ pl))) (va_Qi (fun (r : Int32) (u : va_W) => (r = nI 0 ∨ r = nI 1) ∧ okx g T xs u) (po g.1 vcl (va_A ([] ++ pl) sz) (fun (u : va_W) => [] ++ u)) (va_A ([] ++ pl) sz)) 0 0 (va_A ([] ++ pl) sz) := by
  refine mc_entry (cc := c_KM_hashFits) (maxL := 4) (ret := (some .boolean)) (by decide) rfl (Nat.le_of_ble_eq_true rfl) ?_
  intro p e s m args below meth c ls F hr hlk hnm hsz hP hD hE hA hl
  obtain ⟨hx, hb, hml, hown, hts⟩ := id F
  have hK := hE.1
  generalize va_A ([] ++ pl) sz = A at hD hE hA ⊢
  have hS : va_S A s.heap s.heap [] := va_S.rf
  have hl : lv_has ls 4 [(0, .ref h0), (1, .ref st), (2, .ref sk)] := hl
  refine lv_aload_n hx hb dKM_hashFits_0 rfl (lv_at hl 0 rfl) ?_
  refine lv_aload_n hx hb dKM_hashFits_1 rfl (lv_at hl 2 rfl) ?_
  refine lv_aload_n hx hb dKM_hashFits_2 rfl (lv_at hl 1 rfl) ?_
  refine ty_get (ci := 1) (C := "LatticeKeys$KemSet") (TT := T_KS) (N := 10) (kd := (42, 0)) hx hb hts (wg_ft i_KS) hown hK hO k_st (nxg hc0 k_st rfl) hP (fun _ h9 => h9) rfl 7 (by decide) (hts _ (wg_t kw_247)) (fun _ h9 => h9) (cd := (1, 0, 1536)) rfl dKM_hashFits_3 (fun v21 hv21 => ?_)
  obtain rfl := (show v21 = .int (nI 1536) from hv21)
  refine lv_aload_n hx hb dKM_hashFits_6 rfl (lv_at hl 1 rfl) ?_
  refine ty_get (ci := 1) (C := "LatticeKeys$KemSet") (TT := T_KS) (N := 10) (kd := (42, 0)) hx hb hts (wg_ft i_KS) hown hK hO k_st (nxg hc0 k_st rfl) hP (fun _ h9 => h9) rfl 4 (by decide) (hts _ (wg_t kw_239)) (fun _ h9 => h9) (cd := (1, 0, 1568)) rfl dKM_hashFits_7 (fun v22 hv22 => ?_)
  obtain rfl := (show v22 = .int (nI 1568) from hv22)
  refine mp_v (cx := []) (wr := []) hP hD hS hA [] [] rfl rfl rfl (by decide) (va_runV (As := [.ref sk, .int (nI 1536), .int (nI 1568)]) (rest := []) F (t_KM_digestOf l g _ T xs pl hO hU hc0 hc2 h0 sk n 1536 1568 k_h0 k_sk (by omega) (by omega)) (cwV 3 hts (wg_app (wg_c kw_661 (wg_c kw_663 (wg_c ks_10 (wg_c kw_3 wg_n)))) kw_664) rfl rfl rfl (by decide +kernel) ⟨by decide, by decide⟩) (pp_VT (en_ok g) (ci := 5) (kd := (13, 0)) hK hO k_h0 (nxg hc0 k_h0 rfl) (fun _ h9 => ko1 h9) hP hD hS hA hE [] rfl rfl rfl) rfl rfl hl.1 rfl (lv_room (Nat.le_of_ble_eq_true rfl)) dKM_hashFits_10 ⟨by omega, by omega⟩) (fun  pl H locs hu21 hP hD hS => ?_)
  obtain ⟨hq21, hO⟩ := hu21
  have hP : va_P g.1 vcl ([] ++ pl) _ := hP
  have hD : va_D _ ([] ++ pl) := hD
  refine W.widen (k := 0) (n := 0) (by omega) (by omega) ?_
  refine lv_iconst (v := nI 0) hx hb dKM_hashFits_13 (by decide) ?_
  refine lv_istore_n (lv' := [(3, .int (nI 0)), (0, .ref h0), (1, .ref st), (2, .ref sk)]) hx hb dKM_hashFits_14 rfl hl (by decide) rfl (fun ls hl => ?_)
  have lp21 : ∀ (n21 : Nat) (i21 : Nat) (pl : va_W) (ls : Array Slot) (H : Heap) (locs : List Loc), n21 + i21 = 32 → lv_has ls 4 [(3, .int (nI i21)), (0, .ref h0), (1, .ref st), (2, .ref sk)] → okx g T xs pl → va_P g.1 vcl ([] ++ pl) H → va_D A ([] ++ pl) → va_S A s.heap H locs → W p l e ({ frames := 4, cells := 0, slots := 0, locals := 123 } : Room) s m args below meth c H locs 0 0 (MQ below (va_Qi (fun (r : Int32) (u : va_W) => (r = nI 0 ∨ r = nI 1) ∧ okx g T xs u) (po g.1 vcl A (fun (u : va_W) => [] ++ u)) A) args s 0 0 A) (F0 m 15 ls []) := by
    intro n21
    induction n21 with
    | zero =>
      intro i21 pl ls H locs hm21  hl hO hP hD hS
      refine lv_iload_n hx hb dKM_hashFits_15 rfl (lv_at hl 0 rfl) ?_
      refine lv_bipush (v := nI 32) hx hb dKM_hashFits_16 (by decide) ?_
      refine mi_ge (tgt := 46) hx hb dKM_hashFits_18 (by decide) (by omega) (by omega) (fun h21 => ?_) (fun h21 => absurd h21 (by omega))
      refine lv_iconst (v := nI 1) hx hb dKM_hashFits_46 (by decide) ?_
      exact mp_zret hx hb hr hlk rfl hP hD hS pl ⟨(Or.inr rfl), hO⟩ [] rfl rfl rfl (by omega) (by omega) dKM_hashFits_47
    | succ n21 ih21 =>
      intro i21 pl ls H locs hm21  hl hO hP hD hS
      refine lv_iload_n hx hb dKM_hashFits_15 rfl (lv_at hl 0 rfl) ?_
      refine lv_bipush (v := nI 32) hx hb dKM_hashFits_16 (by decide) ?_
      refine mi_ge (tgt := 46) hx hb dKM_hashFits_18 (by decide) (by omega) (by omega) (fun h22 => absurd h22 (by omega)) (fun h22 => ?_)
      refine lv_aload_n hx hb dKM_hashFits_21 rfl (lv_at hl 1 rfl) ?_
      refine ty_get (ci := 5) (C := "LatticeKeys$Kem") (TT := T_KM) (N := 10) (kd := (13, 0)) hx hb hts (wg_ft i_KM) hown hK hO k_h0 (nxg hc0 k_h0 rfl) hP (fun _ h9 => h9) rfl 6 (by decide) (hts _ (wg_t kw_113)) (fun _ h9 => h9) (cd := (3, 1, 32)) rfl dKM_hashFits_22 (fun v23 hv23 => ?_)
      obtain ⟨r21, rfl, kr21⟩ := (show ∃ r : Nat, v23 = .ref r ∧ T r = some (1, 32) from hv23)
      refine lv_iload_n hx hb dKM_hashFits_25 rfl (lv_at hl 0 rfl) ?_
      refine ty_bald hx hb hK hO kr21 (nxg hc0 kr21 rfl) hP (vp_in_nI (by omega) (by decide)) dKM_hashFits_26 (fun z21 => ?_)
      refine lv_aload_n hx hb dKM_hashFits_27 rfl (lv_at hl 3 rfl) ?_
      refine lv_aload_n hx hb dKM_hashFits_28 rfl (lv_at hl 2 rfl) ?_
      refine ty_get (ci := 1) (C := "LatticeKeys$KemSet") (TT := T_KS) (N := 10) (kd := (42, 0)) hx hb hts (wg_ft i_KS) hown hK hO k_st (nxg hc0 k_st rfl) hP (fun _ h9 => h9) rfl 8 (by decide) (hts _ (wg_t kw_250)) (fun _ h9 => h9) (cd := (1, 0, 3104)) rfl dKM_hashFits_29 (fun v24 hv24 => ?_)
      obtain rfl := (show v24 = .int (nI 3104) from hv24)
      refine lv_iload_n hx hb dKM_hashFits_32 rfl (lv_at hl 0 rfl) ?_
      refine mi_iadd hx hb dKM_hashFits_33 ?_
      refine ty_bald hx hb hK hO k_sk (nxg hc0 k_sk rfl) hP (vp_in_nI (by omega) (by omega)) dKM_hashFits_34 (fun z22 => ?_)
      refine lv_icmp_eq (tgt := 40) hx hb dKM_hashFits_35 (by decide) (fun h23 => ?_) (fun h23 => ?_)
      · refine mi_iinc (k := 0) (x := i21) (d := 1) (y := i21 + 1) (lv' := [(3, .int (nI (i21 + 1))), (0, .ref h0), (1, .ref st), (2, .ref sk)]) hx hb dKM_hashFits_40 hl rfl (by decide) rfl (by decide) rfl (fun ls hl => ?_)
        refine lv_goto (tgt := 15) hx hb dKM_hashFits_43 (by decide) ?_
        exact ih21 (i21 + 1) pl ls H locs (by omega) (lv_sub hl [0, 1, 2, 3] rfl) hO hP hD hS
      · refine lv_iconst (v := nI 0) hx hb dKM_hashFits_38 (by decide) ?_
        exact mp_zret hx hb hr hlk rfl hP hD hS pl ⟨(Or.inl rfl), hO⟩ [] rfl rfl rfl (by omega) (by omega) dKM_hashFits_39
  exact lp21 32 0 pl ls _ _ (by omega) (lv_sub hl [0, 1, 2, 3] rfl) hO hP hD hS
