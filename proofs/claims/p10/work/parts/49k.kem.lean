set_option linter.all false
abbrev c_KM_makePair : ByteArray := prog_6_method_2_code
abbrev y_KM_makePair : MethodName := ⟨"LatticeKeys$Kem", "makePair", "(LLatticeKeys$KemSet;[B[B[B)V"⟩
abbrev w_KM_makePair : List Cond := Cond.code y_KM_makePair c_KM_makePair 7 none :: WG
theorem dKM_makePair_0 : decode c_KM_makePair 0 = .ok (.aload_n 0, 1) := by decide +kernel
theorem dKM_makePair_1 : decode c_KM_makePair 1 = .ok (.getfield 10, 3) := by decide +kernel
theorem dKM_makePair_4 : decode c_KM_makePair 4 = .ok (.iconst 1, 1) := by decide +kernel
theorem dKM_makePair_5 : decode c_KM_makePair 5 = .ok (.invokevirtual 53, 3) := by decide +kernel
theorem dKM_makePair_8 : decode c_KM_makePair 8 = .ok (.aload_n 0, 1) := by decide +kernel
theorem dKM_makePair_9 : decode c_KM_makePair 9 = .ok (.getfield 10, 3) := by decide +kernel
theorem dKM_makePair_12 : decode c_KM_makePair 12 = .ok (.aload_n 2, 1) := by decide +kernel
theorem dKM_makePair_13 : decode c_KM_makePair 13 = .ok (.iconst 0, 1) := by decide +kernel
theorem dKM_makePair_14 : decode c_KM_makePair 14 = .ok (.bipush 32, 2) := by decide +kernel
theorem dKM_makePair_16 : decode c_KM_makePair 16 = .ok (.invokevirtual 57, 3) := by decide +kernel
theorem dKM_makePair_19 : decode c_KM_makePair 19 = .ok (.aload_n 0, 1) := by decide +kernel
theorem dKM_makePair_20 : decode c_KM_makePair 20 = .ok (.getfield 10, 3) := by decide +kernel
theorem dKM_makePair_23 : decode c_KM_makePair 23 = .ok (.aload_n 1, 1) := by decide +kernel
theorem dKM_makePair_24 : decode c_KM_makePair 24 = .ok (.getfield 61, 3) := by decide +kernel
theorem dKM_makePair_27 : decode c_KM_makePair 27 = .ok (.invokevirtual 67, 3) := by decide +kernel
theorem dKM_makePair_30 : decode c_KM_makePair 30 = .ok (.aload_n 0, 1) := by decide +kernel
theorem dKM_makePair_31 : decode c_KM_makePair 31 = .ok (.getfield 10, 3) := by decide +kernel
theorem dKM_makePair_34 : decode c_KM_makePair 34 = .ok (.invokevirtual 70, 3) := by decide +kernel
theorem dKM_makePair_37 : decode c_KM_makePair 37 = .ok (.aload_n 0, 1) := by decide +kernel
theorem dKM_makePair_38 : decode c_KM_makePair 38 = .ok (.getfield 10, 3) := by decide +kernel
theorem dKM_makePair_41 : decode c_KM_makePair 41 = .ok (.aload_n 0, 1) := by decide +kernel
theorem dKM_makePair_42 : decode c_KM_makePair 42 = .ok (.getfield 44, 3) := by decide +kernel
theorem dKM_makePair_45 : decode c_KM_makePair 45 = .ok (.iconst 0, 1) := by decide +kernel
theorem dKM_makePair_46 : decode c_KM_makePair 46 = .ok (.bipush 64, 2) := by decide +kernel
theorem dKM_makePair_48 : decode c_KM_makePair 48 = .ok (.invokevirtual 73, 3) := by decide +kernel
theorem dKM_makePair_51 : decode c_KM_makePair 51 = .ok (.aload_n 0, 1) := by decide +kernel
theorem dKM_makePair_52 : decode c_KM_makePair 52 = .ok (.getfield 44, 3) := by decide +kernel
theorem dKM_makePair_55 : decode c_KM_makePair 55 = .ok (.iconst 0, 1) := by decide +kernel
theorem dKM_makePair_56 : decode c_KM_makePair 56 = .ok (.aload_n 3, 1) := by decide +kernel
theorem dKM_makePair_57 : decode c_KM_makePair 57 = .ok (.aload_n 1, 1) := by decide +kernel
theorem dKM_makePair_58 : decode c_KM_makePair 58 = .ok (.getfield 76, 3) := by decide +kernel
theorem dKM_makePair_61 : decode c_KM_makePair 61 = .ok (.bipush 32, 2) := by decide +kernel
theorem dKM_makePair_63 : decode c_KM_makePair 63 = .ok (.isub, 1) := by decide +kernel
theorem dKM_makePair_64 : decode c_KM_makePair 64 = .ok (.bipush 32, 2) := by decide +kernel
theorem dKM_makePair_66 : decode c_KM_makePair 66 = .ok (.invokestatic 79, 3) := by decide +kernel
theorem dKM_makePair_69 : decode c_KM_makePair 69 = .ok (.iconst 0, 1) := by decide +kernel
theorem dKM_makePair_70 : decode c_KM_makePair 70 = .ok (.istore 5, 2) := by decide +kernel
theorem dKM_makePair_72 : decode c_KM_makePair 72 = .ok (.iload 5, 2) := by decide +kernel
theorem dKM_makePair_74 : decode c_KM_makePair 74 = .ok (.aload_n 1, 1) := by decide +kernel
theorem dKM_makePair_75 : decode c_KM_makePair 75 = .ok (.getfield 61, 3) := by decide +kernel
theorem dKM_makePair_78 : decode c_KM_makePair 78 = .ok (.if_icmp .ge 60, 3) := by decide +kernel
theorem dKM_makePair_81 : decode c_KM_makePair 81 = .ok (.aload_n 0, 1) := by decide +kernel
theorem dKM_makePair_82 : decode c_KM_makePair 82 = .ok (.aload_n 0, 1) := by decide +kernel
theorem dKM_makePair_83 : decode c_KM_makePair 83 = .ok (.getfield 27, 3) := by decide +kernel
theorem dKM_makePair_86 : decode c_KM_makePair 86 = .ok (.iload 5, 2) := by decide +kernel
theorem dKM_makePair_88 : decode c_KM_makePair 88 = .ok (.aaload, 1) := by decide +kernel
theorem dKM_makePair_89 : decode c_KM_makePair 89 = .ok (.aload_n 1, 1) := by decide +kernel
theorem dKM_makePair_90 : decode c_KM_makePair 90 = .ok (.getfield 85, 3) := by decide +kernel
theorem dKM_makePair_93 : decode c_KM_makePair 93 = .ok (.iload 5, 2) := by decide +kernel
theorem dKM_makePair_95 : decode c_KM_makePair 95 = .ok (.invokevirtual 88, 3) := by decide +kernel
theorem dKM_makePair_98 : decode c_KM_makePair 98 = .ok (.aload_n 0, 1) := by decide +kernel
theorem dKM_makePair_99 : decode c_KM_makePair 99 = .ok (.getfield 21, 3) := by decide +kernel
theorem dKM_makePair_102 : decode c_KM_makePair 102 = .ok (.aload_n 0, 1) := by decide +kernel
theorem dKM_makePair_103 : decode c_KM_makePair 103 = .ok (.getfield 27, 3) := by decide +kernel
theorem dKM_makePair_106 : decode c_KM_makePair 106 = .ok (.iload 5, 2) := by decide +kernel
theorem dKM_makePair_108 : decode c_KM_makePair 108 = .ok (.aaload, 1) := by decide +kernel
theorem dKM_makePair_109 : decode c_KM_makePair 109 = .ok (.invokevirtual 92, 3) := by decide +kernel
theorem dKM_makePair_112 : decode c_KM_makePair 112 = .ok (.aload_n 0, 1) := by decide +kernel
theorem dKM_makePair_113 : decode c_KM_makePair 113 = .ok (.getfield 27, 3) := by decide +kernel
theorem dKM_makePair_116 : decode c_KM_makePair 116 = .ok (.iload 5, 2) := by decide +kernel
theorem dKM_makePair_118 : decode c_KM_makePair 118 = .ok (.aaload, 1) := by decide +kernel
theorem dKM_makePair_119 : decode c_KM_makePair 119 = .ok (.bipush 12, 2) := by decide +kernel
theorem dKM_makePair_121 : decode c_KM_makePair 121 = .ok (.aload 4, 2) := by decide +kernel
theorem dKM_makePair_123 : decode c_KM_makePair 123 = .ok (.sipush 384, 3) := by decide +kernel
theorem dKM_makePair_126 : decode c_KM_makePair 126 = .ok (.iload 5, 2) := by decide +kernel
theorem dKM_makePair_128 : decode c_KM_makePair 128 = .ok (.imul, 1) := by decide +kernel
theorem dKM_makePair_129 : decode c_KM_makePair 129 = .ok (.invokestatic 96, 3) := by decide +kernel
theorem dKM_makePair_132 : decode c_KM_makePair 132 = .ok (.iinc 5 1, 3) := by decide +kernel
theorem dKM_makePair_135 : decode c_KM_makePair 135 = .ok (.goto (-63), 3) := by decide +kernel
theorem dKM_makePair_138 : decode c_KM_makePair 138 = .ok (.iconst 0, 1) := by decide +kernel
theorem dKM_makePair_139 : decode c_KM_makePair 139 = .ok (.istore 5, 2) := by decide +kernel
theorem dKM_makePair_141 : decode c_KM_makePair 141 = .ok (.iload 5, 2) := by decide +kernel
theorem dKM_makePair_143 : decode c_KM_makePair 143 = .ok (.aload_n 1, 1) := by decide +kernel
theorem dKM_makePair_144 : decode c_KM_makePair 144 = .ok (.getfield 61, 3) := by decide +kernel
theorem dKM_makePair_147 : decode c_KM_makePair 147 = .ok (.if_icmp .ge 111, 3) := by decide +kernel
theorem dKM_makePair_150 : decode c_KM_makePair 150 = .ok (.aload_n 0, 1) := by decide +kernel
theorem dKM_makePair_151 : decode c_KM_makePair 151 = .ok (.aload_n 0, 1) := by decide +kernel
theorem dKM_makePair_152 : decode c_KM_makePair 152 = .ok (.getfield 30, 3) := by decide +kernel
theorem dKM_makePair_155 : decode c_KM_makePair 155 = .ok (.aload_n 1, 1) := by decide +kernel
theorem dKM_makePair_156 : decode c_KM_makePair 156 = .ok (.getfield 85, 3) := by decide +kernel
theorem dKM_makePair_159 : decode c_KM_makePair 159 = .ok (.aload_n 1, 1) := by decide +kernel
theorem dKM_makePair_160 : decode c_KM_makePair 160 = .ok (.getfield 61, 3) := by decide +kernel
theorem dKM_makePair_163 : decode c_KM_makePair 163 = .ok (.iload 5, 2) := by decide +kernel
theorem dKM_makePair_165 : decode c_KM_makePair 165 = .ok (.iadd, 1) := by decide +kernel
theorem dKM_makePair_166 : decode c_KM_makePair 166 = .ok (.invokevirtual 88, 3) := by decide +kernel
theorem dKM_makePair_169 : decode c_KM_makePair 169 = .ok (.aload_n 0, 1) := by decide +kernel
theorem dKM_makePair_170 : decode c_KM_makePair 170 = .ok (.getfield 21, 3) := by decide +kernel
theorem dKM_makePair_173 : decode c_KM_makePair 173 = .ok (.aload_n 0, 1) := by decide +kernel
theorem dKM_makePair_174 : decode c_KM_makePair 174 = .ok (.getfield 30, 3) := by decide +kernel
theorem dKM_makePair_177 : decode c_KM_makePair 177 = .ok (.invokevirtual 92, 3) := by decide +kernel
theorem dKM_makePair_180 : decode c_KM_makePair 180 = .ok (.iconst 0, 1) := by decide +kernel
theorem dKM_makePair_181 : decode c_KM_makePair 181 = .ok (.istore 6, 2) := by decide +kernel
theorem dKM_makePair_183 : decode c_KM_makePair 183 = .ok (.iload 6, 2) := by decide +kernel
theorem dKM_makePair_185 : decode c_KM_makePair 185 = .ok (.aload_n 1, 1) := by decide +kernel
theorem dKM_makePair_186 : decode c_KM_makePair 186 = .ok (.getfield 61, 3) := by decide +kernel
theorem dKM_makePair_189 : decode c_KM_makePair 189 = .ok (.if_icmp .ge 47, 3) := by decide +kernel
theorem dKM_makePair_192 : decode c_KM_makePair 192 = .ok (.aload_n 0, 1) := by decide +kernel
theorem dKM_makePair_193 : decode c_KM_makePair 193 = .ok (.aload_n 3, 1) := by decide +kernel
theorem dKM_makePair_194 : decode c_KM_makePair 194 = .ok (.aload_n 1, 1) := by decide +kernel
theorem dKM_makePair_195 : decode c_KM_makePair 195 = .ok (.getfield 76, 3) := by decide +kernel
theorem dKM_makePair_198 : decode c_KM_makePair 198 = .ok (.bipush 32, 2) := by decide +kernel
theorem dKM_makePair_200 : decode c_KM_makePair 200 = .ok (.isub, 1) := by decide +kernel
theorem dKM_makePair_201 : decode c_KM_makePair 201 = .ok (.iload 6, 2) := by decide +kernel
theorem dKM_makePair_203 : decode c_KM_makePair 203 = .ok (.iload 5, 2) := by decide +kernel
theorem dKM_makePair_205 : decode c_KM_makePair 205 = .ok (.invokevirtual 102, 3) := by decide +kernel
theorem dKM_makePair_208 : decode c_KM_makePair 208 = .ok (.aload_n 0, 1) := by decide +kernel
theorem dKM_makePair_209 : decode c_KM_makePair 209 = .ok (.getfield 21, 3) := by decide +kernel
theorem dKM_makePair_212 : decode c_KM_makePair 212 = .ok (.aload_n 0, 1) := by decide +kernel
theorem dKM_makePair_213 : decode c_KM_makePair 213 = .ok (.getfield 30, 3) := by decide +kernel
theorem dKM_makePair_216 : decode c_KM_makePair 216 = .ok (.aload_n 0, 1) := by decide +kernel
theorem dKM_makePair_217 : decode c_KM_makePair 217 = .ok (.getfield 34, 3) := by decide +kernel
theorem dKM_makePair_220 : decode c_KM_makePair 220 = .ok (.aload_n 0, 1) := by decide +kernel
theorem dKM_makePair_221 : decode c_KM_makePair 221 = .ok (.getfield 27, 3) := by decide +kernel
theorem dKM_makePair_224 : decode c_KM_makePair 224 = .ok (.iload 6, 2) := by decide +kernel
theorem dKM_makePair_226 : decode c_KM_makePair 226 = .ok (.aaload, 1) := by decide +kernel
theorem dKM_makePair_227 : decode c_KM_makePair 227 = .ok (.invokevirtual 106, 3) := by decide +kernel
theorem dKM_makePair_230 : decode c_KM_makePair 230 = .ok (.iinc 6 1, 3) := by decide +kernel
theorem dKM_makePair_233 : decode c_KM_makePair 233 = .ok (.goto (-50), 3) := by decide +kernel
theorem dKM_makePair_236 : decode c_KM_makePair 236 = .ok (.aload_n 0, 1) := by decide +kernel
theorem dKM_makePair_237 : decode c_KM_makePair 237 = .ok (.getfield 30, 3) := by decide +kernel
theorem dKM_makePair_240 : decode c_KM_makePair 240 = .ok (.bipush 12, 2) := by decide +kernel
theorem dKM_makePair_242 : decode c_KM_makePair 242 = .ok (.aload_n 3, 1) := by decide +kernel
theorem dKM_makePair_243 : decode c_KM_makePair 243 = .ok (.sipush 384, 3) := by decide +kernel
theorem dKM_makePair_246 : decode c_KM_makePair 246 = .ok (.iload 5, 2) := by decide +kernel
theorem dKM_makePair_248 : decode c_KM_makePair 248 = .ok (.imul, 1) := by decide +kernel
theorem dKM_makePair_249 : decode c_KM_makePair 249 = .ok (.invokestatic 96, 3) := by decide +kernel
theorem dKM_makePair_252 : decode c_KM_makePair 252 = .ok (.iinc 5 1, 3) := by decide +kernel
theorem dKM_makePair_255 : decode c_KM_makePair 255 = .ok (.goto (-114), 3) := by decide +kernel
theorem dKM_makePair_258 : decode c_KM_makePair 258 = .ok (.aload_n 3, 1) := by decide +kernel
theorem dKM_makePair_259 : decode c_KM_makePair 259 = .ok (.iconst 0, 1) := by decide +kernel
theorem dKM_makePair_260 : decode c_KM_makePair 260 = .ok (.aload 4, 2) := by decide +kernel
theorem dKM_makePair_262 : decode c_KM_makePair 262 = .ok (.aload_n 1, 1) := by decide +kernel
theorem dKM_makePair_263 : decode c_KM_makePair 263 = .ok (.getfield 110, 3) := by decide +kernel
theorem dKM_makePair_266 : decode c_KM_makePair 266 = .ok (.aload_n 1, 1) := by decide +kernel
theorem dKM_makePair_267 : decode c_KM_makePair 267 = .ok (.getfield 76, 3) := by decide +kernel
theorem dKM_makePair_270 : decode c_KM_makePair 270 = .ok (.invokestatic 79, 3) := by decide +kernel
theorem dKM_makePair_273 : decode c_KM_makePair 273 = .ok (.aload_n 0, 1) := by decide +kernel
theorem dKM_makePair_274 : decode c_KM_makePair 274 = .ok (.aload_n 3, 1) := by decide +kernel
theorem dKM_makePair_275 : decode c_KM_makePair 275 = .ok (.iconst 0, 1) := by decide +kernel
theorem dKM_makePair_276 : decode c_KM_makePair 276 = .ok (.aload_n 1, 1) := by decide +kernel
theorem dKM_makePair_277 : decode c_KM_makePair 277 = .ok (.getfield 76, 3) := by decide +kernel
theorem dKM_makePair_280 : decode c_KM_makePair 280 = .ok (.invokevirtual 113, 3) := by decide +kernel
theorem dKM_makePair_283 : decode c_KM_makePair 283 = .ok (.aload_n 0, 1) := by decide +kernel
theorem dKM_makePair_284 : decode c_KM_makePair 284 = .ok (.getfield 41, 3) := by decide +kernel
theorem dKM_makePair_287 : decode c_KM_makePair 287 = .ok (.iconst 0, 1) := by decide +kernel
theorem dKM_makePair_288 : decode c_KM_makePair 288 = .ok (.aload 4, 2) := by decide +kernel
theorem dKM_makePair_290 : decode c_KM_makePair 290 = .ok (.aload_n 1, 1) := by decide +kernel
theorem dKM_makePair_291 : decode c_KM_makePair 291 = .ok (.getfield 116, 3) := by decide +kernel
theorem dKM_makePair_294 : decode c_KM_makePair 294 = .ok (.bipush 32, 2) := by decide +kernel
theorem dKM_makePair_296 : decode c_KM_makePair 296 = .ok (.invokestatic 79, 3) := by decide +kernel
theorem dKM_makePair_299 : decode c_KM_makePair 299 = .ok (.aload_n 2, 1) := by decide +kernel
theorem dKM_makePair_300 : decode c_KM_makePair 300 = .ok (.bipush 32, 2) := by decide +kernel
theorem dKM_makePair_302 : decode c_KM_makePair 302 = .ok (.aload 4, 2) := by decide +kernel
theorem dKM_makePair_304 : decode c_KM_makePair 304 = .ok (.aload_n 1, 1) := by decide +kernel
theorem dKM_makePair_305 : decode c_KM_makePair 305 = .ok (.getfield 119, 3) := by decide +kernel
theorem dKM_makePair_308 : decode c_KM_makePair 308 = .ok (.bipush 32, 2) := by decide +kernel
theorem dKM_makePair_310 : decode c_KM_makePair 310 = .ok (.invokestatic 79, 3) := by decide +kernel
theorem dKM_makePair_313 : decode c_KM_makePair 313 = .ok (.return_, 1) := by decide +kernel
abbrev c_KM_encapsulate : ByteArray := prog_6_method_3_code
abbrev y_KM_encapsulate : MethodName := ⟨"LatticeKeys$Kem", "encapsulate", "(LLatticeKeys$KemSet;[B[B[B)V"⟩
abbrev w_KM_encapsulate : List Cond := Cond.code y_KM_encapsulate c_KM_encapsulate 5 none :: WG
theorem dKM_encapsulate_0 : decode c_KM_encapsulate 0 = .ok (.aload_n 3, 1) := by decide +kernel
theorem dKM_encapsulate_1 : decode c_KM_encapsulate 1 = .ok (.iconst 0, 1) := by decide +kernel
theorem dKM_encapsulate_2 : decode c_KM_encapsulate 2 = .ok (.aload_n 0, 1) := by decide +kernel
theorem dKM_encapsulate_3 : decode c_KM_encapsulate 3 = .ok (.getfield 37, 3) := by decide +kernel
theorem dKM_encapsulate_6 : decode c_KM_encapsulate 6 = .ok (.iconst 0, 1) := by decide +kernel
theorem dKM_encapsulate_7 : decode c_KM_encapsulate 7 = .ok (.bipush 32, 2) := by decide +kernel
theorem dKM_encapsulate_9 : decode c_KM_encapsulate 9 = .ok (.invokestatic 79, 3) := by decide +kernel
theorem dKM_encapsulate_12 : decode c_KM_encapsulate 12 = .ok (.aload_n 0, 1) := by decide +kernel
theorem dKM_encapsulate_13 : decode c_KM_encapsulate 13 = .ok (.aload_n 2, 1) := by decide +kernel
theorem dKM_encapsulate_14 : decode c_KM_encapsulate 14 = .ok (.iconst 0, 1) := by decide +kernel
theorem dKM_encapsulate_15 : decode c_KM_encapsulate 15 = .ok (.aload_n 1, 1) := by decide +kernel
theorem dKM_encapsulate_16 : decode c_KM_encapsulate 16 = .ok (.getfield 76, 3) := by decide +kernel
theorem dKM_encapsulate_19 : decode c_KM_encapsulate 19 = .ok (.invokevirtual 113, 3) := by decide +kernel
theorem dKM_encapsulate_22 : decode c_KM_encapsulate 22 = .ok (.aload_n 0, 1) := by decide +kernel
theorem dKM_encapsulate_23 : decode c_KM_encapsulate 23 = .ok (.aload_n 0, 1) := by decide +kernel
theorem dKM_encapsulate_24 : decode c_KM_encapsulate 24 = .ok (.getfield 41, 3) := by decide +kernel
theorem dKM_encapsulate_27 : decode c_KM_encapsulate 27 = .ok (.iconst 0, 1) := by decide +kernel
theorem dKM_encapsulate_28 : decode c_KM_encapsulate 28 = .ok (.invokevirtual 122, 3) := by decide +kernel
theorem dKM_encapsulate_31 : decode c_KM_encapsulate 31 = .ok (.aload_n 0, 1) := by decide +kernel
theorem dKM_encapsulate_32 : decode c_KM_encapsulate 32 = .ok (.aload_n 1, 1) := by decide +kernel
theorem dKM_encapsulate_33 : decode c_KM_encapsulate 33 = .ok (.aload_n 2, 1) := by decide +kernel
theorem dKM_encapsulate_34 : decode c_KM_encapsulate 34 = .ok (.aload 4, 2) := by decide +kernel
theorem dKM_encapsulate_36 : decode c_KM_encapsulate 36 = .ok (.invokevirtual 126, 3) := by decide +kernel
theorem dKM_encapsulate_39 : decode c_KM_encapsulate 39 = .ok (.aload_n 0, 1) := by decide +kernel
theorem dKM_encapsulate_40 : decode c_KM_encapsulate 40 = .ok (.getfield 44, 3) := by decide +kernel
theorem dKM_encapsulate_43 : decode c_KM_encapsulate 43 = .ok (.iconst 0, 1) := by decide +kernel
theorem dKM_encapsulate_44 : decode c_KM_encapsulate 44 = .ok (.aload 4, 2) := by decide +kernel
theorem dKM_encapsulate_46 : decode c_KM_encapsulate 46 = .ok (.aload_n 1, 1) := by decide +kernel
theorem dKM_encapsulate_47 : decode c_KM_encapsulate 47 = .ok (.getfield 130, 3) := by decide +kernel
theorem dKM_encapsulate_50 : decode c_KM_encapsulate 50 = .ok (.bipush 32, 2) := by decide +kernel
theorem dKM_encapsulate_52 : decode c_KM_encapsulate 52 = .ok (.invokestatic 79, 3) := by decide +kernel
theorem dKM_encapsulate_55 : decode c_KM_encapsulate 55 = .ok (.return_, 1) := by decide +kernel
abbrev c_KM_numbersFit : ByteArray := prog_6_method_5_code
abbrev y_KM_numbersFit : MethodName := ⟨"LatticeKeys$Kem", "numbersFit", "(LLatticeKeys$KemSet;[B)Z"⟩
abbrev w_KM_numbersFit : List Cond := Cond.code y_KM_numbersFit c_KM_numbersFit 5 (some .boolean) :: WG
theorem dKM_numbersFit_0 : decode c_KM_numbersFit 0 = .ok (.iconst 0, 1) := by decide +kernel
theorem dKM_numbersFit_1 : decode c_KM_numbersFit 1 = .ok (.istore_n 3, 1) := by decide +kernel
theorem dKM_numbersFit_2 : decode c_KM_numbersFit 2 = .ok (.iload_n 3, 1) := by decide +kernel
theorem dKM_numbersFit_3 : decode c_KM_numbersFit 3 = .ok (.aload_n 1, 1) := by decide +kernel
theorem dKM_numbersFit_4 : decode c_KM_numbersFit 4 = .ok (.getfield 61, 3) := by decide +kernel
theorem dKM_numbersFit_7 : decode c_KM_numbersFit 7 = .ok (.if_icmp .ge 56, 3) := by decide +kernel
theorem dKM_numbersFit_10 : decode c_KM_numbersFit 10 = .ok (.aload_n 0, 1) := by decide +kernel
theorem dKM_numbersFit_11 : decode c_KM_numbersFit 11 = .ok (.getfield 34, 3) := by decide +kernel
theorem dKM_numbersFit_14 : decode c_KM_numbersFit 14 = .ok (.bipush 12, 2) := by decide +kernel
theorem dKM_numbersFit_16 : decode c_KM_numbersFit 16 = .ok (.aload_n 2, 1) := by decide +kernel
theorem dKM_numbersFit_17 : decode c_KM_numbersFit 17 = .ok (.sipush 384, 3) := by decide +kernel
theorem dKM_numbersFit_20 : decode c_KM_numbersFit 20 = .ok (.iload_n 3, 1) := by decide +kernel
theorem dKM_numbersFit_21 : decode c_KM_numbersFit 21 = .ok (.imul, 1) := by decide +kernel
theorem dKM_numbersFit_22 : decode c_KM_numbersFit 22 = .ok (.invokestatic 144, 3) := by decide +kernel
theorem dKM_numbersFit_25 : decode c_KM_numbersFit 25 = .ok (.iconst 0, 1) := by decide +kernel
theorem dKM_numbersFit_26 : decode c_KM_numbersFit 26 = .ok (.istore 4, 2) := by decide +kernel
theorem dKM_numbersFit_28 : decode c_KM_numbersFit 28 = .ok (.iload 4, 2) := by decide +kernel
theorem dKM_numbersFit_30 : decode c_KM_numbersFit 30 = .ok (.sipush 256, 3) := by decide +kernel
theorem dKM_numbersFit_33 : decode c_KM_numbersFit 33 = .ok (.if_icmp .ge 24, 3) := by decide +kernel
theorem dKM_numbersFit_36 : decode c_KM_numbersFit 36 = .ok (.aload_n 0, 1) := by decide +kernel
theorem dKM_numbersFit_37 : decode c_KM_numbersFit 37 = .ok (.getfield 34, 3) := by decide +kernel
theorem dKM_numbersFit_40 : decode c_KM_numbersFit 40 = .ok (.iload 4, 2) := by decide +kernel
theorem dKM_numbersFit_42 : decode c_KM_numbersFit 42 = .ok (.iaload, 1) := by decide +kernel
theorem dKM_numbersFit_43 : decode c_KM_numbersFit 43 = .ok (.sipush 3329, 3) := by decide +kernel
theorem dKM_numbersFit_46 : decode c_KM_numbersFit 46 = .ok (.if_icmp .lt 5, 3) := by decide +kernel
theorem dKM_numbersFit_49 : decode c_KM_numbersFit 49 = .ok (.iconst 0, 1) := by decide +kernel
theorem dKM_numbersFit_50 : decode c_KM_numbersFit 50 = .ok (.ireturn, 1) := by decide +kernel
theorem dKM_numbersFit_51 : decode c_KM_numbersFit 51 = .ok (.iinc 4 1, 3) := by decide +kernel
theorem dKM_numbersFit_54 : decode c_KM_numbersFit 54 = .ok (.goto (-26), 3) := by decide +kernel
theorem dKM_numbersFit_57 : decode c_KM_numbersFit 57 = .ok (.iinc 3 1, 3) := by decide +kernel
theorem dKM_numbersFit_60 : decode c_KM_numbersFit 60 = .ok (.goto (-58), 3) := by decide +kernel
theorem dKM_numbersFit_63 : decode c_KM_numbersFit 63 = .ok (.iconst 1, 1) := by decide +kernel
theorem dKM_numbersFit_64 : decode c_KM_numbersFit 64 = .ok (.ireturn, 1) := by decide +kernel
abbrev c_KM_hashFits : ByteArray := prog_6_method_6_code
abbrev y_KM_hashFits : MethodName := ⟨"LatticeKeys$Kem", "hashFits", "(LLatticeKeys$KemSet;[B)Z"⟩
abbrev w_KM_hashFits : List Cond := Cond.code y_KM_hashFits c_KM_hashFits 4 (some .boolean) :: WG
theorem dKM_hashFits_0 : decode c_KM_hashFits 0 = .ok (.aload_n 0, 1) := by decide +kernel
theorem dKM_hashFits_1 : decode c_KM_hashFits 1 = .ok (.aload_n 2, 1) := by decide +kernel
theorem dKM_hashFits_2 : decode c_KM_hashFits 2 = .ok (.aload_n 1, 1) := by decide +kernel
theorem dKM_hashFits_3 : decode c_KM_hashFits 3 = .ok (.getfield 110, 3) := by decide +kernel
theorem dKM_hashFits_6 : decode c_KM_hashFits 6 = .ok (.aload_n 1, 1) := by decide +kernel
theorem dKM_hashFits_7 : decode c_KM_hashFits 7 = .ok (.getfield 76, 3) := by decide +kernel
theorem dKM_hashFits_10 : decode c_KM_hashFits 10 = .ok (.invokevirtual 113, 3) := by decide +kernel
theorem dKM_hashFits_13 : decode c_KM_hashFits 13 = .ok (.iconst 0, 1) := by decide +kernel
theorem dKM_hashFits_14 : decode c_KM_hashFits 14 = .ok (.istore_n 3, 1) := by decide +kernel
theorem dKM_hashFits_15 : decode c_KM_hashFits 15 = .ok (.iload_n 3, 1) := by decide +kernel
theorem dKM_hashFits_16 : decode c_KM_hashFits 16 = .ok (.bipush 32, 2) := by decide +kernel
theorem dKM_hashFits_18 : decode c_KM_hashFits 18 = .ok (.if_icmp .ge 28, 3) := by decide +kernel
theorem dKM_hashFits_21 : decode c_KM_hashFits 21 = .ok (.aload_n 0, 1) := by decide +kernel
theorem dKM_hashFits_22 : decode c_KM_hashFits 22 = .ok (.getfield 41, 3) := by decide +kernel
theorem dKM_hashFits_25 : decode c_KM_hashFits 25 = .ok (.iload_n 3, 1) := by decide +kernel
theorem dKM_hashFits_26 : decode c_KM_hashFits 26 = .ok (.baload, 1) := by decide +kernel
theorem dKM_hashFits_27 : decode c_KM_hashFits 27 = .ok (.aload_n 2, 1) := by decide +kernel
theorem dKM_hashFits_28 : decode c_KM_hashFits 28 = .ok (.aload_n 1, 1) := by decide +kernel
theorem dKM_hashFits_29 : decode c_KM_hashFits 29 = .ok (.getfield 116, 3) := by decide +kernel
theorem dKM_hashFits_32 : decode c_KM_hashFits 32 = .ok (.iload_n 3, 1) := by decide +kernel
theorem dKM_hashFits_33 : decode c_KM_hashFits 33 = .ok (.iadd, 1) := by decide +kernel
theorem dKM_hashFits_34 : decode c_KM_hashFits 34 = .ok (.baload, 1) := by decide +kernel
theorem dKM_hashFits_35 : decode c_KM_hashFits 35 = .ok (.if_icmp .eq 5, 3) := by decide +kernel
theorem dKM_hashFits_38 : decode c_KM_hashFits 38 = .ok (.iconst 0, 1) := by decide +kernel
theorem dKM_hashFits_39 : decode c_KM_hashFits 39 = .ok (.ireturn, 1) := by decide +kernel
theorem dKM_hashFits_40 : decode c_KM_hashFits 40 = .ok (.iinc 3 1, 3) := by decide +kernel
theorem dKM_hashFits_43 : decode c_KM_hashFits 43 = .ok (.goto (-28), 3) := by decide +kernel
theorem dKM_hashFits_46 : decode c_KM_hashFits 46 = .ok (.iconst 1, 1) := by decide +kernel
theorem dKM_hashFits_47 : decode c_KM_hashFits 47 = .ok (.ireturn, 1) := by decide +kernel
def M_KM_makePair_0 (pp : Nat) (psk : Nat) (k : Nat) : Prop := (26 ≤ k ∧ k < 30) ∨ k = 14 ∨ k = 30 ∨ k = 31 ∨ k = 33 ∨ k = 34 ∨ k = 35 ∨ k = pp ∨ k = psk ∨ (0 : Nat) = 1
noncomputable def F_KM_makePair_0_L2 (pp : Nat) (i22 : Nat) (kk : Nat → Sto → Sto) : Nat → Nat → Sto → Sto
  | 0, i23, s35 => bnd (F_BT_pack 30 12 pp 800 (384 * i22) s35) fun s36 => kk (i22 + 1) s36
  | n23 + 1, i23, s35 => bnd (F_KM_sampleEntry pp 800 768 (nI i23) (nI i22) s35) fun s37 => bnd (F_RG_addProduct_7 30 31 (26 + i23) s37) fun s38 => F_KM_makePair_0_L2 pp i22 kk n23 (i23 + 1) s38
noncomputable def F_KM_makePair_0_L1 (pch : Nat) (pp : Nat) (psk : Nat) : Nat → Nat → Sto → Sto
  | 0, i22, s28 => bnd (sC s28 pp psk 0 768 800) fun s29 => bnd (F_KM_digestOf pp 800 0 800 s29) fun s30 => bnd (sC s30 33 psk 0 1568 32) fun s31 => bnd (sC s31 pch psk 32 1600 32) fun s32 => s32
  | n22 + 1, i22, s28 => bnd (F_KM_sampleNoise_3 30 (nI (2 + i22)) s28) fun s33 => bnd (F_RG_transform_7 30 s33) fun s34 => F_KM_makePair_0_L2 pp i22 (F_KM_makePair_0_L1 pch pp psk n22) 2 0 s34
noncomputable def F_KM_makePair_0_L0 (pch : Nat) (pp : Nat) (psk : Nat) : Nat → Nat → Sto → Sto
  | 0, i21, s27 => F_KM_makePair_0_L1 pch pp psk 2 0 s27
  | n21 + 1, i21, s27 => bnd (F_KM_sampleNoise_3 (26 + i21) (nI i21) s27) fun s39 => bnd (F_RG_transform_7 (26 + i21) s39) fun s40 => bnd (F_BT_pack (26 + i21) 12 psk 1632 (384 * i21) s40) fun s41 => F_KM_makePair_0_L0 pch pp psk n21 (i21 + 1) s41
noncomputable def F_KM_makePair_0 (pch : Nat) (n : Nat) (pp : Nat) (psk : Nat) (s : Sto) : Sto := bnd (F_SP_start_1 14 15 s) fun s21 => bnd (F_SP_absorb 14 15 pch n 0 32 s21) fun s22 => bnd (F_SP_absorbByte 14 15 (nI 2) s22) fun s23 => bnd (F_SP_finish 14 15 s23) fun s24 => bnd (F_SP_squeeze 14 15 34 64 0 64 s24) fun s25 => bnd (sC s25 34 pp 0 768 32) fun s26 => F_KM_makePair_0_L0 pch pp psk 2 0 s26
set_option maxHeartbeats 400000 in
set_option maxRecDepth 100000 in
theorem N_KM_makePair_0 (l : Launch) (g : Gd) (sz : Nat) (T : TyN) (s : Sto) (pl : va_W) (hO : okn g T s pl) (hU : inj T) (h0 st ch pk sk : Nat) (pch : Nat) (n : Nat) (pp : Nat) (psk : Nat) (k_h0 : T h0 = some 24) (k_st : T st = some 5) (k_ch : T ch = some pch) (n_ch : nsp pch = (1, n, [])) (k_pk : T pk = some pp) (n_pk : nsp pp = (1, 800, [])) (k_sk : T sk = some psk) (n_sk : nsp psk = (1, 1632, [])) (h1 : 64 ≤ n) (h2 : n < 65536)  : Met l y_KM_makePair w_KM_makePair ({ frames := 4, cells := 0, slots := 0, locals := 131 } : Room) (va_Pc [.ref h0, .ref st, .ref ch, .ref pk, .ref sk] (pr (en g) g.1 vcl sz ([] ++ pl))) (va_Qv (fun (u : (Sto) × va_W) => (u.1 = F_KM_makePair_0 pch n pp psk s ∧ frm (M_KM_makePair_0 pp psk) s u.1 ∧ True) ∧ okn g T u.1 u.2) (po g.1 vcl (va_A ([] ++ pl) sz) (fun (u : (Sto) × va_W) => [] ++ u.2)) (va_A ([] ++ pl) sz)) 0 0 (va_A ([] ++ pl) sz) := by
  refine mc_entry (cc := c_KM_makePair) (maxL := 7) (ret := none) (by decide) rfl (Nat.le_of_ble_eq_true rfl) ?_
  intro p e s0 m args below meth c ls F hr hlk hnm hsz hP hD hE hA hl
  obtain ⟨hx, hb, hml, hown, hts⟩ := id F
  have hK := hE.1
  generalize va_A ([] ++ pl) sz = A at hD hE hA ⊢
  have hS : va_S A s0.heap s0.heap [] := va_S.rf
  have hl : lv_has ls 7 [(0, .ref h0), (1, .ref st), (2, .ref ch), (3, .ref pk), (4, .ref sk)] := hl
  have hR : F_KM_makePair_0 pch n pp psk s = F_KM_makePair_0 pch n pp psk s := rfl
  have hF : frm (M_KM_makePair_0 pp psk) s s := frm_rf
  refine lv_aload_n hx hb dKM_makePair_0 rfl (lv_at hl 0 rfl) ?_
  refine nw_get (C := "LatticeKeys$Kem") (TT := T_KM) (N := 10) hx hb hts (wg_ft i_KM) hown hK hO k_h0 (kn := 24) (ci := 5) (fl := [(3, 14), (3, 20), (3, 25), (3, 30), (3, 31), (3, 32), (3, 33), (3, 34), (3, 35), (3, 36)]) rfl hP rfl 0 (by decide) (hts _ (wg_t kw_107)) (fun _ h9 => h9) (cd := (3, 14)) rfl dKM_makePair_1 (fun v21 hv21 => ?_)
  obtain ⟨r21, rfl, kr21⟩ := (show ∃ r : Nat, v21 = .ref r ∧ T r = some 14 from hv21)
  refine lv_iconst (v := nI 1) hx hb dKM_makePair_4 (by decide) ?_
  refine mp_v (cx := []) (wr := []) hP hD hS hA [] [] rfl rfl rfl (by decide) (va_runV (As := [.int (nI 1)]) (rest := []) F (N_SP_start_1 l g _ T s pl hO hU r21 14 15 kr21 rfl rfl) (cwV 1 hts (wg_app (wg_c kw_578 (wg_c kw_579 (wg_c kw_580 (wg_c kw_2 wg_n)))) kw_581) rfl rfl rfl (by decide +kernel) ⟨by decide, by decide⟩) (pn_W "LatticeKeys$Sponge" (en_ok g) (ci := 3) (kn := 14) (fl := [(3, 15), (0, 0), (0, 0), (0, 0)]) hK hO kr21 rfl hP hD hS hA hE [] rfl rfl rfl) rfl rfl hl.1 rfl (lv_room (Nat.le_of_ble_eq_true rfl)) dKM_makePair_5 ⟨by omega, by omega⟩) (fun  u21 H locs hu21 hP hD hS => ?_)
  obtain ⟨s21, pl⟩ := u21
  obtain ⟨⟨eq21, hFc21, ⟨x21, hx_21, hb_21⟩, ⟨x22, hx_22, hb_22⟩, -⟩, hO⟩ := hu21
  have hO : okn g T s21 pl := hO
  have hP : va_P g.1 vcl ([] ++ pl) _ := hP
  have hD : va_D _ ([] ++ pl) := hD
  have hFc21 : frm (M_SP_start_1 14) s s21 := hFc21
  have hb_21 : x21 = 0 := hb_21
  have hb_22 : x22 = 72 := hb_22
  replace hR := bnd_step hR eq21
  have hF := frm_tr hF hFc21 (fun k hk => by unfold M_SP_start_1 at hk; unfold M_KM_makePair_0; omega)
  refine W.widen (k := 0) (n := 0) (by omega) (by omega) ?_
  refine lv_aload_n hx hb dKM_makePair_8 rfl (lv_at hl 0 rfl) ?_
  refine nw_get (C := "LatticeKeys$Kem") (TT := T_KM) (N := 10) hx hb hts (wg_ft i_KM) hown hK hO k_h0 (kn := 24) (ci := 5) (fl := [(3, 14), (3, 20), (3, 25), (3, 30), (3, 31), (3, 32), (3, 33), (3, 34), (3, 35), (3, 36)]) rfl hP rfl 0 (by decide) (hts _ (wg_t kw_107)) (fun _ h9 => h9) (cd := (3, 14)) rfl dKM_makePair_9 (fun v22 hv22 => ?_)
  obtain ⟨r22, rfl, kr22⟩ := (show ∃ r : Nat, v22 = .ref r ∧ T r = some 14 from hv22)
  refine lv_aload_n hx hb dKM_makePair_12 rfl (lv_at hl 2 rfl) ?_
  refine lv_iconst (v := nI 0) hx hb dKM_makePair_13 (by decide) ?_
  refine lv_bipush (v := nI 32) hx hb dKM_makePair_14 (by decide) ?_
  refine mp_v (cx := []) (wr := []) hP hD hS hA [] [] rfl rfl rfl (by decide) (va_runV (As := [.ref ch, .int (nI 0), .int (nI 32)]) (rest := []) F (N_SP_absorb l g _ T s21 pl hO hU r22 ch 14 15 pch n 0 32 x21 x22 kr22 rfl rfl k_ch n_ch hx_21 hx_22 (by omega) (by omega) (by omega) (by omega)) (cwV 3 hts (wg_app (wg_c kw_585 (wg_c kw_586 (wg_c kw_587 (wg_c kw_2 wg_n)))) kw_588) rfl rfl rfl (by decide +kernel) ⟨by decide, by decide⟩) (pn_W "LatticeKeys$Sponge" (en_ok g) (ci := 3) (kn := 14) (fl := [(3, 15), (0, 0), (0, 0), (0, 0)]) hK hO kr22 rfl hP hD hS hA hE [] rfl rfl rfl) rfl rfl hl.1 rfl (lv_room (Nat.le_of_ble_eq_true rfl)) dKM_makePair_16 ⟨by omega, by omega⟩) (fun  u22 H locs hu22 hP hD hS => ?_)
  obtain ⟨s22, pl⟩ := u22
  obtain ⟨⟨eq22, hFc22, ⟨x24, hx_24, hb_24⟩, ⟨x25, hx_25, hb_25⟩, -⟩, hO⟩ := hu22
  have hO : okn g T s22 pl := hO
  have hP : va_P g.1 vcl ([] ++ pl) _ := hP
  have hD : va_D _ ([] ++ pl) := hD
  have hFc22 : frm (M_SP_absorb 14) s21 s22 := hFc22
  have hb_24 : x24 < x22 := hb_24
  have hb_25 : x25 = x22 := hb_25
  replace hR := bnd_step hR eq22
  have hF := frm_tr hF hFc22 (fun k hk => by unfold M_SP_absorb at hk; unfold M_KM_makePair_0; omega)
  refine W.widen (k := 0) (n := 0) (by omega) (by omega) ?_
  refine lv_aload_n hx hb dKM_makePair_19 rfl (lv_at hl 0 rfl) ?_
  refine nw_get (C := "LatticeKeys$Kem") (TT := T_KM) (N := 10) hx hb hts (wg_ft i_KM) hown hK hO k_h0 (kn := 24) (ci := 5) (fl := [(3, 14), (3, 20), (3, 25), (3, 30), (3, 31), (3, 32), (3, 33), (3, 34), (3, 35), (3, 36)]) rfl hP rfl 0 (by decide) (hts _ (wg_t kw_107)) (fun _ h9 => h9) (cd := (3, 14)) rfl dKM_makePair_20 (fun v23 hv23 => ?_)
  obtain ⟨r23, rfl, kr23⟩ := (show ∃ r : Nat, v23 = .ref r ∧ T r = some 14 from hv23)
  refine lv_aload_n hx hb dKM_makePair_23 rfl (lv_at hl 1 rfl) ?_
  refine nw_get (C := "LatticeKeys$KemSet") (TT := T_KS) (N := 10) hx hb hts (wg_ft i_KS) hown hK hO k_st (kn := 5) (ci := 1) (fl := [(1, 2), (1, 3), (1, 10), (1, 4), (1, 800), (1, 1632), (1, 768), (1, 768), (1, 1568), (1, 1600)]) rfl hP rfl 0 (by decide) (hts _ (wg_t kw_231)) (fun _ h9 => h9) (cd := (1, 2)) rfl dKM_makePair_24 (fun v24 hv24 => ?_)
  obtain rfl := (show v24 = .int (nI 2) from hv24)
  refine mp_v (cx := []) (wr := []) hP hD hS hA [] [] rfl rfl rfl (by decide) (va_runV (As := [.int (nI 2)]) (rest := []) F (N_SP_absorbByte l g _ T s22 pl hO hU r23 14 15 (nI 2) x24 x25 kr23 rfl rfl hx_24 hx_25 (by omega) (by omega)) (cwV 1 hts (wg_app (wg_c kw_609 (wg_c kw_590 (wg_c kw_591 (wg_c kw_2 wg_n)))) kw_592) rfl rfl rfl (by decide +kernel) ⟨by decide, by decide⟩) (pn_W "LatticeKeys$Sponge" (en_ok g) (ci := 3) (kn := 14) (fl := [(3, 15), (0, 0), (0, 0), (0, 0)]) hK hO kr23 rfl hP hD hS hA hE [] rfl rfl rfl) rfl rfl hl.1 rfl (lv_room (Nat.le_of_ble_eq_true rfl)) dKM_makePair_27 ⟨by omega, by omega⟩) (fun  u23 H locs hu23 hP hD hS => ?_)
  obtain ⟨s23, pl⟩ := u23
  obtain ⟨⟨eq23, hFc23, ⟨x27, hx_27, hb_27⟩, ⟨x28, hx_28, hb_28⟩, -⟩, hO⟩ := hu23
  have hO : okn g T s23 pl := hO
  have hP : va_P g.1 vcl ([] ++ pl) _ := hP
  have hD : va_D _ ([] ++ pl) := hD
  have hFc23 : frm (M_SP_absorbByte 14) s22 s23 := hFc23
  have hb_27 : x27 < x25 := hb_27
  have hb_28 : x28 = x25 := hb_28
  replace hR := bnd_step hR eq23
  have hF := frm_tr hF hFc23 (fun k hk => by unfold M_SP_absorbByte at hk; unfold M_KM_makePair_0; omega)
  refine W.widen (k := 0) (n := 0) (by omega) (by omega) ?_
  refine lv_aload_n hx hb dKM_makePair_30 rfl (lv_at hl 0 rfl) ?_
  refine nw_get (C := "LatticeKeys$Kem") (TT := T_KM) (N := 10) hx hb hts (wg_ft i_KM) hown hK hO k_h0 (kn := 24) (ci := 5) (fl := [(3, 14), (3, 20), (3, 25), (3, 30), (3, 31), (3, 32), (3, 33), (3, 34), (3, 35), (3, 36)]) rfl hP rfl 0 (by decide) (hts _ (wg_t kw_107)) (fun _ h9 => h9) (cd := (3, 14)) rfl dKM_makePair_31 (fun v25 hv25 => ?_)
  obtain ⟨r24, rfl, kr24⟩ := (show ∃ r : Nat, v25 = .ref r ∧ T r = some 14 from hv25)
  refine mp_v (cx := []) (wr := []) hP hD hS hA [] [] rfl rfl rfl (by decide) (va_runV (As := []) (rest := []) F (N_SP_finish l g _ T s23 pl hO hU r24 14 15 x27 x28 kr24 rfl rfl hx_27 hx_28 (by omega) (by omega)) (cwV 0 hts (wg_app (wg_c kw_610 (wg_c kw_611 (wg_c kw_612 (wg_c kw_2 wg_n)))) kw_613) rfl rfl rfl (by decide +kernel) ⟨by decide, by decide⟩) (pn_W "LatticeKeys$Sponge" (en_ok g) (ci := 3) (kn := 14) (fl := [(3, 15), (0, 0), (0, 0), (0, 0)]) hK hO kr24 rfl hP hD hS hA hE [] rfl rfl rfl) rfl rfl hl.1 rfl (lv_room (Nat.le_of_ble_eq_true rfl)) dKM_makePair_34 ⟨by omega, by omega⟩) (fun  u24 H locs hu24 hP hD hS => ?_)
  obtain ⟨s24, pl⟩ := u24
  obtain ⟨⟨eq24, hFc24, ⟨x30, hx_30, hb_30⟩, ⟨x31, hx_31, hb_31⟩, -⟩, hO⟩ := hu24
  have hO : okn g T s24 pl := hO
  have hP : va_P g.1 vcl ([] ++ pl) _ := hP
  have hD : va_D _ ([] ++ pl) := hD
  have hFc24 : frm (M_SP_finish 14) s23 s24 := hFc24
  have hb_30 : x30 = x28 := hb_30
  have hb_31 : x31 = x28 := hb_31
  replace hR := bnd_step hR eq24
  have hF := frm_tr hF hFc24 (fun k hk => by unfold M_SP_finish at hk; unfold M_KM_makePair_0; omega)
  refine W.widen (k := 0) (n := 0) (by omega) (by omega) ?_
  refine lv_aload_n hx hb dKM_makePair_37 rfl (lv_at hl 0 rfl) ?_
  refine nw_get (C := "LatticeKeys$Kem") (TT := T_KM) (N := 10) hx hb hts (wg_ft i_KM) hown hK hO k_h0 (kn := 24) (ci := 5) (fl := [(3, 14), (3, 20), (3, 25), (3, 30), (3, 31), (3, 32), (3, 33), (3, 34), (3, 35), (3, 36)]) rfl hP rfl 0 (by decide) (hts _ (wg_t kw_107)) (fun _ h9 => h9) (cd := (3, 14)) rfl dKM_makePair_38 (fun v26 hv26 => ?_)
  obtain ⟨r25, rfl, kr25⟩ := (show ∃ r : Nat, v26 = .ref r ∧ T r = some 14 from hv26)
  refine lv_aload_n hx hb dKM_makePair_41 rfl (lv_at hl 0 rfl) ?_
  refine nw_get (C := "LatticeKeys$Kem") (TT := T_KM) (N := 10) hx hb hts (wg_ft i_KM) hown hK hO k_h0 (kn := 24) (ci := 5) (fl := [(3, 14), (3, 20), (3, 25), (3, 30), (3, 31), (3, 32), (3, 33), (3, 34), (3, 35), (3, 36)]) rfl hP rfl 7 (by decide) (hts _ (wg_t kw_114)) (fun _ h9 => h9) (cd := (3, 34)) rfl dKM_makePair_42 (fun v27 hv27 => ?_)
  obtain ⟨r26, rfl, kr26⟩ := (show ∃ r : Nat, v27 = .ref r ∧ T r = some 34 from hv27)
  refine lv_iconst (v := nI 0) hx hb dKM_makePair_45 (by decide) ?_
  refine lv_bipush (v := nI 64) hx hb dKM_makePair_46 (by decide) ?_
  refine mp_v (cx := []) (wr := []) hP hD hS hA [] [] rfl rfl rfl (by decide) (va_runV (As := [.ref r26, .int (nI 0), .int (nI 64)]) (rest := []) F (N_SP_squeeze l g _ T s24 pl hO hU r25 r26 14 15 34 64 0 64 x30 x31 kr25 rfl rfl kr26 rfl hx_30 hx_31 (by omega) (by omega) (by omega) (by omega)) (cwV 3 hts (wg_app (wg_c kw_614 (wg_c kw_615 (wg_c kw_616 (wg_c kw_2 wg_n)))) kw_617) rfl rfl rfl (by decide +kernel) ⟨by decide, by decide⟩) (pn_W "LatticeKeys$Sponge" (en_ok g) (ci := 3) (kn := 14) (fl := [(3, 15), (0, 0), (0, 0), (0, 0)]) hK hO kr25 rfl hP hD hS hA hE [] rfl rfl rfl) rfl rfl hl.1 rfl (lv_room (Nat.le_of_ble_eq_true rfl)) dKM_makePair_48 ⟨by omega, by omega⟩) (fun  u25 H locs hu25 hP hD hS => ?_)
  obtain ⟨s25, pl⟩ := u25
  obtain ⟨⟨eq25, hFc25, ⟨x33, hx_33, hb_33⟩, ⟨x34, hx_34, hb_34⟩, -⟩, hO⟩ := hu25
  have hO : okn g T s25 pl := hO
  have hP : va_P g.1 vcl ([] ++ pl) _ := hP
  have hD : va_D _ ([] ++ pl) := hD
  have hFc25 : frm (M_SP_squeeze 14 34) s24 s25 := hFc25
  have hb_33 : x33 ≤ x31 := hb_33
  have hb_34 : x34 = x31 := hb_34
  replace hR := bnd_step hR eq25
  have hF := frm_tr hF hFc25 (fun k hk => by unfold M_SP_squeeze at hk; unfold M_KM_makePair_0; omega)
  refine W.widen (k := 0) (n := 0) (by omega) (by omega) ?_
  refine lv_aload_n hx hb dKM_makePair_51 rfl (lv_at hl 0 rfl) ?_
  refine nw_get (C := "LatticeKeys$Kem") (TT := T_KM) (N := 10) hx hb hts (wg_ft i_KM) hown hK hO k_h0 (kn := 24) (ci := 5) (fl := [(3, 14), (3, 20), (3, 25), (3, 30), (3, 31), (3, 32), (3, 33), (3, 34), (3, 35), (3, 36)]) rfl hP rfl 7 (by decide) (hts _ (wg_t kw_114)) (fun _ h9 => h9) (cd := (3, 34)) rfl dKM_makePair_52 (fun v28 hv28 => ?_)
  obtain ⟨r27, rfl, kr27⟩ := (show ∃ r : Nat, v28 = .ref r ∧ T r = some 34 from hv28)
  refine lv_iconst (v := nI 0) hx hb dKM_makePair_55 (by decide) ?_
  refine lv_aload_n hx hb dKM_makePair_56 rfl (lv_at hl 3 rfl) ?_
  refine lv_aload_n hx hb dKM_makePair_57 rfl (lv_at hl 1 rfl) ?_
  refine nw_get (C := "LatticeKeys$KemSet") (TT := T_KS) (N := 10) hx hb hts (wg_ft i_KS) hown hK hO k_st (kn := 5) (ci := 1) (fl := [(1, 2), (1, 3), (1, 10), (1, 4), (1, 800), (1, 1632), (1, 768), (1, 768), (1, 1568), (1, 1600)]) rfl hP rfl 4 (by decide) (hts _ (wg_t kw_239)) (fun _ h9 => h9) (cd := (1, 800)) rfl dKM_makePair_58 (fun v29 hv29 => ?_)
  obtain rfl := (show v29 = .int (nI 800) from hv29)
  refine lv_bipush (v := nI 32) hx hb dKM_makePair_61 (by decide) ?_
  refine mi_isub hx hb dKM_makePair_63 (by omega) ?_
  refine mi_as (show nI (800 - 32) = nI 768 from rfl) ?_
  refine lv_bipush (v := nI 32) hx hb dKM_makePair_64 (by decide) ?_
  refine nw_copyb hx hb (hml.trans hl.1.symm) hown (hts _ (wg_t kw_622)) (hts _ (wg_t kw_526)) (hts _ (wg_t kw_525)) (hts _ (wg_t kw_19)) hK hO hU kr27 (k0 := 34) rfl k_pk (k1 := pp) n_pk hP hD hS (sp := 0) (dp := 768) (n := 32) (by omega) (by omega) (by omega) (by decide) (Nat.le_of_ble_eq_true rfl) dKM_makePair_66 (fun s26 pl H locs es21 hO hP hD hS => ?_)
  replace hR := bnd_step hR es21
  have hF := frm_sC hF es21 (by unfold M_KM_makePair_0; omega)
  refine lv_iconst (v := nI 0) hx hb dKM_makePair_69 (by decide) ?_
  refine lv_istore (lv' := [(5, .int (nI 0)), (0, .ref h0), (1, .ref st), (2, .ref ch), (3, .ref pk), (4, .ref sk)]) hx hb dKM_makePair_70 hl (by decide) rfl (fun ls hl => ?_)
  have lp21 : ∀ (n21 : Nat) (i21 : Nat) (s27 : Sto) (pl : va_W) (ls : Array Slot) (H : Heap) (locs : List Loc), n21 + i21 = 2 → frm (M_KM_makePair_0 pp psk) s s27 → F_KM_makePair_0 pch n pp psk s = F_KM_makePair_0_L0 pch pp psk n21 i21 s27 → lv_has ls 7 [(5, .int (nI i21)), (0, .ref h0), (1, .ref st), (2, .ref ch), (3, .ref pk), (4, .ref sk)] → okn g T s27 pl → va_P g.1 vcl ([] ++ pl) H → va_D A ([] ++ pl) → va_S A s0.heap H locs → W p l e ({ frames := 4, cells := 0, slots := 0, locals := 131 } : Room) s0 m args below meth c H locs 0 0 (MQ below (va_Qv (fun (u : (Sto) × va_W) => (u.1 = F_KM_makePair_0 pch n pp psk s ∧ frm (M_KM_makePair_0 pp psk) s u.1 ∧ True) ∧ okn g T u.1 u.2) (po g.1 vcl A (fun (u : (Sto) × va_W) => [] ++ u.2)) A) args s0 0 0 A) (F0 m 72 ls []) := by
    intro n21
    induction n21 with
    | zero =>
      intro i21 s27 pl ls H locs hm21 hF hR hl hO hP hD hS
      refine lv_iload hx hb dKM_makePair_72 (lv_at hl 0 rfl) ?_
      refine lv_aload_n hx hb dKM_makePair_74 rfl (lv_at hl 2 rfl) ?_
      refine nw_get (C := "LatticeKeys$KemSet") (TT := T_KS) (N := 10) hx hb hts (wg_ft i_KS) hown hK hO k_st (kn := 5) (ci := 1) (fl := [(1, 2), (1, 3), (1, 10), (1, 4), (1, 800), (1, 1632), (1, 768), (1, 768), (1, 1568), (1, 1600)]) rfl hP rfl 0 (by decide) (hts _ (wg_t kw_231)) (fun _ h9 => h9) (cd := (1, 2)) rfl dKM_makePair_75 (fun v30 hv30 => ?_)
      obtain rfl := (show v30 = .int (nI 2) from hv30)
      refine mi_ge (tgt := 138) hx hb dKM_makePair_78 (by decide) (by omega) (by omega) (fun h21 => ?_) (fun h21 => absurd h21 (by omega))
      refine lv_iconst (v := nI 0) hx hb dKM_makePair_138 (by decide) ?_
      refine lv_istore (lv' := [(5, .int (nI 0)), (0, .ref h0), (1, .ref st), (2, .ref ch), (3, .ref pk), (4, .ref sk)]) hx hb dKM_makePair_139 hl (by decide) rfl (fun ls hl => ?_)
      have lp22 : ∀ (n22 : Nat) (i22 : Nat) (s28 : Sto) (pl : va_W) (ls : Array Slot) (H : Heap) (locs : List Loc), n22 + i22 = 2 → frm (M_KM_makePair_0 pp psk) s s28 → F_KM_makePair_0 pch n pp psk s = F_KM_makePair_0_L1 pch pp psk n22 i22 s28 → lv_has ls 7 [(5, .int (nI i22)), (0, .ref h0), (1, .ref st), (2, .ref ch), (3, .ref pk), (4, .ref sk)] → okn g T s28 pl → va_P g.1 vcl ([] ++ pl) H → va_D A ([] ++ pl) → va_S A s0.heap H locs → W p l e ({ frames := 4, cells := 0, slots := 0, locals := 131 } : Room) s0 m args below meth c H locs 0 0 (MQ below (va_Qv (fun (u : (Sto) × va_W) => (u.1 = F_KM_makePair_0 pch n pp psk s ∧ frm (M_KM_makePair_0 pp psk) s u.1 ∧ True) ∧ okn g T u.1 u.2) (po g.1 vcl A (fun (u : (Sto) × va_W) => [] ++ u.2)) A) args s0 0 0 A) (F0 m 141 ls []) := by
        intro n22
        induction n22 with
        | zero =>
          intro i22 s28 pl ls H locs hm22 hF hR hl hO hP hD hS
          refine lv_iload hx hb dKM_makePair_141 (lv_at hl 0 rfl) ?_
          refine lv_aload_n hx hb dKM_makePair_143 rfl (lv_at hl 2 rfl) ?_
          refine nw_get (C := "LatticeKeys$KemSet") (TT := T_KS) (N := 10) hx hb hts (wg_ft i_KS) hown hK hO k_st (kn := 5) (ci := 1) (fl := [(1, 2), (1, 3), (1, 10), (1, 4), (1, 800), (1, 1632), (1, 768), (1, 768), (1, 1568), (1, 1600)]) rfl hP rfl 0 (by decide) (hts _ (wg_t kw_231)) (fun _ h9 => h9) (cd := (1, 2)) rfl dKM_makePair_144 (fun v31 hv31 => ?_)
          obtain rfl := (show v31 = .int (nI 2) from hv31)
          refine mi_ge (tgt := 258) hx hb dKM_makePair_147 (by decide) (by omega) (by omega) (fun h22 => ?_) (fun h22 => absurd h22 (by omega))
          refine lv_aload_n hx hb dKM_makePair_258 rfl (lv_at hl 4 rfl) ?_
          refine lv_iconst (v := nI 0) hx hb dKM_makePair_259 (by decide) ?_
          refine lv_aload hx hb dKM_makePair_260 (lv_at hl 5 rfl) ?_
          refine lv_aload_n hx hb dKM_makePair_262 rfl (lv_at hl 2 rfl) ?_
          refine nw_get (C := "LatticeKeys$KemSet") (TT := T_KS) (N := 10) hx hb hts (wg_ft i_KS) hown hK hO k_st (kn := 5) (ci := 1) (fl := [(1, 2), (1, 3), (1, 10), (1, 4), (1, 800), (1, 1632), (1, 768), (1, 768), (1, 1568), (1, 1600)]) rfl hP rfl 7 (by decide) (hts _ (wg_t kw_247)) (fun _ h9 => h9) (cd := (1, 768)) rfl dKM_makePair_263 (fun v32 hv32 => ?_)
          obtain rfl := (show v32 = .int (nI 768) from hv32)
          refine lv_aload_n hx hb dKM_makePair_266 rfl (lv_at hl 2 rfl) ?_
          refine nw_get (C := "LatticeKeys$KemSet") (TT := T_KS) (N := 10) hx hb hts (wg_ft i_KS) hown hK hO k_st (kn := 5) (ci := 1) (fl := [(1, 2), (1, 3), (1, 10), (1, 4), (1, 800), (1, 1632), (1, 768), (1, 768), (1, 1568), (1, 1600)]) rfl hP rfl 4 (by decide) (hts _ (wg_t kw_239)) (fun _ h9 => h9) (cd := (1, 800)) rfl dKM_makePair_267 (fun v33 hv33 => ?_)
          obtain rfl := (show v33 = .int (nI 800) from hv33)
          refine nw_copyb hx hb (hml.trans hl.1.symm) hown (hts _ (wg_t kw_622)) (hts _ (wg_t kw_526)) (hts _ (wg_t kw_525)) (hts _ (wg_t kw_19)) hK hO hU k_pk (k0 := pp) n_pk k_sk (k1 := psk) n_sk hP hD hS (sp := 0) (dp := 768) (n := 800) (by omega) (by omega) (by omega) (by decide) (Nat.le_of_ble_eq_true rfl) dKM_makePair_270 (fun s29 pl H locs es22 hO hP hD hS => ?_)
          replace hR := bnd_step hR es22
          have hF := frm_sC hF es22 (by unfold M_KM_makePair_0; omega)
          refine lv_aload_n hx hb dKM_makePair_273 rfl (lv_at hl 1 rfl) ?_
          refine lv_aload_n hx hb dKM_makePair_274 rfl (lv_at hl 4 rfl) ?_
          refine lv_iconst (v := nI 0) hx hb dKM_makePair_275 (by decide) ?_
          refine lv_aload_n hx hb dKM_makePair_276 rfl (lv_at hl 2 rfl) ?_
          refine nw_get (C := "LatticeKeys$KemSet") (TT := T_KS) (N := 10) hx hb hts (wg_ft i_KS) hown hK hO k_st (kn := 5) (ci := 1) (fl := [(1, 2), (1, 3), (1, 10), (1, 4), (1, 800), (1, 1632), (1, 768), (1, 768), (1, 1568), (1, 1600)]) rfl hP rfl 4 (by decide) (hts _ (wg_t kw_239)) (fun _ h9 => h9) (cd := (1, 800)) rfl dKM_makePair_277 (fun v34 hv34 => ?_)
          obtain rfl := (show v34 = .int (nI 800) from hv34)
          refine mp_v (cx := []) (wr := []) hP hD hS hA [] [] rfl rfl rfl (by decide) (va_runV (As := [.ref pk, .int (nI 0), .int (nI 800)]) (rest := []) F (N_KM_digestOf l g _ T s29 pl hO hU h0 pk pp 800 0 800 k_h0 k_pk n_pk (by omega) (by omega)) (cwV 3 hts (wg_app (wg_c kw_661 (wg_c kw_663 (wg_c ks_10 (wg_c kw_3 wg_n)))) kw_664) rfl rfl rfl (by decide +kernel) ⟨by decide, by decide⟩) (pn_W "LatticeKeys$Kem" (en_ok g) (ci := 5) (kn := 24) (fl := [(3, 14), (3, 20), (3, 25), (3, 30), (3, 31), (3, 32), (3, 33), (3, 34), (3, 35), (3, 36)]) hK hO k_h0 rfl hP hD hS hA hE [] rfl rfl rfl) rfl rfl hl.1 rfl (lv_room (Nat.le_of_ble_eq_true rfl)) dKM_makePair_280 ⟨by omega, by omega⟩) (fun  u26 H locs hu26 hP hD hS => ?_)
          obtain ⟨s30, pl⟩ := u26
          obtain ⟨⟨eq26, hFc26, -⟩, hO⟩ := hu26
          have hO : okn g T s30 pl := hO
          have hP : va_P g.1 vcl ([] ++ pl) _ := hP
          have hD : va_D _ ([] ++ pl) := hD
          have hFc26 : frm (M_KM_digestOf) s29 s30 := hFc26
          replace hR := bnd_step hR eq26
          have hF := frm_tr hF hFc26 (fun k hk => by unfold M_KM_digestOf at hk; unfold M_KM_makePair_0; omega)
          refine W.widen (k := 0) (n := 0) (by omega) (by omega) ?_
          refine lv_aload_n hx hb dKM_makePair_283 rfl (lv_at hl 1 rfl) ?_
          refine nw_get (C := "LatticeKeys$Kem") (TT := T_KM) (N := 10) hx hb hts (wg_ft i_KM) hown hK hO k_h0 (kn := 24) (ci := 5) (fl := [(3, 14), (3, 20), (3, 25), (3, 30), (3, 31), (3, 32), (3, 33), (3, 34), (3, 35), (3, 36)]) rfl hP rfl 6 (by decide) (hts _ (wg_t kw_113)) (fun _ h9 => h9) (cd := (3, 33)) rfl dKM_makePair_284 (fun v35 hv35 => ?_)
          obtain ⟨r28, rfl, kr28⟩ := (show ∃ r : Nat, v35 = .ref r ∧ T r = some 33 from hv35)
          refine lv_iconst (v := nI 0) hx hb dKM_makePair_287 (by decide) ?_
          refine lv_aload hx hb dKM_makePair_288 (lv_at hl 5 rfl) ?_
          refine lv_aload_n hx hb dKM_makePair_290 rfl (lv_at hl 2 rfl) ?_
          refine nw_get (C := "LatticeKeys$KemSet") (TT := T_KS) (N := 10) hx hb hts (wg_ft i_KS) hown hK hO k_st (kn := 5) (ci := 1) (fl := [(1, 2), (1, 3), (1, 10), (1, 4), (1, 800), (1, 1632), (1, 768), (1, 768), (1, 1568), (1, 1600)]) rfl hP rfl 8 (by decide) (hts _ (wg_t kw_250)) (fun _ h9 => h9) (cd := (1, 1568)) rfl dKM_makePair_291 (fun v36 hv36 => ?_)
          obtain rfl := (show v36 = .int (nI 1568) from hv36)
          refine lv_bipush (v := nI 32) hx hb dKM_makePair_294 (by decide) ?_
          refine nw_copyb hx hb (hml.trans hl.1.symm) hown (hts _ (wg_t kw_622)) (hts _ (wg_t kw_526)) (hts _ (wg_t kw_525)) (hts _ (wg_t kw_19)) hK hO hU kr28 (k0 := 33) rfl k_sk (k1 := psk) n_sk hP hD hS (sp := 0) (dp := 1568) (n := 32) (by omega) (by omega) (by omega) (by decide) (Nat.le_of_ble_eq_true rfl) dKM_makePair_296 (fun s31 pl H locs es23 hO hP hD hS => ?_)
          replace hR := bnd_step hR es23
          have hF := frm_sC hF es23 (by unfold M_KM_makePair_0; omega)
          refine lv_aload_n hx hb dKM_makePair_299 rfl (lv_at hl 3 rfl) ?_
          refine lv_bipush (v := nI 32) hx hb dKM_makePair_300 (by decide) ?_
          refine lv_aload hx hb dKM_makePair_302 (lv_at hl 5 rfl) ?_
          refine lv_aload_n hx hb dKM_makePair_304 rfl (lv_at hl 2 rfl) ?_
          refine nw_get (C := "LatticeKeys$KemSet") (TT := T_KS) (N := 10) hx hb hts (wg_ft i_KS) hown hK hO k_st (kn := 5) (ci := 1) (fl := [(1, 2), (1, 3), (1, 10), (1, 4), (1, 800), (1, 1632), (1, 768), (1, 768), (1, 1568), (1, 1600)]) rfl hP rfl 9 (by decide) (hts _ (wg_t kw_252)) (fun _ h9 => h9) (cd := (1, 1600)) rfl dKM_makePair_305 (fun v37 hv37 => ?_)
          obtain rfl := (show v37 = .int (nI 1600) from hv37)
          refine lv_bipush (v := nI 32) hx hb dKM_makePair_308 (by decide) ?_
          refine nw_copyb hx hb (hml.trans hl.1.symm) hown (hts _ (wg_t kw_622)) (hts _ (wg_t kw_526)) (hts _ (wg_t kw_525)) (hts _ (wg_t kw_19)) hK hO hU k_ch (k0 := pch) n_ch k_sk (k1 := psk) n_sk hP hD hS (sp := 32) (dp := 1600) (n := 32) (by omega) (by omega) (by omega) (by decide) (Nat.le_of_ble_eq_true rfl) dKM_makePair_310 (fun s32 pl H locs es24 hO hP hD hS => ?_)
          replace hR := bnd_step hR es24
          have hF := frm_sC hF es24 (by unfold M_KM_makePair_0; omega)
          exact mp_vret hx hb hr hlk hP hD hS (s32, pl) ⟨⟨hR.symm, hF, trivial⟩, hO⟩ [] rfl rfl rfl (by omega) (by omega) dKM_makePair_313
        | succ n22 ih22 =>
          intro i22 s28 pl ls H locs hm22 hF hR hl hO hP hD hS
          refine lv_iload hx hb dKM_makePair_141 (lv_at hl 0 rfl) ?_
          refine lv_aload_n hx hb dKM_makePair_143 rfl (lv_at hl 2 rfl) ?_
          refine nw_get (C := "LatticeKeys$KemSet") (TT := T_KS) (N := 10) hx hb hts (wg_ft i_KS) hown hK hO k_st (kn := 5) (ci := 1) (fl := [(1, 2), (1, 3), (1, 10), (1, 4), (1, 800), (1, 1632), (1, 768), (1, 768), (1, 1568), (1, 1600)]) rfl hP rfl 0 (by decide) (hts _ (wg_t kw_231)) (fun _ h9 => h9) (cd := (1, 2)) rfl dKM_makePair_144 (fun v38 hv38 => ?_)
          obtain rfl := (show v38 = .int (nI 2) from hv38)
          refine mi_ge (tgt := 258) hx hb dKM_makePair_147 (by decide) (by omega) (by omega) (fun h23 => absurd h23 (by omega)) (fun h23 => ?_)
          refine lv_aload_n hx hb dKM_makePair_150 rfl (lv_at hl 1 rfl) ?_
          refine lv_aload_n hx hb dKM_makePair_151 rfl (lv_at hl 1 rfl) ?_
          refine nw_get (C := "LatticeKeys$Kem") (TT := T_KM) (N := 10) hx hb hts (wg_ft i_KM) hown hK hO k_h0 (kn := 24) (ci := 5) (fl := [(3, 14), (3, 20), (3, 25), (3, 30), (3, 31), (3, 32), (3, 33), (3, 34), (3, 35), (3, 36)]) rfl hP rfl 3 (by decide) (hts _ (wg_t kw_110)) (fun _ h9 => h9) (cd := (3, 30)) rfl dKM_makePair_152 (fun v39 hv39 => ?_)
          obtain ⟨r29, rfl, kr29⟩ := (show ∃ r : Nat, v39 = .ref r ∧ T r = some 30 from hv39)
          refine lv_aload_n hx hb dKM_makePair_155 rfl (lv_at hl 2 rfl) ?_
          refine nw_get (C := "LatticeKeys$KemSet") (TT := T_KS) (N := 10) hx hb hts (wg_ft i_KS) hown hK hO k_st (kn := 5) (ci := 1) (fl := [(1, 2), (1, 3), (1, 10), (1, 4), (1, 800), (1, 1632), (1, 768), (1, 768), (1, 1568), (1, 1600)]) rfl hP rfl 1 (by decide) (hts _ (wg_t kw_233)) (fun _ h9 => h9) (cd := (1, 3)) rfl dKM_makePair_156 (fun v40 hv40 => ?_)
          obtain rfl := (show v40 = .int (nI 3) from hv40)
          refine lv_aload_n hx hb dKM_makePair_159 rfl (lv_at hl 2 rfl) ?_
          refine nw_get (C := "LatticeKeys$KemSet") (TT := T_KS) (N := 10) hx hb hts (wg_ft i_KS) hown hK hO k_st (kn := 5) (ci := 1) (fl := [(1, 2), (1, 3), (1, 10), (1, 4), (1, 800), (1, 1632), (1, 768), (1, 768), (1, 1568), (1, 1600)]) rfl hP rfl 0 (by decide) (hts _ (wg_t kw_231)) (fun _ h9 => h9) (cd := (1, 2)) rfl dKM_makePair_160 (fun v41 hv41 => ?_)
          obtain rfl := (show v41 = .int (nI 2) from hv41)
          refine lv_iload hx hb dKM_makePair_163 (lv_at hl 0 rfl) ?_
          refine mi_iadd hx hb dKM_makePair_165 ?_
          refine mp_v (cx := []) (wr := []) hP hD hS hA [] [] rfl rfl rfl (by decide) (va_runV (As := [.ref r29, .int (nI 3), .int (nI (2 + i22))]) (rest := []) F (N_KM_sampleNoise_3 l g _ T s28 pl hO hU h0 r29 30 (nI (2 + i22)) k_h0 kr29 rfl) (cwV 3 hts (wg_app (wg_c kw_623 (wg_c kw_625 (wg_c ks_6 (wg_c kw_3 wg_n)))) kw_626) rfl rfl rfl (by decide +kernel) ⟨by decide, by decide⟩) (pn_W "LatticeKeys$Kem" (en_ok g) (ci := 5) (kn := 24) (fl := [(3, 14), (3, 20), (3, 25), (3, 30), (3, 31), (3, 32), (3, 33), (3, 34), (3, 35), (3, 36)]) hK hO k_h0 rfl hP hD hS hA hE [] rfl rfl rfl) rfl rfl hl.1 rfl (lv_room (Nat.le_of_ble_eq_true rfl)) dKM_makePair_166 ⟨by omega, by omega⟩) (fun  u27 H locs hu27 hP hD hS => ?_)
          obtain ⟨s33, pl⟩ := u27
          obtain ⟨⟨eq27, hFc27, -⟩, hO⟩ := hu27
          have hO : okn g T s33 pl := hO
          have hP : va_P g.1 vcl ([] ++ pl) _ := hP
          have hD : va_D _ ([] ++ pl) := hD
          have hFc27 : frm (M_KM_sampleNoise_3 30) s28 s33 := hFc27
          replace hR := bnd_step hR eq27
          have hF := frm_tr hF hFc27 (fun k hk => by unfold M_KM_sampleNoise_3 at hk; unfold M_KM_makePair_0; omega)
          refine W.widen (k := 0) (n := 0) (by omega) (by omega) ?_
          refine lv_aload_n hx hb dKM_makePair_169 rfl (lv_at hl 1 rfl) ?_
          refine nw_get (C := "LatticeKeys$Kem") (TT := T_KM) (N := 10) hx hb hts (wg_ft i_KM) hown hK hO k_h0 (kn := 24) (ci := 5) (fl := [(3, 14), (3, 20), (3, 25), (3, 30), (3, 31), (3, 32), (3, 33), (3, 34), (3, 35), (3, 36)]) rfl hP rfl 1 (by decide) (hts _ (wg_t kw_108)) (fun _ h9 => h9) (cd := (3, 20)) rfl dKM_makePair_170 (fun v42 hv42 => ?_)
          obtain ⟨r30, rfl, kr30⟩ := (show ∃ r : Nat, v42 = .ref r ∧ T r = some 20 from hv42)
          refine lv_aload_n hx hb dKM_makePair_173 rfl (lv_at hl 1 rfl) ?_
          refine nw_get (C := "LatticeKeys$Kem") (TT := T_KM) (N := 10) hx hb hts (wg_ft i_KM) hown hK hO k_h0 (kn := 24) (ci := 5) (fl := [(3, 14), (3, 20), (3, 25), (3, 30), (3, 31), (3, 32), (3, 33), (3, 34), (3, 35), (3, 36)]) rfl hP rfl 3 (by decide) (hts _ (wg_t kw_110)) (fun _ h9 => h9) (cd := (3, 30)) rfl dKM_makePair_174 (fun v43 hv43 => ?_)
          obtain ⟨r31, rfl, kr31⟩ := (show ∃ r : Nat, v43 = .ref r ∧ T r = some 30 from hv43)
          refine mp_v (cx := []) (wr := []) hP hD hS hA [] [] rfl rfl rfl (by decide) (va_runV (As := [.ref r31]) (rest := []) F (N_RG_transform_7 l g _ T s33 pl hO hU r30 r31 30 kr30 kr31 rfl) (cwV 1 hts (wg_app (wg_c kw_636 (wg_c kw_637 (wg_c kw_638 (wg_c kw_4 wg_n)))) kw_639) rfl rfl rfl (by decide +kernel) ⟨by decide, by decide⟩) (pn_W "LatticeKeys$Ring" (en_ok g) (ci := 4) (kn := 20) (fl := [(1, 3329), (1, 7), (1, 3303), (3, 21)]) hK hO kr30 rfl hP hD hS hA hE [] rfl rfl rfl) rfl rfl hl.1 rfl (lv_room (Nat.le_of_ble_eq_true rfl)) dKM_makePair_177 ⟨by omega, by omega⟩) (fun  u28 H locs hu28 hP hD hS => ?_)
          obtain ⟨s34, pl⟩ := u28
          obtain ⟨⟨eq28, hFc28, -⟩, hO⟩ := hu28
          have hO : okn g T s34 pl := hO
          have hP : va_P g.1 vcl ([] ++ pl) _ := hP
          have hD : va_D _ ([] ++ pl) := hD
          have hFc28 : frm (M_RG_transform_7 30) s33 s34 := hFc28
          replace hR := bnd_step hR eq28
          have hF := frm_tr hF hFc28 (fun k hk => by unfold M_RG_transform_7 at hk; unfold M_KM_makePair_0; omega)
          refine W.widen (k := 0) (n := 0) (by omega) (by omega) ?_
          refine lv_iconst (v := nI 0) hx hb dKM_makePair_180 (by decide) ?_
          refine lv_istore (lv' := [(6, .int (nI 0)), (5, .int (nI i22)), (0, .ref h0), (1, .ref st), (2, .ref ch), (3, .ref pk), (4, .ref sk)]) hx hb dKM_makePair_181 hl (by decide) rfl (fun ls hl => ?_)
          have lp23 : ∀ (n23 : Nat) (i23 : Nat) (s35 : Sto) (pl : va_W) (ls : Array Slot) (H : Heap) (locs : List Loc), n23 + i23 = 2 → frm (M_KM_makePair_0 pp psk) s s35 → F_KM_makePair_0 pch n pp psk s = F_KM_makePair_0_L2 pp i22 (F_KM_makePair_0_L1 pch pp psk n22) n23 i23 s35 → lv_has ls 7 [(6, .int (nI i23)), (5, .int (nI i22)), (0, .ref h0), (1, .ref st), (2, .ref ch), (3, .ref pk), (4, .ref sk)] → okn g T s35 pl → va_P g.1 vcl ([] ++ pl) H → va_D A ([] ++ pl) → va_S A s0.heap H locs → W p l e ({ frames := 4, cells := 0, slots := 0, locals := 131 } : Room) s0 m args below meth c H locs 0 0 (MQ below (va_Qv (fun (u : (Sto) × va_W) => (u.1 = F_KM_makePair_0 pch n pp psk s ∧ frm (M_KM_makePair_0 pp psk) s u.1 ∧ True) ∧ okn g T u.1 u.2) (po g.1 vcl A (fun (u : (Sto) × va_W) => [] ++ u.2)) A) args s0 0 0 A) (F0 m 183 ls []) := by
            intro n23
            induction n23 with
            | zero =>
              intro i23 s35 pl ls H locs hm23 hF hR hl hO hP hD hS
              refine lv_iload hx hb dKM_makePair_183 (lv_at hl 0 rfl) ?_
              refine lv_aload_n hx hb dKM_makePair_185 rfl (lv_at hl 3 rfl) ?_
              refine nw_get (C := "LatticeKeys$KemSet") (TT := T_KS) (N := 10) hx hb hts (wg_ft i_KS) hown hK hO k_st (kn := 5) (ci := 1) (fl := [(1, 2), (1, 3), (1, 10), (1, 4), (1, 800), (1, 1632), (1, 768), (1, 768), (1, 1568), (1, 1600)]) rfl hP rfl 0 (by decide) (hts _ (wg_t kw_231)) (fun _ h9 => h9) (cd := (1, 2)) rfl dKM_makePair_186 (fun v44 hv44 => ?_)
              obtain rfl := (show v44 = .int (nI 2) from hv44)
              refine mi_ge (tgt := 236) hx hb dKM_makePair_189 (by decide) (by omega) (by omega) (fun h24 => ?_) (fun h24 => absurd h24 (by omega))
              refine lv_aload_n hx hb dKM_makePair_236 rfl (lv_at hl 2 rfl) ?_
              refine nw_get (C := "LatticeKeys$Kem") (TT := T_KM) (N := 10) hx hb hts (wg_ft i_KM) hown hK hO k_h0 (kn := 24) (ci := 5) (fl := [(3, 14), (3, 20), (3, 25), (3, 30), (3, 31), (3, 32), (3, 33), (3, 34), (3, 35), (3, 36)]) rfl hP rfl 3 (by decide) (hts _ (wg_t kw_110)) (fun _ h9 => h9) (cd := (3, 30)) rfl dKM_makePair_237 (fun v45 hv45 => ?_)
              obtain ⟨r32, rfl, kr32⟩ := (show ∃ r : Nat, v45 = .ref r ∧ T r = some 30 from hv45)
              refine lv_bipush (v := nI 12) hx hb dKM_makePair_240 (by decide) ?_
              refine lv_aload_n hx hb dKM_makePair_242 rfl (lv_at hl 5 rfl) ?_
              refine lv_sipush (v := nI 384) hx hb dKM_makePair_243 (by decide) ?_
              refine lv_iload hx hb dKM_makePair_246 (lv_at hl 1 rfl) ?_
              refine mi_imul hx hb dKM_makePair_248 ?_
              refine mp_v (cx := []) (wr := []) hP hD hS hA [] [] rfl rfl rfl (by decide) (va_runS (As := [.ref r32, .int (nI 12), .ref pk, .int (nI (384 * i22))]) (rest := []) F (N_BT_pack l g _ T s35 pl hO hU r32 pk 30 12 pp 800 (384 * i22) kr32 rfl k_pk n_pk (by omega) (by omega) (by omega)) (va_cwS 4 hts (wg_app (wg_c kw_644 (wg_c kw_645 (wg_c kw_22 wg_n))) kw_646) rfl rfl rfl (by decide +kernel) ⟨by decide, by decide⟩) (pp_S (en_ok g) hP hD hS hA hE [] rfl rfl) rfl rfl hl.1 rfl (lv_room (Nat.le_of_ble_eq_true rfl)) dKM_makePair_249 ⟨by omega, by omega⟩) (fun  u29 H locs hu29 hP hD hS => ?_)
              obtain ⟨s36, pl⟩ := u29
              obtain ⟨⟨eq29, hFc29, -⟩, hO⟩ := hu29
              have hO : okn g T s36 pl := hO
              have hP : va_P g.1 vcl ([] ++ pl) _ := hP
              have hD : va_D _ ([] ++ pl) := hD
              have hFc29 : frm (M_BT_pack pp) s35 s36 := hFc29
              replace hR := bnd_step hR eq29
              have hF := frm_tr hF hFc29 (fun k hk => by unfold M_BT_pack at hk; unfold M_KM_makePair_0; omega)
              refine W.widen (k := 0) (n := 0) (by omega) (by omega) ?_
              refine mi_iinc (k := 1) (x := i22) (d := 1) (y := i22 + 1) (lv' := [(5, .int (nI (i22 + 1))), (6, .int (nI i23)), (0, .ref h0), (1, .ref st), (2, .ref ch), (3, .ref pk), (4, .ref sk)]) hx hb dKM_makePair_252 hl rfl (by decide) rfl (by decide) rfl (fun ls hl => ?_)
              refine lv_goto (tgt := 141) hx hb dKM_makePair_255 (by decide) ?_
              exact ih22 (i22 + 1) s36 pl ls H locs (by omega) hF hR (lv_sub hl [0, 2, 3, 4, 5, 6] rfl) hO hP hD hS
            | succ n23 ih23 =>
              intro i23 s35 pl ls H locs hm23 hF hR hl hO hP hD hS
              refine lv_iload hx hb dKM_makePair_183 (lv_at hl 0 rfl) ?_
              refine lv_aload_n hx hb dKM_makePair_185 rfl (lv_at hl 3 rfl) ?_
              refine nw_get (C := "LatticeKeys$KemSet") (TT := T_KS) (N := 10) hx hb hts (wg_ft i_KS) hown hK hO k_st (kn := 5) (ci := 1) (fl := [(1, 2), (1, 3), (1, 10), (1, 4), (1, 800), (1, 1632), (1, 768), (1, 768), (1, 1568), (1, 1600)]) rfl hP rfl 0 (by decide) (hts _ (wg_t kw_231)) (fun _ h9 => h9) (cd := (1, 2)) rfl dKM_makePair_186 (fun v46 hv46 => ?_)
              obtain rfl := (show v46 = .int (nI 2) from hv46)
              refine mi_ge (tgt := 236) hx hb dKM_makePair_189 (by decide) (by omega) (by omega) (fun h25 => absurd h25 (by omega)) (fun h25 => ?_)
              refine lv_aload_n hx hb dKM_makePair_192 rfl (lv_at hl 2 rfl) ?_
              refine lv_aload_n hx hb dKM_makePair_193 rfl (lv_at hl 5 rfl) ?_
              refine lv_aload_n hx hb dKM_makePair_194 rfl (lv_at hl 3 rfl) ?_
              refine nw_get (C := "LatticeKeys$KemSet") (TT := T_KS) (N := 10) hx hb hts (wg_ft i_KS) hown hK hO k_st (kn := 5) (ci := 1) (fl := [(1, 2), (1, 3), (1, 10), (1, 4), (1, 800), (1, 1632), (1, 768), (1, 768), (1, 1568), (1, 1600)]) rfl hP rfl 4 (by decide) (hts _ (wg_t kw_239)) (fun _ h9 => h9) (cd := (1, 800)) rfl dKM_makePair_195 (fun v47 hv47 => ?_)
              obtain rfl := (show v47 = .int (nI 800) from hv47)
              refine lv_bipush (v := nI 32) hx hb dKM_makePair_198 (by decide) ?_
              refine mi_isub hx hb dKM_makePair_200 (by omega) ?_
              refine mi_as (show nI (800 - 32) = nI 768 from rfl) ?_
              refine lv_iload hx hb dKM_makePair_201 (lv_at hl 0 rfl) ?_
              refine lv_iload hx hb dKM_makePair_203 (lv_at hl 1 rfl) ?_
              refine mp_v (cx := []) (wr := []) hP hD hS hA [] [] rfl rfl rfl (by decide) (va_runV (As := [.ref pk, .int (nI 768), .int (nI i23), .int (nI i22)]) (rest := []) F (N_KM_sampleEntry l g _ T s35 pl hO hU h0 pk pp 800 768 (nI i23) (nI i22) k_h0 k_pk n_pk (by omega) (by omega)) (cwV 4 hts (wg_app (wg_c kw_647 (wg_c kw_649 (wg_c ks_8 (wg_c kw_3 wg_n)))) kw_650) rfl rfl rfl (by decide +kernel) ⟨by decide, by decide⟩) (pn_W "LatticeKeys$Kem" (en_ok g) (ci := 5) (kn := 24) (fl := [(3, 14), (3, 20), (3, 25), (3, 30), (3, 31), (3, 32), (3, 33), (3, 34), (3, 35), (3, 36)]) hK hO k_h0 rfl hP hD hS hA hE [] rfl rfl rfl) rfl rfl hl.1 rfl (lv_room (Nat.le_of_ble_eq_true rfl)) dKM_makePair_205 ⟨by omega, by omega⟩) (fun  u30 H locs hu30 hP hD hS => ?_)
              obtain ⟨s37, pl⟩ := u30
              obtain ⟨⟨eq30, hFc30, -⟩, hO⟩ := hu30
              have hO : okn g T s37 pl := hO
              have hP : va_P g.1 vcl ([] ++ pl) _ := hP
              have hD : va_D _ ([] ++ pl) := hD
              have hFc30 : frm (M_KM_sampleEntry) s35 s37 := hFc30
              replace hR := bnd_step hR eq30
              have hF := frm_tr hF hFc30 (fun k hk => by unfold M_KM_sampleEntry at hk; unfold M_KM_makePair_0; omega)
              refine W.widen (k := 0) (n := 0) (by omega) (by omega) ?_
              refine lv_aload_n hx hb dKM_makePair_208 rfl (lv_at hl 2 rfl) ?_
              refine nw_get (C := "LatticeKeys$Kem") (TT := T_KM) (N := 10) hx hb hts (wg_ft i_KM) hown hK hO k_h0 (kn := 24) (ci := 5) (fl := [(3, 14), (3, 20), (3, 25), (3, 30), (3, 31), (3, 32), (3, 33), (3, 34), (3, 35), (3, 36)]) rfl hP rfl 1 (by decide) (hts _ (wg_t kw_108)) (fun _ h9 => h9) (cd := (3, 20)) rfl dKM_makePair_209 (fun v48 hv48 => ?_)
              obtain ⟨r33, rfl, kr33⟩ := (show ∃ r : Nat, v48 = .ref r ∧ T r = some 20 from hv48)
              refine lv_aload_n hx hb dKM_makePair_212 rfl (lv_at hl 2 rfl) ?_
              refine nw_get (C := "LatticeKeys$Kem") (TT := T_KM) (N := 10) hx hb hts (wg_ft i_KM) hown hK hO k_h0 (kn := 24) (ci := 5) (fl := [(3, 14), (3, 20), (3, 25), (3, 30), (3, 31), (3, 32), (3, 33), (3, 34), (3, 35), (3, 36)]) rfl hP rfl 3 (by decide) (hts _ (wg_t kw_110)) (fun _ h9 => h9) (cd := (3, 30)) rfl dKM_makePair_213 (fun v49 hv49 => ?_)
              obtain ⟨r34, rfl, kr34⟩ := (show ∃ r : Nat, v49 = .ref r ∧ T r = some 30 from hv49)
              refine lv_aload_n hx hb dKM_makePair_216 rfl (lv_at hl 2 rfl) ?_
              refine nw_get (C := "LatticeKeys$Kem") (TT := T_KM) (N := 10) hx hb hts (wg_ft i_KM) hown hK hO k_h0 (kn := 24) (ci := 5) (fl := [(3, 14), (3, 20), (3, 25), (3, 30), (3, 31), (3, 32), (3, 33), (3, 34), (3, 35), (3, 36)]) rfl hP rfl 4 (by decide) (hts _ (wg_t kw_111)) (fun _ h9 => h9) (cd := (3, 31)) rfl dKM_makePair_217 (fun v50 hv50 => ?_)
              obtain ⟨r35, rfl, kr35⟩ := (show ∃ r : Nat, v50 = .ref r ∧ T r = some 31 from hv50)
              refine lv_aload_n hx hb dKM_makePair_220 rfl (lv_at hl 2 rfl) ?_
              refine nw_get (C := "LatticeKeys$Kem") (TT := T_KM) (N := 10) hx hb hts (wg_ft i_KM) hown hK hO k_h0 (kn := 24) (ci := 5) (fl := [(3, 14), (3, 20), (3, 25), (3, 30), (3, 31), (3, 32), (3, 33), (3, 34), (3, 35), (3, 36)]) rfl hP rfl 2 (by decide) (hts _ (wg_t kw_109)) (fun _ h9 => h9) (cd := (3, 25)) rfl dKM_makePair_221 (fun v51 hv51 => ?_)
              obtain ⟨r36, rfl, kr36⟩ := (show ∃ r : Nat, v51 = .ref r ∧ T r = some 25 from hv51)
              refine lv_iload hx hb dKM_makePair_224 (lv_at hl 0 rfl) ?_
              refine nw_aald3 hx hb hK hO kr36 (k := 25) (b := 26) rfl hP (by omega) (by omega) dKM_makePair_226 (fun r37 kr37 => ?_)
              have hn21 : nsp (26 + i23) = (0, 256, []) := rows_ok 26 4 (by decide) _ (by omega)
              refine mp_v (cx := []) (wr := []) hP hD hS hA [] [] rfl rfl rfl (by decide) (va_runV (As := [.ref r34, .ref r35, .ref r37]) (rest := []) F (N_RG_addProduct_7 l g _ T s37 pl hO hU r33 r34 r35 r37 30 31 (26 + i23) kr33 kr34 rfl kr35 rfl kr37 hn21) (cwV 3 hts (wg_app (wg_c kw_653 (wg_c kw_654 (wg_c kw_655 (wg_c kw_4 wg_n)))) kw_656) rfl rfl rfl (by decide +kernel) ⟨by decide, by decide⟩) (pn_W "LatticeKeys$Ring" (en_ok g) (ci := 4) (kn := 20) (fl := [(1, 3329), (1, 7), (1, 3303), (3, 21)]) hK hO kr33 rfl hP hD hS hA hE [] rfl rfl rfl) rfl rfl hl.1 rfl (lv_room (Nat.le_of_ble_eq_true rfl)) dKM_makePair_227 ⟨by omega, by omega⟩) (fun  u31 H locs hu31 hP hD hS => ?_)
              obtain ⟨s38, pl⟩ := u31
              obtain ⟨⟨eq31, hFc31, -⟩, hO⟩ := hu31
              have hO : okn g T s38 pl := hO
              have hP : va_P g.1 vcl ([] ++ pl) _ := hP
              have hD : va_D _ ([] ++ pl) := hD
              have hFc31 : frm (M_RG_addProduct_7 30) s37 s38 := hFc31
              replace hR := bnd_step hR eq31
              have hF := frm_tr hF hFc31 (fun k hk => by unfold M_RG_addProduct_7 at hk; unfold M_KM_makePair_0; omega)
              refine W.widen (k := 0) (n := 0) (by omega) (by omega) ?_
              refine mi_iinc (k := 0) (x := i23) (d := 1) (y := i23 + 1) (lv' := [(6, .int (nI (i23 + 1))), (5, .int (nI i22)), (0, .ref h0), (1, .ref st), (2, .ref ch), (3, .ref pk), (4, .ref sk)]) hx hb dKM_makePair_230 hl rfl (by decide) rfl (by decide) rfl (fun ls hl => ?_)
              refine lv_goto (tgt := 183) hx hb dKM_makePair_233 (by decide) ?_
              exact ih23 (i23 + 1) s38 pl ls H locs (by omega) hF hR (lv_sub hl [0, 1, 2, 3, 4, 5, 6] rfl) hO hP hD hS
          exact lp23 2 0 s34 pl ls _ _ (by omega) hF hR (lv_sub hl [0, 1, 2, 3, 4, 5, 6] rfl) hO hP hD hS
      exact lp22 2 0 s27 pl ls _ _ (by omega) hF hR (lv_sub hl [0, 1, 2, 3, 4, 5] rfl) hO hP hD hS
    | succ n21 ih21 =>
      intro i21 s27 pl ls H locs hm21 hF hR hl hO hP hD hS
      refine lv_iload hx hb dKM_makePair_72 (lv_at hl 0 rfl) ?_
      refine lv_aload_n hx hb dKM_makePair_74 rfl (lv_at hl 2 rfl) ?_
      refine nw_get (C := "LatticeKeys$KemSet") (TT := T_KS) (N := 10) hx hb hts (wg_ft i_KS) hown hK hO k_st (kn := 5) (ci := 1) (fl := [(1, 2), (1, 3), (1, 10), (1, 4), (1, 800), (1, 1632), (1, 768), (1, 768), (1, 1568), (1, 1600)]) rfl hP rfl 0 (by decide) (hts _ (wg_t kw_231)) (fun _ h9 => h9) (cd := (1, 2)) rfl dKM_makePair_75 (fun v52 hv52 => ?_)
      obtain rfl := (show v52 = .int (nI 2) from hv52)
      refine mi_ge (tgt := 138) hx hb dKM_makePair_78 (by decide) (by omega) (by omega) (fun h26 => absurd h26 (by omega)) (fun h26 => ?_)
      refine lv_aload_n hx hb dKM_makePair_81 rfl (lv_at hl 1 rfl) ?_
      refine lv_aload_n hx hb dKM_makePair_82 rfl (lv_at hl 1 rfl) ?_
      refine nw_get (C := "LatticeKeys$Kem") (TT := T_KM) (N := 10) hx hb hts (wg_ft i_KM) hown hK hO k_h0 (kn := 24) (ci := 5) (fl := [(3, 14), (3, 20), (3, 25), (3, 30), (3, 31), (3, 32), (3, 33), (3, 34), (3, 35), (3, 36)]) rfl hP rfl 2 (by decide) (hts _ (wg_t kw_109)) (fun _ h9 => h9) (cd := (3, 25)) rfl dKM_makePair_83 (fun v53 hv53 => ?_)
      obtain ⟨r38, rfl, kr38⟩ := (show ∃ r : Nat, v53 = .ref r ∧ T r = some 25 from hv53)
      refine lv_iload hx hb dKM_makePair_86 (lv_at hl 0 rfl) ?_
      refine nw_aald3 hx hb hK hO kr38 (k := 25) (b := 26) rfl hP (by omega) (by omega) dKM_makePair_88 (fun r39 kr39 => ?_)
      have hn22 : nsp (26 + i21) = (0, 256, []) := rows_ok 26 4 (by decide) _ (by omega)
      refine lv_aload_n hx hb dKM_makePair_89 rfl (lv_at hl 2 rfl) ?_
      refine nw_get (C := "LatticeKeys$KemSet") (TT := T_KS) (N := 10) hx hb hts (wg_ft i_KS) hown hK hO k_st (kn := 5) (ci := 1) (fl := [(1, 2), (1, 3), (1, 10), (1, 4), (1, 800), (1, 1632), (1, 768), (1, 768), (1, 1568), (1, 1600)]) rfl hP rfl 1 (by decide) (hts _ (wg_t kw_233)) (fun _ h9 => h9) (cd := (1, 3)) rfl dKM_makePair_90 (fun v54 hv54 => ?_)
      obtain rfl := (show v54 = .int (nI 3) from hv54)
      refine lv_iload hx hb dKM_makePair_93 (lv_at hl 0 rfl) ?_
      refine mp_v (cx := []) (wr := []) hP hD hS hA [] [] rfl rfl rfl (by decide) (va_runV (As := [.ref r39, .int (nI 3), .int (nI i21)]) (rest := []) F (N_KM_sampleNoise_3 l g _ T s27 pl hO hU h0 r39 (26 + i21) (nI i21) k_h0 kr39 hn22) (cwV 3 hts (wg_app (wg_c kw_623 (wg_c kw_625 (wg_c ks_6 (wg_c kw_3 wg_n)))) kw_626) rfl rfl rfl (by decide +kernel) ⟨by decide, by decide⟩) (pn_W "LatticeKeys$Kem" (en_ok g) (ci := 5) (kn := 24) (fl := [(3, 14), (3, 20), (3, 25), (3, 30), (3, 31), (3, 32), (3, 33), (3, 34), (3, 35), (3, 36)]) hK hO k_h0 rfl hP hD hS hA hE [] rfl rfl rfl) rfl rfl hl.1 rfl (lv_room (Nat.le_of_ble_eq_true rfl)) dKM_makePair_95 ⟨by omega, by omega⟩) (fun  u32 H locs hu32 hP hD hS => ?_)
      obtain ⟨s39, pl⟩ := u32
      obtain ⟨⟨eq32, hFc32, -⟩, hO⟩ := hu32
      have hO : okn g T s39 pl := hO
      have hP : va_P g.1 vcl ([] ++ pl) _ := hP
      have hD : va_D _ ([] ++ pl) := hD
      have hFc32 : frm (M_KM_sampleNoise_3 (26 + i21)) s27 s39 := hFc32
      replace hR := bnd_step hR eq32
      have hF := frm_tr hF hFc32 (fun k hk => by unfold M_KM_sampleNoise_3 at hk; unfold M_KM_makePair_0; omega)
      refine W.widen (k := 0) (n := 0) (by omega) (by omega) ?_
      refine lv_aload_n hx hb dKM_makePair_98 rfl (lv_at hl 1 rfl) ?_
      refine nw_get (C := "LatticeKeys$Kem") (TT := T_KM) (N := 10) hx hb hts (wg_ft i_KM) hown hK hO k_h0 (kn := 24) (ci := 5) (fl := [(3, 14), (3, 20), (3, 25), (3, 30), (3, 31), (3, 32), (3, 33), (3, 34), (3, 35), (3, 36)]) rfl hP rfl 1 (by decide) (hts _ (wg_t kw_108)) (fun _ h9 => h9) (cd := (3, 20)) rfl dKM_makePair_99 (fun v55 hv55 => ?_)
      obtain ⟨r40, rfl, kr40⟩ := (show ∃ r : Nat, v55 = .ref r ∧ T r = some 20 from hv55)
      refine lv_aload_n hx hb dKM_makePair_102 rfl (lv_at hl 1 rfl) ?_
      refine nw_get (C := "LatticeKeys$Kem") (TT := T_KM) (N := 10) hx hb hts (wg_ft i_KM) hown hK hO k_h0 (kn := 24) (ci := 5) (fl := [(3, 14), (3, 20), (3, 25), (3, 30), (3, 31), (3, 32), (3, 33), (3, 34), (3, 35), (3, 36)]) rfl hP rfl 2 (by decide) (hts _ (wg_t kw_109)) (fun _ h9 => h9) (cd := (3, 25)) rfl dKM_makePair_103 (fun v56 hv56 => ?_)
      obtain ⟨r41, rfl, kr41⟩ := (show ∃ r : Nat, v56 = .ref r ∧ T r = some 25 from hv56)
      refine lv_iload hx hb dKM_makePair_106 (lv_at hl 0 rfl) ?_
      refine nw_aald3 hx hb hK hO kr41 (k := 25) (b := 26) rfl hP (by omega) (by omega) dKM_makePair_108 (fun r42 kr42 => ?_)
      have hn23 : nsp (26 + i21) = (0, 256, []) := rows_ok 26 4 (by decide) _ (by omega)
      refine mp_v (cx := []) (wr := []) hP hD hS hA [] [] rfl rfl rfl (by decide) (va_runV (As := [.ref r42]) (rest := []) F (N_RG_transform_7 l g _ T s39 pl hO hU r40 r42 (26 + i21) kr40 kr42 hn23) (cwV 1 hts (wg_app (wg_c kw_636 (wg_c kw_637 (wg_c kw_638 (wg_c kw_4 wg_n)))) kw_639) rfl rfl rfl (by decide +kernel) ⟨by decide, by decide⟩) (pn_W "LatticeKeys$Ring" (en_ok g) (ci := 4) (kn := 20) (fl := [(1, 3329), (1, 7), (1, 3303), (3, 21)]) hK hO kr40 rfl hP hD hS hA hE [] rfl rfl rfl) rfl rfl hl.1 rfl (lv_room (Nat.le_of_ble_eq_true rfl)) dKM_makePair_109 ⟨by omega, by omega⟩) (fun  u33 H locs hu33 hP hD hS => ?_)
      obtain ⟨s40, pl⟩ := u33
      obtain ⟨⟨eq33, hFc33, -⟩, hO⟩ := hu33
      have hO : okn g T s40 pl := hO
      have hP : va_P g.1 vcl ([] ++ pl) _ := hP
      have hD : va_D _ ([] ++ pl) := hD
      have hFc33 : frm (M_RG_transform_7 (26 + i21)) s39 s40 := hFc33
      replace hR := bnd_step hR eq33
      have hF := frm_tr hF hFc33 (fun k hk => by unfold M_RG_transform_7 at hk; unfold M_KM_makePair_0; omega)
      refine W.widen (k := 0) (n := 0) (by omega) (by omega) ?_
      refine lv_aload_n hx hb dKM_makePair_112 rfl (lv_at hl 1 rfl) ?_
      refine nw_get (C := "LatticeKeys$Kem") (TT := T_KM) (N := 10) hx hb hts (wg_ft i_KM) hown hK hO k_h0 (kn := 24) (ci := 5) (fl := [(3, 14), (3, 20), (3, 25), (3, 30), (3, 31), (3, 32), (3, 33), (3, 34), (3, 35), (3, 36)]) rfl hP rfl 2 (by decide) (hts _ (wg_t kw_109)) (fun _ h9 => h9) (cd := (3, 25)) rfl dKM_makePair_113 (fun v57 hv57 => ?_)
      obtain ⟨r43, rfl, kr43⟩ := (show ∃ r : Nat, v57 = .ref r ∧ T r = some 25 from hv57)
      refine lv_iload hx hb dKM_makePair_116 (lv_at hl 0 rfl) ?_
      refine nw_aald3 hx hb hK hO kr43 (k := 25) (b := 26) rfl hP (by omega) (by omega) dKM_makePair_118 (fun r44 kr44 => ?_)
      have hn24 : nsp (26 + i21) = (0, 256, []) := rows_ok 26 4 (by decide) _ (by omega)
      refine lv_bipush (v := nI 12) hx hb dKM_makePair_119 (by decide) ?_
      refine lv_aload hx hb dKM_makePair_121 (lv_at hl 5 rfl) ?_
      refine lv_sipush (v := nI 384) hx hb dKM_makePair_123 (by decide) ?_
      refine lv_iload hx hb dKM_makePair_126 (lv_at hl 0 rfl) ?_
      refine mi_imul hx hb dKM_makePair_128 ?_
      refine mp_v (cx := []) (wr := []) hP hD hS hA [] [] rfl rfl rfl (by decide) (va_runS (As := [.ref r44, .int (nI 12), .ref sk, .int (nI (384 * i21))]) (rest := []) F (N_BT_pack l g _ T s40 pl hO hU r44 sk (26 + i21) 12 psk 1632 (384 * i21) kr44 hn24 k_sk n_sk (by omega) (by omega) (by omega)) (va_cwS 4 hts (wg_app (wg_c kw_644 (wg_c kw_645 (wg_c kw_22 wg_n))) kw_646) rfl rfl rfl (by decide +kernel) ⟨by decide, by decide⟩) (pp_S (en_ok g) hP hD hS hA hE [] rfl rfl) rfl rfl hl.1 rfl (lv_room (Nat.le_of_ble_eq_true rfl)) dKM_makePair_129 ⟨by omega, by omega⟩) (fun  u34 H locs hu34 hP hD hS => ?_)
      obtain ⟨s41, pl⟩ := u34
      obtain ⟨⟨eq34, hFc34, -⟩, hO⟩ := hu34
      have hO : okn g T s41 pl := hO
      have hP : va_P g.1 vcl ([] ++ pl) _ := hP
      have hD : va_D _ ([] ++ pl) := hD
      have hFc34 : frm (M_BT_pack psk) s40 s41 := hFc34
      replace hR := bnd_step hR eq34
      have hF := frm_tr hF hFc34 (fun k hk => by unfold M_BT_pack at hk; unfold M_KM_makePair_0; omega)
      refine W.widen (k := 0) (n := 0) (by omega) (by omega) ?_
      refine mi_iinc (k := 0) (x := i21) (d := 1) (y := i21 + 1) (lv' := [(5, .int (nI (i21 + 1))), (0, .ref h0), (1, .ref st), (2, .ref ch), (3, .ref pk), (4, .ref sk)]) hx hb dKM_makePair_132 hl rfl (by decide) rfl (by decide) rfl (fun ls hl => ?_)
      refine lv_goto (tgt := 72) hx hb dKM_makePair_135 (by decide) ?_
      exact ih21 (i21 + 1) s41 pl ls H locs (by omega) hF hR (lv_sub hl [0, 1, 2, 3, 4, 5] rfl) hO hP hD hS
  exact lp21 2 0 s26 pl ls _ _ (by omega) hF hR (lv_sub hl [0, 1, 2, 3, 4, 5] rfl) hO hP hD hS
def M_KM_makePair_1 (pp : Nat) (psk : Nat) (k : Nat) : Prop := (26 ≤ k ∧ k < 30) ∨ k = 14 ∨ k = 30 ∨ k = 31 ∨ k = 33 ∨ k = 34 ∨ k = 35 ∨ k = pp ∨ k = psk ∨ (0 : Nat) = 1
noncomputable def F_KM_makePair_1_L2 (pp : Nat) (i22 : Nat) (kk : Nat → Sto → Sto) : Nat → Nat → Sto → Sto
  | 0, i23, s35 => bnd (F_BT_pack 30 12 pp 1184 (384 * i22) s35) fun s36 => kk (i22 + 1) s36
  | n23 + 1, i23, s35 => bnd (F_KM_sampleEntry pp 1184 1152 (nI i23) (nI i22) s35) fun s37 => bnd (F_RG_addProduct_7 30 31 (26 + i23) s37) fun s38 => F_KM_makePair_1_L2 pp i22 kk n23 (i23 + 1) s38
noncomputable def F_KM_makePair_1_L1 (pch : Nat) (pp : Nat) (psk : Nat) : Nat → Nat → Sto → Sto
  | 0, i22, s28 => bnd (sC s28 pp psk 0 1152 1184) fun s29 => bnd (F_KM_digestOf pp 1184 0 1184 s29) fun s30 => bnd (sC s30 33 psk 0 2336 32) fun s31 => bnd (sC s31 pch psk 32 2368 32) fun s32 => s32
  | n22 + 1, i22, s28 => bnd (F_KM_sampleNoise_2 30 (nI (3 + i22)) s28) fun s33 => bnd (F_RG_transform_7 30 s33) fun s34 => F_KM_makePair_1_L2 pp i22 (F_KM_makePair_1_L1 pch pp psk n22) 3 0 s34
noncomputable def F_KM_makePair_1_L0 (pch : Nat) (pp : Nat) (psk : Nat) : Nat → Nat → Sto → Sto
  | 0, i21, s27 => F_KM_makePair_1_L1 pch pp psk 3 0 s27
  | n21 + 1, i21, s27 => bnd (F_KM_sampleNoise_2 (26 + i21) (nI i21) s27) fun s39 => bnd (F_RG_transform_7 (26 + i21) s39) fun s40 => bnd (F_BT_pack (26 + i21) 12 psk 2400 (384 * i21) s40) fun s41 => F_KM_makePair_1_L0 pch pp psk n21 (i21 + 1) s41
noncomputable def F_KM_makePair_1 (pch : Nat) (n : Nat) (pp : Nat) (psk : Nat) (s : Sto) : Sto := bnd (F_SP_start_1 14 15 s) fun s21 => bnd (F_SP_absorb 14 15 pch n 0 32 s21) fun s22 => bnd (F_SP_absorbByte 14 15 (nI 3) s22) fun s23 => bnd (F_SP_finish 14 15 s23) fun s24 => bnd (F_SP_squeeze 14 15 34 64 0 64 s24) fun s25 => bnd (sC s25 34 pp 0 1152 32) fun s26 => F_KM_makePair_1_L0 pch pp psk 3 0 s26
set_option maxHeartbeats 400000 in
set_option maxRecDepth 100000 in
theorem N_KM_makePair_1 (l : Launch) (g : Gd) (sz : Nat) (T : TyN) (s : Sto) (pl : va_W) (hO : okn g T s pl) (hU : inj T) (h0 st ch pk sk : Nat) (pch : Nat) (n : Nat) (pp : Nat) (psk : Nat) (k_h0 : T h0 = some 24) (k_st : T st = some 6) (k_ch : T ch = some pch) (n_ch : nsp pch = (1, n, [])) (k_pk : T pk = some pp) (n_pk : nsp pp = (1, 1184, [])) (k_sk : T sk = some psk) (n_sk : nsp psk = (1, 2400, [])) (h1 : 64 ≤ n) (h2 : n < 65536)  : Met l y_KM_makePair w_KM_makePair ({ frames := 4, cells := 0, slots := 0, locals := 131 } : Room) (va_Pc [.ref h0, .ref st, .ref ch, .ref pk, .ref sk] (pr (en g) g.1 vcl sz ([] ++ pl))) (va_Qv (fun (u : (Sto) × va_W) => (u.1 = F_KM_makePair_1 pch n pp psk s ∧ frm (M_KM_makePair_1 pp psk) s u.1 ∧ True) ∧ okn g T u.1 u.2) (po g.1 vcl (va_A ([] ++ pl) sz) (fun (u : (Sto) × va_W) => [] ++ u.2)) (va_A ([] ++ pl) sz)) 0 0 (va_A ([] ++ pl) sz) := by
  refine mc_entry (cc := c_KM_makePair) (maxL := 7) (ret := none) (by decide) rfl (Nat.le_of_ble_eq_true rfl) ?_
  intro p e s0 m args below meth c ls F hr hlk hnm hsz hP hD hE hA hl
  obtain ⟨hx, hb, hml, hown, hts⟩ := id F
  have hK := hE.1
  generalize va_A ([] ++ pl) sz = A at hD hE hA ⊢
  have hS : va_S A s0.heap s0.heap [] := va_S.rf
  have hl : lv_has ls 7 [(0, .ref h0), (1, .ref st), (2, .ref ch), (3, .ref pk), (4, .ref sk)] := hl
  have hR : F_KM_makePair_1 pch n pp psk s = F_KM_makePair_1 pch n pp psk s := rfl
  have hF : frm (M_KM_makePair_1 pp psk) s s := frm_rf
  refine lv_aload_n hx hb dKM_makePair_0 rfl (lv_at hl 0 rfl) ?_
  refine nw_get (C := "LatticeKeys$Kem") (TT := T_KM) (N := 10) hx hb hts (wg_ft i_KM) hown hK hO k_h0 (kn := 24) (ci := 5) (fl := [(3, 14), (3, 20), (3, 25), (3, 30), (3, 31), (3, 32), (3, 33), (3, 34), (3, 35), (3, 36)]) rfl hP rfl 0 (by decide) (hts _ (wg_t kw_107)) (fun _ h9 => h9) (cd := (3, 14)) rfl dKM_makePair_1 (fun v21 hv21 => ?_)
  obtain ⟨r21, rfl, kr21⟩ := (show ∃ r : Nat, v21 = .ref r ∧ T r = some 14 from hv21)
  refine lv_iconst (v := nI 1) hx hb dKM_makePair_4 (by decide) ?_
  refine mp_v (cx := []) (wr := []) hP hD hS hA [] [] rfl rfl rfl (by decide) (va_runV (As := [.int (nI 1)]) (rest := []) F (N_SP_start_1 l g _ T s pl hO hU r21 14 15 kr21 rfl rfl) (cwV 1 hts (wg_app (wg_c kw_578 (wg_c kw_579 (wg_c kw_580 (wg_c kw_2 wg_n)))) kw_581) rfl rfl rfl (by decide +kernel) ⟨by decide, by decide⟩) (pn_W "LatticeKeys$Sponge" (en_ok g) (ci := 3) (kn := 14) (fl := [(3, 15), (0, 0), (0, 0), (0, 0)]) hK hO kr21 rfl hP hD hS hA hE [] rfl rfl rfl) rfl rfl hl.1 rfl (lv_room (Nat.le_of_ble_eq_true rfl)) dKM_makePair_5 ⟨by omega, by omega⟩) (fun  u21 H locs hu21 hP hD hS => ?_)
  obtain ⟨s21, pl⟩ := u21
  obtain ⟨⟨eq21, hFc21, ⟨x21, hx_21, hb_21⟩, ⟨x22, hx_22, hb_22⟩, -⟩, hO⟩ := hu21
  have hO : okn g T s21 pl := hO
  have hP : va_P g.1 vcl ([] ++ pl) _ := hP
  have hD : va_D _ ([] ++ pl) := hD
  have hFc21 : frm (M_SP_start_1 14) s s21 := hFc21
  have hb_21 : x21 = 0 := hb_21
  have hb_22 : x22 = 72 := hb_22
  replace hR := bnd_step hR eq21
  have hF := frm_tr hF hFc21 (fun k hk => by unfold M_SP_start_1 at hk; unfold M_KM_makePair_1; omega)
  refine W.widen (k := 0) (n := 0) (by omega) (by omega) ?_
  refine lv_aload_n hx hb dKM_makePair_8 rfl (lv_at hl 0 rfl) ?_
  refine nw_get (C := "LatticeKeys$Kem") (TT := T_KM) (N := 10) hx hb hts (wg_ft i_KM) hown hK hO k_h0 (kn := 24) (ci := 5) (fl := [(3, 14), (3, 20), (3, 25), (3, 30), (3, 31), (3, 32), (3, 33), (3, 34), (3, 35), (3, 36)]) rfl hP rfl 0 (by decide) (hts _ (wg_t kw_107)) (fun _ h9 => h9) (cd := (3, 14)) rfl dKM_makePair_9 (fun v22 hv22 => ?_)
  obtain ⟨r22, rfl, kr22⟩ := (show ∃ r : Nat, v22 = .ref r ∧ T r = some 14 from hv22)
  refine lv_aload_n hx hb dKM_makePair_12 rfl (lv_at hl 2 rfl) ?_
  refine lv_iconst (v := nI 0) hx hb dKM_makePair_13 (by decide) ?_
  refine lv_bipush (v := nI 32) hx hb dKM_makePair_14 (by decide) ?_
  refine mp_v (cx := []) (wr := []) hP hD hS hA [] [] rfl rfl rfl (by decide) (va_runV (As := [.ref ch, .int (nI 0), .int (nI 32)]) (rest := []) F (N_SP_absorb l g _ T s21 pl hO hU r22 ch 14 15 pch n 0 32 x21 x22 kr22 rfl rfl k_ch n_ch hx_21 hx_22 (by omega) (by omega) (by omega) (by omega)) (cwV 3 hts (wg_app (wg_c kw_585 (wg_c kw_586 (wg_c kw_587 (wg_c kw_2 wg_n)))) kw_588) rfl rfl rfl (by decide +kernel) ⟨by decide, by decide⟩) (pn_W "LatticeKeys$Sponge" (en_ok g) (ci := 3) (kn := 14) (fl := [(3, 15), (0, 0), (0, 0), (0, 0)]) hK hO kr22 rfl hP hD hS hA hE [] rfl rfl rfl) rfl rfl hl.1 rfl (lv_room (Nat.le_of_ble_eq_true rfl)) dKM_makePair_16 ⟨by omega, by omega⟩) (fun  u22 H locs hu22 hP hD hS => ?_)
  obtain ⟨s22, pl⟩ := u22
  obtain ⟨⟨eq22, hFc22, ⟨x24, hx_24, hb_24⟩, ⟨x25, hx_25, hb_25⟩, -⟩, hO⟩ := hu22
  have hO : okn g T s22 pl := hO
  have hP : va_P g.1 vcl ([] ++ pl) _ := hP
  have hD : va_D _ ([] ++ pl) := hD
  have hFc22 : frm (M_SP_absorb 14) s21 s22 := hFc22
  have hb_24 : x24 < x22 := hb_24
  have hb_25 : x25 = x22 := hb_25
  replace hR := bnd_step hR eq22
  have hF := frm_tr hF hFc22 (fun k hk => by unfold M_SP_absorb at hk; unfold M_KM_makePair_1; omega)
  refine W.widen (k := 0) (n := 0) (by omega) (by omega) ?_
  refine lv_aload_n hx hb dKM_makePair_19 rfl (lv_at hl 0 rfl) ?_
  refine nw_get (C := "LatticeKeys$Kem") (TT := T_KM) (N := 10) hx hb hts (wg_ft i_KM) hown hK hO k_h0 (kn := 24) (ci := 5) (fl := [(3, 14), (3, 20), (3, 25), (3, 30), (3, 31), (3, 32), (3, 33), (3, 34), (3, 35), (3, 36)]) rfl hP rfl 0 (by decide) (hts _ (wg_t kw_107)) (fun _ h9 => h9) (cd := (3, 14)) rfl dKM_makePair_20 (fun v23 hv23 => ?_)
  obtain ⟨r23, rfl, kr23⟩ := (show ∃ r : Nat, v23 = .ref r ∧ T r = some 14 from hv23)
  refine lv_aload_n hx hb dKM_makePair_23 rfl (lv_at hl 1 rfl) ?_
  refine nw_get (C := "LatticeKeys$KemSet") (TT := T_KS) (N := 10) hx hb hts (wg_ft i_KS) hown hK hO k_st (kn := 6) (ci := 1) (fl := [(1, 3), (1, 2), (1, 10), (1, 4), (1, 1184), (1, 2400), (1, 1088), (1, 1152), (1, 2336), (1, 2368)]) rfl hP rfl 0 (by decide) (hts _ (wg_t kw_231)) (fun _ h9 => h9) (cd := (1, 3)) rfl dKM_makePair_24 (fun v24 hv24 => ?_)
  obtain rfl := (show v24 = .int (nI 3) from hv24)
  refine mp_v (cx := []) (wr := []) hP hD hS hA [] [] rfl rfl rfl (by decide) (va_runV (As := [.int (nI 3)]) (rest := []) F (N_SP_absorbByte l g _ T s22 pl hO hU r23 14 15 (nI 3) x24 x25 kr23 rfl rfl hx_24 hx_25 (by omega) (by omega)) (cwV 1 hts (wg_app (wg_c kw_609 (wg_c kw_590 (wg_c kw_591 (wg_c kw_2 wg_n)))) kw_592) rfl rfl rfl (by decide +kernel) ⟨by decide, by decide⟩) (pn_W "LatticeKeys$Sponge" (en_ok g) (ci := 3) (kn := 14) (fl := [(3, 15), (0, 0), (0, 0), (0, 0)]) hK hO kr23 rfl hP hD hS hA hE [] rfl rfl rfl) rfl rfl hl.1 rfl (lv_room (Nat.le_of_ble_eq_true rfl)) dKM_makePair_27 ⟨by omega, by omega⟩) (fun  u23 H locs hu23 hP hD hS => ?_)
  obtain ⟨s23, pl⟩ := u23
  obtain ⟨⟨eq23, hFc23, ⟨x27, hx_27, hb_27⟩, ⟨x28, hx_28, hb_28⟩, -⟩, hO⟩ := hu23
  have hO : okn g T s23 pl := hO
  have hP : va_P g.1 vcl ([] ++ pl) _ := hP
  have hD : va_D _ ([] ++ pl) := hD
  have hFc23 : frm (M_SP_absorbByte 14) s22 s23 := hFc23
  have hb_27 : x27 < x25 := hb_27
  have hb_28 : x28 = x25 := hb_28
  replace hR := bnd_step hR eq23
  have hF := frm_tr hF hFc23 (fun k hk => by unfold M_SP_absorbByte at hk; unfold M_KM_makePair_1; omega)
  refine W.widen (k := 0) (n := 0) (by omega) (by omega) ?_
  refine lv_aload_n hx hb dKM_makePair_30 rfl (lv_at hl 0 rfl) ?_
  refine nw_get (C := "LatticeKeys$Kem") (TT := T_KM) (N := 10) hx hb hts (wg_ft i_KM) hown hK hO k_h0 (kn := 24) (ci := 5) (fl := [(3, 14), (3, 20), (3, 25), (3, 30), (3, 31), (3, 32), (3, 33), (3, 34), (3, 35), (3, 36)]) rfl hP rfl 0 (by decide) (hts _ (wg_t kw_107)) (fun _ h9 => h9) (cd := (3, 14)) rfl dKM_makePair_31 (fun v25 hv25 => ?_)
  obtain ⟨r24, rfl, kr24⟩ := (show ∃ r : Nat, v25 = .ref r ∧ T r = some 14 from hv25)
  refine mp_v (cx := []) (wr := []) hP hD hS hA [] [] rfl rfl rfl (by decide) (va_runV (As := []) (rest := []) F (N_SP_finish l g _ T s23 pl hO hU r24 14 15 x27 x28 kr24 rfl rfl hx_27 hx_28 (by omega) (by omega)) (cwV 0 hts (wg_app (wg_c kw_610 (wg_c kw_611 (wg_c kw_612 (wg_c kw_2 wg_n)))) kw_613) rfl rfl rfl (by decide +kernel) ⟨by decide, by decide⟩) (pn_W "LatticeKeys$Sponge" (en_ok g) (ci := 3) (kn := 14) (fl := [(3, 15), (0, 0), (0, 0), (0, 0)]) hK hO kr24 rfl hP hD hS hA hE [] rfl rfl rfl) rfl rfl hl.1 rfl (lv_room (Nat.le_of_ble_eq_true rfl)) dKM_makePair_34 ⟨by omega, by omega⟩) (fun  u24 H locs hu24 hP hD hS => ?_)
  obtain ⟨s24, pl⟩ := u24
  obtain ⟨⟨eq24, hFc24, ⟨x30, hx_30, hb_30⟩, ⟨x31, hx_31, hb_31⟩, -⟩, hO⟩ := hu24
  have hO : okn g T s24 pl := hO
  have hP : va_P g.1 vcl ([] ++ pl) _ := hP
  have hD : va_D _ ([] ++ pl) := hD
  have hFc24 : frm (M_SP_finish 14) s23 s24 := hFc24
  have hb_30 : x30 = x28 := hb_30
  have hb_31 : x31 = x28 := hb_31
  replace hR := bnd_step hR eq24
  have hF := frm_tr hF hFc24 (fun k hk => by unfold M_SP_finish at hk; unfold M_KM_makePair_1; omega)
  refine W.widen (k := 0) (n := 0) (by omega) (by omega) ?_
  refine lv_aload_n hx hb dKM_makePair_37 rfl (lv_at hl 0 rfl) ?_
  refine nw_get (C := "LatticeKeys$Kem") (TT := T_KM) (N := 10) hx hb hts (wg_ft i_KM) hown hK hO k_h0 (kn := 24) (ci := 5) (fl := [(3, 14), (3, 20), (3, 25), (3, 30), (3, 31), (3, 32), (3, 33), (3, 34), (3, 35), (3, 36)]) rfl hP rfl 0 (by decide) (hts _ (wg_t kw_107)) (fun _ h9 => h9) (cd := (3, 14)) rfl dKM_makePair_38 (fun v26 hv26 => ?_)
  obtain ⟨r25, rfl, kr25⟩ := (show ∃ r : Nat, v26 = .ref r ∧ T r = some 14 from hv26)
  refine lv_aload_n hx hb dKM_makePair_41 rfl (lv_at hl 0 rfl) ?_
  refine nw_get (C := "LatticeKeys$Kem") (TT := T_KM) (N := 10) hx hb hts (wg_ft i_KM) hown hK hO k_h0 (kn := 24) (ci := 5) (fl := [(3, 14), (3, 20), (3, 25), (3, 30), (3, 31), (3, 32), (3, 33), (3, 34), (3, 35), (3, 36)]) rfl hP rfl 7 (by decide) (hts _ (wg_t kw_114)) (fun _ h9 => h9) (cd := (3, 34)) rfl dKM_makePair_42 (fun v27 hv27 => ?_)
  obtain ⟨r26, rfl, kr26⟩ := (show ∃ r : Nat, v27 = .ref r ∧ T r = some 34 from hv27)
  refine lv_iconst (v := nI 0) hx hb dKM_makePair_45 (by decide) ?_
  refine lv_bipush (v := nI 64) hx hb dKM_makePair_46 (by decide) ?_
  refine mp_v (cx := []) (wr := []) hP hD hS hA [] [] rfl rfl rfl (by decide) (va_runV (As := [.ref r26, .int (nI 0), .int (nI 64)]) (rest := []) F (N_SP_squeeze l g _ T s24 pl hO hU r25 r26 14 15 34 64 0 64 x30 x31 kr25 rfl rfl kr26 rfl hx_30 hx_31 (by omega) (by omega) (by omega) (by omega)) (cwV 3 hts (wg_app (wg_c kw_614 (wg_c kw_615 (wg_c kw_616 (wg_c kw_2 wg_n)))) kw_617) rfl rfl rfl (by decide +kernel) ⟨by decide, by decide⟩) (pn_W "LatticeKeys$Sponge" (en_ok g) (ci := 3) (kn := 14) (fl := [(3, 15), (0, 0), (0, 0), (0, 0)]) hK hO kr25 rfl hP hD hS hA hE [] rfl rfl rfl) rfl rfl hl.1 rfl (lv_room (Nat.le_of_ble_eq_true rfl)) dKM_makePair_48 ⟨by omega, by omega⟩) (fun  u25 H locs hu25 hP hD hS => ?_)
  obtain ⟨s25, pl⟩ := u25
  obtain ⟨⟨eq25, hFc25, ⟨x33, hx_33, hb_33⟩, ⟨x34, hx_34, hb_34⟩, -⟩, hO⟩ := hu25
  have hO : okn g T s25 pl := hO
  have hP : va_P g.1 vcl ([] ++ pl) _ := hP
  have hD : va_D _ ([] ++ pl) := hD
  have hFc25 : frm (M_SP_squeeze 14 34) s24 s25 := hFc25
  have hb_33 : x33 ≤ x31 := hb_33
  have hb_34 : x34 = x31 := hb_34
  replace hR := bnd_step hR eq25
  have hF := frm_tr hF hFc25 (fun k hk => by unfold M_SP_squeeze at hk; unfold M_KM_makePair_1; omega)
  refine W.widen (k := 0) (n := 0) (by omega) (by omega) ?_
  refine lv_aload_n hx hb dKM_makePair_51 rfl (lv_at hl 0 rfl) ?_
  refine nw_get (C := "LatticeKeys$Kem") (TT := T_KM) (N := 10) hx hb hts (wg_ft i_KM) hown hK hO k_h0 (kn := 24) (ci := 5) (fl := [(3, 14), (3, 20), (3, 25), (3, 30), (3, 31), (3, 32), (3, 33), (3, 34), (3, 35), (3, 36)]) rfl hP rfl 7 (by decide) (hts _ (wg_t kw_114)) (fun _ h9 => h9) (cd := (3, 34)) rfl dKM_makePair_52 (fun v28 hv28 => ?_)
  obtain ⟨r27, rfl, kr27⟩ := (show ∃ r : Nat, v28 = .ref r ∧ T r = some 34 from hv28)
  refine lv_iconst (v := nI 0) hx hb dKM_makePair_55 (by decide) ?_
  refine lv_aload_n hx hb dKM_makePair_56 rfl (lv_at hl 3 rfl) ?_
  refine lv_aload_n hx hb dKM_makePair_57 rfl (lv_at hl 1 rfl) ?_
  refine nw_get (C := "LatticeKeys$KemSet") (TT := T_KS) (N := 10) hx hb hts (wg_ft i_KS) hown hK hO k_st (kn := 6) (ci := 1) (fl := [(1, 3), (1, 2), (1, 10), (1, 4), (1, 1184), (1, 2400), (1, 1088), (1, 1152), (1, 2336), (1, 2368)]) rfl hP rfl 4 (by decide) (hts _ (wg_t kw_239)) (fun _ h9 => h9) (cd := (1, 1184)) rfl dKM_makePair_58 (fun v29 hv29 => ?_)
  obtain rfl := (show v29 = .int (nI 1184) from hv29)
  refine lv_bipush (v := nI 32) hx hb dKM_makePair_61 (by decide) ?_
  refine mi_isub hx hb dKM_makePair_63 (by omega) ?_
  refine mi_as (show nI (1184 - 32) = nI 1152 from rfl) ?_
  refine lv_bipush (v := nI 32) hx hb dKM_makePair_64 (by decide) ?_
  refine nw_copyb hx hb (hml.trans hl.1.symm) hown (hts _ (wg_t kw_622)) (hts _ (wg_t kw_526)) (hts _ (wg_t kw_525)) (hts _ (wg_t kw_19)) hK hO hU kr27 (k0 := 34) rfl k_pk (k1 := pp) n_pk hP hD hS (sp := 0) (dp := 1152) (n := 32) (by omega) (by omega) (by omega) (by decide) (Nat.le_of_ble_eq_true rfl) dKM_makePair_66 (fun s26 pl H locs es21 hO hP hD hS => ?_)
  replace hR := bnd_step hR es21
  have hF := frm_sC hF es21 (by unfold M_KM_makePair_1; omega)
  refine lv_iconst (v := nI 0) hx hb dKM_makePair_69 (by decide) ?_
  refine lv_istore (lv' := [(5, .int (nI 0)), (0, .ref h0), (1, .ref st), (2, .ref ch), (3, .ref pk), (4, .ref sk)]) hx hb dKM_makePair_70 hl (by decide) rfl (fun ls hl => ?_)
  have lp21 : ∀ (n21 : Nat) (i21 : Nat) (s27 : Sto) (pl : va_W) (ls : Array Slot) (H : Heap) (locs : List Loc), n21 + i21 = 3 → frm (M_KM_makePair_1 pp psk) s s27 → F_KM_makePair_1 pch n pp psk s = F_KM_makePair_1_L0 pch pp psk n21 i21 s27 → lv_has ls 7 [(5, .int (nI i21)), (0, .ref h0), (1, .ref st), (2, .ref ch), (3, .ref pk), (4, .ref sk)] → okn g T s27 pl → va_P g.1 vcl ([] ++ pl) H → va_D A ([] ++ pl) → va_S A s0.heap H locs → W p l e ({ frames := 4, cells := 0, slots := 0, locals := 131 } : Room) s0 m args below meth c H locs 0 0 (MQ below (va_Qv (fun (u : (Sto) × va_W) => (u.1 = F_KM_makePair_1 pch n pp psk s ∧ frm (M_KM_makePair_1 pp psk) s u.1 ∧ True) ∧ okn g T u.1 u.2) (po g.1 vcl A (fun (u : (Sto) × va_W) => [] ++ u.2)) A) args s0 0 0 A) (F0 m 72 ls []) := by
    intro n21
    induction n21 with
    | zero =>
      intro i21 s27 pl ls H locs hm21 hF hR hl hO hP hD hS
      refine lv_iload hx hb dKM_makePair_72 (lv_at hl 0 rfl) ?_
      refine lv_aload_n hx hb dKM_makePair_74 rfl (lv_at hl 2 rfl) ?_
      refine nw_get (C := "LatticeKeys$KemSet") (TT := T_KS) (N := 10) hx hb hts (wg_ft i_KS) hown hK hO k_st (kn := 6) (ci := 1) (fl := [(1, 3), (1, 2), (1, 10), (1, 4), (1, 1184), (1, 2400), (1, 1088), (1, 1152), (1, 2336), (1, 2368)]) rfl hP rfl 0 (by decide) (hts _ (wg_t kw_231)) (fun _ h9 => h9) (cd := (1, 3)) rfl dKM_makePair_75 (fun v30 hv30 => ?_)
      obtain rfl := (show v30 = .int (nI 3) from hv30)
      refine mi_ge (tgt := 138) hx hb dKM_makePair_78 (by decide) (by omega) (by omega) (fun h21 => ?_) (fun h21 => absurd h21 (by omega))
      refine lv_iconst (v := nI 0) hx hb dKM_makePair_138 (by decide) ?_
      refine lv_istore (lv' := [(5, .int (nI 0)), (0, .ref h0), (1, .ref st), (2, .ref ch), (3, .ref pk), (4, .ref sk)]) hx hb dKM_makePair_139 hl (by decide) rfl (fun ls hl => ?_)
      have lp22 : ∀ (n22 : Nat) (i22 : Nat) (s28 : Sto) (pl : va_W) (ls : Array Slot) (H : Heap) (locs : List Loc), n22 + i22 = 3 → frm (M_KM_makePair_1 pp psk) s s28 → F_KM_makePair_1 pch n pp psk s = F_KM_makePair_1_L1 pch pp psk n22 i22 s28 → lv_has ls 7 [(5, .int (nI i22)), (0, .ref h0), (1, .ref st), (2, .ref ch), (3, .ref pk), (4, .ref sk)] → okn g T s28 pl → va_P g.1 vcl ([] ++ pl) H → va_D A ([] ++ pl) → va_S A s0.heap H locs → W p l e ({ frames := 4, cells := 0, slots := 0, locals := 131 } : Room) s0 m args below meth c H locs 0 0 (MQ below (va_Qv (fun (u : (Sto) × va_W) => (u.1 = F_KM_makePair_1 pch n pp psk s ∧ frm (M_KM_makePair_1 pp psk) s u.1 ∧ True) ∧ okn g T u.1 u.2) (po g.1 vcl A (fun (u : (Sto) × va_W) => [] ++ u.2)) A) args s0 0 0 A) (F0 m 141 ls []) := by
        intro n22
        induction n22 with
        | zero =>
          intro i22 s28 pl ls H locs hm22 hF hR hl hO hP hD hS
          refine lv_iload hx hb dKM_makePair_141 (lv_at hl 0 rfl) ?_
          refine lv_aload_n hx hb dKM_makePair_143 rfl (lv_at hl 2 rfl) ?_
          refine nw_get (C := "LatticeKeys$KemSet") (TT := T_KS) (N := 10) hx hb hts (wg_ft i_KS) hown hK hO k_st (kn := 6) (ci := 1) (fl := [(1, 3), (1, 2), (1, 10), (1, 4), (1, 1184), (1, 2400), (1, 1088), (1, 1152), (1, 2336), (1, 2368)]) rfl hP rfl 0 (by decide) (hts _ (wg_t kw_231)) (fun _ h9 => h9) (cd := (1, 3)) rfl dKM_makePair_144 (fun v31 hv31 => ?_)
          obtain rfl := (show v31 = .int (nI 3) from hv31)
          refine mi_ge (tgt := 258) hx hb dKM_makePair_147 (by decide) (by omega) (by omega) (fun h22 => ?_) (fun h22 => absurd h22 (by omega))
          refine lv_aload_n hx hb dKM_makePair_258 rfl (lv_at hl 4 rfl) ?_
          refine lv_iconst (v := nI 0) hx hb dKM_makePair_259 (by decide) ?_
          refine lv_aload hx hb dKM_makePair_260 (lv_at hl 5 rfl) ?_
          refine lv_aload_n hx hb dKM_makePair_262 rfl (lv_at hl 2 rfl) ?_
          refine nw_get (C := "LatticeKeys$KemSet") (TT := T_KS) (N := 10) hx hb hts (wg_ft i_KS) hown hK hO k_st (kn := 6) (ci := 1) (fl := [(1, 3), (1, 2), (1, 10), (1, 4), (1, 1184), (1, 2400), (1, 1088), (1, 1152), (1, 2336), (1, 2368)]) rfl hP rfl 7 (by decide) (hts _ (wg_t kw_247)) (fun _ h9 => h9) (cd := (1, 1152)) rfl dKM_makePair_263 (fun v32 hv32 => ?_)
          obtain rfl := (show v32 = .int (nI 1152) from hv32)
          refine lv_aload_n hx hb dKM_makePair_266 rfl (lv_at hl 2 rfl) ?_
          refine nw_get (C := "LatticeKeys$KemSet") (TT := T_KS) (N := 10) hx hb hts (wg_ft i_KS) hown hK hO k_st (kn := 6) (ci := 1) (fl := [(1, 3), (1, 2), (1, 10), (1, 4), (1, 1184), (1, 2400), (1, 1088), (1, 1152), (1, 2336), (1, 2368)]) rfl hP rfl 4 (by decide) (hts _ (wg_t kw_239)) (fun _ h9 => h9) (cd := (1, 1184)) rfl dKM_makePair_267 (fun v33 hv33 => ?_)
          obtain rfl := (show v33 = .int (nI 1184) from hv33)
          refine nw_copyb hx hb (hml.trans hl.1.symm) hown (hts _ (wg_t kw_622)) (hts _ (wg_t kw_526)) (hts _ (wg_t kw_525)) (hts _ (wg_t kw_19)) hK hO hU k_pk (k0 := pp) n_pk k_sk (k1 := psk) n_sk hP hD hS (sp := 0) (dp := 1152) (n := 1184) (by omega) (by omega) (by omega) (by decide) (Nat.le_of_ble_eq_true rfl) dKM_makePair_270 (fun s29 pl H locs es22 hO hP hD hS => ?_)
          replace hR := bnd_step hR es22
          have hF := frm_sC hF es22 (by unfold M_KM_makePair_1; omega)
          refine lv_aload_n hx hb dKM_makePair_273 rfl (lv_at hl 1 rfl) ?_
          refine lv_aload_n hx hb dKM_makePair_274 rfl (lv_at hl 4 rfl) ?_
          refine lv_iconst (v := nI 0) hx hb dKM_makePair_275 (by decide) ?_
          refine lv_aload_n hx hb dKM_makePair_276 rfl (lv_at hl 2 rfl) ?_
          refine nw_get (C := "LatticeKeys$KemSet") (TT := T_KS) (N := 10) hx hb hts (wg_ft i_KS) hown hK hO k_st (kn := 6) (ci := 1) (fl := [(1, 3), (1, 2), (1, 10), (1, 4), (1, 1184), (1, 2400), (1, 1088), (1, 1152), (1, 2336), (1, 2368)]) rfl hP rfl 4 (by decide) (hts _ (wg_t kw_239)) (fun _ h9 => h9) (cd := (1, 1184)) rfl dKM_makePair_277 (fun v34 hv34 => ?_)
          obtain rfl := (show v34 = .int (nI 1184) from hv34)
          refine mp_v (cx := []) (wr := []) hP hD hS hA [] [] rfl rfl rfl (by decide) (va_runV (As := [.ref pk, .int (nI 0), .int (nI 1184)]) (rest := []) F (N_KM_digestOf l g _ T s29 pl hO hU h0 pk pp 1184 0 1184 k_h0 k_pk n_pk (by omega) (by omega)) (cwV 3 hts (wg_app (wg_c kw_661 (wg_c kw_663 (wg_c ks_10 (wg_c kw_3 wg_n)))) kw_664) rfl rfl rfl (by decide +kernel) ⟨by decide, by decide⟩) (pn_W "LatticeKeys$Kem" (en_ok g) (ci := 5) (kn := 24) (fl := [(3, 14), (3, 20), (3, 25), (3, 30), (3, 31), (3, 32), (3, 33), (3, 34), (3, 35), (3, 36)]) hK hO k_h0 rfl hP hD hS hA hE [] rfl rfl rfl) rfl rfl hl.1 rfl (lv_room (Nat.le_of_ble_eq_true rfl)) dKM_makePair_280 ⟨by omega, by omega⟩) (fun  u26 H locs hu26 hP hD hS => ?_)
          obtain ⟨s30, pl⟩ := u26
          obtain ⟨⟨eq26, hFc26, -⟩, hO⟩ := hu26
          have hO : okn g T s30 pl := hO
          have hP : va_P g.1 vcl ([] ++ pl) _ := hP
          have hD : va_D _ ([] ++ pl) := hD
          have hFc26 : frm (M_KM_digestOf) s29 s30 := hFc26
          replace hR := bnd_step hR eq26
          have hF := frm_tr hF hFc26 (fun k hk => by unfold M_KM_digestOf at hk; unfold M_KM_makePair_1; omega)
          refine W.widen (k := 0) (n := 0) (by omega) (by omega) ?_
          refine lv_aload_n hx hb dKM_makePair_283 rfl (lv_at hl 1 rfl) ?_
          refine nw_get (C := "LatticeKeys$Kem") (TT := T_KM) (N := 10) hx hb hts (wg_ft i_KM) hown hK hO k_h0 (kn := 24) (ci := 5) (fl := [(3, 14), (3, 20), (3, 25), (3, 30), (3, 31), (3, 32), (3, 33), (3, 34), (3, 35), (3, 36)]) rfl hP rfl 6 (by decide) (hts _ (wg_t kw_113)) (fun _ h9 => h9) (cd := (3, 33)) rfl dKM_makePair_284 (fun v35 hv35 => ?_)
          obtain ⟨r28, rfl, kr28⟩ := (show ∃ r : Nat, v35 = .ref r ∧ T r = some 33 from hv35)
          refine lv_iconst (v := nI 0) hx hb dKM_makePair_287 (by decide) ?_
          refine lv_aload hx hb dKM_makePair_288 (lv_at hl 5 rfl) ?_
          refine lv_aload_n hx hb dKM_makePair_290 rfl (lv_at hl 2 rfl) ?_
          refine nw_get (C := "LatticeKeys$KemSet") (TT := T_KS) (N := 10) hx hb hts (wg_ft i_KS) hown hK hO k_st (kn := 6) (ci := 1) (fl := [(1, 3), (1, 2), (1, 10), (1, 4), (1, 1184), (1, 2400), (1, 1088), (1, 1152), (1, 2336), (1, 2368)]) rfl hP rfl 8 (by decide) (hts _ (wg_t kw_250)) (fun _ h9 => h9) (cd := (1, 2336)) rfl dKM_makePair_291 (fun v36 hv36 => ?_)
          obtain rfl := (show v36 = .int (nI 2336) from hv36)
          refine lv_bipush (v := nI 32) hx hb dKM_makePair_294 (by decide) ?_
          refine nw_copyb hx hb (hml.trans hl.1.symm) hown (hts _ (wg_t kw_622)) (hts _ (wg_t kw_526)) (hts _ (wg_t kw_525)) (hts _ (wg_t kw_19)) hK hO hU kr28 (k0 := 33) rfl k_sk (k1 := psk) n_sk hP hD hS (sp := 0) (dp := 2336) (n := 32) (by omega) (by omega) (by omega) (by decide) (Nat.le_of_ble_eq_true rfl) dKM_makePair_296 (fun s31 pl H locs es23 hO hP hD hS => ?_)
          replace hR := bnd_step hR es23
          have hF := frm_sC hF es23 (by unfold M_KM_makePair_1; omega)
          refine lv_aload_n hx hb dKM_makePair_299 rfl (lv_at hl 3 rfl) ?_
          refine lv_bipush (v := nI 32) hx hb dKM_makePair_300 (by decide) ?_
          refine lv_aload hx hb dKM_makePair_302 (lv_at hl 5 rfl) ?_
          refine lv_aload_n hx hb dKM_makePair_304 rfl (lv_at hl 2 rfl) ?_
          refine nw_get (C := "LatticeKeys$KemSet") (TT := T_KS) (N := 10) hx hb hts (wg_ft i_KS) hown hK hO k_st (kn := 6) (ci := 1) (fl := [(1, 3), (1, 2), (1, 10), (1, 4), (1, 1184), (1, 2400), (1, 1088), (1, 1152), (1, 2336), (1, 2368)]) rfl hP rfl 9 (by decide) (hts _ (wg_t kw_252)) (fun _ h9 => h9) (cd := (1, 2368)) rfl dKM_makePair_305 (fun v37 hv37 => ?_)
          obtain rfl := (show v37 = .int (nI 2368) from hv37)
          refine lv_bipush (v := nI 32) hx hb dKM_makePair_308 (by decide) ?_
          refine nw_copyb hx hb (hml.trans hl.1.symm) hown (hts _ (wg_t kw_622)) (hts _ (wg_t kw_526)) (hts _ (wg_t kw_525)) (hts _ (wg_t kw_19)) hK hO hU k_ch (k0 := pch) n_ch k_sk (k1 := psk) n_sk hP hD hS (sp := 32) (dp := 2368) (n := 32) (by omega) (by omega) (by omega) (by decide) (Nat.le_of_ble_eq_true rfl) dKM_makePair_310 (fun s32 pl H locs es24 hO hP hD hS => ?_)
          replace hR := bnd_step hR es24
          have hF := frm_sC hF es24 (by unfold M_KM_makePair_1; omega)
          exact mp_vret hx hb hr hlk hP hD hS (s32, pl) ⟨⟨hR.symm, hF, trivial⟩, hO⟩ [] rfl rfl rfl (by omega) (by omega) dKM_makePair_313
        | succ n22 ih22 =>
          intro i22 s28 pl ls H locs hm22 hF hR hl hO hP hD hS
          refine lv_iload hx hb dKM_makePair_141 (lv_at hl 0 rfl) ?_
          refine lv_aload_n hx hb dKM_makePair_143 rfl (lv_at hl 2 rfl) ?_
          refine nw_get (C := "LatticeKeys$KemSet") (TT := T_KS) (N := 10) hx hb hts (wg_ft i_KS) hown hK hO k_st (kn := 6) (ci := 1) (fl := [(1, 3), (1, 2), (1, 10), (1, 4), (1, 1184), (1, 2400), (1, 1088), (1, 1152), (1, 2336), (1, 2368)]) rfl hP rfl 0 (by decide) (hts _ (wg_t kw_231)) (fun _ h9 => h9) (cd := (1, 3)) rfl dKM_makePair_144 (fun v38 hv38 => ?_)
          obtain rfl := (show v38 = .int (nI 3) from hv38)
          refine mi_ge (tgt := 258) hx hb dKM_makePair_147 (by decide) (by omega) (by omega) (fun h23 => absurd h23 (by omega)) (fun h23 => ?_)
          refine lv_aload_n hx hb dKM_makePair_150 rfl (lv_at hl 1 rfl) ?_
          refine lv_aload_n hx hb dKM_makePair_151 rfl (lv_at hl 1 rfl) ?_
          refine nw_get (C := "LatticeKeys$Kem") (TT := T_KM) (N := 10) hx hb hts (wg_ft i_KM) hown hK hO k_h0 (kn := 24) (ci := 5) (fl := [(3, 14), (3, 20), (3, 25), (3, 30), (3, 31), (3, 32), (3, 33), (3, 34), (3, 35), (3, 36)]) rfl hP rfl 3 (by decide) (hts _ (wg_t kw_110)) (fun _ h9 => h9) (cd := (3, 30)) rfl dKM_makePair_152 (fun v39 hv39 => ?_)
          obtain ⟨r29, rfl, kr29⟩ := (show ∃ r : Nat, v39 = .ref r ∧ T r = some 30 from hv39)
          refine lv_aload_n hx hb dKM_makePair_155 rfl (lv_at hl 2 rfl) ?_
          refine nw_get (C := "LatticeKeys$KemSet") (TT := T_KS) (N := 10) hx hb hts (wg_ft i_KS) hown hK hO k_st (kn := 6) (ci := 1) (fl := [(1, 3), (1, 2), (1, 10), (1, 4), (1, 1184), (1, 2400), (1, 1088), (1, 1152), (1, 2336), (1, 2368)]) rfl hP rfl 1 (by decide) (hts _ (wg_t kw_233)) (fun _ h9 => h9) (cd := (1, 2)) rfl dKM_makePair_156 (fun v40 hv40 => ?_)
          obtain rfl := (show v40 = .int (nI 2) from hv40)
          refine lv_aload_n hx hb dKM_makePair_159 rfl (lv_at hl 2 rfl) ?_
          refine nw_get (C := "LatticeKeys$KemSet") (TT := T_KS) (N := 10) hx hb hts (wg_ft i_KS) hown hK hO k_st (kn := 6) (ci := 1) (fl := [(1, 3), (1, 2), (1, 10), (1, 4), (1, 1184), (1, 2400), (1, 1088), (1, 1152), (1, 2336), (1, 2368)]) rfl hP rfl 0 (by decide) (hts _ (wg_t kw_231)) (fun _ h9 => h9) (cd := (1, 3)) rfl dKM_makePair_160 (fun v41 hv41 => ?_)
          obtain rfl := (show v41 = .int (nI 3) from hv41)
          refine lv_iload hx hb dKM_makePair_163 (lv_at hl 0 rfl) ?_
          refine mi_iadd hx hb dKM_makePair_165 ?_
          refine mp_v (cx := []) (wr := []) hP hD hS hA [] [] rfl rfl rfl (by decide) (va_runV (As := [.ref r29, .int (nI 2), .int (nI (3 + i22))]) (rest := []) F (N_KM_sampleNoise_2 l g _ T s28 pl hO hU h0 r29 30 (nI (3 + i22)) k_h0 kr29 rfl) (cwV 3 hts (wg_app (wg_c kw_623 (wg_c kw_625 (wg_c ks_6 (wg_c kw_3 wg_n)))) kw_626) rfl rfl rfl (by decide +kernel) ⟨by decide, by decide⟩) (pn_W "LatticeKeys$Kem" (en_ok g) (ci := 5) (kn := 24) (fl := [(3, 14), (3, 20), (3, 25), (3, 30), (3, 31), (3, 32), (3, 33), (3, 34), (3, 35), (3, 36)]) hK hO k_h0 rfl hP hD hS hA hE [] rfl rfl rfl) rfl rfl hl.1 rfl (lv_room (Nat.le_of_ble_eq_true rfl)) dKM_makePair_166 ⟨by omega, by omega⟩) (fun  u27 H locs hu27 hP hD hS => ?_)
          obtain ⟨s33, pl⟩ := u27
          obtain ⟨⟨eq27, hFc27, -⟩, hO⟩ := hu27
          have hO : okn g T s33 pl := hO
          have hP : va_P g.1 vcl ([] ++ pl) _ := hP
          have hD : va_D _ ([] ++ pl) := hD
          have hFc27 : frm (M_KM_sampleNoise_2 30) s28 s33 := hFc27
          replace hR := bnd_step hR eq27
          have hF := frm_tr hF hFc27 (fun k hk => by unfold M_KM_sampleNoise_2 at hk; unfold M_KM_makePair_1; omega)
          refine W.widen (k := 0) (n := 0) (by omega) (by omega) ?_
          refine lv_aload_n hx hb dKM_makePair_169 rfl (lv_at hl 1 rfl) ?_
          refine nw_get (C := "LatticeKeys$Kem") (TT := T_KM) (N := 10) hx hb hts (wg_ft i_KM) hown hK hO k_h0 (kn := 24) (ci := 5) (fl := [(3, 14), (3, 20), (3, 25), (3, 30), (3, 31), (3, 32), (3, 33), (3, 34), (3, 35), (3, 36)]) rfl hP rfl 1 (by decide) (hts _ (wg_t kw_108)) (fun _ h9 => h9) (cd := (3, 20)) rfl dKM_makePair_170 (fun v42 hv42 => ?_)
          obtain ⟨r30, rfl, kr30⟩ := (show ∃ r : Nat, v42 = .ref r ∧ T r = some 20 from hv42)
          refine lv_aload_n hx hb dKM_makePair_173 rfl (lv_at hl 1 rfl) ?_
          refine nw_get (C := "LatticeKeys$Kem") (TT := T_KM) (N := 10) hx hb hts (wg_ft i_KM) hown hK hO k_h0 (kn := 24) (ci := 5) (fl := [(3, 14), (3, 20), (3, 25), (3, 30), (3, 31), (3, 32), (3, 33), (3, 34), (3, 35), (3, 36)]) rfl hP rfl 3 (by decide) (hts _ (wg_t kw_110)) (fun _ h9 => h9) (cd := (3, 30)) rfl dKM_makePair_174 (fun v43 hv43 => ?_)
          obtain ⟨r31, rfl, kr31⟩ := (show ∃ r : Nat, v43 = .ref r ∧ T r = some 30 from hv43)
          refine mp_v (cx := []) (wr := []) hP hD hS hA [] [] rfl rfl rfl (by decide) (va_runV (As := [.ref r31]) (rest := []) F (N_RG_transform_7 l g _ T s33 pl hO hU r30 r31 30 kr30 kr31 rfl) (cwV 1 hts (wg_app (wg_c kw_636 (wg_c kw_637 (wg_c kw_638 (wg_c kw_4 wg_n)))) kw_639) rfl rfl rfl (by decide +kernel) ⟨by decide, by decide⟩) (pn_W "LatticeKeys$Ring" (en_ok g) (ci := 4) (kn := 20) (fl := [(1, 3329), (1, 7), (1, 3303), (3, 21)]) hK hO kr30 rfl hP hD hS hA hE [] rfl rfl rfl) rfl rfl hl.1 rfl (lv_room (Nat.le_of_ble_eq_true rfl)) dKM_makePair_177 ⟨by omega, by omega⟩) (fun  u28 H locs hu28 hP hD hS => ?_)
          obtain ⟨s34, pl⟩ := u28
          obtain ⟨⟨eq28, hFc28, -⟩, hO⟩ := hu28
          have hO : okn g T s34 pl := hO
          have hP : va_P g.1 vcl ([] ++ pl) _ := hP
          have hD : va_D _ ([] ++ pl) := hD
          have hFc28 : frm (M_RG_transform_7 30) s33 s34 := hFc28
          replace hR := bnd_step hR eq28
          have hF := frm_tr hF hFc28 (fun k hk => by unfold M_RG_transform_7 at hk; unfold M_KM_makePair_1; omega)
          refine W.widen (k := 0) (n := 0) (by omega) (by omega) ?_
          refine lv_iconst (v := nI 0) hx hb dKM_makePair_180 (by decide) ?_
          refine lv_istore (lv' := [(6, .int (nI 0)), (5, .int (nI i22)), (0, .ref h0), (1, .ref st), (2, .ref ch), (3, .ref pk), (4, .ref sk)]) hx hb dKM_makePair_181 hl (by decide) rfl (fun ls hl => ?_)
          have lp23 : ∀ (n23 : Nat) (i23 : Nat) (s35 : Sto) (pl : va_W) (ls : Array Slot) (H : Heap) (locs : List Loc), n23 + i23 = 3 → frm (M_KM_makePair_1 pp psk) s s35 → F_KM_makePair_1 pch n pp psk s = F_KM_makePair_1_L2 pp i22 (F_KM_makePair_1_L1 pch pp psk n22) n23 i23 s35 → lv_has ls 7 [(6, .int (nI i23)), (5, .int (nI i22)), (0, .ref h0), (1, .ref st), (2, .ref ch), (3, .ref pk), (4, .ref sk)] → okn g T s35 pl → va_P g.1 vcl ([] ++ pl) H → va_D A ([] ++ pl) → va_S A s0.heap H locs → W p l e ({ frames := 4, cells := 0, slots := 0, locals := 131 } : Room) s0 m args below meth c H locs 0 0 (MQ below (va_Qv (fun (u : (Sto) × va_W) => (u.1 = F_KM_makePair_1 pch n pp psk s ∧ frm (M_KM_makePair_1 pp psk) s u.1 ∧ True) ∧ okn g T u.1 u.2) (po g.1 vcl A (fun (u : (Sto) × va_W) => [] ++ u.2)) A) args s0 0 0 A) (F0 m 183 ls []) := by
            intro n23
            induction n23 with
            | zero =>
              intro i23 s35 pl ls H locs hm23 hF hR hl hO hP hD hS
              refine lv_iload hx hb dKM_makePair_183 (lv_at hl 0 rfl) ?_
              refine lv_aload_n hx hb dKM_makePair_185 rfl (lv_at hl 3 rfl) ?_
              refine nw_get (C := "LatticeKeys$KemSet") (TT := T_KS) (N := 10) hx hb hts (wg_ft i_KS) hown hK hO k_st (kn := 6) (ci := 1) (fl := [(1, 3), (1, 2), (1, 10), (1, 4), (1, 1184), (1, 2400), (1, 1088), (1, 1152), (1, 2336), (1, 2368)]) rfl hP rfl 0 (by decide) (hts _ (wg_t kw_231)) (fun _ h9 => h9) (cd := (1, 3)) rfl dKM_makePair_186 (fun v44 hv44 => ?_)
              obtain rfl := (show v44 = .int (nI 3) from hv44)
              refine mi_ge (tgt := 236) hx hb dKM_makePair_189 (by decide) (by omega) (by omega) (fun h24 => ?_) (fun h24 => absurd h24 (by omega))
              refine lv_aload_n hx hb dKM_makePair_236 rfl (lv_at hl 2 rfl) ?_
              refine nw_get (C := "LatticeKeys$Kem") (TT := T_KM) (N := 10) hx hb hts (wg_ft i_KM) hown hK hO k_h0 (kn := 24) (ci := 5) (fl := [(3, 14), (3, 20), (3, 25), (3, 30), (3, 31), (3, 32), (3, 33), (3, 34), (3, 35), (3, 36)]) rfl hP rfl 3 (by decide) (hts _ (wg_t kw_110)) (fun _ h9 => h9) (cd := (3, 30)) rfl dKM_makePair_237 (fun v45 hv45 => ?_)
              obtain ⟨r32, rfl, kr32⟩ := (show ∃ r : Nat, v45 = .ref r ∧ T r = some 30 from hv45)
              refine lv_bipush (v := nI 12) hx hb dKM_makePair_240 (by decide) ?_
              refine lv_aload_n hx hb dKM_makePair_242 rfl (lv_at hl 5 rfl) ?_
              refine lv_sipush (v := nI 384) hx hb dKM_makePair_243 (by decide) ?_
              refine lv_iload hx hb dKM_makePair_246 (lv_at hl 1 rfl) ?_
              refine mi_imul hx hb dKM_makePair_248 ?_
              refine mp_v (cx := []) (wr := []) hP hD hS hA [] [] rfl rfl rfl (by decide) (va_runS (As := [.ref r32, .int (nI 12), .ref pk, .int (nI (384 * i22))]) (rest := []) F (N_BT_pack l g _ T s35 pl hO hU r32 pk 30 12 pp 1184 (384 * i22) kr32 rfl k_pk n_pk (by omega) (by omega) (by omega)) (va_cwS 4 hts (wg_app (wg_c kw_644 (wg_c kw_645 (wg_c kw_22 wg_n))) kw_646) rfl rfl rfl (by decide +kernel) ⟨by decide, by decide⟩) (pp_S (en_ok g) hP hD hS hA hE [] rfl rfl) rfl rfl hl.1 rfl (lv_room (Nat.le_of_ble_eq_true rfl)) dKM_makePair_249 ⟨by omega, by omega⟩) (fun  u29 H locs hu29 hP hD hS => ?_)
              obtain ⟨s36, pl⟩ := u29
              obtain ⟨⟨eq29, hFc29, -⟩, hO⟩ := hu29
              have hO : okn g T s36 pl := hO
              have hP : va_P g.1 vcl ([] ++ pl) _ := hP
              have hD : va_D _ ([] ++ pl) := hD
              have hFc29 : frm (M_BT_pack pp) s35 s36 := hFc29
              replace hR := bnd_step hR eq29
              have hF := frm_tr hF hFc29 (fun k hk => by unfold M_BT_pack at hk; unfold M_KM_makePair_1; omega)
              refine W.widen (k := 0) (n := 0) (by omega) (by omega) ?_
              refine mi_iinc (k := 1) (x := i22) (d := 1) (y := i22 + 1) (lv' := [(5, .int (nI (i22 + 1))), (6, .int (nI i23)), (0, .ref h0), (1, .ref st), (2, .ref ch), (3, .ref pk), (4, .ref sk)]) hx hb dKM_makePair_252 hl rfl (by decide) rfl (by decide) rfl (fun ls hl => ?_)
              refine lv_goto (tgt := 141) hx hb dKM_makePair_255 (by decide) ?_
              exact ih22 (i22 + 1) s36 pl ls H locs (by omega) hF hR (lv_sub hl [0, 2, 3, 4, 5, 6] rfl) hO hP hD hS
            | succ n23 ih23 =>
              intro i23 s35 pl ls H locs hm23 hF hR hl hO hP hD hS
              refine lv_iload hx hb dKM_makePair_183 (lv_at hl 0 rfl) ?_
              refine lv_aload_n hx hb dKM_makePair_185 rfl (lv_at hl 3 rfl) ?_
              refine nw_get (C := "LatticeKeys$KemSet") (TT := T_KS) (N := 10) hx hb hts (wg_ft i_KS) hown hK hO k_st (kn := 6) (ci := 1) (fl := [(1, 3), (1, 2), (1, 10), (1, 4), (1, 1184), (1, 2400), (1, 1088), (1, 1152), (1, 2336), (1, 2368)]) rfl hP rfl 0 (by decide) (hts _ (wg_t kw_231)) (fun _ h9 => h9) (cd := (1, 3)) rfl dKM_makePair_186 (fun v46 hv46 => ?_)
              obtain rfl := (show v46 = .int (nI 3) from hv46)
              refine mi_ge (tgt := 236) hx hb dKM_makePair_189 (by decide) (by omega) (by omega) (fun h25 => absurd h25 (by omega)) (fun h25 => ?_)
              refine lv_aload_n hx hb dKM_makePair_192 rfl (lv_at hl 2 rfl) ?_
              refine lv_aload_n hx hb dKM_makePair_193 rfl (lv_at hl 5 rfl) ?_
              refine lv_aload_n hx hb dKM_makePair_194 rfl (lv_at hl 3 rfl) ?_
              refine nw_get (C := "LatticeKeys$KemSet") (TT := T_KS) (N := 10) hx hb hts (wg_ft i_KS) hown hK hO k_st (kn := 6) (ci := 1) (fl := [(1, 3), (1, 2), (1, 10), (1, 4), (1, 1184), (1, 2400), (1, 1088), (1, 1152), (1, 2336), (1, 2368)]) rfl hP rfl 4 (by decide) (hts _ (wg_t kw_239)) (fun _ h9 => h9) (cd := (1, 1184)) rfl dKM_makePair_195 (fun v47 hv47 => ?_)
              obtain rfl := (show v47 = .int (nI 1184) from hv47)
              refine lv_bipush (v := nI 32) hx hb dKM_makePair_198 (by decide) ?_
              refine mi_isub hx hb dKM_makePair_200 (by omega) ?_
              refine mi_as (show nI (1184 - 32) = nI 1152 from rfl) ?_
              refine lv_iload hx hb dKM_makePair_201 (lv_at hl 0 rfl) ?_
              refine lv_iload hx hb dKM_makePair_203 (lv_at hl 1 rfl) ?_
              refine mp_v (cx := []) (wr := []) hP hD hS hA [] [] rfl rfl rfl (by decide) (va_runV (As := [.ref pk, .int (nI 1152), .int (nI i23), .int (nI i22)]) (rest := []) F (N_KM_sampleEntry l g _ T s35 pl hO hU h0 pk pp 1184 1152 (nI i23) (nI i22) k_h0 k_pk n_pk (by omega) (by omega)) (cwV 4 hts (wg_app (wg_c kw_647 (wg_c kw_649 (wg_c ks_8 (wg_c kw_3 wg_n)))) kw_650) rfl rfl rfl (by decide +kernel) ⟨by decide, by decide⟩) (pn_W "LatticeKeys$Kem" (en_ok g) (ci := 5) (kn := 24) (fl := [(3, 14), (3, 20), (3, 25), (3, 30), (3, 31), (3, 32), (3, 33), (3, 34), (3, 35), (3, 36)]) hK hO k_h0 rfl hP hD hS hA hE [] rfl rfl rfl) rfl rfl hl.1 rfl (lv_room (Nat.le_of_ble_eq_true rfl)) dKM_makePair_205 ⟨by omega, by omega⟩) (fun  u30 H locs hu30 hP hD hS => ?_)
              obtain ⟨s37, pl⟩ := u30
              obtain ⟨⟨eq30, hFc30, -⟩, hO⟩ := hu30
              have hO : okn g T s37 pl := hO
              have hP : va_P g.1 vcl ([] ++ pl) _ := hP
              have hD : va_D _ ([] ++ pl) := hD
              have hFc30 : frm (M_KM_sampleEntry) s35 s37 := hFc30
              replace hR := bnd_step hR eq30
              have hF := frm_tr hF hFc30 (fun k hk => by unfold M_KM_sampleEntry at hk; unfold M_KM_makePair_1; omega)
              refine W.widen (k := 0) (n := 0) (by omega) (by omega) ?_
              refine lv_aload_n hx hb dKM_makePair_208 rfl (lv_at hl 2 rfl) ?_
              refine nw_get (C := "LatticeKeys$Kem") (TT := T_KM) (N := 10) hx hb hts (wg_ft i_KM) hown hK hO k_h0 (kn := 24) (ci := 5) (fl := [(3, 14), (3, 20), (3, 25), (3, 30), (3, 31), (3, 32), (3, 33), (3, 34), (3, 35), (3, 36)]) rfl hP rfl 1 (by decide) (hts _ (wg_t kw_108)) (fun _ h9 => h9) (cd := (3, 20)) rfl dKM_makePair_209 (fun v48 hv48 => ?_)
              obtain ⟨r33, rfl, kr33⟩ := (show ∃ r : Nat, v48 = .ref r ∧ T r = some 20 from hv48)
              refine lv_aload_n hx hb dKM_makePair_212 rfl (lv_at hl 2 rfl) ?_
              refine nw_get (C := "LatticeKeys$Kem") (TT := T_KM) (N := 10) hx hb hts (wg_ft i_KM) hown hK hO k_h0 (kn := 24) (ci := 5) (fl := [(3, 14), (3, 20), (3, 25), (3, 30), (3, 31), (3, 32), (3, 33), (3, 34), (3, 35), (3, 36)]) rfl hP rfl 3 (by decide) (hts _ (wg_t kw_110)) (fun _ h9 => h9) (cd := (3, 30)) rfl dKM_makePair_213 (fun v49 hv49 => ?_)
              obtain ⟨r34, rfl, kr34⟩ := (show ∃ r : Nat, v49 = .ref r ∧ T r = some 30 from hv49)
              refine lv_aload_n hx hb dKM_makePair_216 rfl (lv_at hl 2 rfl) ?_
              refine nw_get (C := "LatticeKeys$Kem") (TT := T_KM) (N := 10) hx hb hts (wg_ft i_KM) hown hK hO k_h0 (kn := 24) (ci := 5) (fl := [(3, 14), (3, 20), (3, 25), (3, 30), (3, 31), (3, 32), (3, 33), (3, 34), (3, 35), (3, 36)]) rfl hP rfl 4 (by decide) (hts _ (wg_t kw_111)) (fun _ h9 => h9) (cd := (3, 31)) rfl dKM_makePair_217 (fun v50 hv50 => ?_)
              obtain ⟨r35, rfl, kr35⟩ := (show ∃ r : Nat, v50 = .ref r ∧ T r = some 31 from hv50)
              refine lv_aload_n hx hb dKM_makePair_220 rfl (lv_at hl 2 rfl) ?_
              refine nw_get (C := "LatticeKeys$Kem") (TT := T_KM) (N := 10) hx hb hts (wg_ft i_KM) hown hK hO k_h0 (kn := 24) (ci := 5) (fl := [(3, 14), (3, 20), (3, 25), (3, 30), (3, 31), (3, 32), (3, 33), (3, 34), (3, 35), (3, 36)]) rfl hP rfl 2 (by decide) (hts _ (wg_t kw_109)) (fun _ h9 => h9) (cd := (3, 25)) rfl dKM_makePair_221 (fun v51 hv51 => ?_)
              obtain ⟨r36, rfl, kr36⟩ := (show ∃ r : Nat, v51 = .ref r ∧ T r = some 25 from hv51)
              refine lv_iload hx hb dKM_makePair_224 (lv_at hl 0 rfl) ?_
              refine nw_aald3 hx hb hK hO kr36 (k := 25) (b := 26) rfl hP (by omega) (by omega) dKM_makePair_226 (fun r37 kr37 => ?_)
              have hn21 : nsp (26 + i23) = (0, 256, []) := rows_ok 26 4 (by decide) _ (by omega)
              refine mp_v (cx := []) (wr := []) hP hD hS hA [] [] rfl rfl rfl (by decide) (va_runV (As := [.ref r34, .ref r35, .ref r37]) (rest := []) F (N_RG_addProduct_7 l g _ T s37 pl hO hU r33 r34 r35 r37 30 31 (26 + i23) kr33 kr34 rfl kr35 rfl kr37 hn21) (cwV 3 hts (wg_app (wg_c kw_653 (wg_c kw_654 (wg_c kw_655 (wg_c kw_4 wg_n)))) kw_656) rfl rfl rfl (by decide +kernel) ⟨by decide, by decide⟩) (pn_W "LatticeKeys$Ring" (en_ok g) (ci := 4) (kn := 20) (fl := [(1, 3329), (1, 7), (1, 3303), (3, 21)]) hK hO kr33 rfl hP hD hS hA hE [] rfl rfl rfl) rfl rfl hl.1 rfl (lv_room (Nat.le_of_ble_eq_true rfl)) dKM_makePair_227 ⟨by omega, by omega⟩) (fun  u31 H locs hu31 hP hD hS => ?_)
              obtain ⟨s38, pl⟩ := u31
              obtain ⟨⟨eq31, hFc31, -⟩, hO⟩ := hu31
              have hO : okn g T s38 pl := hO
              have hP : va_P g.1 vcl ([] ++ pl) _ := hP
              have hD : va_D _ ([] ++ pl) := hD
              have hFc31 : frm (M_RG_addProduct_7 30) s37 s38 := hFc31
              replace hR := bnd_step hR eq31
              have hF := frm_tr hF hFc31 (fun k hk => by unfold M_RG_addProduct_7 at hk; unfold M_KM_makePair_1; omega)
              refine W.widen (k := 0) (n := 0) (by omega) (by omega) ?_
              refine mi_iinc (k := 0) (x := i23) (d := 1) (y := i23 + 1) (lv' := [(6, .int (nI (i23 + 1))), (5, .int (nI i22)), (0, .ref h0), (1, .ref st), (2, .ref ch), (3, .ref pk), (4, .ref sk)]) hx hb dKM_makePair_230 hl rfl (by decide) rfl (by decide) rfl (fun ls hl => ?_)
              refine lv_goto (tgt := 183) hx hb dKM_makePair_233 (by decide) ?_
              exact ih23 (i23 + 1) s38 pl ls H locs (by omega) hF hR (lv_sub hl [0, 1, 2, 3, 4, 5, 6] rfl) hO hP hD hS
          exact lp23 3 0 s34 pl ls _ _ (by omega) hF hR (lv_sub hl [0, 1, 2, 3, 4, 5, 6] rfl) hO hP hD hS
      exact lp22 3 0 s27 pl ls _ _ (by omega) hF hR (lv_sub hl [0, 1, 2, 3, 4, 5] rfl) hO hP hD hS
    | succ n21 ih21 =>
      intro i21 s27 pl ls H locs hm21 hF hR hl hO hP hD hS
      refine lv_iload hx hb dKM_makePair_72 (lv_at hl 0 rfl) ?_
      refine lv_aload_n hx hb dKM_makePair_74 rfl (lv_at hl 2 rfl) ?_
      refine nw_get (C := "LatticeKeys$KemSet") (TT := T_KS) (N := 10) hx hb hts (wg_ft i_KS) hown hK hO k_st (kn := 6) (ci := 1) (fl := [(1, 3), (1, 2), (1, 10), (1, 4), (1, 1184), (1, 2400), (1, 1088), (1, 1152), (1, 2336), (1, 2368)]) rfl hP rfl 0 (by decide) (hts _ (wg_t kw_231)) (fun _ h9 => h9) (cd := (1, 3)) rfl dKM_makePair_75 (fun v52 hv52 => ?_)
      obtain rfl := (show v52 = .int (nI 3) from hv52)
      refine mi_ge (tgt := 138) hx hb dKM_makePair_78 (by decide) (by omega) (by omega) (fun h26 => absurd h26 (by omega)) (fun h26 => ?_)
      refine lv_aload_n hx hb dKM_makePair_81 rfl (lv_at hl 1 rfl) ?_
      refine lv_aload_n hx hb dKM_makePair_82 rfl (lv_at hl 1 rfl) ?_
      refine nw_get (C := "LatticeKeys$Kem") (TT := T_KM) (N := 10) hx hb hts (wg_ft i_KM) hown hK hO k_h0 (kn := 24) (ci := 5) (fl := [(3, 14), (3, 20), (3, 25), (3, 30), (3, 31), (3, 32), (3, 33), (3, 34), (3, 35), (3, 36)]) rfl hP rfl 2 (by decide) (hts _ (wg_t kw_109)) (fun _ h9 => h9) (cd := (3, 25)) rfl dKM_makePair_83 (fun v53 hv53 => ?_)
      obtain ⟨r38, rfl, kr38⟩ := (show ∃ r : Nat, v53 = .ref r ∧ T r = some 25 from hv53)
      refine lv_iload hx hb dKM_makePair_86 (lv_at hl 0 rfl) ?_
      refine nw_aald3 hx hb hK hO kr38 (k := 25) (b := 26) rfl hP (by omega) (by omega) dKM_makePair_88 (fun r39 kr39 => ?_)
      have hn22 : nsp (26 + i21) = (0, 256, []) := rows_ok 26 4 (by decide) _ (by omega)
      refine lv_aload_n hx hb dKM_makePair_89 rfl (lv_at hl 2 rfl) ?_
      refine nw_get (C := "LatticeKeys$KemSet") (TT := T_KS) (N := 10) hx hb hts (wg_ft i_KS) hown hK hO k_st (kn := 6) (ci := 1) (fl := [(1, 3), (1, 2), (1, 10), (1, 4), (1, 1184), (1, 2400), (1, 1088), (1, 1152), (1, 2336), (1, 2368)]) rfl hP rfl 1 (by decide) (hts _ (wg_t kw_233)) (fun _ h9 => h9) (cd := (1, 2)) rfl dKM_makePair_90 (fun v54 hv54 => ?_)
      obtain rfl := (show v54 = .int (nI 2) from hv54)
      refine lv_iload hx hb dKM_makePair_93 (lv_at hl 0 rfl) ?_
      refine mp_v (cx := []) (wr := []) hP hD hS hA [] [] rfl rfl rfl (by decide) (va_runV (As := [.ref r39, .int (nI 2), .int (nI i21)]) (rest := []) F (N_KM_sampleNoise_2 l g _ T s27 pl hO hU h0 r39 (26 + i21) (nI i21) k_h0 kr39 hn22) (cwV 3 hts (wg_app (wg_c kw_623 (wg_c kw_625 (wg_c ks_6 (wg_c kw_3 wg_n)))) kw_626) rfl rfl rfl (by decide +kernel) ⟨by decide, by decide⟩) (pn_W "LatticeKeys$Kem" (en_ok g) (ci := 5) (kn := 24) (fl := [(3, 14), (3, 20), (3, 25), (3, 30), (3, 31), (3, 32), (3, 33), (3, 34), (3, 35), (3, 36)]) hK hO k_h0 rfl hP hD hS hA hE [] rfl rfl rfl) rfl rfl hl.1 rfl (lv_room (Nat.le_of_ble_eq_true rfl)) dKM_makePair_95 ⟨by omega, by omega⟩) (fun  u32 H locs hu32 hP hD hS => ?_)
      obtain ⟨s39, pl⟩ := u32
      obtain ⟨⟨eq32, hFc32, -⟩, hO⟩ := hu32
      have hO : okn g T s39 pl := hO
      have hP : va_P g.1 vcl ([] ++ pl) _ := hP
      have hD : va_D _ ([] ++ pl) := hD
      have hFc32 : frm (M_KM_sampleNoise_2 (26 + i21)) s27 s39 := hFc32
      replace hR := bnd_step hR eq32
      have hF := frm_tr hF hFc32 (fun k hk => by unfold M_KM_sampleNoise_2 at hk; unfold M_KM_makePair_1; omega)
      refine W.widen (k := 0) (n := 0) (by omega) (by omega) ?_
      refine lv_aload_n hx hb dKM_makePair_98 rfl (lv_at hl 1 rfl) ?_
      refine nw_get (C := "LatticeKeys$Kem") (TT := T_KM) (N := 10) hx hb hts (wg_ft i_KM) hown hK hO k_h0 (kn := 24) (ci := 5) (fl := [(3, 14), (3, 20), (3, 25), (3, 30), (3, 31), (3, 32), (3, 33), (3, 34), (3, 35), (3, 36)]) rfl hP rfl 1 (by decide) (hts _ (wg_t kw_108)) (fun _ h9 => h9) (cd := (3, 20)) rfl dKM_makePair_99 (fun v55 hv55 => ?_)
      obtain ⟨r40, rfl, kr40⟩ := (show ∃ r : Nat, v55 = .ref r ∧ T r = some 20 from hv55)
      refine lv_aload_n hx hb dKM_makePair_102 rfl (lv_at hl 1 rfl) ?_
      refine nw_get (C := "LatticeKeys$Kem") (TT := T_KM) (N := 10) hx hb hts (wg_ft i_KM) hown hK hO k_h0 (kn := 24) (ci := 5) (fl := [(3, 14), (3, 20), (3, 25), (3, 30), (3, 31), (3, 32), (3, 33), (3, 34), (3, 35), (3, 36)]) rfl hP rfl 2 (by decide) (hts _ (wg_t kw_109)) (fun _ h9 => h9) (cd := (3, 25)) rfl dKM_makePair_103 (fun v56 hv56 => ?_)
      obtain ⟨r41, rfl, kr41⟩ := (show ∃ r : Nat, v56 = .ref r ∧ T r = some 25 from hv56)
      refine lv_iload hx hb dKM_makePair_106 (lv_at hl 0 rfl) ?_
      refine nw_aald3 hx hb hK hO kr41 (k := 25) (b := 26) rfl hP (by omega) (by omega) dKM_makePair_108 (fun r42 kr42 => ?_)
      have hn23 : nsp (26 + i21) = (0, 256, []) := rows_ok 26 4 (by decide) _ (by omega)
      refine mp_v (cx := []) (wr := []) hP hD hS hA [] [] rfl rfl rfl (by decide) (va_runV (As := [.ref r42]) (rest := []) F (N_RG_transform_7 l g _ T s39 pl hO hU r40 r42 (26 + i21) kr40 kr42 hn23) (cwV 1 hts (wg_app (wg_c kw_636 (wg_c kw_637 (wg_c kw_638 (wg_c kw_4 wg_n)))) kw_639) rfl rfl rfl (by decide +kernel) ⟨by decide, by decide⟩) (pn_W "LatticeKeys$Ring" (en_ok g) (ci := 4) (kn := 20) (fl := [(1, 3329), (1, 7), (1, 3303), (3, 21)]) hK hO kr40 rfl hP hD hS hA hE [] rfl rfl rfl) rfl rfl hl.1 rfl (lv_room (Nat.le_of_ble_eq_true rfl)) dKM_makePair_109 ⟨by omega, by omega⟩) (fun  u33 H locs hu33 hP hD hS => ?_)
      obtain ⟨s40, pl⟩ := u33
      obtain ⟨⟨eq33, hFc33, -⟩, hO⟩ := hu33
      have hO : okn g T s40 pl := hO
      have hP : va_P g.1 vcl ([] ++ pl) _ := hP
      have hD : va_D _ ([] ++ pl) := hD
      have hFc33 : frm (M_RG_transform_7 (26 + i21)) s39 s40 := hFc33
      replace hR := bnd_step hR eq33
      have hF := frm_tr hF hFc33 (fun k hk => by unfold M_RG_transform_7 at hk; unfold M_KM_makePair_1; omega)
      refine W.widen (k := 0) (n := 0) (by omega) (by omega) ?_
      refine lv_aload_n hx hb dKM_makePair_112 rfl (lv_at hl 1 rfl) ?_
      refine nw_get (C := "LatticeKeys$Kem") (TT := T_KM) (N := 10) hx hb hts (wg_ft i_KM) hown hK hO k_h0 (kn := 24) (ci := 5) (fl := [(3, 14), (3, 20), (3, 25), (3, 30), (3, 31), (3, 32), (3, 33), (3, 34), (3, 35), (3, 36)]) rfl hP rfl 2 (by decide) (hts _ (wg_t kw_109)) (fun _ h9 => h9) (cd := (3, 25)) rfl dKM_makePair_113 (fun v57 hv57 => ?_)
      obtain ⟨r43, rfl, kr43⟩ := (show ∃ r : Nat, v57 = .ref r ∧ T r = some 25 from hv57)
      refine lv_iload hx hb dKM_makePair_116 (lv_at hl 0 rfl) ?_
      refine nw_aald3 hx hb hK hO kr43 (k := 25) (b := 26) rfl hP (by omega) (by omega) dKM_makePair_118 (fun r44 kr44 => ?_)
      have hn24 : nsp (26 + i21) = (0, 256, []) := rows_ok 26 4 (by decide) _ (by omega)
      refine lv_bipush (v := nI 12) hx hb dKM_makePair_119 (by decide) ?_
      refine lv_aload hx hb dKM_makePair_121 (lv_at hl 5 rfl) ?_
      refine lv_sipush (v := nI 384) hx hb dKM_makePair_123 (by decide) ?_
      refine lv_iload hx hb dKM_makePair_126 (lv_at hl 0 rfl) ?_
      refine mi_imul hx hb dKM_makePair_128 ?_
      refine mp_v (cx := []) (wr := []) hP hD hS hA [] [] rfl rfl rfl (by decide) (va_runS (As := [.ref r44, .int (nI 12), .ref sk, .int (nI (384 * i21))]) (rest := []) F (N_BT_pack l g _ T s40 pl hO hU r44 sk (26 + i21) 12 psk 2400 (384 * i21) kr44 hn24 k_sk n_sk (by omega) (by omega) (by omega)) (va_cwS 4 hts (wg_app (wg_c kw_644 (wg_c kw_645 (wg_c kw_22 wg_n))) kw_646) rfl rfl rfl (by decide +kernel) ⟨by decide, by decide⟩) (pp_S (en_ok g) hP hD hS hA hE [] rfl rfl) rfl rfl hl.1 rfl (lv_room (Nat.le_of_ble_eq_true rfl)) dKM_makePair_129 ⟨by omega, by omega⟩) (fun  u34 H locs hu34 hP hD hS => ?_)
      obtain ⟨s41, pl⟩ := u34
      obtain ⟨⟨eq34, hFc34, -⟩, hO⟩ := hu34
      have hO : okn g T s41 pl := hO
      have hP : va_P g.1 vcl ([] ++ pl) _ := hP
      have hD : va_D _ ([] ++ pl) := hD
      have hFc34 : frm (M_BT_pack psk) s40 s41 := hFc34
      replace hR := bnd_step hR eq34
      have hF := frm_tr hF hFc34 (fun k hk => by unfold M_BT_pack at hk; unfold M_KM_makePair_1; omega)
      refine W.widen (k := 0) (n := 0) (by omega) (by omega) ?_
      refine mi_iinc (k := 0) (x := i21) (d := 1) (y := i21 + 1) (lv' := [(5, .int (nI (i21 + 1))), (0, .ref h0), (1, .ref st), (2, .ref ch), (3, .ref pk), (4, .ref sk)]) hx hb dKM_makePair_132 hl rfl (by decide) rfl (by decide) rfl (fun ls hl => ?_)
      refine lv_goto (tgt := 72) hx hb dKM_makePair_135 (by decide) ?_
      exact ih21 (i21 + 1) s41 pl ls H locs (by omega) hF hR (lv_sub hl [0, 1, 2, 3, 4, 5] rfl) hO hP hD hS
  exact lp21 3 0 s26 pl ls _ _ (by omega) hF hR (lv_sub hl [0, 1, 2, 3, 4, 5] rfl) hO hP hD hS
def M_KM_makePair_2 (pp : Nat) (psk : Nat) (k : Nat) : Prop := (26 ≤ k ∧ k < 30) ∨ k = 14 ∨ k = 30 ∨ k = 31 ∨ k = 33 ∨ k = 34 ∨ k = 35 ∨ k = pp ∨ k = psk ∨ (0 : Nat) = 1
noncomputable def F_KM_makePair_2_L2 (pp : Nat) (i22 : Nat) (kk : Nat → Sto → Sto) : Nat → Nat → Sto → Sto
  | 0, i23, s35 => bnd (F_BT_pack 30 12 pp 1568 (384 * i22) s35) fun s36 => kk (i22 + 1) s36
  | n23 + 1, i23, s35 => bnd (F_KM_sampleEntry pp 1568 1536 (nI i23) (nI i22) s35) fun s37 => bnd (F_RG_addProduct_7 30 31 (26 + i23) s37) fun s38 => F_KM_makePair_2_L2 pp i22 kk n23 (i23 + 1) s38
noncomputable def F_KM_makePair_2_L1 (pch : Nat) (pp : Nat) (psk : Nat) : Nat → Nat → Sto → Sto
  | 0, i22, s28 => bnd (sC s28 pp psk 0 1536 1568) fun s29 => bnd (F_KM_digestOf pp 1568 0 1568 s29) fun s30 => bnd (sC s30 33 psk 0 3104 32) fun s31 => bnd (sC s31 pch psk 32 3136 32) fun s32 => s32
  | n22 + 1, i22, s28 => bnd (F_KM_sampleNoise_2 30 (nI (4 + i22)) s28) fun s33 => bnd (F_RG_transform_7 30 s33) fun s34 => F_KM_makePair_2_L2 pp i22 (F_KM_makePair_2_L1 pch pp psk n22) 4 0 s34
noncomputable def F_KM_makePair_2_L0 (pch : Nat) (pp : Nat) (psk : Nat) : Nat → Nat → Sto → Sto
  | 0, i21, s27 => F_KM_makePair_2_L1 pch pp psk 4 0 s27
  | n21 + 1, i21, s27 => bnd (F_KM_sampleNoise_2 (26 + i21) (nI i21) s27) fun s39 => bnd (F_RG_transform_7 (26 + i21) s39) fun s40 => bnd (F_BT_pack (26 + i21) 12 psk 3168 (384 * i21) s40) fun s41 => F_KM_makePair_2_L0 pch pp psk n21 (i21 + 1) s41
noncomputable def F_KM_makePair_2 (pch : Nat) (n : Nat) (pp : Nat) (psk : Nat) (s : Sto) : Sto := bnd (F_SP_start_1 14 15 s) fun s21 => bnd (F_SP_absorb 14 15 pch n 0 32 s21) fun s22 => bnd (F_SP_absorbByte 14 15 (nI 4) s22) fun s23 => bnd (F_SP_finish 14 15 s23) fun s24 => bnd (F_SP_squeeze 14 15 34 64 0 64 s24) fun s25 => bnd (sC s25 34 pp 0 1536 32) fun s26 => F_KM_makePair_2_L0 pch pp psk 4 0 s26
set_option maxHeartbeats 400000 in
set_option maxRecDepth 100000 in
theorem N_KM_makePair_2 (l : Launch) (g : Gd) (sz : Nat) (T : TyN) (s : Sto) (pl : va_W) (hO : okn g T s pl) (hU : inj T) (h0 st ch pk sk : Nat) (pch : Nat) (n : Nat) (pp : Nat) (psk : Nat) (k_h0 : T h0 = some 24) (k_st : T st = some 7) (k_ch : T ch = some pch) (n_ch : nsp pch = (1, n, [])) (k_pk : T pk = some pp) (n_pk : nsp pp = (1, 1568, [])) (k_sk : T sk = some psk) (n_sk : nsp psk = (1, 3168, [])) (h1 : 64 ≤ n) (h2 : n < 65536)  : Met l y_KM_makePair w_KM_makePair ({ frames := 4, cells := 0, slots := 0, locals := 131 } : Room) (va_Pc [.ref h0, .ref st, .ref ch, .ref pk, .ref sk] (pr (en g) g.1 vcl sz ([] ++ pl))) (va_Qv (fun (u : (Sto) × va_W) => (u.1 = F_KM_makePair_2 pch n pp psk s ∧ frm (M_KM_makePair_2 pp psk) s u.1 ∧ True) ∧ okn g T u.1 u.2) (po g.1 vcl (va_A ([] ++ pl) sz) (fun (u : (Sto) × va_W) => [] ++ u.2)) (va_A ([] ++ pl) sz)) 0 0 (va_A ([] ++ pl) sz) := by
  refine mc_entry (cc := c_KM_makePair) (maxL := 7) (ret := none) (by decide) rfl (Nat.le_of_ble_eq_true rfl) ?_
  intro p e s0 m args below meth c ls F hr hlk hnm hsz hP hD hE hA hl
  obtain ⟨hx, hb, hml, hown, hts⟩ := id F
  have hK := hE.1
  generalize va_A ([] ++ pl) sz = A at hD hE hA ⊢
  have hS : va_S A s0.heap s0.heap [] := va_S.rf
  have hl : lv_has ls 7 [(0, .ref h0), (1, .ref st), (2, .ref ch), (3, .ref pk), (4, .ref sk)] := hl
  have hR : F_KM_makePair_2 pch n pp psk s = F_KM_makePair_2 pch n pp psk s := rfl
  have hF : frm (M_KM_makePair_2 pp psk) s s := frm_rf
  refine lv_aload_n hx hb dKM_makePair_0 rfl (lv_at hl 0 rfl) ?_
  refine nw_get (C := "LatticeKeys$Kem") (TT := T_KM) (N := 10) hx hb hts (wg_ft i_KM) hown hK hO k_h0 (kn := 24) (ci := 5) (fl := [(3, 14), (3, 20), (3, 25), (3, 30), (3, 31), (3, 32), (3, 33), (3, 34), (3, 35), (3, 36)]) rfl hP rfl 0 (by decide) (hts _ (wg_t kw_107)) (fun _ h9 => h9) (cd := (3, 14)) rfl dKM_makePair_1 (fun v21 hv21 => ?_)
  obtain ⟨r21, rfl, kr21⟩ := (show ∃ r : Nat, v21 = .ref r ∧ T r = some 14 from hv21)
  refine lv_iconst (v := nI 1) hx hb dKM_makePair_4 (by decide) ?_
  refine mp_v (cx := []) (wr := []) hP hD hS hA [] [] rfl rfl rfl (by decide) (va_runV (As := [.int (nI 1)]) (rest := []) F (N_SP_start_1 l g _ T s pl hO hU r21 14 15 kr21 rfl rfl) (cwV 1 hts (wg_app (wg_c kw_578 (wg_c kw_579 (wg_c kw_580 (wg_c kw_2 wg_n)))) kw_581) rfl rfl rfl (by decide +kernel) ⟨by decide, by decide⟩) (pn_W "LatticeKeys$Sponge" (en_ok g) (ci := 3) (kn := 14) (fl := [(3, 15), (0, 0), (0, 0), (0, 0)]) hK hO kr21 rfl hP hD hS hA hE [] rfl rfl rfl) rfl rfl hl.1 rfl (lv_room (Nat.le_of_ble_eq_true rfl)) dKM_makePair_5 ⟨by omega, by omega⟩) (fun  u21 H locs hu21 hP hD hS => ?_)
  obtain ⟨s21, pl⟩ := u21
  obtain ⟨⟨eq21, hFc21, ⟨x21, hx_21, hb_21⟩, ⟨x22, hx_22, hb_22⟩, -⟩, hO⟩ := hu21
  have hO : okn g T s21 pl := hO
  have hP : va_P g.1 vcl ([] ++ pl) _ := hP
  have hD : va_D _ ([] ++ pl) := hD
  have hFc21 : frm (M_SP_start_1 14) s s21 := hFc21
  have hb_21 : x21 = 0 := hb_21
  have hb_22 : x22 = 72 := hb_22
  replace hR := bnd_step hR eq21
  have hF := frm_tr hF hFc21 (fun k hk => by unfold M_SP_start_1 at hk; unfold M_KM_makePair_2; omega)
  refine W.widen (k := 0) (n := 0) (by omega) (by omega) ?_
  refine lv_aload_n hx hb dKM_makePair_8 rfl (lv_at hl 0 rfl) ?_
  refine nw_get (C := "LatticeKeys$Kem") (TT := T_KM) (N := 10) hx hb hts (wg_ft i_KM) hown hK hO k_h0 (kn := 24) (ci := 5) (fl := [(3, 14), (3, 20), (3, 25), (3, 30), (3, 31), (3, 32), (3, 33), (3, 34), (3, 35), (3, 36)]) rfl hP rfl 0 (by decide) (hts _ (wg_t kw_107)) (fun _ h9 => h9) (cd := (3, 14)) rfl dKM_makePair_9 (fun v22 hv22 => ?_)
  obtain ⟨r22, rfl, kr22⟩ := (show ∃ r : Nat, v22 = .ref r ∧ T r = some 14 from hv22)
  refine lv_aload_n hx hb dKM_makePair_12 rfl (lv_at hl 2 rfl) ?_
  refine lv_iconst (v := nI 0) hx hb dKM_makePair_13 (by decide) ?_
  refine lv_bipush (v := nI 32) hx hb dKM_makePair_14 (by decide) ?_
  refine mp_v (cx := []) (wr := []) hP hD hS hA [] [] rfl rfl rfl (by decide) (va_runV (As := [.ref ch, .int (nI 0), .int (nI 32)]) (rest := []) F (N_SP_absorb l g _ T s21 pl hO hU r22 ch 14 15 pch n 0 32 x21 x22 kr22 rfl rfl k_ch n_ch hx_21 hx_22 (by omega) (by omega) (by omega) (by omega)) (cwV 3 hts (wg_app (wg_c kw_585 (wg_c kw_586 (wg_c kw_587 (wg_c kw_2 wg_n)))) kw_588) rfl rfl rfl (by decide +kernel) ⟨by decide, by decide⟩) (pn_W "LatticeKeys$Sponge" (en_ok g) (ci := 3) (kn := 14) (fl := [(3, 15), (0, 0), (0, 0), (0, 0)]) hK hO kr22 rfl hP hD hS hA hE [] rfl rfl rfl) rfl rfl hl.1 rfl (lv_room (Nat.le_of_ble_eq_true rfl)) dKM_makePair_16 ⟨by omega, by omega⟩) (fun  u22 H locs hu22 hP hD hS => ?_)
  obtain ⟨s22, pl⟩ := u22
  obtain ⟨⟨eq22, hFc22, ⟨x24, hx_24, hb_24⟩, ⟨x25, hx_25, hb_25⟩, -⟩, hO⟩ := hu22
  have hO : okn g T s22 pl := hO
  have hP : va_P g.1 vcl ([] ++ pl) _ := hP
  have hD : va_D _ ([] ++ pl) := hD
  have hFc22 : frm (M_SP_absorb 14) s21 s22 := hFc22
  have hb_24 : x24 < x22 := hb_24
  have hb_25 : x25 = x22 := hb_25
  replace hR := bnd_step hR eq22
  have hF := frm_tr hF hFc22 (fun k hk => by unfold M_SP_absorb at hk; unfold M_KM_makePair_2; omega)
  refine W.widen (k := 0) (n := 0) (by omega) (by omega) ?_
  refine lv_aload_n hx hb dKM_makePair_19 rfl (lv_at hl 0 rfl) ?_
  refine nw_get (C := "LatticeKeys$Kem") (TT := T_KM) (N := 10) hx hb hts (wg_ft i_KM) hown hK hO k_h0 (kn := 24) (ci := 5) (fl := [(3, 14), (3, 20), (3, 25), (3, 30), (3, 31), (3, 32), (3, 33), (3, 34), (3, 35), (3, 36)]) rfl hP rfl 0 (by decide) (hts _ (wg_t kw_107)) (fun _ h9 => h9) (cd := (3, 14)) rfl dKM_makePair_20 (fun v23 hv23 => ?_)
  obtain ⟨r23, rfl, kr23⟩ := (show ∃ r : Nat, v23 = .ref r ∧ T r = some 14 from hv23)
  refine lv_aload_n hx hb dKM_makePair_23 rfl (lv_at hl 1 rfl) ?_
  refine nw_get (C := "LatticeKeys$KemSet") (TT := T_KS) (N := 10) hx hb hts (wg_ft i_KS) hown hK hO k_st (kn := 7) (ci := 1) (fl := [(1, 4), (1, 2), (1, 11), (1, 5), (1, 1568), (1, 3168), (1, 1568), (1, 1536), (1, 3104), (1, 3136)]) rfl hP rfl 0 (by decide) (hts _ (wg_t kw_231)) (fun _ h9 => h9) (cd := (1, 4)) rfl dKM_makePair_24 (fun v24 hv24 => ?_)
  obtain rfl := (show v24 = .int (nI 4) from hv24)
  refine mp_v (cx := []) (wr := []) hP hD hS hA [] [] rfl rfl rfl (by decide) (va_runV (As := [.int (nI 4)]) (rest := []) F (N_SP_absorbByte l g _ T s22 pl hO hU r23 14 15 (nI 4) x24 x25 kr23 rfl rfl hx_24 hx_25 (by omega) (by omega)) (cwV 1 hts (wg_app (wg_c kw_609 (wg_c kw_590 (wg_c kw_591 (wg_c kw_2 wg_n)))) kw_592) rfl rfl rfl (by decide +kernel) ⟨by decide, by decide⟩) (pn_W "LatticeKeys$Sponge" (en_ok g) (ci := 3) (kn := 14) (fl := [(3, 15), (0, 0), (0, 0), (0, 0)]) hK hO kr23 rfl hP hD hS hA hE [] rfl rfl rfl) rfl rfl hl.1 rfl (lv_room (Nat.le_of_ble_eq_true rfl)) dKM_makePair_27 ⟨by omega, by omega⟩) (fun  u23 H locs hu23 hP hD hS => ?_)
  obtain ⟨s23, pl⟩ := u23
  obtain ⟨⟨eq23, hFc23, ⟨x27, hx_27, hb_27⟩, ⟨x28, hx_28, hb_28⟩, -⟩, hO⟩ := hu23
  have hO : okn g T s23 pl := hO
  have hP : va_P g.1 vcl ([] ++ pl) _ := hP
  have hD : va_D _ ([] ++ pl) := hD
  have hFc23 : frm (M_SP_absorbByte 14) s22 s23 := hFc23
  have hb_27 : x27 < x25 := hb_27
  have hb_28 : x28 = x25 := hb_28
  replace hR := bnd_step hR eq23
  have hF := frm_tr hF hFc23 (fun k hk => by unfold M_SP_absorbByte at hk; unfold M_KM_makePair_2; omega)
  refine W.widen (k := 0) (n := 0) (by omega) (by omega) ?_
  refine lv_aload_n hx hb dKM_makePair_30 rfl (lv_at hl 0 rfl) ?_
  refine nw_get (C := "LatticeKeys$Kem") (TT := T_KM) (N := 10) hx hb hts (wg_ft i_KM) hown hK hO k_h0 (kn := 24) (ci := 5) (fl := [(3, 14), (3, 20), (3, 25), (3, 30), (3, 31), (3, 32), (3, 33), (3, 34), (3, 35), (3, 36)]) rfl hP rfl 0 (by decide) (hts _ (wg_t kw_107)) (fun _ h9 => h9) (cd := (3, 14)) rfl dKM_makePair_31 (fun v25 hv25 => ?_)
  obtain ⟨r24, rfl, kr24⟩ := (show ∃ r : Nat, v25 = .ref r ∧ T r = some 14 from hv25)
  refine mp_v (cx := []) (wr := []) hP hD hS hA [] [] rfl rfl rfl (by decide) (va_runV (As := []) (rest := []) F (N_SP_finish l g _ T s23 pl hO hU r24 14 15 x27 x28 kr24 rfl rfl hx_27 hx_28 (by omega) (by omega)) (cwV 0 hts (wg_app (wg_c kw_610 (wg_c kw_611 (wg_c kw_612 (wg_c kw_2 wg_n)))) kw_613) rfl rfl rfl (by decide +kernel) ⟨by decide, by decide⟩) (pn_W "LatticeKeys$Sponge" (en_ok g) (ci := 3) (kn := 14) (fl := [(3, 15), (0, 0), (0, 0), (0, 0)]) hK hO kr24 rfl hP hD hS hA hE [] rfl rfl rfl) rfl rfl hl.1 rfl (lv_room (Nat.le_of_ble_eq_true rfl)) dKM_makePair_34 ⟨by omega, by omega⟩) (fun  u24 H locs hu24 hP hD hS => ?_)
  obtain ⟨s24, pl⟩ := u24
  obtain ⟨⟨eq24, hFc24, ⟨x30, hx_30, hb_30⟩, ⟨x31, hx_31, hb_31⟩, -⟩, hO⟩ := hu24
  have hO : okn g T s24 pl := hO
  have hP : va_P g.1 vcl ([] ++ pl) _ := hP
  have hD : va_D _ ([] ++ pl) := hD
  have hFc24 : frm (M_SP_finish 14) s23 s24 := hFc24
  have hb_30 : x30 = x28 := hb_30
  have hb_31 : x31 = x28 := hb_31
  replace hR := bnd_step hR eq24
  have hF := frm_tr hF hFc24 (fun k hk => by unfold M_SP_finish at hk; unfold M_KM_makePair_2; omega)
  refine W.widen (k := 0) (n := 0) (by omega) (by omega) ?_
  refine lv_aload_n hx hb dKM_makePair_37 rfl (lv_at hl 0 rfl) ?_
  refine nw_get (C := "LatticeKeys$Kem") (TT := T_KM) (N := 10) hx hb hts (wg_ft i_KM) hown hK hO k_h0 (kn := 24) (ci := 5) (fl := [(3, 14), (3, 20), (3, 25), (3, 30), (3, 31), (3, 32), (3, 33), (3, 34), (3, 35), (3, 36)]) rfl hP rfl 0 (by decide) (hts _ (wg_t kw_107)) (fun _ h9 => h9) (cd := (3, 14)) rfl dKM_makePair_38 (fun v26 hv26 => ?_)
  obtain ⟨r25, rfl, kr25⟩ := (show ∃ r : Nat, v26 = .ref r ∧ T r = some 14 from hv26)
  refine lv_aload_n hx hb dKM_makePair_41 rfl (lv_at hl 0 rfl) ?_
  refine nw_get (C := "LatticeKeys$Kem") (TT := T_KM) (N := 10) hx hb hts (wg_ft i_KM) hown hK hO k_h0 (kn := 24) (ci := 5) (fl := [(3, 14), (3, 20), (3, 25), (3, 30), (3, 31), (3, 32), (3, 33), (3, 34), (3, 35), (3, 36)]) rfl hP rfl 7 (by decide) (hts _ (wg_t kw_114)) (fun _ h9 => h9) (cd := (3, 34)) rfl dKM_makePair_42 (fun v27 hv27 => ?_)
  obtain ⟨r26, rfl, kr26⟩ := (show ∃ r : Nat, v27 = .ref r ∧ T r = some 34 from hv27)
  refine lv_iconst (v := nI 0) hx hb dKM_makePair_45 (by decide) ?_
  refine lv_bipush (v := nI 64) hx hb dKM_makePair_46 (by decide) ?_
  refine mp_v (cx := []) (wr := []) hP hD hS hA [] [] rfl rfl rfl (by decide) (va_runV (As := [.ref r26, .int (nI 0), .int (nI 64)]) (rest := []) F (N_SP_squeeze l g _ T s24 pl hO hU r25 r26 14 15 34 64 0 64 x30 x31 kr25 rfl rfl kr26 rfl hx_30 hx_31 (by omega) (by omega) (by omega) (by omega)) (cwV 3 hts (wg_app (wg_c kw_614 (wg_c kw_615 (wg_c kw_616 (wg_c kw_2 wg_n)))) kw_617) rfl rfl rfl (by decide +kernel) ⟨by decide, by decide⟩) (pn_W "LatticeKeys$Sponge" (en_ok g) (ci := 3) (kn := 14) (fl := [(3, 15), (0, 0), (0, 0), (0, 0)]) hK hO kr25 rfl hP hD hS hA hE [] rfl rfl rfl) rfl rfl hl.1 rfl (lv_room (Nat.le_of_ble_eq_true rfl)) dKM_makePair_48 ⟨by omega, by omega⟩) (fun  u25 H locs hu25 hP hD hS => ?_)
  obtain ⟨s25, pl⟩ := u25
  obtain ⟨⟨eq25, hFc25, ⟨x33, hx_33, hb_33⟩, ⟨x34, hx_34, hb_34⟩, -⟩, hO⟩ := hu25
  have hO : okn g T s25 pl := hO
  have hP : va_P g.1 vcl ([] ++ pl) _ := hP
  have hD : va_D _ ([] ++ pl) := hD
  have hFc25 : frm (M_SP_squeeze 14 34) s24 s25 := hFc25
  have hb_33 : x33 ≤ x31 := hb_33
  have hb_34 : x34 = x31 := hb_34
  replace hR := bnd_step hR eq25
  have hF := frm_tr hF hFc25 (fun k hk => by unfold M_SP_squeeze at hk; unfold M_KM_makePair_2; omega)
  refine W.widen (k := 0) (n := 0) (by omega) (by omega) ?_
  refine lv_aload_n hx hb dKM_makePair_51 rfl (lv_at hl 0 rfl) ?_
  refine nw_get (C := "LatticeKeys$Kem") (TT := T_KM) (N := 10) hx hb hts (wg_ft i_KM) hown hK hO k_h0 (kn := 24) (ci := 5) (fl := [(3, 14), (3, 20), (3, 25), (3, 30), (3, 31), (3, 32), (3, 33), (3, 34), (3, 35), (3, 36)]) rfl hP rfl 7 (by decide) (hts _ (wg_t kw_114)) (fun _ h9 => h9) (cd := (3, 34)) rfl dKM_makePair_52 (fun v28 hv28 => ?_)
  obtain ⟨r27, rfl, kr27⟩ := (show ∃ r : Nat, v28 = .ref r ∧ T r = some 34 from hv28)
  refine lv_iconst (v := nI 0) hx hb dKM_makePair_55 (by decide) ?_
  refine lv_aload_n hx hb dKM_makePair_56 rfl (lv_at hl 3 rfl) ?_
  refine lv_aload_n hx hb dKM_makePair_57 rfl (lv_at hl 1 rfl) ?_
  refine nw_get (C := "LatticeKeys$KemSet") (TT := T_KS) (N := 10) hx hb hts (wg_ft i_KS) hown hK hO k_st (kn := 7) (ci := 1) (fl := [(1, 4), (1, 2), (1, 11), (1, 5), (1, 1568), (1, 3168), (1, 1568), (1, 1536), (1, 3104), (1, 3136)]) rfl hP rfl 4 (by decide) (hts _ (wg_t kw_239)) (fun _ h9 => h9) (cd := (1, 1568)) rfl dKM_makePair_58 (fun v29 hv29 => ?_)
  obtain rfl := (show v29 = .int (nI 1568) from hv29)
  refine lv_bipush (v := nI 32) hx hb dKM_makePair_61 (by decide) ?_
  refine mi_isub hx hb dKM_makePair_63 (by omega) ?_
  refine mi_as (show nI (1568 - 32) = nI 1536 from rfl) ?_
  refine lv_bipush (v := nI 32) hx hb dKM_makePair_64 (by decide) ?_
  refine nw_copyb hx hb (hml.trans hl.1.symm) hown (hts _ (wg_t kw_622)) (hts _ (wg_t kw_526)) (hts _ (wg_t kw_525)) (hts _ (wg_t kw_19)) hK hO hU kr27 (k0 := 34) rfl k_pk (k1 := pp) n_pk hP hD hS (sp := 0) (dp := 1536) (n := 32) (by omega) (by omega) (by omega) (by decide) (Nat.le_of_ble_eq_true rfl) dKM_makePair_66 (fun s26 pl H locs es21 hO hP hD hS => ?_)
  replace hR := bnd_step hR es21
  have hF := frm_sC hF es21 (by unfold M_KM_makePair_2; omega)
  refine lv_iconst (v := nI 0) hx hb dKM_makePair_69 (by decide) ?_
  refine lv_istore (lv' := [(5, .int (nI 0)), (0, .ref h0), (1, .ref st), (2, .ref ch), (3, .ref pk), (4, .ref sk)]) hx hb dKM_makePair_70 hl (by decide) rfl (fun ls hl => ?_)
  have lp21 : ∀ (n21 : Nat) (i21 : Nat) (s27 : Sto) (pl : va_W) (ls : Array Slot) (H : Heap) (locs : List Loc), n21 + i21 = 4 → frm (M_KM_makePair_2 pp psk) s s27 → F_KM_makePair_2 pch n pp psk s = F_KM_makePair_2_L0 pch pp psk n21 i21 s27 → lv_has ls 7 [(5, .int (nI i21)), (0, .ref h0), (1, .ref st), (2, .ref ch), (3, .ref pk), (4, .ref sk)] → okn g T s27 pl → va_P g.1 vcl ([] ++ pl) H → va_D A ([] ++ pl) → va_S A s0.heap H locs → W p l e ({ frames := 4, cells := 0, slots := 0, locals := 131 } : Room) s0 m args below meth c H locs 0 0 (MQ below (va_Qv (fun (u : (Sto) × va_W) => (u.1 = F_KM_makePair_2 pch n pp psk s ∧ frm (M_KM_makePair_2 pp psk) s u.1 ∧ True) ∧ okn g T u.1 u.2) (po g.1 vcl A (fun (u : (Sto) × va_W) => [] ++ u.2)) A) args s0 0 0 A) (F0 m 72 ls []) := by
    intro n21
    induction n21 with
    | zero =>
      intro i21 s27 pl ls H locs hm21 hF hR hl hO hP hD hS
      refine lv_iload hx hb dKM_makePair_72 (lv_at hl 0 rfl) ?_
      refine lv_aload_n hx hb dKM_makePair_74 rfl (lv_at hl 2 rfl) ?_
      refine nw_get (C := "LatticeKeys$KemSet") (TT := T_KS) (N := 10) hx hb hts (wg_ft i_KS) hown hK hO k_st (kn := 7) (ci := 1) (fl := [(1, 4), (1, 2), (1, 11), (1, 5), (1, 1568), (1, 3168), (1, 1568), (1, 1536), (1, 3104), (1, 3136)]) rfl hP rfl 0 (by decide) (hts _ (wg_t kw_231)) (fun _ h9 => h9) (cd := (1, 4)) rfl dKM_makePair_75 (fun v30 hv30 => ?_)
      obtain rfl := (show v30 = .int (nI 4) from hv30)
      refine mi_ge (tgt := 138) hx hb dKM_makePair_78 (by decide) (by omega) (by omega) (fun h21 => ?_) (fun h21 => absurd h21 (by omega))
      refine lv_iconst (v := nI 0) hx hb dKM_makePair_138 (by decide) ?_
      refine lv_istore (lv' := [(5, .int (nI 0)), (0, .ref h0), (1, .ref st), (2, .ref ch), (3, .ref pk), (4, .ref sk)]) hx hb dKM_makePair_139 hl (by decide) rfl (fun ls hl => ?_)
      have lp22 : ∀ (n22 : Nat) (i22 : Nat) (s28 : Sto) (pl : va_W) (ls : Array Slot) (H : Heap) (locs : List Loc), n22 + i22 = 4 → frm (M_KM_makePair_2 pp psk) s s28 → F_KM_makePair_2 pch n pp psk s = F_KM_makePair_2_L1 pch pp psk n22 i22 s28 → lv_has ls 7 [(5, .int (nI i22)), (0, .ref h0), (1, .ref st), (2, .ref ch), (3, .ref pk), (4, .ref sk)] → okn g T s28 pl → va_P g.1 vcl ([] ++ pl) H → va_D A ([] ++ pl) → va_S A s0.heap H locs → W p l e ({ frames := 4, cells := 0, slots := 0, locals := 131 } : Room) s0 m args below meth c H locs 0 0 (MQ below (va_Qv (fun (u : (Sto) × va_W) => (u.1 = F_KM_makePair_2 pch n pp psk s ∧ frm (M_KM_makePair_2 pp psk) s u.1 ∧ True) ∧ okn g T u.1 u.2) (po g.1 vcl A (fun (u : (Sto) × va_W) => [] ++ u.2)) A) args s0 0 0 A) (F0 m 141 ls []) := by
        intro n22
        induction n22 with
        | zero =>
          intro i22 s28 pl ls H locs hm22 hF hR hl hO hP hD hS
          refine lv_iload hx hb dKM_makePair_141 (lv_at hl 0 rfl) ?_
          refine lv_aload_n hx hb dKM_makePair_143 rfl (lv_at hl 2 rfl) ?_
          refine nw_get (C := "LatticeKeys$KemSet") (TT := T_KS) (N := 10) hx hb hts (wg_ft i_KS) hown hK hO k_st (kn := 7) (ci := 1) (fl := [(1, 4), (1, 2), (1, 11), (1, 5), (1, 1568), (1, 3168), (1, 1568), (1, 1536), (1, 3104), (1, 3136)]) rfl hP rfl 0 (by decide) (hts _ (wg_t kw_231)) (fun _ h9 => h9) (cd := (1, 4)) rfl dKM_makePair_144 (fun v31 hv31 => ?_)
          obtain rfl := (show v31 = .int (nI 4) from hv31)
          refine mi_ge (tgt := 258) hx hb dKM_makePair_147 (by decide) (by omega) (by omega) (fun h22 => ?_) (fun h22 => absurd h22 (by omega))
          refine lv_aload_n hx hb dKM_makePair_258 rfl (lv_at hl 4 rfl) ?_
          refine lv_iconst (v := nI 0) hx hb dKM_makePair_259 (by decide) ?_
          refine lv_aload hx hb dKM_makePair_260 (lv_at hl 5 rfl) ?_
          refine lv_aload_n hx hb dKM_makePair_262 rfl (lv_at hl 2 rfl) ?_
          refine nw_get (C := "LatticeKeys$KemSet") (TT := T_KS) (N := 10) hx hb hts (wg_ft i_KS) hown hK hO k_st (kn := 7) (ci := 1) (fl := [(1, 4), (1, 2), (1, 11), (1, 5), (1, 1568), (1, 3168), (1, 1568), (1, 1536), (1, 3104), (1, 3136)]) rfl hP rfl 7 (by decide) (hts _ (wg_t kw_247)) (fun _ h9 => h9) (cd := (1, 1536)) rfl dKM_makePair_263 (fun v32 hv32 => ?_)
          obtain rfl := (show v32 = .int (nI 1536) from hv32)
          refine lv_aload_n hx hb dKM_makePair_266 rfl (lv_at hl 2 rfl) ?_
          refine nw_get (C := "LatticeKeys$KemSet") (TT := T_KS) (N := 10) hx hb hts (wg_ft i_KS) hown hK hO k_st (kn := 7) (ci := 1) (fl := [(1, 4), (1, 2), (1, 11), (1, 5), (1, 1568), (1, 3168), (1, 1568), (1, 1536), (1, 3104), (1, 3136)]) rfl hP rfl 4 (by decide) (hts _ (wg_t kw_239)) (fun _ h9 => h9) (cd := (1, 1568)) rfl dKM_makePair_267 (fun v33 hv33 => ?_)
          obtain rfl := (show v33 = .int (nI 1568) from hv33)
          refine nw_copyb hx hb (hml.trans hl.1.symm) hown (hts _ (wg_t kw_622)) (hts _ (wg_t kw_526)) (hts _ (wg_t kw_525)) (hts _ (wg_t kw_19)) hK hO hU k_pk (k0 := pp) n_pk k_sk (k1 := psk) n_sk hP hD hS (sp := 0) (dp := 1536) (n := 1568) (by omega) (by omega) (by omega) (by decide) (Nat.le_of_ble_eq_true rfl) dKM_makePair_270 (fun s29 pl H locs es22 hO hP hD hS => ?_)
          replace hR := bnd_step hR es22
          have hF := frm_sC hF es22 (by unfold M_KM_makePair_2; omega)
          refine lv_aload_n hx hb dKM_makePair_273 rfl (lv_at hl 1 rfl) ?_
          refine lv_aload_n hx hb dKM_makePair_274 rfl (lv_at hl 4 rfl) ?_
          refine lv_iconst (v := nI 0) hx hb dKM_makePair_275 (by decide) ?_
          refine lv_aload_n hx hb dKM_makePair_276 rfl (lv_at hl 2 rfl) ?_
          refine nw_get (C := "LatticeKeys$KemSet") (TT := T_KS) (N := 10) hx hb hts (wg_ft i_KS) hown hK hO k_st (kn := 7) (ci := 1) (fl := [(1, 4), (1, 2), (1, 11), (1, 5), (1, 1568), (1, 3168), (1, 1568), (1, 1536), (1, 3104), (1, 3136)]) rfl hP rfl 4 (by decide) (hts _ (wg_t kw_239)) (fun _ h9 => h9) (cd := (1, 1568)) rfl dKM_makePair_277 (fun v34 hv34 => ?_)
          obtain rfl := (show v34 = .int (nI 1568) from hv34)
          refine mp_v (cx := []) (wr := []) hP hD hS hA [] [] rfl rfl rfl (by decide) (va_runV (As := [.ref pk, .int (nI 0), .int (nI 1568)]) (rest := []) F (N_KM_digestOf l g _ T s29 pl hO hU h0 pk pp 1568 0 1568 k_h0 k_pk n_pk (by omega) (by omega)) (cwV 3 hts (wg_app (wg_c kw_661 (wg_c kw_663 (wg_c ks_10 (wg_c kw_3 wg_n)))) kw_664) rfl rfl rfl (by decide +kernel) ⟨by decide, by decide⟩) (pn_W "LatticeKeys$Kem" (en_ok g) (ci := 5) (kn := 24) (fl := [(3, 14), (3, 20), (3, 25), (3, 30), (3, 31), (3, 32), (3, 33), (3, 34), (3, 35), (3, 36)]) hK hO k_h0 rfl hP hD hS hA hE [] rfl rfl rfl) rfl rfl hl.1 rfl (lv_room (Nat.le_of_ble_eq_true rfl)) dKM_makePair_280 ⟨by omega, by omega⟩) (fun  u26 H locs hu26 hP hD hS => ?_)
          obtain ⟨s30, pl⟩ := u26
          obtain ⟨⟨eq26, hFc26, -⟩, hO⟩ := hu26
          have hO : okn g T s30 pl := hO
          have hP : va_P g.1 vcl ([] ++ pl) _ := hP
          have hD : va_D _ ([] ++ pl) := hD
          have hFc26 : frm (M_KM_digestOf) s29 s30 := hFc26
          replace hR := bnd_step hR eq26
          have hF := frm_tr hF hFc26 (fun k hk => by unfold M_KM_digestOf at hk; unfold M_KM_makePair_2; omega)
          refine W.widen (k := 0) (n := 0) (by omega) (by omega) ?_
          refine lv_aload_n hx hb dKM_makePair_283 rfl (lv_at hl 1 rfl) ?_
          refine nw_get (C := "LatticeKeys$Kem") (TT := T_KM) (N := 10) hx hb hts (wg_ft i_KM) hown hK hO k_h0 (kn := 24) (ci := 5) (fl := [(3, 14), (3, 20), (3, 25), (3, 30), (3, 31), (3, 32), (3, 33), (3, 34), (3, 35), (3, 36)]) rfl hP rfl 6 (by decide) (hts _ (wg_t kw_113)) (fun _ h9 => h9) (cd := (3, 33)) rfl dKM_makePair_284 (fun v35 hv35 => ?_)
          obtain ⟨r28, rfl, kr28⟩ := (show ∃ r : Nat, v35 = .ref r ∧ T r = some 33 from hv35)
          refine lv_iconst (v := nI 0) hx hb dKM_makePair_287 (by decide) ?_
          refine lv_aload hx hb dKM_makePair_288 (lv_at hl 5 rfl) ?_
          refine lv_aload_n hx hb dKM_makePair_290 rfl (lv_at hl 2 rfl) ?_
          refine nw_get (C := "LatticeKeys$KemSet") (TT := T_KS) (N := 10) hx hb hts (wg_ft i_KS) hown hK hO k_st (kn := 7) (ci := 1) (fl := [(1, 4), (1, 2), (1, 11), (1, 5), (1, 1568), (1, 3168), (1, 1568), (1, 1536), (1, 3104), (1, 3136)]) rfl hP rfl 8 (by decide) (hts _ (wg_t kw_250)) (fun _ h9 => h9) (cd := (1, 3104)) rfl dKM_makePair_291 (fun v36 hv36 => ?_)
          obtain rfl := (show v36 = .int (nI 3104) from hv36)
          refine lv_bipush (v := nI 32) hx hb dKM_makePair_294 (by decide) ?_
          refine nw_copyb hx hb (hml.trans hl.1.symm) hown (hts _ (wg_t kw_622)) (hts _ (wg_t kw_526)) (hts _ (wg_t kw_525)) (hts _ (wg_t kw_19)) hK hO hU kr28 (k0 := 33) rfl k_sk (k1 := psk) n_sk hP hD hS (sp := 0) (dp := 3104) (n := 32) (by omega) (by omega) (by omega) (by decide) (Nat.le_of_ble_eq_true rfl) dKM_makePair_296 (fun s31 pl H locs es23 hO hP hD hS => ?_)
          replace hR := bnd_step hR es23
          have hF := frm_sC hF es23 (by unfold M_KM_makePair_2; omega)
          refine lv_aload_n hx hb dKM_makePair_299 rfl (lv_at hl 3 rfl) ?_
          refine lv_bipush (v := nI 32) hx hb dKM_makePair_300 (by decide) ?_
          refine lv_aload hx hb dKM_makePair_302 (lv_at hl 5 rfl) ?_
          refine lv_aload_n hx hb dKM_makePair_304 rfl (lv_at hl 2 rfl) ?_
          refine nw_get (C := "LatticeKeys$KemSet") (TT := T_KS) (N := 10) hx hb hts (wg_ft i_KS) hown hK hO k_st (kn := 7) (ci := 1) (fl := [(1, 4), (1, 2), (1, 11), (1, 5), (1, 1568), (1, 3168), (1, 1568), (1, 1536), (1, 3104), (1, 3136)]) rfl hP rfl 9 (by decide) (hts _ (wg_t kw_252)) (fun _ h9 => h9) (cd := (1, 3136)) rfl dKM_makePair_305 (fun v37 hv37 => ?_)
          obtain rfl := (show v37 = .int (nI 3136) from hv37)
          refine lv_bipush (v := nI 32) hx hb dKM_makePair_308 (by decide) ?_
          refine nw_copyb hx hb (hml.trans hl.1.symm) hown (hts _ (wg_t kw_622)) (hts _ (wg_t kw_526)) (hts _ (wg_t kw_525)) (hts _ (wg_t kw_19)) hK hO hU k_ch (k0 := pch) n_ch k_sk (k1 := psk) n_sk hP hD hS (sp := 32) (dp := 3136) (n := 32) (by omega) (by omega) (by omega) (by decide) (Nat.le_of_ble_eq_true rfl) dKM_makePair_310 (fun s32 pl H locs es24 hO hP hD hS => ?_)
          replace hR := bnd_step hR es24
          have hF := frm_sC hF es24 (by unfold M_KM_makePair_2; omega)
          exact mp_vret hx hb hr hlk hP hD hS (s32, pl) ⟨⟨hR.symm, hF, trivial⟩, hO⟩ [] rfl rfl rfl (by omega) (by omega) dKM_makePair_313
        | succ n22 ih22 =>
          intro i22 s28 pl ls H locs hm22 hF hR hl hO hP hD hS
          refine lv_iload hx hb dKM_makePair_141 (lv_at hl 0 rfl) ?_
          refine lv_aload_n hx hb dKM_makePair_143 rfl (lv_at hl 2 rfl) ?_
          refine nw_get (C := "LatticeKeys$KemSet") (TT := T_KS) (N := 10) hx hb hts (wg_ft i_KS) hown hK hO k_st (kn := 7) (ci := 1) (fl := [(1, 4), (1, 2), (1, 11), (1, 5), (1, 1568), (1, 3168), (1, 1568), (1, 1536), (1, 3104), (1, 3136)]) rfl hP rfl 0 (by decide) (hts _ (wg_t kw_231)) (fun _ h9 => h9) (cd := (1, 4)) rfl dKM_makePair_144 (fun v38 hv38 => ?_)
          obtain rfl := (show v38 = .int (nI 4) from hv38)
          refine mi_ge (tgt := 258) hx hb dKM_makePair_147 (by decide) (by omega) (by omega) (fun h23 => absurd h23 (by omega)) (fun h23 => ?_)
          refine lv_aload_n hx hb dKM_makePair_150 rfl (lv_at hl 1 rfl) ?_
          refine lv_aload_n hx hb dKM_makePair_151 rfl (lv_at hl 1 rfl) ?_
          refine nw_get (C := "LatticeKeys$Kem") (TT := T_KM) (N := 10) hx hb hts (wg_ft i_KM) hown hK hO k_h0 (kn := 24) (ci := 5) (fl := [(3, 14), (3, 20), (3, 25), (3, 30), (3, 31), (3, 32), (3, 33), (3, 34), (3, 35), (3, 36)]) rfl hP rfl 3 (by decide) (hts _ (wg_t kw_110)) (fun _ h9 => h9) (cd := (3, 30)) rfl dKM_makePair_152 (fun v39 hv39 => ?_)
          obtain ⟨r29, rfl, kr29⟩ := (show ∃ r : Nat, v39 = .ref r ∧ T r = some 30 from hv39)
          refine lv_aload_n hx hb dKM_makePair_155 rfl (lv_at hl 2 rfl) ?_
          refine nw_get (C := "LatticeKeys$KemSet") (TT := T_KS) (N := 10) hx hb hts (wg_ft i_KS) hown hK hO k_st (kn := 7) (ci := 1) (fl := [(1, 4), (1, 2), (1, 11), (1, 5), (1, 1568), (1, 3168), (1, 1568), (1, 1536), (1, 3104), (1, 3136)]) rfl hP rfl 1 (by decide) (hts _ (wg_t kw_233)) (fun _ h9 => h9) (cd := (1, 2)) rfl dKM_makePair_156 (fun v40 hv40 => ?_)
          obtain rfl := (show v40 = .int (nI 2) from hv40)
          refine lv_aload_n hx hb dKM_makePair_159 rfl (lv_at hl 2 rfl) ?_
          refine nw_get (C := "LatticeKeys$KemSet") (TT := T_KS) (N := 10) hx hb hts (wg_ft i_KS) hown hK hO k_st (kn := 7) (ci := 1) (fl := [(1, 4), (1, 2), (1, 11), (1, 5), (1, 1568), (1, 3168), (1, 1568), (1, 1536), (1, 3104), (1, 3136)]) rfl hP rfl 0 (by decide) (hts _ (wg_t kw_231)) (fun _ h9 => h9) (cd := (1, 4)) rfl dKM_makePair_160 (fun v41 hv41 => ?_)
          obtain rfl := (show v41 = .int (nI 4) from hv41)
          refine lv_iload hx hb dKM_makePair_163 (lv_at hl 0 rfl) ?_
          refine mi_iadd hx hb dKM_makePair_165 ?_
          refine mp_v (cx := []) (wr := []) hP hD hS hA [] [] rfl rfl rfl (by decide) (va_runV (As := [.ref r29, .int (nI 2), .int (nI (4 + i22))]) (rest := []) F (N_KM_sampleNoise_2 l g _ T s28 pl hO hU h0 r29 30 (nI (4 + i22)) k_h0 kr29 rfl) (cwV 3 hts (wg_app (wg_c kw_623 (wg_c kw_625 (wg_c ks_6 (wg_c kw_3 wg_n)))) kw_626) rfl rfl rfl (by decide +kernel) ⟨by decide, by decide⟩) (pn_W "LatticeKeys$Kem" (en_ok g) (ci := 5) (kn := 24) (fl := [(3, 14), (3, 20), (3, 25), (3, 30), (3, 31), (3, 32), (3, 33), (3, 34), (3, 35), (3, 36)]) hK hO k_h0 rfl hP hD hS hA hE [] rfl rfl rfl) rfl rfl hl.1 rfl (lv_room (Nat.le_of_ble_eq_true rfl)) dKM_makePair_166 ⟨by omega, by omega⟩) (fun  u27 H locs hu27 hP hD hS => ?_)
          obtain ⟨s33, pl⟩ := u27
          obtain ⟨⟨eq27, hFc27, -⟩, hO⟩ := hu27
          have hO : okn g T s33 pl := hO
          have hP : va_P g.1 vcl ([] ++ pl) _ := hP
          have hD : va_D _ ([] ++ pl) := hD
          have hFc27 : frm (M_KM_sampleNoise_2 30) s28 s33 := hFc27
          replace hR := bnd_step hR eq27
          have hF := frm_tr hF hFc27 (fun k hk => by unfold M_KM_sampleNoise_2 at hk; unfold M_KM_makePair_2; omega)
          refine W.widen (k := 0) (n := 0) (by omega) (by omega) ?_
          refine lv_aload_n hx hb dKM_makePair_169 rfl (lv_at hl 1 rfl) ?_
          refine nw_get (C := "LatticeKeys$Kem") (TT := T_KM) (N := 10) hx hb hts (wg_ft i_KM) hown hK hO k_h0 (kn := 24) (ci := 5) (fl := [(3, 14), (3, 20), (3, 25), (3, 30), (3, 31), (3, 32), (3, 33), (3, 34), (3, 35), (3, 36)]) rfl hP rfl 1 (by decide) (hts _ (wg_t kw_108)) (fun _ h9 => h9) (cd := (3, 20)) rfl dKM_makePair_170 (fun v42 hv42 => ?_)
          obtain ⟨r30, rfl, kr30⟩ := (show ∃ r : Nat, v42 = .ref r ∧ T r = some 20 from hv42)
          refine lv_aload_n hx hb dKM_makePair_173 rfl (lv_at hl 1 rfl) ?_
          refine nw_get (C := "LatticeKeys$Kem") (TT := T_KM) (N := 10) hx hb hts (wg_ft i_KM) hown hK hO k_h0 (kn := 24) (ci := 5) (fl := [(3, 14), (3, 20), (3, 25), (3, 30), (3, 31), (3, 32), (3, 33), (3, 34), (3, 35), (3, 36)]) rfl hP rfl 3 (by decide) (hts _ (wg_t kw_110)) (fun _ h9 => h9) (cd := (3, 30)) rfl dKM_makePair_174 (fun v43 hv43 => ?_)
          obtain ⟨r31, rfl, kr31⟩ := (show ∃ r : Nat, v43 = .ref r ∧ T r = some 30 from hv43)
          refine mp_v (cx := []) (wr := []) hP hD hS hA [] [] rfl rfl rfl (by decide) (va_runV (As := [.ref r31]) (rest := []) F (N_RG_transform_7 l g _ T s33 pl hO hU r30 r31 30 kr30 kr31 rfl) (cwV 1 hts (wg_app (wg_c kw_636 (wg_c kw_637 (wg_c kw_638 (wg_c kw_4 wg_n)))) kw_639) rfl rfl rfl (by decide +kernel) ⟨by decide, by decide⟩) (pn_W "LatticeKeys$Ring" (en_ok g) (ci := 4) (kn := 20) (fl := [(1, 3329), (1, 7), (1, 3303), (3, 21)]) hK hO kr30 rfl hP hD hS hA hE [] rfl rfl rfl) rfl rfl hl.1 rfl (lv_room (Nat.le_of_ble_eq_true rfl)) dKM_makePair_177 ⟨by omega, by omega⟩) (fun  u28 H locs hu28 hP hD hS => ?_)
          obtain ⟨s34, pl⟩ := u28
          obtain ⟨⟨eq28, hFc28, -⟩, hO⟩ := hu28
          have hO : okn g T s34 pl := hO
          have hP : va_P g.1 vcl ([] ++ pl) _ := hP
          have hD : va_D _ ([] ++ pl) := hD
          have hFc28 : frm (M_RG_transform_7 30) s33 s34 := hFc28
          replace hR := bnd_step hR eq28
          have hF := frm_tr hF hFc28 (fun k hk => by unfold M_RG_transform_7 at hk; unfold M_KM_makePair_2; omega)
          refine W.widen (k := 0) (n := 0) (by omega) (by omega) ?_
          refine lv_iconst (v := nI 0) hx hb dKM_makePair_180 (by decide) ?_
          refine lv_istore (lv' := [(6, .int (nI 0)), (5, .int (nI i22)), (0, .ref h0), (1, .ref st), (2, .ref ch), (3, .ref pk), (4, .ref sk)]) hx hb dKM_makePair_181 hl (by decide) rfl (fun ls hl => ?_)
          have lp23 : ∀ (n23 : Nat) (i23 : Nat) (s35 : Sto) (pl : va_W) (ls : Array Slot) (H : Heap) (locs : List Loc), n23 + i23 = 4 → frm (M_KM_makePair_2 pp psk) s s35 → F_KM_makePair_2 pch n pp psk s = F_KM_makePair_2_L2 pp i22 (F_KM_makePair_2_L1 pch pp psk n22) n23 i23 s35 → lv_has ls 7 [(6, .int (nI i23)), (5, .int (nI i22)), (0, .ref h0), (1, .ref st), (2, .ref ch), (3, .ref pk), (4, .ref sk)] → okn g T s35 pl → va_P g.1 vcl ([] ++ pl) H → va_D A ([] ++ pl) → va_S A s0.heap H locs → W p l e ({ frames := 4, cells := 0, slots := 0, locals := 131 } : Room) s0 m args below meth c H locs 0 0 (MQ below (va_Qv (fun (u : (Sto) × va_W) => (u.1 = F_KM_makePair_2 pch n pp psk s ∧ frm (M_KM_makePair_2 pp psk) s u.1 ∧ True) ∧ okn g T u.1 u.2) (po g.1 vcl A (fun (u : (Sto) × va_W) => [] ++ u.2)) A) args s0 0 0 A) (F0 m 183 ls []) := by
            intro n23
            induction n23 with
            | zero =>
              intro i23 s35 pl ls H locs hm23 hF hR hl hO hP hD hS
              refine lv_iload hx hb dKM_makePair_183 (lv_at hl 0 rfl) ?_
              refine lv_aload_n hx hb dKM_makePair_185 rfl (lv_at hl 3 rfl) ?_
              refine nw_get (C := "LatticeKeys$KemSet") (TT := T_KS) (N := 10) hx hb hts (wg_ft i_KS) hown hK hO k_st (kn := 7) (ci := 1) (fl := [(1, 4), (1, 2), (1, 11), (1, 5), (1, 1568), (1, 3168), (1, 1568), (1, 1536), (1, 3104), (1, 3136)]) rfl hP rfl 0 (by decide) (hts _ (wg_t kw_231)) (fun _ h9 => h9) (cd := (1, 4)) rfl dKM_makePair_186 (fun v44 hv44 => ?_)
              obtain rfl := (show v44 = .int (nI 4) from hv44)
              refine mi_ge (tgt := 236) hx hb dKM_makePair_189 (by decide) (by omega) (by omega) (fun h24 => ?_) (fun h24 => absurd h24 (by omega))
              refine lv_aload_n hx hb dKM_makePair_236 rfl (lv_at hl 2 rfl) ?_
              refine nw_get (C := "LatticeKeys$Kem") (TT := T_KM) (N := 10) hx hb hts (wg_ft i_KM) hown hK hO k_h0 (kn := 24) (ci := 5) (fl := [(3, 14), (3, 20), (3, 25), (3, 30), (3, 31), (3, 32), (3, 33), (3, 34), (3, 35), (3, 36)]) rfl hP rfl 3 (by decide) (hts _ (wg_t kw_110)) (fun _ h9 => h9) (cd := (3, 30)) rfl dKM_makePair_237 (fun v45 hv45 => ?_)
              obtain ⟨r32, rfl, kr32⟩ := (show ∃ r : Nat, v45 = .ref r ∧ T r = some 30 from hv45)
              refine lv_bipush (v := nI 12) hx hb dKM_makePair_240 (by decide) ?_
              refine lv_aload_n hx hb dKM_makePair_242 rfl (lv_at hl 5 rfl) ?_
              refine lv_sipush (v := nI 384) hx hb dKM_makePair_243 (by decide) ?_
              refine lv_iload hx hb dKM_makePair_246 (lv_at hl 1 rfl) ?_
              refine mi_imul hx hb dKM_makePair_248 ?_
              refine mp_v (cx := []) (wr := []) hP hD hS hA [] [] rfl rfl rfl (by decide) (va_runS (As := [.ref r32, .int (nI 12), .ref pk, .int (nI (384 * i22))]) (rest := []) F (N_BT_pack l g _ T s35 pl hO hU r32 pk 30 12 pp 1568 (384 * i22) kr32 rfl k_pk n_pk (by omega) (by omega) (by omega)) (va_cwS 4 hts (wg_app (wg_c kw_644 (wg_c kw_645 (wg_c kw_22 wg_n))) kw_646) rfl rfl rfl (by decide +kernel) ⟨by decide, by decide⟩) (pp_S (en_ok g) hP hD hS hA hE [] rfl rfl) rfl rfl hl.1 rfl (lv_room (Nat.le_of_ble_eq_true rfl)) dKM_makePair_249 ⟨by omega, by omega⟩) (fun  u29 H locs hu29 hP hD hS => ?_)
              obtain ⟨s36, pl⟩ := u29
              obtain ⟨⟨eq29, hFc29, -⟩, hO⟩ := hu29
              have hO : okn g T s36 pl := hO
              have hP : va_P g.1 vcl ([] ++ pl) _ := hP
              have hD : va_D _ ([] ++ pl) := hD
              have hFc29 : frm (M_BT_pack pp) s35 s36 := hFc29
              replace hR := bnd_step hR eq29
              have hF := frm_tr hF hFc29 (fun k hk => by unfold M_BT_pack at hk; unfold M_KM_makePair_2; omega)
              refine W.widen (k := 0) (n := 0) (by omega) (by omega) ?_
              refine mi_iinc (k := 1) (x := i22) (d := 1) (y := i22 + 1) (lv' := [(5, .int (nI (i22 + 1))), (6, .int (nI i23)), (0, .ref h0), (1, .ref st), (2, .ref ch), (3, .ref pk), (4, .ref sk)]) hx hb dKM_makePair_252 hl rfl (by decide) rfl (by decide) rfl (fun ls hl => ?_)
              refine lv_goto (tgt := 141) hx hb dKM_makePair_255 (by decide) ?_
              exact ih22 (i22 + 1) s36 pl ls H locs (by omega) hF hR (lv_sub hl [0, 2, 3, 4, 5, 6] rfl) hO hP hD hS
            | succ n23 ih23 =>
              intro i23 s35 pl ls H locs hm23 hF hR hl hO hP hD hS
              refine lv_iload hx hb dKM_makePair_183 (lv_at hl 0 rfl) ?_
              refine lv_aload_n hx hb dKM_makePair_185 rfl (lv_at hl 3 rfl) ?_
              refine nw_get (C := "LatticeKeys$KemSet") (TT := T_KS) (N := 10) hx hb hts (wg_ft i_KS) hown hK hO k_st (kn := 7) (ci := 1) (fl := [(1, 4), (1, 2), (1, 11), (1, 5), (1, 1568), (1, 3168), (1, 1568), (1, 1536), (1, 3104), (1, 3136)]) rfl hP rfl 0 (by decide) (hts _ (wg_t kw_231)) (fun _ h9 => h9) (cd := (1, 4)) rfl dKM_makePair_186 (fun v46 hv46 => ?_)
              obtain rfl := (show v46 = .int (nI 4) from hv46)
              refine mi_ge (tgt := 236) hx hb dKM_makePair_189 (by decide) (by omega) (by omega) (fun h25 => absurd h25 (by omega)) (fun h25 => ?_)
              refine lv_aload_n hx hb dKM_makePair_192 rfl (lv_at hl 2 rfl) ?_
              refine lv_aload_n hx hb dKM_makePair_193 rfl (lv_at hl 5 rfl) ?_
              refine lv_aload_n hx hb dKM_makePair_194 rfl (lv_at hl 3 rfl) ?_
              refine nw_get (C := "LatticeKeys$KemSet") (TT := T_KS) (N := 10) hx hb hts (wg_ft i_KS) hown hK hO k_st (kn := 7) (ci := 1) (fl := [(1, 4), (1, 2), (1, 11), (1, 5), (1, 1568), (1, 3168), (1, 1568), (1, 1536), (1, 3104), (1, 3136)]) rfl hP rfl 4 (by decide) (hts _ (wg_t kw_239)) (fun _ h9 => h9) (cd := (1, 1568)) rfl dKM_makePair_195 (fun v47 hv47 => ?_)
              obtain rfl := (show v47 = .int (nI 1568) from hv47)
              refine lv_bipush (v := nI 32) hx hb dKM_makePair_198 (by decide) ?_
              refine mi_isub hx hb dKM_makePair_200 (by omega) ?_
              refine mi_as (show nI (1568 - 32) = nI 1536 from rfl) ?_
              refine lv_iload hx hb dKM_makePair_201 (lv_at hl 0 rfl) ?_
              refine lv_iload hx hb dKM_makePair_203 (lv_at hl 1 rfl) ?_
              refine mp_v (cx := []) (wr := []) hP hD hS hA [] [] rfl rfl rfl (by decide) (va_runV (As := [.ref pk, .int (nI 1536), .int (nI i23), .int (nI i22)]) (rest := []) F (N_KM_sampleEntry l g _ T s35 pl hO hU h0 pk pp 1568 1536 (nI i23) (nI i22) k_h0 k_pk n_pk (by omega) (by omega)) (cwV 4 hts (wg_app (wg_c kw_647 (wg_c kw_649 (wg_c ks_8 (wg_c kw_3 wg_n)))) kw_650) rfl rfl rfl (by decide +kernel) ⟨by decide, by decide⟩) (pn_W "LatticeKeys$Kem" (en_ok g) (ci := 5) (kn := 24) (fl := [(3, 14), (3, 20), (3, 25), (3, 30), (3, 31), (3, 32), (3, 33), (3, 34), (3, 35), (3, 36)]) hK hO k_h0 rfl hP hD hS hA hE [] rfl rfl rfl) rfl rfl hl.1 rfl (lv_room (Nat.le_of_ble_eq_true rfl)) dKM_makePair_205 ⟨by omega, by omega⟩) (fun  u30 H locs hu30 hP hD hS => ?_)
              obtain ⟨s37, pl⟩ := u30
              obtain ⟨⟨eq30, hFc30, -⟩, hO⟩ := hu30
              have hO : okn g T s37 pl := hO
              have hP : va_P g.1 vcl ([] ++ pl) _ := hP
              have hD : va_D _ ([] ++ pl) := hD
              have hFc30 : frm (M_KM_sampleEntry) s35 s37 := hFc30
              replace hR := bnd_step hR eq30
              have hF := frm_tr hF hFc30 (fun k hk => by unfold M_KM_sampleEntry at hk; unfold M_KM_makePair_2; omega)
              refine W.widen (k := 0) (n := 0) (by omega) (by omega) ?_
              refine lv_aload_n hx hb dKM_makePair_208 rfl (lv_at hl 2 rfl) ?_
              refine nw_get (C := "LatticeKeys$Kem") (TT := T_KM) (N := 10) hx hb hts (wg_ft i_KM) hown hK hO k_h0 (kn := 24) (ci := 5) (fl := [(3, 14), (3, 20), (3, 25), (3, 30), (3, 31), (3, 32), (3, 33), (3, 34), (3, 35), (3, 36)]) rfl hP rfl 1 (by decide) (hts _ (wg_t kw_108)) (fun _ h9 => h9) (cd := (3, 20)) rfl dKM_makePair_209 (fun v48 hv48 => ?_)
              obtain ⟨r33, rfl, kr33⟩ := (show ∃ r : Nat, v48 = .ref r ∧ T r = some 20 from hv48)
              refine lv_aload_n hx hb dKM_makePair_212 rfl (lv_at hl 2 rfl) ?_
              refine nw_get (C := "LatticeKeys$Kem") (TT := T_KM) (N := 10) hx hb hts (wg_ft i_KM) hown hK hO k_h0 (kn := 24) (ci := 5) (fl := [(3, 14), (3, 20), (3, 25), (3, 30), (3, 31), (3, 32), (3, 33), (3, 34), (3, 35), (3, 36)]) rfl hP rfl 3 (by decide) (hts _ (wg_t kw_110)) (fun _ h9 => h9) (cd := (3, 30)) rfl dKM_makePair_213 (fun v49 hv49 => ?_)
              obtain ⟨r34, rfl, kr34⟩ := (show ∃ r : Nat, v49 = .ref r ∧ T r = some 30 from hv49)
              refine lv_aload_n hx hb dKM_makePair_216 rfl (lv_at hl 2 rfl) ?_
              refine nw_get (C := "LatticeKeys$Kem") (TT := T_KM) (N := 10) hx hb hts (wg_ft i_KM) hown hK hO k_h0 (kn := 24) (ci := 5) (fl := [(3, 14), (3, 20), (3, 25), (3, 30), (3, 31), (3, 32), (3, 33), (3, 34), (3, 35), (3, 36)]) rfl hP rfl 4 (by decide) (hts _ (wg_t kw_111)) (fun _ h9 => h9) (cd := (3, 31)) rfl dKM_makePair_217 (fun v50 hv50 => ?_)
              obtain ⟨r35, rfl, kr35⟩ := (show ∃ r : Nat, v50 = .ref r ∧ T r = some 31 from hv50)
              refine lv_aload_n hx hb dKM_makePair_220 rfl (lv_at hl 2 rfl) ?_
              refine nw_get (C := "LatticeKeys$Kem") (TT := T_KM) (N := 10) hx hb hts (wg_ft i_KM) hown hK hO k_h0 (kn := 24) (ci := 5) (fl := [(3, 14), (3, 20), (3, 25), (3, 30), (3, 31), (3, 32), (3, 33), (3, 34), (3, 35), (3, 36)]) rfl hP rfl 2 (by decide) (hts _ (wg_t kw_109)) (fun _ h9 => h9) (cd := (3, 25)) rfl dKM_makePair_221 (fun v51 hv51 => ?_)
              obtain ⟨r36, rfl, kr36⟩ := (show ∃ r : Nat, v51 = .ref r ∧ T r = some 25 from hv51)
              refine lv_iload hx hb dKM_makePair_224 (lv_at hl 0 rfl) ?_
              refine nw_aald3 hx hb hK hO kr36 (k := 25) (b := 26) rfl hP (by omega) (by omega) dKM_makePair_226 (fun r37 kr37 => ?_)
              have hn21 : nsp (26 + i23) = (0, 256, []) := rows_ok 26 4 (by decide) _ (by omega)
              refine mp_v (cx := []) (wr := []) hP hD hS hA [] [] rfl rfl rfl (by decide) (va_runV (As := [.ref r34, .ref r35, .ref r37]) (rest := []) F (N_RG_addProduct_7 l g _ T s37 pl hO hU r33 r34 r35 r37 30 31 (26 + i23) kr33 kr34 rfl kr35 rfl kr37 hn21) (cwV 3 hts (wg_app (wg_c kw_653 (wg_c kw_654 (wg_c kw_655 (wg_c kw_4 wg_n)))) kw_656) rfl rfl rfl (by decide +kernel) ⟨by decide, by decide⟩) (pn_W "LatticeKeys$Ring" (en_ok g) (ci := 4) (kn := 20) (fl := [(1, 3329), (1, 7), (1, 3303), (3, 21)]) hK hO kr33 rfl hP hD hS hA hE [] rfl rfl rfl) rfl rfl hl.1 rfl (lv_room (Nat.le_of_ble_eq_true rfl)) dKM_makePair_227 ⟨by omega, by omega⟩) (fun  u31 H locs hu31 hP hD hS => ?_)
              obtain ⟨s38, pl⟩ := u31
              obtain ⟨⟨eq31, hFc31, -⟩, hO⟩ := hu31
              have hO : okn g T s38 pl := hO
              have hP : va_P g.1 vcl ([] ++ pl) _ := hP
              have hD : va_D _ ([] ++ pl) := hD
              have hFc31 : frm (M_RG_addProduct_7 30) s37 s38 := hFc31
              replace hR := bnd_step hR eq31
              have hF := frm_tr hF hFc31 (fun k hk => by unfold M_RG_addProduct_7 at hk; unfold M_KM_makePair_2; omega)
              refine W.widen (k := 0) (n := 0) (by omega) (by omega) ?_
              refine mi_iinc (k := 0) (x := i23) (d := 1) (y := i23 + 1) (lv' := [(6, .int (nI (i23 + 1))), (5, .int (nI i22)), (0, .ref h0), (1, .ref st), (2, .ref ch), (3, .ref pk), (4, .ref sk)]) hx hb dKM_makePair_230 hl rfl (by decide) rfl (by decide) rfl (fun ls hl => ?_)
              refine lv_goto (tgt := 183) hx hb dKM_makePair_233 (by decide) ?_
              exact ih23 (i23 + 1) s38 pl ls H locs (by omega) hF hR (lv_sub hl [0, 1, 2, 3, 4, 5, 6] rfl) hO hP hD hS
          exact lp23 4 0 s34 pl ls _ _ (by omega) hF hR (lv_sub hl [0, 1, 2, 3, 4, 5, 6] rfl) hO hP hD hS
      exact lp22 4 0 s27 pl ls _ _ (by omega) hF hR (lv_sub hl [0, 1, 2, 3, 4, 5] rfl) hO hP hD hS
    | succ n21 ih21 =>
      intro i21 s27 pl ls H locs hm21 hF hR hl hO hP hD hS
      refine lv_iload hx hb dKM_makePair_72 (lv_at hl 0 rfl) ?_
      refine lv_aload_n hx hb dKM_makePair_74 rfl (lv_at hl 2 rfl) ?_
      refine nw_get (C := "LatticeKeys$KemSet") (TT := T_KS) (N := 10) hx hb hts (wg_ft i_KS) hown hK hO k_st (kn := 7) (ci := 1) (fl := [(1, 4), (1, 2), (1, 11), (1, 5), (1, 1568), (1, 3168), (1, 1568), (1, 1536), (1, 3104), (1, 3136)]) rfl hP rfl 0 (by decide) (hts _ (wg_t kw_231)) (fun _ h9 => h9) (cd := (1, 4)) rfl dKM_makePair_75 (fun v52 hv52 => ?_)
      obtain rfl := (show v52 = .int (nI 4) from hv52)
      refine mi_ge (tgt := 138) hx hb dKM_makePair_78 (by decide) (by omega) (by omega) (fun h26 => absurd h26 (by omega)) (fun h26 => ?_)
      refine lv_aload_n hx hb dKM_makePair_81 rfl (lv_at hl 1 rfl) ?_
      refine lv_aload_n hx hb dKM_makePair_82 rfl (lv_at hl 1 rfl) ?_
      refine nw_get (C := "LatticeKeys$Kem") (TT := T_KM) (N := 10) hx hb hts (wg_ft i_KM) hown hK hO k_h0 (kn := 24) (ci := 5) (fl := [(3, 14), (3, 20), (3, 25), (3, 30), (3, 31), (3, 32), (3, 33), (3, 34), (3, 35), (3, 36)]) rfl hP rfl 2 (by decide) (hts _ (wg_t kw_109)) (fun _ h9 => h9) (cd := (3, 25)) rfl dKM_makePair_83 (fun v53 hv53 => ?_)
      obtain ⟨r38, rfl, kr38⟩ := (show ∃ r : Nat, v53 = .ref r ∧ T r = some 25 from hv53)
      refine lv_iload hx hb dKM_makePair_86 (lv_at hl 0 rfl) ?_
      refine nw_aald3 hx hb hK hO kr38 (k := 25) (b := 26) rfl hP (by omega) (by omega) dKM_makePair_88 (fun r39 kr39 => ?_)
      have hn22 : nsp (26 + i21) = (0, 256, []) := rows_ok 26 4 (by decide) _ (by omega)
      refine lv_aload_n hx hb dKM_makePair_89 rfl (lv_at hl 2 rfl) ?_
      refine nw_get (C := "LatticeKeys$KemSet") (TT := T_KS) (N := 10) hx hb hts (wg_ft i_KS) hown hK hO k_st (kn := 7) (ci := 1) (fl := [(1, 4), (1, 2), (1, 11), (1, 5), (1, 1568), (1, 3168), (1, 1568), (1, 1536), (1, 3104), (1, 3136)]) rfl hP rfl 1 (by decide) (hts _ (wg_t kw_233)) (fun _ h9 => h9) (cd := (1, 2)) rfl dKM_makePair_90 (fun v54 hv54 => ?_)
      obtain rfl := (show v54 = .int (nI 2) from hv54)
      refine lv_iload hx hb dKM_makePair_93 (lv_at hl 0 rfl) ?_
      refine mp_v (cx := []) (wr := []) hP hD hS hA [] [] rfl rfl rfl (by decide) (va_runV (As := [.ref r39, .int (nI 2), .int (nI i21)]) (rest := []) F (N_KM_sampleNoise_2 l g _ T s27 pl hO hU h0 r39 (26 + i21) (nI i21) k_h0 kr39 hn22) (cwV 3 hts (wg_app (wg_c kw_623 (wg_c kw_625 (wg_c ks_6 (wg_c kw_3 wg_n)))) kw_626) rfl rfl rfl (by decide +kernel) ⟨by decide, by decide⟩) (pn_W "LatticeKeys$Kem" (en_ok g) (ci := 5) (kn := 24) (fl := [(3, 14), (3, 20), (3, 25), (3, 30), (3, 31), (3, 32), (3, 33), (3, 34), (3, 35), (3, 36)]) hK hO k_h0 rfl hP hD hS hA hE [] rfl rfl rfl) rfl rfl hl.1 rfl (lv_room (Nat.le_of_ble_eq_true rfl)) dKM_makePair_95 ⟨by omega, by omega⟩) (fun  u32 H locs hu32 hP hD hS => ?_)
      obtain ⟨s39, pl⟩ := u32
      obtain ⟨⟨eq32, hFc32, -⟩, hO⟩ := hu32
      have hO : okn g T s39 pl := hO
      have hP : va_P g.1 vcl ([] ++ pl) _ := hP
      have hD : va_D _ ([] ++ pl) := hD
      have hFc32 : frm (M_KM_sampleNoise_2 (26 + i21)) s27 s39 := hFc32
      replace hR := bnd_step hR eq32
      have hF := frm_tr hF hFc32 (fun k hk => by unfold M_KM_sampleNoise_2 at hk; unfold M_KM_makePair_2; omega)
      refine W.widen (k := 0) (n := 0) (by omega) (by omega) ?_
      refine lv_aload_n hx hb dKM_makePair_98 rfl (lv_at hl 1 rfl) ?_
      refine nw_get (C := "LatticeKeys$Kem") (TT := T_KM) (N := 10) hx hb hts (wg_ft i_KM) hown hK hO k_h0 (kn := 24) (ci := 5) (fl := [(3, 14), (3, 20), (3, 25), (3, 30), (3, 31), (3, 32), (3, 33), (3, 34), (3, 35), (3, 36)]) rfl hP rfl 1 (by decide) (hts _ (wg_t kw_108)) (fun _ h9 => h9) (cd := (3, 20)) rfl dKM_makePair_99 (fun v55 hv55 => ?_)
      obtain ⟨r40, rfl, kr40⟩ := (show ∃ r : Nat, v55 = .ref r ∧ T r = some 20 from hv55)
      refine lv_aload_n hx hb dKM_makePair_102 rfl (lv_at hl 1 rfl) ?_
      refine nw_get (C := "LatticeKeys$Kem") (TT := T_KM) (N := 10) hx hb hts (wg_ft i_KM) hown hK hO k_h0 (kn := 24) (ci := 5) (fl := [(3, 14), (3, 20), (3, 25), (3, 30), (3, 31), (3, 32), (3, 33), (3, 34), (3, 35), (3, 36)]) rfl hP rfl 2 (by decide) (hts _ (wg_t kw_109)) (fun _ h9 => h9) (cd := (3, 25)) rfl dKM_makePair_103 (fun v56 hv56 => ?_)
      obtain ⟨r41, rfl, kr41⟩ := (show ∃ r : Nat, v56 = .ref r ∧ T r = some 25 from hv56)
      refine lv_iload hx hb dKM_makePair_106 (lv_at hl 0 rfl) ?_
      refine nw_aald3 hx hb hK hO kr41 (k := 25) (b := 26) rfl hP (by omega) (by omega) dKM_makePair_108 (fun r42 kr42 => ?_)
      have hn23 : nsp (26 + i21) = (0, 256, []) := rows_ok 26 4 (by decide) _ (by omega)
      refine mp_v (cx := []) (wr := []) hP hD hS hA [] [] rfl rfl rfl (by decide) (va_runV (As := [.ref r42]) (rest := []) F (N_RG_transform_7 l g _ T s39 pl hO hU r40 r42 (26 + i21) kr40 kr42 hn23) (cwV 1 hts (wg_app (wg_c kw_636 (wg_c kw_637 (wg_c kw_638 (wg_c kw_4 wg_n)))) kw_639) rfl rfl rfl (by decide +kernel) ⟨by decide, by decide⟩) (pn_W "LatticeKeys$Ring" (en_ok g) (ci := 4) (kn := 20) (fl := [(1, 3329), (1, 7), (1, 3303), (3, 21)]) hK hO kr40 rfl hP hD hS hA hE [] rfl rfl rfl) rfl rfl hl.1 rfl (lv_room (Nat.le_of_ble_eq_true rfl)) dKM_makePair_109 ⟨by omega, by omega⟩) (fun  u33 H locs hu33 hP hD hS => ?_)
      obtain ⟨s40, pl⟩ := u33
      obtain ⟨⟨eq33, hFc33, -⟩, hO⟩ := hu33
      have hO : okn g T s40 pl := hO
      have hP : va_P g.1 vcl ([] ++ pl) _ := hP
      have hD : va_D _ ([] ++ pl) := hD
      have hFc33 : frm (M_RG_transform_7 (26 + i21)) s39 s40 := hFc33
      replace hR := bnd_step hR eq33
      have hF := frm_tr hF hFc33 (fun k hk => by unfold M_RG_transform_7 at hk; unfold M_KM_makePair_2; omega)
      refine W.widen (k := 0) (n := 0) (by omega) (by omega) ?_
      refine lv_aload_n hx hb dKM_makePair_112 rfl (lv_at hl 1 rfl) ?_
      refine nw_get (C := "LatticeKeys$Kem") (TT := T_KM) (N := 10) hx hb hts (wg_ft i_KM) hown hK hO k_h0 (kn := 24) (ci := 5) (fl := [(3, 14), (3, 20), (3, 25), (3, 30), (3, 31), (3, 32), (3, 33), (3, 34), (3, 35), (3, 36)]) rfl hP rfl 2 (by decide) (hts _ (wg_t kw_109)) (fun _ h9 => h9) (cd := (3, 25)) rfl dKM_makePair_113 (fun v57 hv57 => ?_)
      obtain ⟨r43, rfl, kr43⟩ := (show ∃ r : Nat, v57 = .ref r ∧ T r = some 25 from hv57)
      refine lv_iload hx hb dKM_makePair_116 (lv_at hl 0 rfl) ?_
      refine nw_aald3 hx hb hK hO kr43 (k := 25) (b := 26) rfl hP (by omega) (by omega) dKM_makePair_118 (fun r44 kr44 => ?_)
      have hn24 : nsp (26 + i21) = (0, 256, []) := rows_ok 26 4 (by decide) _ (by omega)
      refine lv_bipush (v := nI 12) hx hb dKM_makePair_119 (by decide) ?_
      refine lv_aload hx hb dKM_makePair_121 (lv_at hl 5 rfl) ?_
      refine lv_sipush (v := nI 384) hx hb dKM_makePair_123 (by decide) ?_
      refine lv_iload hx hb dKM_makePair_126 (lv_at hl 0 rfl) ?_
      refine mi_imul hx hb dKM_makePair_128 ?_
      refine mp_v (cx := []) (wr := []) hP hD hS hA [] [] rfl rfl rfl (by decide) (va_runS (As := [.ref r44, .int (nI 12), .ref sk, .int (nI (384 * i21))]) (rest := []) F (N_BT_pack l g _ T s40 pl hO hU r44 sk (26 + i21) 12 psk 3168 (384 * i21) kr44 hn24 k_sk n_sk (by omega) (by omega) (by omega)) (va_cwS 4 hts (wg_app (wg_c kw_644 (wg_c kw_645 (wg_c kw_22 wg_n))) kw_646) rfl rfl rfl (by decide +kernel) ⟨by decide, by decide⟩) (pp_S (en_ok g) hP hD hS hA hE [] rfl rfl) rfl rfl hl.1 rfl (lv_room (Nat.le_of_ble_eq_true rfl)) dKM_makePair_129 ⟨by omega, by omega⟩) (fun  u34 H locs hu34 hP hD hS => ?_)
      obtain ⟨s41, pl⟩ := u34
      obtain ⟨⟨eq34, hFc34, -⟩, hO⟩ := hu34
      have hO : okn g T s41 pl := hO
      have hP : va_P g.1 vcl ([] ++ pl) _ := hP
      have hD : va_D _ ([] ++ pl) := hD
      have hFc34 : frm (M_BT_pack psk) s40 s41 := hFc34
      replace hR := bnd_step hR eq34
      have hF := frm_tr hF hFc34 (fun k hk => by unfold M_BT_pack at hk; unfold M_KM_makePair_2; omega)
      refine W.widen (k := 0) (n := 0) (by omega) (by omega) ?_
      refine mi_iinc (k := 0) (x := i21) (d := 1) (y := i21 + 1) (lv' := [(5, .int (nI (i21 + 1))), (0, .ref h0), (1, .ref st), (2, .ref ch), (3, .ref pk), (4, .ref sk)]) hx hb dKM_makePair_132 hl rfl (by decide) rfl (by decide) rfl (fun ls hl => ?_)
      refine lv_goto (tgt := 72) hx hb dKM_makePair_135 (by decide) ?_
      exact ih21 (i21 + 1) s41 pl ls H locs (by omega) hF hR (lv_sub hl [0, 1, 2, 3, 4, 5] rfl) hO hP hD hS
  exact lp21 4 0 s26 pl ls _ _ (by omega) hF hR (lv_sub hl [0, 1, 2, 3, 4, 5] rfl) hO hP hD hS
def M_KM_encapsulate_0 (pt : Nat) (k : Nat) : Prop := (26 ≤ k ∧ k < 30) ∨ k = 14 ∨ k = 30 ∨ k = 31 ∨ k = 32 ∨ k = 33 ∨ k = 34 ∨ k = 35 ∨ k = pt ∨ (0 : Nat) = 1
noncomputable def F_KM_encapsulate_0 (pp : Nat) (pch : Nat) (n : Nat) (pt : Nat) (s : Sto) : Sto := bnd (sC s pch 32 0 0 32) fun s21 => bnd (F_KM_digestOf pp 800 0 800 s21) fun s22 => bnd (F_KM_deriveSeeds 33 32 0 s22) fun s23 => bnd (F_KM_encrypt_0 pp pt 8192 s23) fun s24 => bnd (sC s24 34 pt 0 768 32) fun s25 => s25
set_option maxHeartbeats 400000 in
set_option maxRecDepth 100000 in
theorem N_KM_encapsulate_0 (l : Launch) (g : Gd) (sz : Nat) (T : TyN) (s : Sto) (pl : va_W) (hO : okn g T s pl) (hU : inj T) (h0 st pk ch to : Nat) (pp : Nat) (pch : Nat) (n : Nat) (pt : Nat) (k_h0 : T h0 = some 24) (k_st : T st = some 5) (k_pk : T pk = some pp) (n_pk : nsp pp = (1, 800, [])) (k_ch : T ch = some pch) (n_ch : nsp pch = (1, n, [])) (k_to : T to = some pt) (n_to : nsp pt = (1, 8192, [])) (h1 : 32 ≤ n) (h2 : n < 65536)  : Met l y_KM_encapsulate w_KM_encapsulate ({ frames := 5, cells := 0, slots := 0, locals := 156 } : Room) (va_Pc [.ref h0, .ref st, .ref pk, .ref ch, .ref to] (pr (en g) g.1 vcl sz ([] ++ pl))) (va_Qv (fun (u : (Sto) × va_W) => (u.1 = F_KM_encapsulate_0 pp pch n pt s ∧ frm (M_KM_encapsulate_0 pt) s u.1 ∧ True) ∧ okn g T u.1 u.2) (po g.1 vcl (va_A ([] ++ pl) sz) (fun (u : (Sto) × va_W) => [] ++ u.2)) (va_A ([] ++ pl) sz)) 0 0 (va_A ([] ++ pl) sz) := by
  refine mc_entry (cc := c_KM_encapsulate) (maxL := 5) (ret := none) (by decide) rfl (Nat.le_of_ble_eq_true rfl) ?_
  intro p e s0 m args below meth c ls F hr hlk hnm hsz hP hD hE hA hl
  obtain ⟨hx, hb, hml, hown, hts⟩ := id F
  have hK := hE.1
  generalize va_A ([] ++ pl) sz = A at hD hE hA ⊢
  have hS : va_S A s0.heap s0.heap [] := va_S.rf
  have hl : lv_has ls 5 [(0, .ref h0), (1, .ref st), (2, .ref pk), (3, .ref ch), (4, .ref to)] := hl
  have hR : F_KM_encapsulate_0 pp pch n pt s = F_KM_encapsulate_0 pp pch n pt s := rfl
  have hF : frm (M_KM_encapsulate_0 pt) s s := frm_rf
  refine lv_aload_n hx hb dKM_encapsulate_0 rfl (lv_at hl 3 rfl) ?_
  refine lv_iconst (v := nI 0) hx hb dKM_encapsulate_1 (by decide) ?_
  refine lv_aload_n hx hb dKM_encapsulate_2 rfl (lv_at hl 0 rfl) ?_
  refine nw_get (C := "LatticeKeys$Kem") (TT := T_KM) (N := 10) hx hb hts (wg_ft i_KM) hown hK hO k_h0 (kn := 24) (ci := 5) (fl := [(3, 14), (3, 20), (3, 25), (3, 30), (3, 31), (3, 32), (3, 33), (3, 34), (3, 35), (3, 36)]) rfl hP rfl 5 (by decide) (hts _ (wg_t kw_112)) (fun _ h9 => h9) (cd := (3, 32)) rfl dKM_encapsulate_3 (fun v21 hv21 => ?_)
  obtain ⟨r21, rfl, kr21⟩ := (show ∃ r : Nat, v21 = .ref r ∧ T r = some 32 from hv21)
  refine lv_iconst (v := nI 0) hx hb dKM_encapsulate_6 (by decide) ?_
  refine lv_bipush (v := nI 32) hx hb dKM_encapsulate_7 (by decide) ?_
  refine nw_copyb hx hb (hml.trans hl.1.symm) hown (hts _ (wg_t kw_622)) (hts _ (wg_t kw_526)) (hts _ (wg_t kw_525)) (hts _ (wg_t kw_19)) hK hO hU k_ch (k0 := pch) n_ch kr21 (k1 := 32) rfl hP hD hS (sp := 0) (dp := 0) (n := 32) (by omega) (by omega) (by omega) (by decide) (Nat.le_of_ble_eq_true rfl) dKM_encapsulate_9 (fun s21 pl H locs es21 hO hP hD hS => ?_)
  replace hR := bnd_step hR es21
  have hF := frm_sC hF es21 (by unfold M_KM_encapsulate_0; omega)
  refine lv_aload_n hx hb dKM_encapsulate_12 rfl (lv_at hl 0 rfl) ?_
  refine lv_aload_n hx hb dKM_encapsulate_13 rfl (lv_at hl 2 rfl) ?_
  refine lv_iconst (v := nI 0) hx hb dKM_encapsulate_14 (by decide) ?_
  refine lv_aload_n hx hb dKM_encapsulate_15 rfl (lv_at hl 1 rfl) ?_
  refine nw_get (C := "LatticeKeys$KemSet") (TT := T_KS) (N := 10) hx hb hts (wg_ft i_KS) hown hK hO k_st (kn := 5) (ci := 1) (fl := [(1, 2), (1, 3), (1, 10), (1, 4), (1, 800), (1, 1632), (1, 768), (1, 768), (1, 1568), (1, 1600)]) rfl hP rfl 4 (by decide) (hts _ (wg_t kw_239)) (fun _ h9 => h9) (cd := (1, 800)) rfl dKM_encapsulate_16 (fun v22 hv22 => ?_)
  obtain rfl := (show v22 = .int (nI 800) from hv22)
  refine mp_v (cx := []) (wr := []) hP hD hS hA [] [] rfl rfl rfl (by decide) (va_runV (As := [.ref pk, .int (nI 0), .int (nI 800)]) (rest := []) F (N_KM_digestOf l g _ T s21 pl hO hU h0 pk pp 800 0 800 k_h0 k_pk n_pk (by omega) (by omega)) (cwV 3 hts (wg_app (wg_c kw_661 (wg_c kw_663 (wg_c ks_10 (wg_c kw_3 wg_n)))) kw_664) rfl rfl rfl (by decide +kernel) ⟨by decide, by decide⟩) (pn_W "LatticeKeys$Kem" (en_ok g) (ci := 5) (kn := 24) (fl := [(3, 14), (3, 20), (3, 25), (3, 30), (3, 31), (3, 32), (3, 33), (3, 34), (3, 35), (3, 36)]) hK hO k_h0 rfl hP hD hS hA hE [] rfl rfl rfl) rfl rfl hl.1 rfl (lv_room (Nat.le_of_ble_eq_true rfl)) dKM_encapsulate_19 ⟨by omega, by omega⟩) (fun  u21 H locs hu21 hP hD hS => ?_)
  obtain ⟨s22, pl⟩ := u21
  obtain ⟨⟨eq21, hFc21, -⟩, hO⟩ := hu21
  have hO : okn g T s22 pl := hO
  have hP : va_P g.1 vcl ([] ++ pl) _ := hP
  have hD : va_D _ ([] ++ pl) := hD
  have hFc21 : frm (M_KM_digestOf) s21 s22 := hFc21
  replace hR := bnd_step hR eq21
  have hF := frm_tr hF hFc21 (fun k hk => by unfold M_KM_digestOf at hk; unfold M_KM_encapsulate_0; omega)
  refine W.widen (k := 0) (n := 0) (by omega) (by omega) ?_
  refine lv_aload_n hx hb dKM_encapsulate_22 rfl (lv_at hl 0 rfl) ?_
  refine lv_aload_n hx hb dKM_encapsulate_23 rfl (lv_at hl 0 rfl) ?_
  refine nw_get (C := "LatticeKeys$Kem") (TT := T_KM) (N := 10) hx hb hts (wg_ft i_KM) hown hK hO k_h0 (kn := 24) (ci := 5) (fl := [(3, 14), (3, 20), (3, 25), (3, 30), (3, 31), (3, 32), (3, 33), (3, 34), (3, 35), (3, 36)]) rfl hP rfl 6 (by decide) (hts _ (wg_t kw_113)) (fun _ h9 => h9) (cd := (3, 33)) rfl dKM_encapsulate_24 (fun v23 hv23 => ?_)
  obtain ⟨r22, rfl, kr22⟩ := (show ∃ r : Nat, v23 = .ref r ∧ T r = some 33 from hv23)
  refine lv_iconst (v := nI 0) hx hb dKM_encapsulate_27 (by decide) ?_
  refine mp_v (cx := []) (wr := []) hP hD hS hA [] [] rfl rfl rfl (by decide) (va_runV (As := [.ref r22, .int (nI 0)]) (rest := []) F (N_KM_deriveSeeds l g _ T s22 pl hO hU h0 r22 33 32 0 k_h0 kr22 rfl (by omega) (by omega)) (cwV 2 hts (wg_app (wg_c kw_1114 (wg_c kw_1116 (wg_c ks_26 (wg_c kw_3 wg_n)))) kw_1117) rfl rfl rfl (by decide +kernel) ⟨by decide, by decide⟩) (pn_W "LatticeKeys$Kem" (en_ok g) (ci := 5) (kn := 24) (fl := [(3, 14), (3, 20), (3, 25), (3, 30), (3, 31), (3, 32), (3, 33), (3, 34), (3, 35), (3, 36)]) hK hO k_h0 rfl hP hD hS hA hE [] rfl rfl rfl) rfl rfl hl.1 rfl (lv_room (Nat.le_of_ble_eq_true rfl)) dKM_encapsulate_28 ⟨by omega, by omega⟩) (fun  u22 H locs hu22 hP hD hS => ?_)
  obtain ⟨s23, pl⟩ := u22
  obtain ⟨⟨eq22, hFc22, -⟩, hO⟩ := hu22
  have hO : okn g T s23 pl := hO
  have hP : va_P g.1 vcl ([] ++ pl) _ := hP
  have hD : va_D _ ([] ++ pl) := hD
  have hFc22 : frm (M_KM_deriveSeeds) s22 s23 := hFc22
  replace hR := bnd_step hR eq22
  have hF := frm_tr hF hFc22 (fun k hk => by unfold M_KM_deriveSeeds at hk; unfold M_KM_encapsulate_0; omega)
  refine W.widen (k := 0) (n := 0) (by omega) (by omega) ?_
  refine lv_aload_n hx hb dKM_encapsulate_31 rfl (lv_at hl 0 rfl) ?_
  refine lv_aload_n hx hb dKM_encapsulate_32 rfl (lv_at hl 1 rfl) ?_
  refine lv_aload_n hx hb dKM_encapsulate_33 rfl (lv_at hl 2 rfl) ?_
  refine lv_aload hx hb dKM_encapsulate_34 (lv_at hl 4 rfl) ?_
  refine mp_v (cx := []) (wr := []) hP hD hS hA [] [] rfl rfl rfl (by decide) (va_runV (As := [.ref st, .ref pk, .ref to]) (rest := []) F (N_KM_encrypt_0 l g _ T s23 pl hO hU h0 st pk to pp pt 8192 k_h0 k_st k_pk n_pk k_to n_to (by omega) (by omega)) (cwV 3 hts (wg_app (wg_c kw_1118 (wg_c kw_1120 (wg_c ks_27 (wg_c kw_3 wg_n)))) kw_1121) rfl rfl rfl (by decide +kernel) ⟨by decide, by decide⟩) (pn_W "LatticeKeys$Kem" (en_ok g) (ci := 5) (kn := 24) (fl := [(3, 14), (3, 20), (3, 25), (3, 30), (3, 31), (3, 32), (3, 33), (3, 34), (3, 35), (3, 36)]) hK hO k_h0 rfl hP hD hS hA hE [] rfl rfl rfl) rfl rfl hl.1 rfl (lv_room (Nat.le_of_ble_eq_true rfl)) dKM_encapsulate_36 ⟨by omega, by omega⟩) (fun  u23 H locs hu23 hP hD hS => ?_)
  obtain ⟨s24, pl⟩ := u23
  obtain ⟨⟨eq23, hFc23, -⟩, hO⟩ := hu23
  have hO : okn g T s24 pl := hO
  have hP : va_P g.1 vcl ([] ++ pl) _ := hP
  have hD : va_D _ ([] ++ pl) := hD
  have hFc23 : frm (M_KM_encrypt_0 pt) s23 s24 := hFc23
  replace hR := bnd_step hR eq23
  have hF := frm_tr hF hFc23 (fun k hk => by unfold M_KM_encrypt_0 at hk; unfold M_KM_encapsulate_0; omega)
  refine W.widen (k := 0) (n := 0) (by omega) (by omega) ?_
  refine lv_aload_n hx hb dKM_encapsulate_39 rfl (lv_at hl 0 rfl) ?_
  refine nw_get (C := "LatticeKeys$Kem") (TT := T_KM) (N := 10) hx hb hts (wg_ft i_KM) hown hK hO k_h0 (kn := 24) (ci := 5) (fl := [(3, 14), (3, 20), (3, 25), (3, 30), (3, 31), (3, 32), (3, 33), (3, 34), (3, 35), (3, 36)]) rfl hP rfl 7 (by decide) (hts _ (wg_t kw_114)) (fun _ h9 => h9) (cd := (3, 34)) rfl dKM_encapsulate_40 (fun v24 hv24 => ?_)
  obtain ⟨r23, rfl, kr23⟩ := (show ∃ r : Nat, v24 = .ref r ∧ T r = some 34 from hv24)
  refine lv_iconst (v := nI 0) hx hb dKM_encapsulate_43 (by decide) ?_
  refine lv_aload hx hb dKM_encapsulate_44 (lv_at hl 4 rfl) ?_
  refine lv_aload_n hx hb dKM_encapsulate_46 rfl (lv_at hl 1 rfl) ?_
  refine nw_get (C := "LatticeKeys$KemSet") (TT := T_KS) (N := 10) hx hb hts (wg_ft i_KS) hown hK hO k_st (kn := 5) (ci := 1) (fl := [(1, 2), (1, 3), (1, 10), (1, 4), (1, 800), (1, 1632), (1, 768), (1, 768), (1, 1568), (1, 1600)]) rfl hP rfl 6 (by decide) (hts _ (wg_t kw_244)) (fun _ h9 => h9) (cd := (1, 768)) rfl dKM_encapsulate_47 (fun v25 hv25 => ?_)
  obtain rfl := (show v25 = .int (nI 768) from hv25)
  refine lv_bipush (v := nI 32) hx hb dKM_encapsulate_50 (by decide) ?_
  refine nw_copyb hx hb (hml.trans hl.1.symm) hown (hts _ (wg_t kw_622)) (hts _ (wg_t kw_526)) (hts _ (wg_t kw_525)) (hts _ (wg_t kw_19)) hK hO hU kr23 (k0 := 34) rfl k_to (k1 := pt) n_to hP hD hS (sp := 0) (dp := 768) (n := 32) (by omega) (by omega) (by omega) (by decide) (Nat.le_of_ble_eq_true rfl) dKM_encapsulate_52 (fun s25 pl H locs es22 hO hP hD hS => ?_)
  replace hR := bnd_step hR es22
  have hF := frm_sC hF es22 (by unfold M_KM_encapsulate_0; omega)
  exact mp_vret hx hb hr hlk hP hD hS (s25, pl) ⟨⟨hR.symm, hF, trivial⟩, hO⟩ [] rfl rfl rfl (by omega) (by omega) dKM_encapsulate_55
def M_KM_encapsulate_1 (pt : Nat) (k : Nat) : Prop := (26 ≤ k ∧ k < 30) ∨ k = 14 ∨ k = 30 ∨ k = 31 ∨ k = 32 ∨ k = 33 ∨ k = 34 ∨ k = 35 ∨ k = pt ∨ (0 : Nat) = 1
noncomputable def F_KM_encapsulate_1 (pp : Nat) (pch : Nat) (n : Nat) (pt : Nat) (s : Sto) : Sto := bnd (sC s pch 32 0 0 32) fun s21 => bnd (F_KM_digestOf pp 1184 0 1184 s21) fun s22 => bnd (F_KM_deriveSeeds 33 32 0 s22) fun s23 => bnd (F_KM_encrypt_1 pp pt 8192 s23) fun s24 => bnd (sC s24 34 pt 0 1088 32) fun s25 => s25
set_option maxHeartbeats 400000 in
set_option maxRecDepth 100000 in
theorem N_KM_encapsulate_1 (l : Launch) (g : Gd) (sz : Nat) (T : TyN) (s : Sto) (pl : va_W) (hO : okn g T s pl) (hU : inj T) (h0 st pk ch to : Nat) (pp : Nat) (pch : Nat) (n : Nat) (pt : Nat) (k_h0 : T h0 = some 24) (k_st : T st = some 6) (k_pk : T pk = some pp) (n_pk : nsp pp = (1, 1184, [])) (k_ch : T ch = some pch) (n_ch : nsp pch = (1, n, [])) (k_to : T to = some pt) (n_to : nsp pt = (1, 8192, [])) (h1 : 32 ≤ n) (h2 : n < 65536)  : Met l y_KM_encapsulate w_KM_encapsulate ({ frames := 5, cells := 0, slots := 0, locals := 156 } : Room) (va_Pc [.ref h0, .ref st, .ref pk, .ref ch, .ref to] (pr (en g) g.1 vcl sz ([] ++ pl))) (va_Qv (fun (u : (Sto) × va_W) => (u.1 = F_KM_encapsulate_1 pp pch n pt s ∧ frm (M_KM_encapsulate_1 pt) s u.1 ∧ True) ∧ okn g T u.1 u.2) (po g.1 vcl (va_A ([] ++ pl) sz) (fun (u : (Sto) × va_W) => [] ++ u.2)) (va_A ([] ++ pl) sz)) 0 0 (va_A ([] ++ pl) sz) := by
  refine mc_entry (cc := c_KM_encapsulate) (maxL := 5) (ret := none) (by decide) rfl (Nat.le_of_ble_eq_true rfl) ?_
  intro p e s0 m args below meth c ls F hr hlk hnm hsz hP hD hE hA hl
  obtain ⟨hx, hb, hml, hown, hts⟩ := id F
  have hK := hE.1
  generalize va_A ([] ++ pl) sz = A at hD hE hA ⊢
  have hS : va_S A s0.heap s0.heap [] := va_S.rf
  have hl : lv_has ls 5 [(0, .ref h0), (1, .ref st), (2, .ref pk), (3, .ref ch), (4, .ref to)] := hl
  have hR : F_KM_encapsulate_1 pp pch n pt s = F_KM_encapsulate_1 pp pch n pt s := rfl
  have hF : frm (M_KM_encapsulate_1 pt) s s := frm_rf
  refine lv_aload_n hx hb dKM_encapsulate_0 rfl (lv_at hl 3 rfl) ?_
  refine lv_iconst (v := nI 0) hx hb dKM_encapsulate_1 (by decide) ?_
  refine lv_aload_n hx hb dKM_encapsulate_2 rfl (lv_at hl 0 rfl) ?_
  refine nw_get (C := "LatticeKeys$Kem") (TT := T_KM) (N := 10) hx hb hts (wg_ft i_KM) hown hK hO k_h0 (kn := 24) (ci := 5) (fl := [(3, 14), (3, 20), (3, 25), (3, 30), (3, 31), (3, 32), (3, 33), (3, 34), (3, 35), (3, 36)]) rfl hP rfl 5 (by decide) (hts _ (wg_t kw_112)) (fun _ h9 => h9) (cd := (3, 32)) rfl dKM_encapsulate_3 (fun v21 hv21 => ?_)
  obtain ⟨r21, rfl, kr21⟩ := (show ∃ r : Nat, v21 = .ref r ∧ T r = some 32 from hv21)
  refine lv_iconst (v := nI 0) hx hb dKM_encapsulate_6 (by decide) ?_
  refine lv_bipush (v := nI 32) hx hb dKM_encapsulate_7 (by decide) ?_
  refine nw_copyb hx hb (hml.trans hl.1.symm) hown (hts _ (wg_t kw_622)) (hts _ (wg_t kw_526)) (hts _ (wg_t kw_525)) (hts _ (wg_t kw_19)) hK hO hU k_ch (k0 := pch) n_ch kr21 (k1 := 32) rfl hP hD hS (sp := 0) (dp := 0) (n := 32) (by omega) (by omega) (by omega) (by decide) (Nat.le_of_ble_eq_true rfl) dKM_encapsulate_9 (fun s21 pl H locs es21 hO hP hD hS => ?_)
  replace hR := bnd_step hR es21
  have hF := frm_sC hF es21 (by unfold M_KM_encapsulate_1; omega)
  refine lv_aload_n hx hb dKM_encapsulate_12 rfl (lv_at hl 0 rfl) ?_
  refine lv_aload_n hx hb dKM_encapsulate_13 rfl (lv_at hl 2 rfl) ?_
  refine lv_iconst (v := nI 0) hx hb dKM_encapsulate_14 (by decide) ?_
  refine lv_aload_n hx hb dKM_encapsulate_15 rfl (lv_at hl 1 rfl) ?_
  refine nw_get (C := "LatticeKeys$KemSet") (TT := T_KS) (N := 10) hx hb hts (wg_ft i_KS) hown hK hO k_st (kn := 6) (ci := 1) (fl := [(1, 3), (1, 2), (1, 10), (1, 4), (1, 1184), (1, 2400), (1, 1088), (1, 1152), (1, 2336), (1, 2368)]) rfl hP rfl 4 (by decide) (hts _ (wg_t kw_239)) (fun _ h9 => h9) (cd := (1, 1184)) rfl dKM_encapsulate_16 (fun v22 hv22 => ?_)
  obtain rfl := (show v22 = .int (nI 1184) from hv22)
  refine mp_v (cx := []) (wr := []) hP hD hS hA [] [] rfl rfl rfl (by decide) (va_runV (As := [.ref pk, .int (nI 0), .int (nI 1184)]) (rest := []) F (N_KM_digestOf l g _ T s21 pl hO hU h0 pk pp 1184 0 1184 k_h0 k_pk n_pk (by omega) (by omega)) (cwV 3 hts (wg_app (wg_c kw_661 (wg_c kw_663 (wg_c ks_10 (wg_c kw_3 wg_n)))) kw_664) rfl rfl rfl (by decide +kernel) ⟨by decide, by decide⟩) (pn_W "LatticeKeys$Kem" (en_ok g) (ci := 5) (kn := 24) (fl := [(3, 14), (3, 20), (3, 25), (3, 30), (3, 31), (3, 32), (3, 33), (3, 34), (3, 35), (3, 36)]) hK hO k_h0 rfl hP hD hS hA hE [] rfl rfl rfl) rfl rfl hl.1 rfl (lv_room (Nat.le_of_ble_eq_true rfl)) dKM_encapsulate_19 ⟨by omega, by omega⟩) (fun  u21 H locs hu21 hP hD hS => ?_)
  obtain ⟨s22, pl⟩ := u21
  obtain ⟨⟨eq21, hFc21, -⟩, hO⟩ := hu21
  have hO : okn g T s22 pl := hO
  have hP : va_P g.1 vcl ([] ++ pl) _ := hP
  have hD : va_D _ ([] ++ pl) := hD
  have hFc21 : frm (M_KM_digestOf) s21 s22 := hFc21
  replace hR := bnd_step hR eq21
  have hF := frm_tr hF hFc21 (fun k hk => by unfold M_KM_digestOf at hk; unfold M_KM_encapsulate_1; omega)
  refine W.widen (k := 0) (n := 0) (by omega) (by omega) ?_
  refine lv_aload_n hx hb dKM_encapsulate_22 rfl (lv_at hl 0 rfl) ?_
  refine lv_aload_n hx hb dKM_encapsulate_23 rfl (lv_at hl 0 rfl) ?_
  refine nw_get (C := "LatticeKeys$Kem") (TT := T_KM) (N := 10) hx hb hts (wg_ft i_KM) hown hK hO k_h0 (kn := 24) (ci := 5) (fl := [(3, 14), (3, 20), (3, 25), (3, 30), (3, 31), (3, 32), (3, 33), (3, 34), (3, 35), (3, 36)]) rfl hP rfl 6 (by decide) (hts _ (wg_t kw_113)) (fun _ h9 => h9) (cd := (3, 33)) rfl dKM_encapsulate_24 (fun v23 hv23 => ?_)
  obtain ⟨r22, rfl, kr22⟩ := (show ∃ r : Nat, v23 = .ref r ∧ T r = some 33 from hv23)
  refine lv_iconst (v := nI 0) hx hb dKM_encapsulate_27 (by decide) ?_
  refine mp_v (cx := []) (wr := []) hP hD hS hA [] [] rfl rfl rfl (by decide) (va_runV (As := [.ref r22, .int (nI 0)]) (rest := []) F (N_KM_deriveSeeds l g _ T s22 pl hO hU h0 r22 33 32 0 k_h0 kr22 rfl (by omega) (by omega)) (cwV 2 hts (wg_app (wg_c kw_1114 (wg_c kw_1116 (wg_c ks_26 (wg_c kw_3 wg_n)))) kw_1117) rfl rfl rfl (by decide +kernel) ⟨by decide, by decide⟩) (pn_W "LatticeKeys$Kem" (en_ok g) (ci := 5) (kn := 24) (fl := [(3, 14), (3, 20), (3, 25), (3, 30), (3, 31), (3, 32), (3, 33), (3, 34), (3, 35), (3, 36)]) hK hO k_h0 rfl hP hD hS hA hE [] rfl rfl rfl) rfl rfl hl.1 rfl (lv_room (Nat.le_of_ble_eq_true rfl)) dKM_encapsulate_28 ⟨by omega, by omega⟩) (fun  u22 H locs hu22 hP hD hS => ?_)
  obtain ⟨s23, pl⟩ := u22
  obtain ⟨⟨eq22, hFc22, -⟩, hO⟩ := hu22
  have hO : okn g T s23 pl := hO
  have hP : va_P g.1 vcl ([] ++ pl) _ := hP
  have hD : va_D _ ([] ++ pl) := hD
  have hFc22 : frm (M_KM_deriveSeeds) s22 s23 := hFc22
  replace hR := bnd_step hR eq22
  have hF := frm_tr hF hFc22 (fun k hk => by unfold M_KM_deriveSeeds at hk; unfold M_KM_encapsulate_1; omega)
  refine W.widen (k := 0) (n := 0) (by omega) (by omega) ?_
  refine lv_aload_n hx hb dKM_encapsulate_31 rfl (lv_at hl 0 rfl) ?_
  refine lv_aload_n hx hb dKM_encapsulate_32 rfl (lv_at hl 1 rfl) ?_
  refine lv_aload_n hx hb dKM_encapsulate_33 rfl (lv_at hl 2 rfl) ?_
  refine lv_aload hx hb dKM_encapsulate_34 (lv_at hl 4 rfl) ?_
  refine mp_v (cx := []) (wr := []) hP hD hS hA [] [] rfl rfl rfl (by decide) (va_runV (As := [.ref st, .ref pk, .ref to]) (rest := []) F (N_KM_encrypt_1 l g _ T s23 pl hO hU h0 st pk to pp pt 8192 k_h0 k_st k_pk n_pk k_to n_to (by omega) (by omega)) (cwV 3 hts (wg_app (wg_c kw_1118 (wg_c kw_1120 (wg_c ks_27 (wg_c kw_3 wg_n)))) kw_1121) rfl rfl rfl (by decide +kernel) ⟨by decide, by decide⟩) (pn_W "LatticeKeys$Kem" (en_ok g) (ci := 5) (kn := 24) (fl := [(3, 14), (3, 20), (3, 25), (3, 30), (3, 31), (3, 32), (3, 33), (3, 34), (3, 35), (3, 36)]) hK hO k_h0 rfl hP hD hS hA hE [] rfl rfl rfl) rfl rfl hl.1 rfl (lv_room (Nat.le_of_ble_eq_true rfl)) dKM_encapsulate_36 ⟨by omega, by omega⟩) (fun  u23 H locs hu23 hP hD hS => ?_)
  obtain ⟨s24, pl⟩ := u23
  obtain ⟨⟨eq23, hFc23, -⟩, hO⟩ := hu23
  have hO : okn g T s24 pl := hO
  have hP : va_P g.1 vcl ([] ++ pl) _ := hP
  have hD : va_D _ ([] ++ pl) := hD
  have hFc23 : frm (M_KM_encrypt_1 pt) s23 s24 := hFc23
  replace hR := bnd_step hR eq23
  have hF := frm_tr hF hFc23 (fun k hk => by unfold M_KM_encrypt_1 at hk; unfold M_KM_encapsulate_1; omega)
  refine W.widen (k := 0) (n := 0) (by omega) (by omega) ?_
  refine lv_aload_n hx hb dKM_encapsulate_39 rfl (lv_at hl 0 rfl) ?_
  refine nw_get (C := "LatticeKeys$Kem") (TT := T_KM) (N := 10) hx hb hts (wg_ft i_KM) hown hK hO k_h0 (kn := 24) (ci := 5) (fl := [(3, 14), (3, 20), (3, 25), (3, 30), (3, 31), (3, 32), (3, 33), (3, 34), (3, 35), (3, 36)]) rfl hP rfl 7 (by decide) (hts _ (wg_t kw_114)) (fun _ h9 => h9) (cd := (3, 34)) rfl dKM_encapsulate_40 (fun v24 hv24 => ?_)
  obtain ⟨r23, rfl, kr23⟩ := (show ∃ r : Nat, v24 = .ref r ∧ T r = some 34 from hv24)
  refine lv_iconst (v := nI 0) hx hb dKM_encapsulate_43 (by decide) ?_
  refine lv_aload hx hb dKM_encapsulate_44 (lv_at hl 4 rfl) ?_
  refine lv_aload_n hx hb dKM_encapsulate_46 rfl (lv_at hl 1 rfl) ?_
  refine nw_get (C := "LatticeKeys$KemSet") (TT := T_KS) (N := 10) hx hb hts (wg_ft i_KS) hown hK hO k_st (kn := 6) (ci := 1) (fl := [(1, 3), (1, 2), (1, 10), (1, 4), (1, 1184), (1, 2400), (1, 1088), (1, 1152), (1, 2336), (1, 2368)]) rfl hP rfl 6 (by decide) (hts _ (wg_t kw_244)) (fun _ h9 => h9) (cd := (1, 1088)) rfl dKM_encapsulate_47 (fun v25 hv25 => ?_)
  obtain rfl := (show v25 = .int (nI 1088) from hv25)
  refine lv_bipush (v := nI 32) hx hb dKM_encapsulate_50 (by decide) ?_
  refine nw_copyb hx hb (hml.trans hl.1.symm) hown (hts _ (wg_t kw_622)) (hts _ (wg_t kw_526)) (hts _ (wg_t kw_525)) (hts _ (wg_t kw_19)) hK hO hU kr23 (k0 := 34) rfl k_to (k1 := pt) n_to hP hD hS (sp := 0) (dp := 1088) (n := 32) (by omega) (by omega) (by omega) (by decide) (Nat.le_of_ble_eq_true rfl) dKM_encapsulate_52 (fun s25 pl H locs es22 hO hP hD hS => ?_)
  replace hR := bnd_step hR es22
  have hF := frm_sC hF es22 (by unfold M_KM_encapsulate_1; omega)
  exact mp_vret hx hb hr hlk hP hD hS (s25, pl) ⟨⟨hR.symm, hF, trivial⟩, hO⟩ [] rfl rfl rfl (by omega) (by omega) dKM_encapsulate_55
def M_KM_encapsulate_2 (pt : Nat) (k : Nat) : Prop := (26 ≤ k ∧ k < 30) ∨ k = 14 ∨ k = 30 ∨ k = 31 ∨ k = 32 ∨ k = 33 ∨ k = 34 ∨ k = 35 ∨ k = pt ∨ (0 : Nat) = 1
noncomputable def F_KM_encapsulate_2 (pp : Nat) (pch : Nat) (n : Nat) (pt : Nat) (s : Sto) : Sto := bnd (sC s pch 32 0 0 32) fun s21 => bnd (F_KM_digestOf pp 1568 0 1568 s21) fun s22 => bnd (F_KM_deriveSeeds 33 32 0 s22) fun s23 => bnd (F_KM_encrypt_2 pp pt 8192 s23) fun s24 => bnd (sC s24 34 pt 0 1568 32) fun s25 => s25
set_option maxHeartbeats 400000 in
set_option maxRecDepth 100000 in
theorem N_KM_encapsulate_2 (l : Launch) (g : Gd) (sz : Nat) (T : TyN) (s : Sto) (pl : va_W) (hO : okn g T s pl) (hU : inj T) (h0 st pk ch to : Nat) (pp : Nat) (pch : Nat) (n : Nat) (pt : Nat) (k_h0 : T h0 = some 24) (k_st : T st = some 7) (k_pk : T pk = some pp) (n_pk : nsp pp = (1, 1568, [])) (k_ch : T ch = some pch) (n_ch : nsp pch = (1, n, [])) (k_to : T to = some pt) (n_to : nsp pt = (1, 8192, [])) (h1 : 32 ≤ n) (h2 : n < 65536)  : Met l y_KM_encapsulate w_KM_encapsulate ({ frames := 5, cells := 0, slots := 0, locals := 156 } : Room) (va_Pc [.ref h0, .ref st, .ref pk, .ref ch, .ref to] (pr (en g) g.1 vcl sz ([] ++ pl))) (va_Qv (fun (u : (Sto) × va_W) => (u.1 = F_KM_encapsulate_2 pp pch n pt s ∧ frm (M_KM_encapsulate_2 pt) s u.1 ∧ True) ∧ okn g T u.1 u.2) (po g.1 vcl (va_A ([] ++ pl) sz) (fun (u : (Sto) × va_W) => [] ++ u.2)) (va_A ([] ++ pl) sz)) 0 0 (va_A ([] ++ pl) sz) := by
  refine mc_entry (cc := c_KM_encapsulate) (maxL := 5) (ret := none) (by decide) rfl (Nat.le_of_ble_eq_true rfl) ?_
  intro p e s0 m args below meth c ls F hr hlk hnm hsz hP hD hE hA hl
  obtain ⟨hx, hb, hml, hown, hts⟩ := id F
  have hK := hE.1
  generalize va_A ([] ++ pl) sz = A at hD hE hA ⊢
  have hS : va_S A s0.heap s0.heap [] := va_S.rf
  have hl : lv_has ls 5 [(0, .ref h0), (1, .ref st), (2, .ref pk), (3, .ref ch), (4, .ref to)] := hl
  have hR : F_KM_encapsulate_2 pp pch n pt s = F_KM_encapsulate_2 pp pch n pt s := rfl
  have hF : frm (M_KM_encapsulate_2 pt) s s := frm_rf
  refine lv_aload_n hx hb dKM_encapsulate_0 rfl (lv_at hl 3 rfl) ?_
  refine lv_iconst (v := nI 0) hx hb dKM_encapsulate_1 (by decide) ?_
  refine lv_aload_n hx hb dKM_encapsulate_2 rfl (lv_at hl 0 rfl) ?_
  refine nw_get (C := "LatticeKeys$Kem") (TT := T_KM) (N := 10) hx hb hts (wg_ft i_KM) hown hK hO k_h0 (kn := 24) (ci := 5) (fl := [(3, 14), (3, 20), (3, 25), (3, 30), (3, 31), (3, 32), (3, 33), (3, 34), (3, 35), (3, 36)]) rfl hP rfl 5 (by decide) (hts _ (wg_t kw_112)) (fun _ h9 => h9) (cd := (3, 32)) rfl dKM_encapsulate_3 (fun v21 hv21 => ?_)
  obtain ⟨r21, rfl, kr21⟩ := (show ∃ r : Nat, v21 = .ref r ∧ T r = some 32 from hv21)
  refine lv_iconst (v := nI 0) hx hb dKM_encapsulate_6 (by decide) ?_
  refine lv_bipush (v := nI 32) hx hb dKM_encapsulate_7 (by decide) ?_
  refine nw_copyb hx hb (hml.trans hl.1.symm) hown (hts _ (wg_t kw_622)) (hts _ (wg_t kw_526)) (hts _ (wg_t kw_525)) (hts _ (wg_t kw_19)) hK hO hU k_ch (k0 := pch) n_ch kr21 (k1 := 32) rfl hP hD hS (sp := 0) (dp := 0) (n := 32) (by omega) (by omega) (by omega) (by decide) (Nat.le_of_ble_eq_true rfl) dKM_encapsulate_9 (fun s21 pl H locs es21 hO hP hD hS => ?_)
  replace hR := bnd_step hR es21
  have hF := frm_sC hF es21 (by unfold M_KM_encapsulate_2; omega)
  refine lv_aload_n hx hb dKM_encapsulate_12 rfl (lv_at hl 0 rfl) ?_
  refine lv_aload_n hx hb dKM_encapsulate_13 rfl (lv_at hl 2 rfl) ?_
  refine lv_iconst (v := nI 0) hx hb dKM_encapsulate_14 (by decide) ?_
  refine lv_aload_n hx hb dKM_encapsulate_15 rfl (lv_at hl 1 rfl) ?_
  refine nw_get (C := "LatticeKeys$KemSet") (TT := T_KS) (N := 10) hx hb hts (wg_ft i_KS) hown hK hO k_st (kn := 7) (ci := 1) (fl := [(1, 4), (1, 2), (1, 11), (1, 5), (1, 1568), (1, 3168), (1, 1568), (1, 1536), (1, 3104), (1, 3136)]) rfl hP rfl 4 (by decide) (hts _ (wg_t kw_239)) (fun _ h9 => h9) (cd := (1, 1568)) rfl dKM_encapsulate_16 (fun v22 hv22 => ?_)
  obtain rfl := (show v22 = .int (nI 1568) from hv22)
  refine mp_v (cx := []) (wr := []) hP hD hS hA [] [] rfl rfl rfl (by decide) (va_runV (As := [.ref pk, .int (nI 0), .int (nI 1568)]) (rest := []) F (N_KM_digestOf l g _ T s21 pl hO hU h0 pk pp 1568 0 1568 k_h0 k_pk n_pk (by omega) (by omega)) (cwV 3 hts (wg_app (wg_c kw_661 (wg_c kw_663 (wg_c ks_10 (wg_c kw_3 wg_n)))) kw_664) rfl rfl rfl (by decide +kernel) ⟨by decide, by decide⟩) (pn_W "LatticeKeys$Kem" (en_ok g) (ci := 5) (kn := 24) (fl := [(3, 14), (3, 20), (3, 25), (3, 30), (3, 31), (3, 32), (3, 33), (3, 34), (3, 35), (3, 36)]) hK hO k_h0 rfl hP hD hS hA hE [] rfl rfl rfl) rfl rfl hl.1 rfl (lv_room (Nat.le_of_ble_eq_true rfl)) dKM_encapsulate_19 ⟨by omega, by omega⟩) (fun  u21 H locs hu21 hP hD hS => ?_)
  obtain ⟨s22, pl⟩ := u21
  obtain ⟨⟨eq21, hFc21, -⟩, hO⟩ := hu21
  have hO : okn g T s22 pl := hO
  have hP : va_P g.1 vcl ([] ++ pl) _ := hP
  have hD : va_D _ ([] ++ pl) := hD
  have hFc21 : frm (M_KM_digestOf) s21 s22 := hFc21
  replace hR := bnd_step hR eq21
  have hF := frm_tr hF hFc21 (fun k hk => by unfold M_KM_digestOf at hk; unfold M_KM_encapsulate_2; omega)
  refine W.widen (k := 0) (n := 0) (by omega) (by omega) ?_
  refine lv_aload_n hx hb dKM_encapsulate_22 rfl (lv_at hl 0 rfl) ?_
  refine lv_aload_n hx hb dKM_encapsulate_23 rfl (lv_at hl 0 rfl) ?_
  refine nw_get (C := "LatticeKeys$Kem") (TT := T_KM) (N := 10) hx hb hts (wg_ft i_KM) hown hK hO k_h0 (kn := 24) (ci := 5) (fl := [(3, 14), (3, 20), (3, 25), (3, 30), (3, 31), (3, 32), (3, 33), (3, 34), (3, 35), (3, 36)]) rfl hP rfl 6 (by decide) (hts _ (wg_t kw_113)) (fun _ h9 => h9) (cd := (3, 33)) rfl dKM_encapsulate_24 (fun v23 hv23 => ?_)
  obtain ⟨r22, rfl, kr22⟩ := (show ∃ r : Nat, v23 = .ref r ∧ T r = some 33 from hv23)
  refine lv_iconst (v := nI 0) hx hb dKM_encapsulate_27 (by decide) ?_
  refine mp_v (cx := []) (wr := []) hP hD hS hA [] [] rfl rfl rfl (by decide) (va_runV (As := [.ref r22, .int (nI 0)]) (rest := []) F (N_KM_deriveSeeds l g _ T s22 pl hO hU h0 r22 33 32 0 k_h0 kr22 rfl (by omega) (by omega)) (cwV 2 hts (wg_app (wg_c kw_1114 (wg_c kw_1116 (wg_c ks_26 (wg_c kw_3 wg_n)))) kw_1117) rfl rfl rfl (by decide +kernel) ⟨by decide, by decide⟩) (pn_W "LatticeKeys$Kem" (en_ok g) (ci := 5) (kn := 24) (fl := [(3, 14), (3, 20), (3, 25), (3, 30), (3, 31), (3, 32), (3, 33), (3, 34), (3, 35), (3, 36)]) hK hO k_h0 rfl hP hD hS hA hE [] rfl rfl rfl) rfl rfl hl.1 rfl (lv_room (Nat.le_of_ble_eq_true rfl)) dKM_encapsulate_28 ⟨by omega, by omega⟩) (fun  u22 H locs hu22 hP hD hS => ?_)
  obtain ⟨s23, pl⟩ := u22
  obtain ⟨⟨eq22, hFc22, -⟩, hO⟩ := hu22
  have hO : okn g T s23 pl := hO
  have hP : va_P g.1 vcl ([] ++ pl) _ := hP
  have hD : va_D _ ([] ++ pl) := hD
  have hFc22 : frm (M_KM_deriveSeeds) s22 s23 := hFc22
  replace hR := bnd_step hR eq22
  have hF := frm_tr hF hFc22 (fun k hk => by unfold M_KM_deriveSeeds at hk; unfold M_KM_encapsulate_2; omega)
  refine W.widen (k := 0) (n := 0) (by omega) (by omega) ?_
  refine lv_aload_n hx hb dKM_encapsulate_31 rfl (lv_at hl 0 rfl) ?_
  refine lv_aload_n hx hb dKM_encapsulate_32 rfl (lv_at hl 1 rfl) ?_
  refine lv_aload_n hx hb dKM_encapsulate_33 rfl (lv_at hl 2 rfl) ?_
  refine lv_aload hx hb dKM_encapsulate_34 (lv_at hl 4 rfl) ?_
  refine mp_v (cx := []) (wr := []) hP hD hS hA [] [] rfl rfl rfl (by decide) (va_runV (As := [.ref st, .ref pk, .ref to]) (rest := []) F (N_KM_encrypt_2 l g _ T s23 pl hO hU h0 st pk to pp pt 8192 k_h0 k_st k_pk n_pk k_to n_to (by omega) (by omega)) (cwV 3 hts (wg_app (wg_c kw_1118 (wg_c kw_1120 (wg_c ks_27 (wg_c kw_3 wg_n)))) kw_1121) rfl rfl rfl (by decide +kernel) ⟨by decide, by decide⟩) (pn_W "LatticeKeys$Kem" (en_ok g) (ci := 5) (kn := 24) (fl := [(3, 14), (3, 20), (3, 25), (3, 30), (3, 31), (3, 32), (3, 33), (3, 34), (3, 35), (3, 36)]) hK hO k_h0 rfl hP hD hS hA hE [] rfl rfl rfl) rfl rfl hl.1 rfl (lv_room (Nat.le_of_ble_eq_true rfl)) dKM_encapsulate_36 ⟨by omega, by omega⟩) (fun  u23 H locs hu23 hP hD hS => ?_)
  obtain ⟨s24, pl⟩ := u23
  obtain ⟨⟨eq23, hFc23, -⟩, hO⟩ := hu23
  have hO : okn g T s24 pl := hO
  have hP : va_P g.1 vcl ([] ++ pl) _ := hP
  have hD : va_D _ ([] ++ pl) := hD
  have hFc23 : frm (M_KM_encrypt_2 pt) s23 s24 := hFc23
  replace hR := bnd_step hR eq23
  have hF := frm_tr hF hFc23 (fun k hk => by unfold M_KM_encrypt_2 at hk; unfold M_KM_encapsulate_2; omega)
  refine W.widen (k := 0) (n := 0) (by omega) (by omega) ?_
  refine lv_aload_n hx hb dKM_encapsulate_39 rfl (lv_at hl 0 rfl) ?_
  refine nw_get (C := "LatticeKeys$Kem") (TT := T_KM) (N := 10) hx hb hts (wg_ft i_KM) hown hK hO k_h0 (kn := 24) (ci := 5) (fl := [(3, 14), (3, 20), (3, 25), (3, 30), (3, 31), (3, 32), (3, 33), (3, 34), (3, 35), (3, 36)]) rfl hP rfl 7 (by decide) (hts _ (wg_t kw_114)) (fun _ h9 => h9) (cd := (3, 34)) rfl dKM_encapsulate_40 (fun v24 hv24 => ?_)
  obtain ⟨r23, rfl, kr23⟩ := (show ∃ r : Nat, v24 = .ref r ∧ T r = some 34 from hv24)
  refine lv_iconst (v := nI 0) hx hb dKM_encapsulate_43 (by decide) ?_
  refine lv_aload hx hb dKM_encapsulate_44 (lv_at hl 4 rfl) ?_
  refine lv_aload_n hx hb dKM_encapsulate_46 rfl (lv_at hl 1 rfl) ?_
  refine nw_get (C := "LatticeKeys$KemSet") (TT := T_KS) (N := 10) hx hb hts (wg_ft i_KS) hown hK hO k_st (kn := 7) (ci := 1) (fl := [(1, 4), (1, 2), (1, 11), (1, 5), (1, 1568), (1, 3168), (1, 1568), (1, 1536), (1, 3104), (1, 3136)]) rfl hP rfl 6 (by decide) (hts _ (wg_t kw_244)) (fun _ h9 => h9) (cd := (1, 1568)) rfl dKM_encapsulate_47 (fun v25 hv25 => ?_)
  obtain rfl := (show v25 = .int (nI 1568) from hv25)
  refine lv_bipush (v := nI 32) hx hb dKM_encapsulate_50 (by decide) ?_
  refine nw_copyb hx hb (hml.trans hl.1.symm) hown (hts _ (wg_t kw_622)) (hts _ (wg_t kw_526)) (hts _ (wg_t kw_525)) (hts _ (wg_t kw_19)) hK hO hU kr23 (k0 := 34) rfl k_to (k1 := pt) n_to hP hD hS (sp := 0) (dp := 1568) (n := 32) (by omega) (by omega) (by omega) (by decide) (Nat.le_of_ble_eq_true rfl) dKM_encapsulate_52 (fun s25 pl H locs es22 hO hP hD hS => ?_)
  replace hR := bnd_step hR es22
  have hF := frm_sC hF es22 (by unfold M_KM_encapsulate_2; omega)
  exact mp_vret hx hb hr hlk hP hD hS (s25, pl) ⟨⟨hR.symm, hF, trivial⟩, hO⟩ [] rfl rfl rfl (by omega) (by omega) dKM_encapsulate_55
def M_KM_numbersFit_0 (k : Nat) : Prop := k = 31 ∨ (0 : Nat) = 1
noncomputable def F_KM_numbersFit_0_L1 (i21 : Nat) (kk : Nat → Sto → Int32 × Sto) : Nat → Nat → Sto → Int32 × Sto
  | 0, i22, s23 => kk (i21 + 1) s23
  | n22 + 1, i22, s23 => if (s23.1 31 i22) < (nI 3329) then F_KM_numbersFit_0_L1 i21 kk n22 (i22 + 1) s23 else (nI 0, s23)
noncomputable def F_KM_numbersFit_0_L0 (pp : Nat) (n : Nat) : Nat → Nat → Sto → Int32 × Sto
  | 0, i21, s21 => (nI 1, s21)
  | n21 + 1, i21, s21 => bnd (F_BT_unpack 31 12 pp n (384 * i21) s21) fun s22 => F_KM_numbersFit_0_L1 i21 (F_KM_numbersFit_0_L0 pp n n21) 256 0 s22
noncomputable def F_KM_numbersFit_0 (pp : Nat) (n : Nat) (s : Sto) : Int32 × Sto := F_KM_numbersFit_0_L0 pp n 2 0 s
set_option maxHeartbeats 400000 in
set_option maxRecDepth 100000 in
theorem N_KM_numbersFit_0 (l : Launch) (g : Gd) (sz : Nat) (T : TyN) (s : Sto) (pl : va_W) (hO : okn g T s pl) (hU : inj T) (h0 st pk : Nat) (pp : Nat) (n : Nat) (k_h0 : T h0 = some 24) (k_st : T st = some 5) (k_pk : T pk = some pp) (n_pk : nsp pp = (1, n, [])) (h1 : 800 ≤ n) (h2 : n < 65536)  : Met l y_KM_numbersFit w_KM_numbersFit ({ frames := 1, cells := 0, slots := 0, locals := 28 } : Room) (va_Pc [.ref h0, .ref st, .ref pk] (pr (en g) g.1 vcl sz ([] ++ pl))) (va_Qi (fun (r : Int32) (u : (Int32 × Sto) × va_W) => (u.1 = F_KM_numbersFit_0 pp n s ∧ r = u.1.1 ∧ frm (M_KM_numbersFit_0) s u.1.2 ∧ True) ∧ okn g T u.1.2 u.2) (po g.1 vcl (va_A ([] ++ pl) sz) (fun (u : (Int32 × Sto) × va_W) => [] ++ u.2)) (va_A ([] ++ pl) sz)) 0 0 (va_A ([] ++ pl) sz) := by
  refine mc_entry (cc := c_KM_numbersFit) (maxL := 5) (ret := (some .boolean)) (by decide) rfl (Nat.le_of_ble_eq_true rfl) ?_
  intro p e s0 m args below meth c ls F hr hlk hnm hsz hP hD hE hA hl
  obtain ⟨hx, hb, hml, hown, hts⟩ := id F
  have hK := hE.1
  generalize va_A ([] ++ pl) sz = A at hD hE hA ⊢
  have hS : va_S A s0.heap s0.heap [] := va_S.rf
  have hl : lv_has ls 5 [(0, .ref h0), (1, .ref st), (2, .ref pk)] := hl
  have hR : F_KM_numbersFit_0 pp n s = F_KM_numbersFit_0 pp n s := rfl
  have hF : frm (M_KM_numbersFit_0) s s := frm_rf
  refine lv_iconst (v := nI 0) hx hb dKM_numbersFit_0 (by decide) ?_
  refine lv_istore_n (lv' := [(3, .int (nI 0)), (0, .ref h0), (1, .ref st), (2, .ref pk)]) hx hb dKM_numbersFit_1 rfl hl (by decide) rfl (fun ls hl => ?_)
  have lp21 : ∀ (n21 : Nat) (i21 : Nat) (s21 : Sto) (pl : va_W) (ls : Array Slot) (H : Heap) (locs : List Loc), n21 + i21 = 2 → frm (M_KM_numbersFit_0) s s21 → F_KM_numbersFit_0 pp n s = F_KM_numbersFit_0_L0 pp n n21 i21 s21 → lv_has ls 5 [(3, .int (nI i21)), (0, .ref h0), (1, .ref st), (2, .ref pk)] → okn g T s21 pl → va_P g.1 vcl ([] ++ pl) H → va_D A ([] ++ pl) → va_S A s0.heap H locs → W p l e ({ frames := 1, cells := 0, slots := 0, locals := 28 } : Room) s0 m args below meth c H locs 0 0 (MQ below (va_Qi (fun (r : Int32) (u : (Int32 × Sto) × va_W) => (u.1 = F_KM_numbersFit_0 pp n s ∧ r = u.1.1 ∧ frm (M_KM_numbersFit_0) s u.1.2 ∧ True) ∧ okn g T u.1.2 u.2) (po g.1 vcl A (fun (u : (Int32 × Sto) × va_W) => [] ++ u.2)) A) args s0 0 0 A) (F0 m 2 ls []) := by
    intro n21
    induction n21 with
    | zero =>
      intro i21 s21 pl ls H locs hm21 hF hR hl hO hP hD hS
      refine lv_iload_n hx hb dKM_numbersFit_2 rfl (lv_at hl 0 rfl) ?_
      refine lv_aload_n hx hb dKM_numbersFit_3 rfl (lv_at hl 2 rfl) ?_
      refine nw_get (C := "LatticeKeys$KemSet") (TT := T_KS) (N := 10) hx hb hts (wg_ft i_KS) hown hK hO k_st (kn := 5) (ci := 1) (fl := [(1, 2), (1, 3), (1, 10), (1, 4), (1, 800), (1, 1632), (1, 768), (1, 768), (1, 1568), (1, 1600)]) rfl hP rfl 0 (by decide) (hts _ (wg_t kw_231)) (fun _ h9 => h9) (cd := (1, 2)) rfl dKM_numbersFit_4 (fun v21 hv21 => ?_)
      obtain rfl := (show v21 = .int (nI 2) from hv21)
      refine mi_ge (tgt := 63) hx hb dKM_numbersFit_7 (by decide) (by omega) (by omega) (fun h21 => ?_) (fun h21 => absurd h21 (by omega))
      refine lv_iconst (v := nI 1) hx hb dKM_numbersFit_63 (by decide) ?_
      exact mp_zret hx hb hr hlk rfl hP hD hS ((nI 1, s21), pl) ⟨⟨hR.symm, rfl, hF, trivial⟩, hO⟩ [] rfl rfl rfl (by omega) (by omega) dKM_numbersFit_64
    | succ n21 ih21 =>
      intro i21 s21 pl ls H locs hm21 hF hR hl hO hP hD hS
      refine lv_iload_n hx hb dKM_numbersFit_2 rfl (lv_at hl 0 rfl) ?_
      refine lv_aload_n hx hb dKM_numbersFit_3 rfl (lv_at hl 2 rfl) ?_
      refine nw_get (C := "LatticeKeys$KemSet") (TT := T_KS) (N := 10) hx hb hts (wg_ft i_KS) hown hK hO k_st (kn := 5) (ci := 1) (fl := [(1, 2), (1, 3), (1, 10), (1, 4), (1, 800), (1, 1632), (1, 768), (1, 768), (1, 1568), (1, 1600)]) rfl hP rfl 0 (by decide) (hts _ (wg_t kw_231)) (fun _ h9 => h9) (cd := (1, 2)) rfl dKM_numbersFit_4 (fun v22 hv22 => ?_)
      obtain rfl := (show v22 = .int (nI 2) from hv22)
      refine mi_ge (tgt := 63) hx hb dKM_numbersFit_7 (by decide) (by omega) (by omega) (fun h22 => absurd h22 (by omega)) (fun h22 => ?_)
      refine lv_aload_n hx hb dKM_numbersFit_10 rfl (lv_at hl 1 rfl) ?_
      refine nw_get (C := "LatticeKeys$Kem") (TT := T_KM) (N := 10) hx hb hts (wg_ft i_KM) hown hK hO k_h0 (kn := 24) (ci := 5) (fl := [(3, 14), (3, 20), (3, 25), (3, 30), (3, 31), (3, 32), (3, 33), (3, 34), (3, 35), (3, 36)]) rfl hP rfl 4 (by decide) (hts _ (wg_t kw_111)) (fun _ h9 => h9) (cd := (3, 31)) rfl dKM_numbersFit_11 (fun v23 hv23 => ?_)
      obtain ⟨r21, rfl, kr21⟩ := (show ∃ r : Nat, v23 = .ref r ∧ T r = some 31 from hv23)
      refine lv_bipush (v := nI 12) hx hb dKM_numbersFit_14 (by decide) ?_
      refine lv_aload_n hx hb dKM_numbersFit_16 rfl (lv_at hl 3 rfl) ?_
      refine lv_sipush (v := nI 384) hx hb dKM_numbersFit_17 (by decide) ?_
      refine lv_iload_n hx hb dKM_numbersFit_20 rfl (lv_at hl 0 rfl) ?_
      refine mi_imul hx hb dKM_numbersFit_21 ?_
      refine mp_v (cx := []) (wr := []) hP hD hS hA [] [] rfl rfl rfl (by decide) (va_runS (As := [.ref r21, .int (nI 12), .ref pk, .int (nI (384 * i21))]) (rest := []) F (N_BT_unpack l g _ T s21 pl hO hU r21 pk 31 12 pp n (384 * i21) kr21 rfl k_pk n_pk (by omega) (by omega) (by omega)) (va_cwS 4 hts (wg_app (wg_c kw_627 (wg_c kw_628 (wg_c kw_22 wg_n))) kw_629) rfl rfl rfl (by decide +kernel) ⟨by decide, by decide⟩) (pp_S (en_ok g) hP hD hS hA hE [] rfl rfl) rfl rfl hl.1 rfl (lv_room (Nat.le_of_ble_eq_true rfl)) dKM_numbersFit_22 ⟨by omega, by omega⟩) (fun  u21 H locs hu21 hP hD hS => ?_)
      obtain ⟨s22, pl⟩ := u21
      obtain ⟨⟨eq21, hFc21, -⟩, hO⟩ := hu21
      have hO : okn g T s22 pl := hO
      have hP : va_P g.1 vcl ([] ++ pl) _ := hP
      have hD : va_D _ ([] ++ pl) := hD
      have hFc21 : frm (M_BT_unpack 31) s21 s22 := hFc21
      replace hR := bnd_step hR eq21
      have hF := frm_tr hF hFc21 (fun k hk => by unfold M_BT_unpack at hk; unfold M_KM_numbersFit_0; omega)
      refine W.widen (k := 0) (n := 0) (by omega) (by omega) ?_
      refine lv_iconst (v := nI 0) hx hb dKM_numbersFit_25 (by decide) ?_
      refine lv_istore (lv' := [(4, .int (nI 0)), (3, .int (nI i21)), (0, .ref h0), (1, .ref st), (2, .ref pk)]) hx hb dKM_numbersFit_26 hl (by decide) rfl (fun ls hl => ?_)
      have lp22 : ∀ (n22 : Nat) (i22 : Nat) (s23 : Sto) (pl : va_W) (ls : Array Slot) (H : Heap) (locs : List Loc), n22 + i22 = 256 → frm (M_KM_numbersFit_0) s s23 → F_KM_numbersFit_0 pp n s = F_KM_numbersFit_0_L1 i21 (F_KM_numbersFit_0_L0 pp n n21) n22 i22 s23 → lv_has ls 5 [(4, .int (nI i22)), (3, .int (nI i21)), (0, .ref h0), (1, .ref st), (2, .ref pk)] → okn g T s23 pl → va_P g.1 vcl ([] ++ pl) H → va_D A ([] ++ pl) → va_S A s0.heap H locs → W p l e ({ frames := 1, cells := 0, slots := 0, locals := 28 } : Room) s0 m args below meth c H locs 0 0 (MQ below (va_Qi (fun (r : Int32) (u : (Int32 × Sto) × va_W) => (u.1 = F_KM_numbersFit_0 pp n s ∧ r = u.1.1 ∧ frm (M_KM_numbersFit_0) s u.1.2 ∧ True) ∧ okn g T u.1.2 u.2) (po g.1 vcl A (fun (u : (Int32 × Sto) × va_W) => [] ++ u.2)) A) args s0 0 0 A) (F0 m 28 ls []) := by
        intro n22
        induction n22 with
        | zero =>
          intro i22 s23 pl ls H locs hm22 hF hR hl hO hP hD hS
          refine lv_iload hx hb dKM_numbersFit_28 (lv_at hl 0 rfl) ?_
          refine lv_sipush (v := nI 256) hx hb dKM_numbersFit_30 (by decide) ?_
          refine mi_ge (tgt := 57) hx hb dKM_numbersFit_33 (by decide) (by omega) (by omega) (fun h23 => ?_) (fun h23 => absurd h23 (by omega))
          refine mi_iinc (k := 1) (x := i21) (d := 1) (y := i21 + 1) (lv' := [(3, .int (nI (i21 + 1))), (4, .int (nI i22)), (0, .ref h0), (1, .ref st), (2, .ref pk)]) hx hb dKM_numbersFit_57 hl rfl (by decide) rfl (by decide) rfl (fun ls hl => ?_)
          refine lv_goto (tgt := 2) hx hb dKM_numbersFit_60 (by decide) ?_
          exact ih21 (i21 + 1) s23 pl ls H locs (by omega) hF hR (lv_sub hl [0, 2, 3, 4] rfl) hO hP hD hS
        | succ n22 ih22 =>
          intro i22 s23 pl ls H locs hm22 hF hR hl hO hP hD hS
          refine lv_iload hx hb dKM_numbersFit_28 (lv_at hl 0 rfl) ?_
          refine lv_sipush (v := nI 256) hx hb dKM_numbersFit_30 (by decide) ?_
          refine mi_ge (tgt := 57) hx hb dKM_numbersFit_33 (by decide) (by omega) (by omega) (fun h24 => absurd h24 (by omega)) (fun h24 => ?_)
          refine lv_aload_n hx hb dKM_numbersFit_36 rfl (lv_at hl 2 rfl) ?_
          refine nw_get (C := "LatticeKeys$Kem") (TT := T_KM) (N := 10) hx hb hts (wg_ft i_KM) hown hK hO k_h0 (kn := 24) (ci := 5) (fl := [(3, 14), (3, 20), (3, 25), (3, 30), (3, 31), (3, 32), (3, 33), (3, 34), (3, 35), (3, 36)]) rfl hP rfl 4 (by decide) (hts _ (wg_t kw_111)) (fun _ h9 => h9) (cd := (3, 31)) rfl dKM_numbersFit_37 (fun v24 hv24 => ?_)
          obtain ⟨r22, rfl, kr22⟩ := (show ∃ r : Nat, v24 = .ref r ∧ T r = some 31 from hv24)
          refine lv_iload hx hb dKM_numbersFit_40 (lv_at hl 0 rfl) ?_
          refine nw_iald hx hb hK hO kr22 (k := 31) rfl hP (by omega) (by omega) dKM_numbersFit_42 ?_
          refine lv_sipush (v := nI 3329) hx hb dKM_numbersFit_43 (by decide) ?_
          refine lv_icmp_lt (tgt := 51) hx hb dKM_numbersFit_46 (by decide) (fun h25 => ?_) (fun h25 => ?_)
          · replace hR := hR.trans (if_pos h25)
            refine mi_iinc (k := 0) (x := i22) (d := 1) (y := i22 + 1) (lv' := [(4, .int (nI (i22 + 1))), (3, .int (nI i21)), (0, .ref h0), (1, .ref st), (2, .ref pk)]) hx hb dKM_numbersFit_51 hl rfl (by decide) rfl (by decide) rfl (fun ls hl => ?_)
            refine lv_goto (tgt := 28) hx hb dKM_numbersFit_54 (by decide) ?_
            exact ih22 (i22 + 1) s23 pl ls H locs (by omega) hF hR (lv_sub hl [0, 1, 2, 3, 4] rfl) hO hP hD hS
          · replace hR := hR.trans (if_neg h25)
            refine lv_iconst (v := nI 0) hx hb dKM_numbersFit_49 (by decide) ?_
            exact mp_zret hx hb hr hlk rfl hP hD hS ((nI 0, s23), pl) ⟨⟨hR.symm, rfl, hF, trivial⟩, hO⟩ [] rfl rfl rfl (by omega) (by omega) dKM_numbersFit_50
      exact lp22 256 0 s22 pl ls _ _ (by omega) hF hR (lv_sub hl [0, 1, 2, 3, 4] rfl) hO hP hD hS
  exact lp21 2 0 s pl ls _ _ (by omega) hF hR (lv_sub hl [0, 1, 2, 3] rfl) hO hP hD hS
def M_KM_numbersFit_1 (k : Nat) : Prop := k = 31 ∨ (0 : Nat) = 1
noncomputable def F_KM_numbersFit_1_L1 (i21 : Nat) (kk : Nat → Sto → Int32 × Sto) : Nat → Nat → Sto → Int32 × Sto
  | 0, i22, s23 => kk (i21 + 1) s23
  | n22 + 1, i22, s23 => if (s23.1 31 i22) < (nI 3329) then F_KM_numbersFit_1_L1 i21 kk n22 (i22 + 1) s23 else (nI 0, s23)
noncomputable def F_KM_numbersFit_1_L0 (pp : Nat) (n : Nat) : Nat → Nat → Sto → Int32 × Sto
  | 0, i21, s21 => (nI 1, s21)
  | n21 + 1, i21, s21 => bnd (F_BT_unpack 31 12 pp n (384 * i21) s21) fun s22 => F_KM_numbersFit_1_L1 i21 (F_KM_numbersFit_1_L0 pp n n21) 256 0 s22
noncomputable def F_KM_numbersFit_1 (pp : Nat) (n : Nat) (s : Sto) : Int32 × Sto := F_KM_numbersFit_1_L0 pp n 3 0 s
set_option maxHeartbeats 400000 in
set_option maxRecDepth 100000 in
theorem N_KM_numbersFit_1 (l : Launch) (g : Gd) (sz : Nat) (T : TyN) (s : Sto) (pl : va_W) (hO : okn g T s pl) (hU : inj T) (h0 st pk : Nat) (pp : Nat) (n : Nat) (k_h0 : T h0 = some 24) (k_st : T st = some 6) (k_pk : T pk = some pp) (n_pk : nsp pp = (1, n, [])) (h1 : 1184 ≤ n) (h2 : n < 65536)  : Met l y_KM_numbersFit w_KM_numbersFit ({ frames := 1, cells := 0, slots := 0, locals := 28 } : Room) (va_Pc [.ref h0, .ref st, .ref pk] (pr (en g) g.1 vcl sz ([] ++ pl))) (va_Qi (fun (r : Int32) (u : (Int32 × Sto) × va_W) => (u.1 = F_KM_numbersFit_1 pp n s ∧ r = u.1.1 ∧ frm (M_KM_numbersFit_1) s u.1.2 ∧ True) ∧ okn g T u.1.2 u.2) (po g.1 vcl (va_A ([] ++ pl) sz) (fun (u : (Int32 × Sto) × va_W) => [] ++ u.2)) (va_A ([] ++ pl) sz)) 0 0 (va_A ([] ++ pl) sz) := by
  refine mc_entry (cc := c_KM_numbersFit) (maxL := 5) (ret := (some .boolean)) (by decide) rfl (Nat.le_of_ble_eq_true rfl) ?_
  intro p e s0 m args below meth c ls F hr hlk hnm hsz hP hD hE hA hl
  obtain ⟨hx, hb, hml, hown, hts⟩ := id F
  have hK := hE.1
  generalize va_A ([] ++ pl) sz = A at hD hE hA ⊢
  have hS : va_S A s0.heap s0.heap [] := va_S.rf
  have hl : lv_has ls 5 [(0, .ref h0), (1, .ref st), (2, .ref pk)] := hl
  have hR : F_KM_numbersFit_1 pp n s = F_KM_numbersFit_1 pp n s := rfl
  have hF : frm (M_KM_numbersFit_1) s s := frm_rf
  refine lv_iconst (v := nI 0) hx hb dKM_numbersFit_0 (by decide) ?_
  refine lv_istore_n (lv' := [(3, .int (nI 0)), (0, .ref h0), (1, .ref st), (2, .ref pk)]) hx hb dKM_numbersFit_1 rfl hl (by decide) rfl (fun ls hl => ?_)
  have lp21 : ∀ (n21 : Nat) (i21 : Nat) (s21 : Sto) (pl : va_W) (ls : Array Slot) (H : Heap) (locs : List Loc), n21 + i21 = 3 → frm (M_KM_numbersFit_1) s s21 → F_KM_numbersFit_1 pp n s = F_KM_numbersFit_1_L0 pp n n21 i21 s21 → lv_has ls 5 [(3, .int (nI i21)), (0, .ref h0), (1, .ref st), (2, .ref pk)] → okn g T s21 pl → va_P g.1 vcl ([] ++ pl) H → va_D A ([] ++ pl) → va_S A s0.heap H locs → W p l e ({ frames := 1, cells := 0, slots := 0, locals := 28 } : Room) s0 m args below meth c H locs 0 0 (MQ below (va_Qi (fun (r : Int32) (u : (Int32 × Sto) × va_W) => (u.1 = F_KM_numbersFit_1 pp n s ∧ r = u.1.1 ∧ frm (M_KM_numbersFit_1) s u.1.2 ∧ True) ∧ okn g T u.1.2 u.2) (po g.1 vcl A (fun (u : (Int32 × Sto) × va_W) => [] ++ u.2)) A) args s0 0 0 A) (F0 m 2 ls []) := by
    intro n21
    induction n21 with
    | zero =>
      intro i21 s21 pl ls H locs hm21 hF hR hl hO hP hD hS
      refine lv_iload_n hx hb dKM_numbersFit_2 rfl (lv_at hl 0 rfl) ?_
      refine lv_aload_n hx hb dKM_numbersFit_3 rfl (lv_at hl 2 rfl) ?_
      refine nw_get (C := "LatticeKeys$KemSet") (TT := T_KS) (N := 10) hx hb hts (wg_ft i_KS) hown hK hO k_st (kn := 6) (ci := 1) (fl := [(1, 3), (1, 2), (1, 10), (1, 4), (1, 1184), (1, 2400), (1, 1088), (1, 1152), (1, 2336), (1, 2368)]) rfl hP rfl 0 (by decide) (hts _ (wg_t kw_231)) (fun _ h9 => h9) (cd := (1, 3)) rfl dKM_numbersFit_4 (fun v21 hv21 => ?_)
      obtain rfl := (show v21 = .int (nI 3) from hv21)
      refine mi_ge (tgt := 63) hx hb dKM_numbersFit_7 (by decide) (by omega) (by omega) (fun h21 => ?_) (fun h21 => absurd h21 (by omega))
      refine lv_iconst (v := nI 1) hx hb dKM_numbersFit_63 (by decide) ?_
      exact mp_zret hx hb hr hlk rfl hP hD hS ((nI 1, s21), pl) ⟨⟨hR.symm, rfl, hF, trivial⟩, hO⟩ [] rfl rfl rfl (by omega) (by omega) dKM_numbersFit_64
    | succ n21 ih21 =>
      intro i21 s21 pl ls H locs hm21 hF hR hl hO hP hD hS
      refine lv_iload_n hx hb dKM_numbersFit_2 rfl (lv_at hl 0 rfl) ?_
      refine lv_aload_n hx hb dKM_numbersFit_3 rfl (lv_at hl 2 rfl) ?_
      refine nw_get (C := "LatticeKeys$KemSet") (TT := T_KS) (N := 10) hx hb hts (wg_ft i_KS) hown hK hO k_st (kn := 6) (ci := 1) (fl := [(1, 3), (1, 2), (1, 10), (1, 4), (1, 1184), (1, 2400), (1, 1088), (1, 1152), (1, 2336), (1, 2368)]) rfl hP rfl 0 (by decide) (hts _ (wg_t kw_231)) (fun _ h9 => h9) (cd := (1, 3)) rfl dKM_numbersFit_4 (fun v22 hv22 => ?_)
      obtain rfl := (show v22 = .int (nI 3) from hv22)
      refine mi_ge (tgt := 63) hx hb dKM_numbersFit_7 (by decide) (by omega) (by omega) (fun h22 => absurd h22 (by omega)) (fun h22 => ?_)
      refine lv_aload_n hx hb dKM_numbersFit_10 rfl (lv_at hl 1 rfl) ?_
      refine nw_get (C := "LatticeKeys$Kem") (TT := T_KM) (N := 10) hx hb hts (wg_ft i_KM) hown hK hO k_h0 (kn := 24) (ci := 5) (fl := [(3, 14), (3, 20), (3, 25), (3, 30), (3, 31), (3, 32), (3, 33), (3, 34), (3, 35), (3, 36)]) rfl hP rfl 4 (by decide) (hts _ (wg_t kw_111)) (fun _ h9 => h9) (cd := (3, 31)) rfl dKM_numbersFit_11 (fun v23 hv23 => ?_)
      obtain ⟨r21, rfl, kr21⟩ := (show ∃ r : Nat, v23 = .ref r ∧ T r = some 31 from hv23)
      refine lv_bipush (v := nI 12) hx hb dKM_numbersFit_14 (by decide) ?_
      refine lv_aload_n hx hb dKM_numbersFit_16 rfl (lv_at hl 3 rfl) ?_
      refine lv_sipush (v := nI 384) hx hb dKM_numbersFit_17 (by decide) ?_
      refine lv_iload_n hx hb dKM_numbersFit_20 rfl (lv_at hl 0 rfl) ?_
      refine mi_imul hx hb dKM_numbersFit_21 ?_
      refine mp_v (cx := []) (wr := []) hP hD hS hA [] [] rfl rfl rfl (by decide) (va_runS (As := [.ref r21, .int (nI 12), .ref pk, .int (nI (384 * i21))]) (rest := []) F (N_BT_unpack l g _ T s21 pl hO hU r21 pk 31 12 pp n (384 * i21) kr21 rfl k_pk n_pk (by omega) (by omega) (by omega)) (va_cwS 4 hts (wg_app (wg_c kw_627 (wg_c kw_628 (wg_c kw_22 wg_n))) kw_629) rfl rfl rfl (by decide +kernel) ⟨by decide, by decide⟩) (pp_S (en_ok g) hP hD hS hA hE [] rfl rfl) rfl rfl hl.1 rfl (lv_room (Nat.le_of_ble_eq_true rfl)) dKM_numbersFit_22 ⟨by omega, by omega⟩) (fun  u21 H locs hu21 hP hD hS => ?_)
      obtain ⟨s22, pl⟩ := u21
      obtain ⟨⟨eq21, hFc21, -⟩, hO⟩ := hu21
      have hO : okn g T s22 pl := hO
      have hP : va_P g.1 vcl ([] ++ pl) _ := hP
      have hD : va_D _ ([] ++ pl) := hD
      have hFc21 : frm (M_BT_unpack 31) s21 s22 := hFc21
      replace hR := bnd_step hR eq21
      have hF := frm_tr hF hFc21 (fun k hk => by unfold M_BT_unpack at hk; unfold M_KM_numbersFit_1; omega)
      refine W.widen (k := 0) (n := 0) (by omega) (by omega) ?_
      refine lv_iconst (v := nI 0) hx hb dKM_numbersFit_25 (by decide) ?_
      refine lv_istore (lv' := [(4, .int (nI 0)), (3, .int (nI i21)), (0, .ref h0), (1, .ref st), (2, .ref pk)]) hx hb dKM_numbersFit_26 hl (by decide) rfl (fun ls hl => ?_)
      have lp22 : ∀ (n22 : Nat) (i22 : Nat) (s23 : Sto) (pl : va_W) (ls : Array Slot) (H : Heap) (locs : List Loc), n22 + i22 = 256 → frm (M_KM_numbersFit_1) s s23 → F_KM_numbersFit_1 pp n s = F_KM_numbersFit_1_L1 i21 (F_KM_numbersFit_1_L0 pp n n21) n22 i22 s23 → lv_has ls 5 [(4, .int (nI i22)), (3, .int (nI i21)), (0, .ref h0), (1, .ref st), (2, .ref pk)] → okn g T s23 pl → va_P g.1 vcl ([] ++ pl) H → va_D A ([] ++ pl) → va_S A s0.heap H locs → W p l e ({ frames := 1, cells := 0, slots := 0, locals := 28 } : Room) s0 m args below meth c H locs 0 0 (MQ below (va_Qi (fun (r : Int32) (u : (Int32 × Sto) × va_W) => (u.1 = F_KM_numbersFit_1 pp n s ∧ r = u.1.1 ∧ frm (M_KM_numbersFit_1) s u.1.2 ∧ True) ∧ okn g T u.1.2 u.2) (po g.1 vcl A (fun (u : (Int32 × Sto) × va_W) => [] ++ u.2)) A) args s0 0 0 A) (F0 m 28 ls []) := by
        intro n22
        induction n22 with
        | zero =>
          intro i22 s23 pl ls H locs hm22 hF hR hl hO hP hD hS
          refine lv_iload hx hb dKM_numbersFit_28 (lv_at hl 0 rfl) ?_
          refine lv_sipush (v := nI 256) hx hb dKM_numbersFit_30 (by decide) ?_
          refine mi_ge (tgt := 57) hx hb dKM_numbersFit_33 (by decide) (by omega) (by omega) (fun h23 => ?_) (fun h23 => absurd h23 (by omega))
          refine mi_iinc (k := 1) (x := i21) (d := 1) (y := i21 + 1) (lv' := [(3, .int (nI (i21 + 1))), (4, .int (nI i22)), (0, .ref h0), (1, .ref st), (2, .ref pk)]) hx hb dKM_numbersFit_57 hl rfl (by decide) rfl (by decide) rfl (fun ls hl => ?_)
          refine lv_goto (tgt := 2) hx hb dKM_numbersFit_60 (by decide) ?_
          exact ih21 (i21 + 1) s23 pl ls H locs (by omega) hF hR (lv_sub hl [0, 2, 3, 4] rfl) hO hP hD hS
        | succ n22 ih22 =>
          intro i22 s23 pl ls H locs hm22 hF hR hl hO hP hD hS
          refine lv_iload hx hb dKM_numbersFit_28 (lv_at hl 0 rfl) ?_
          refine lv_sipush (v := nI 256) hx hb dKM_numbersFit_30 (by decide) ?_
          refine mi_ge (tgt := 57) hx hb dKM_numbersFit_33 (by decide) (by omega) (by omega) (fun h24 => absurd h24 (by omega)) (fun h24 => ?_)
          refine lv_aload_n hx hb dKM_numbersFit_36 rfl (lv_at hl 2 rfl) ?_
          refine nw_get (C := "LatticeKeys$Kem") (TT := T_KM) (N := 10) hx hb hts (wg_ft i_KM) hown hK hO k_h0 (kn := 24) (ci := 5) (fl := [(3, 14), (3, 20), (3, 25), (3, 30), (3, 31), (3, 32), (3, 33), (3, 34), (3, 35), (3, 36)]) rfl hP rfl 4 (by decide) (hts _ (wg_t kw_111)) (fun _ h9 => h9) (cd := (3, 31)) rfl dKM_numbersFit_37 (fun v24 hv24 => ?_)
          obtain ⟨r22, rfl, kr22⟩ := (show ∃ r : Nat, v24 = .ref r ∧ T r = some 31 from hv24)
          refine lv_iload hx hb dKM_numbersFit_40 (lv_at hl 0 rfl) ?_
          refine nw_iald hx hb hK hO kr22 (k := 31) rfl hP (by omega) (by omega) dKM_numbersFit_42 ?_
          refine lv_sipush (v := nI 3329) hx hb dKM_numbersFit_43 (by decide) ?_
          refine lv_icmp_lt (tgt := 51) hx hb dKM_numbersFit_46 (by decide) (fun h25 => ?_) (fun h25 => ?_)
          · replace hR := hR.trans (if_pos h25)
            refine mi_iinc (k := 0) (x := i22) (d := 1) (y := i22 + 1) (lv' := [(4, .int (nI (i22 + 1))), (3, .int (nI i21)), (0, .ref h0), (1, .ref st), (2, .ref pk)]) hx hb dKM_numbersFit_51 hl rfl (by decide) rfl (by decide) rfl (fun ls hl => ?_)
            refine lv_goto (tgt := 28) hx hb dKM_numbersFit_54 (by decide) ?_
            exact ih22 (i22 + 1) s23 pl ls H locs (by omega) hF hR (lv_sub hl [0, 1, 2, 3, 4] rfl) hO hP hD hS
          · replace hR := hR.trans (if_neg h25)
            refine lv_iconst (v := nI 0) hx hb dKM_numbersFit_49 (by decide) ?_
            exact mp_zret hx hb hr hlk rfl hP hD hS ((nI 0, s23), pl) ⟨⟨hR.symm, rfl, hF, trivial⟩, hO⟩ [] rfl rfl rfl (by omega) (by omega) dKM_numbersFit_50
      exact lp22 256 0 s22 pl ls _ _ (by omega) hF hR (lv_sub hl [0, 1, 2, 3, 4] rfl) hO hP hD hS
  exact lp21 3 0 s pl ls _ _ (by omega) hF hR (lv_sub hl [0, 1, 2, 3] rfl) hO hP hD hS
def M_KM_numbersFit_2 (k : Nat) : Prop := k = 31 ∨ (0 : Nat) = 1
noncomputable def F_KM_numbersFit_2_L1 (i21 : Nat) (kk : Nat → Sto → Int32 × Sto) : Nat → Nat → Sto → Int32 × Sto
  | 0, i22, s23 => kk (i21 + 1) s23
  | n22 + 1, i22, s23 => if (s23.1 31 i22) < (nI 3329) then F_KM_numbersFit_2_L1 i21 kk n22 (i22 + 1) s23 else (nI 0, s23)
noncomputable def F_KM_numbersFit_2_L0 (pp : Nat) (n : Nat) : Nat → Nat → Sto → Int32 × Sto
  | 0, i21, s21 => (nI 1, s21)
  | n21 + 1, i21, s21 => bnd (F_BT_unpack 31 12 pp n (384 * i21) s21) fun s22 => F_KM_numbersFit_2_L1 i21 (F_KM_numbersFit_2_L0 pp n n21) 256 0 s22
noncomputable def F_KM_numbersFit_2 (pp : Nat) (n : Nat) (s : Sto) : Int32 × Sto := F_KM_numbersFit_2_L0 pp n 4 0 s
set_option maxHeartbeats 400000 in
set_option maxRecDepth 100000 in
theorem N_KM_numbersFit_2 (l : Launch) (g : Gd) (sz : Nat) (T : TyN) (s : Sto) (pl : va_W) (hO : okn g T s pl) (hU : inj T) (h0 st pk : Nat) (pp : Nat) (n : Nat) (k_h0 : T h0 = some 24) (k_st : T st = some 7) (k_pk : T pk = some pp) (n_pk : nsp pp = (1, n, [])) (h1 : 1568 ≤ n) (h2 : n < 65536)  : Met l y_KM_numbersFit w_KM_numbersFit ({ frames := 1, cells := 0, slots := 0, locals := 28 } : Room) (va_Pc [.ref h0, .ref st, .ref pk] (pr (en g) g.1 vcl sz ([] ++ pl))) (va_Qi (fun (r : Int32) (u : (Int32 × Sto) × va_W) => (u.1 = F_KM_numbersFit_2 pp n s ∧ r = u.1.1 ∧ frm (M_KM_numbersFit_2) s u.1.2 ∧ True) ∧ okn g T u.1.2 u.2) (po g.1 vcl (va_A ([] ++ pl) sz) (fun (u : (Int32 × Sto) × va_W) => [] ++ u.2)) (va_A ([] ++ pl) sz)) 0 0 (va_A ([] ++ pl) sz) := by
  refine mc_entry (cc := c_KM_numbersFit) (maxL := 5) (ret := (some .boolean)) (by decide) rfl (Nat.le_of_ble_eq_true rfl) ?_
  intro p e s0 m args below meth c ls F hr hlk hnm hsz hP hD hE hA hl
  obtain ⟨hx, hb, hml, hown, hts⟩ := id F
  have hK := hE.1
  generalize va_A ([] ++ pl) sz = A at hD hE hA ⊢
  have hS : va_S A s0.heap s0.heap [] := va_S.rf
  have hl : lv_has ls 5 [(0, .ref h0), (1, .ref st), (2, .ref pk)] := hl
  have hR : F_KM_numbersFit_2 pp n s = F_KM_numbersFit_2 pp n s := rfl
  have hF : frm (M_KM_numbersFit_2) s s := frm_rf
  refine lv_iconst (v := nI 0) hx hb dKM_numbersFit_0 (by decide) ?_
  refine lv_istore_n (lv' := [(3, .int (nI 0)), (0, .ref h0), (1, .ref st), (2, .ref pk)]) hx hb dKM_numbersFit_1 rfl hl (by decide) rfl (fun ls hl => ?_)
  have lp21 : ∀ (n21 : Nat) (i21 : Nat) (s21 : Sto) (pl : va_W) (ls : Array Slot) (H : Heap) (locs : List Loc), n21 + i21 = 4 → frm (M_KM_numbersFit_2) s s21 → F_KM_numbersFit_2 pp n s = F_KM_numbersFit_2_L0 pp n n21 i21 s21 → lv_has ls 5 [(3, .int (nI i21)), (0, .ref h0), (1, .ref st), (2, .ref pk)] → okn g T s21 pl → va_P g.1 vcl ([] ++ pl) H → va_D A ([] ++ pl) → va_S A s0.heap H locs → W p l e ({ frames := 1, cells := 0, slots := 0, locals := 28 } : Room) s0 m args below meth c H locs 0 0 (MQ below (va_Qi (fun (r : Int32) (u : (Int32 × Sto) × va_W) => (u.1 = F_KM_numbersFit_2 pp n s ∧ r = u.1.1 ∧ frm (M_KM_numbersFit_2) s u.1.2 ∧ True) ∧ okn g T u.1.2 u.2) (po g.1 vcl A (fun (u : (Int32 × Sto) × va_W) => [] ++ u.2)) A) args s0 0 0 A) (F0 m 2 ls []) := by
    intro n21
    induction n21 with
    | zero =>
      intro i21 s21 pl ls H locs hm21 hF hR hl hO hP hD hS
      refine lv_iload_n hx hb dKM_numbersFit_2 rfl (lv_at hl 0 rfl) ?_
      refine lv_aload_n hx hb dKM_numbersFit_3 rfl (lv_at hl 2 rfl) ?_
      refine nw_get (C := "LatticeKeys$KemSet") (TT := T_KS) (N := 10) hx hb hts (wg_ft i_KS) hown hK hO k_st (kn := 7) (ci := 1) (fl := [(1, 4), (1, 2), (1, 11), (1, 5), (1, 1568), (1, 3168), (1, 1568), (1, 1536), (1, 3104), (1, 3136)]) rfl hP rfl 0 (by decide) (hts _ (wg_t kw_231)) (fun _ h9 => h9) (cd := (1, 4)) rfl dKM_numbersFit_4 (fun v21 hv21 => ?_)
      obtain rfl := (show v21 = .int (nI 4) from hv21)
      refine mi_ge (tgt := 63) hx hb dKM_numbersFit_7 (by decide) (by omega) (by omega) (fun h21 => ?_) (fun h21 => absurd h21 (by omega))
      refine lv_iconst (v := nI 1) hx hb dKM_numbersFit_63 (by decide) ?_
      exact mp_zret hx hb hr hlk rfl hP hD hS ((nI 1, s21), pl) ⟨⟨hR.symm, rfl, hF, trivial⟩, hO⟩ [] rfl rfl rfl (by omega) (by omega) dKM_numbersFit_64
    | succ n21 ih21 =>
      intro i21 s21 pl ls H locs hm21 hF hR hl hO hP hD hS
      refine lv_iload_n hx hb dKM_numbersFit_2 rfl (lv_at hl 0 rfl) ?_
      refine lv_aload_n hx hb dKM_numbersFit_3 rfl (lv_at hl 2 rfl) ?_
      refine nw_get (C := "LatticeKeys$KemSet") (TT := T_KS) (N := 10) hx hb hts (wg_ft i_KS) hown hK hO k_st (kn := 7) (ci := 1) (fl := [(1, 4), (1, 2), (1, 11), (1, 5), (1, 1568), (1, 3168), (1, 1568), (1, 1536), (1, 3104), (1, 3136)]) rfl hP rfl 0 (by decide) (hts _ (wg_t kw_231)) (fun _ h9 => h9) (cd := (1, 4)) rfl dKM_numbersFit_4 (fun v22 hv22 => ?_)
      obtain rfl := (show v22 = .int (nI 4) from hv22)
      refine mi_ge (tgt := 63) hx hb dKM_numbersFit_7 (by decide) (by omega) (by omega) (fun h22 => absurd h22 (by omega)) (fun h22 => ?_)
      refine lv_aload_n hx hb dKM_numbersFit_10 rfl (lv_at hl 1 rfl) ?_
      refine nw_get (C := "LatticeKeys$Kem") (TT := T_KM) (N := 10) hx hb hts (wg_ft i_KM) hown hK hO k_h0 (kn := 24) (ci := 5) (fl := [(3, 14), (3, 20), (3, 25), (3, 30), (3, 31), (3, 32), (3, 33), (3, 34), (3, 35), (3, 36)]) rfl hP rfl 4 (by decide) (hts _ (wg_t kw_111)) (fun _ h9 => h9) (cd := (3, 31)) rfl dKM_numbersFit_11 (fun v23 hv23 => ?_)
      obtain ⟨r21, rfl, kr21⟩ := (show ∃ r : Nat, v23 = .ref r ∧ T r = some 31 from hv23)
      refine lv_bipush (v := nI 12) hx hb dKM_numbersFit_14 (by decide) ?_
      refine lv_aload_n hx hb dKM_numbersFit_16 rfl (lv_at hl 3 rfl) ?_
      refine lv_sipush (v := nI 384) hx hb dKM_numbersFit_17 (by decide) ?_
      refine lv_iload_n hx hb dKM_numbersFit_20 rfl (lv_at hl 0 rfl) ?_
      refine mi_imul hx hb dKM_numbersFit_21 ?_
      refine mp_v (cx := []) (wr := []) hP hD hS hA [] [] rfl rfl rfl (by decide) (va_runS (As := [.ref r21, .int (nI 12), .ref pk, .int (nI (384 * i21))]) (rest := []) F (N_BT_unpack l g _ T s21 pl hO hU r21 pk 31 12 pp n (384 * i21) kr21 rfl k_pk n_pk (by omega) (by omega) (by omega)) (va_cwS 4 hts (wg_app (wg_c kw_627 (wg_c kw_628 (wg_c kw_22 wg_n))) kw_629) rfl rfl rfl (by decide +kernel) ⟨by decide, by decide⟩) (pp_S (en_ok g) hP hD hS hA hE [] rfl rfl) rfl rfl hl.1 rfl (lv_room (Nat.le_of_ble_eq_true rfl)) dKM_numbersFit_22 ⟨by omega, by omega⟩) (fun  u21 H locs hu21 hP hD hS => ?_)
      obtain ⟨s22, pl⟩ := u21
      obtain ⟨⟨eq21, hFc21, -⟩, hO⟩ := hu21
      have hO : okn g T s22 pl := hO
      have hP : va_P g.1 vcl ([] ++ pl) _ := hP
      have hD : va_D _ ([] ++ pl) := hD
      have hFc21 : frm (M_BT_unpack 31) s21 s22 := hFc21
      replace hR := bnd_step hR eq21
      have hF := frm_tr hF hFc21 (fun k hk => by unfold M_BT_unpack at hk; unfold M_KM_numbersFit_2; omega)
      refine W.widen (k := 0) (n := 0) (by omega) (by omega) ?_
      refine lv_iconst (v := nI 0) hx hb dKM_numbersFit_25 (by decide) ?_
      refine lv_istore (lv' := [(4, .int (nI 0)), (3, .int (nI i21)), (0, .ref h0), (1, .ref st), (2, .ref pk)]) hx hb dKM_numbersFit_26 hl (by decide) rfl (fun ls hl => ?_)
      have lp22 : ∀ (n22 : Nat) (i22 : Nat) (s23 : Sto) (pl : va_W) (ls : Array Slot) (H : Heap) (locs : List Loc), n22 + i22 = 256 → frm (M_KM_numbersFit_2) s s23 → F_KM_numbersFit_2 pp n s = F_KM_numbersFit_2_L1 i21 (F_KM_numbersFit_2_L0 pp n n21) n22 i22 s23 → lv_has ls 5 [(4, .int (nI i22)), (3, .int (nI i21)), (0, .ref h0), (1, .ref st), (2, .ref pk)] → okn g T s23 pl → va_P g.1 vcl ([] ++ pl) H → va_D A ([] ++ pl) → va_S A s0.heap H locs → W p l e ({ frames := 1, cells := 0, slots := 0, locals := 28 } : Room) s0 m args below meth c H locs 0 0 (MQ below (va_Qi (fun (r : Int32) (u : (Int32 × Sto) × va_W) => (u.1 = F_KM_numbersFit_2 pp n s ∧ r = u.1.1 ∧ frm (M_KM_numbersFit_2) s u.1.2 ∧ True) ∧ okn g T u.1.2 u.2) (po g.1 vcl A (fun (u : (Int32 × Sto) × va_W) => [] ++ u.2)) A) args s0 0 0 A) (F0 m 28 ls []) := by
        intro n22
        induction n22 with
        | zero =>
          intro i22 s23 pl ls H locs hm22 hF hR hl hO hP hD hS
          refine lv_iload hx hb dKM_numbersFit_28 (lv_at hl 0 rfl) ?_
          refine lv_sipush (v := nI 256) hx hb dKM_numbersFit_30 (by decide) ?_
          refine mi_ge (tgt := 57) hx hb dKM_numbersFit_33 (by decide) (by omega) (by omega) (fun h23 => ?_) (fun h23 => absurd h23 (by omega))
          refine mi_iinc (k := 1) (x := i21) (d := 1) (y := i21 + 1) (lv' := [(3, .int (nI (i21 + 1))), (4, .int (nI i22)), (0, .ref h0), (1, .ref st), (2, .ref pk)]) hx hb dKM_numbersFit_57 hl rfl (by decide) rfl (by decide) rfl (fun ls hl => ?_)
          refine lv_goto (tgt := 2) hx hb dKM_numbersFit_60 (by decide) ?_
          exact ih21 (i21 + 1) s23 pl ls H locs (by omega) hF hR (lv_sub hl [0, 2, 3, 4] rfl) hO hP hD hS
        | succ n22 ih22 =>
          intro i22 s23 pl ls H locs hm22 hF hR hl hO hP hD hS
          refine lv_iload hx hb dKM_numbersFit_28 (lv_at hl 0 rfl) ?_
          refine lv_sipush (v := nI 256) hx hb dKM_numbersFit_30 (by decide) ?_
          refine mi_ge (tgt := 57) hx hb dKM_numbersFit_33 (by decide) (by omega) (by omega) (fun h24 => absurd h24 (by omega)) (fun h24 => ?_)
          refine lv_aload_n hx hb dKM_numbersFit_36 rfl (lv_at hl 2 rfl) ?_
          refine nw_get (C := "LatticeKeys$Kem") (TT := T_KM) (N := 10) hx hb hts (wg_ft i_KM) hown hK hO k_h0 (kn := 24) (ci := 5) (fl := [(3, 14), (3, 20), (3, 25), (3, 30), (3, 31), (3, 32), (3, 33), (3, 34), (3, 35), (3, 36)]) rfl hP rfl 4 (by decide) (hts _ (wg_t kw_111)) (fun _ h9 => h9) (cd := (3, 31)) rfl dKM_numbersFit_37 (fun v24 hv24 => ?_)
          obtain ⟨r22, rfl, kr22⟩ := (show ∃ r : Nat, v24 = .ref r ∧ T r = some 31 from hv24)
          refine lv_iload hx hb dKM_numbersFit_40 (lv_at hl 0 rfl) ?_
          refine nw_iald hx hb hK hO kr22 (k := 31) rfl hP (by omega) (by omega) dKM_numbersFit_42 ?_
          refine lv_sipush (v := nI 3329) hx hb dKM_numbersFit_43 (by decide) ?_
          refine lv_icmp_lt (tgt := 51) hx hb dKM_numbersFit_46 (by decide) (fun h25 => ?_) (fun h25 => ?_)
          · replace hR := hR.trans (if_pos h25)
            refine mi_iinc (k := 0) (x := i22) (d := 1) (y := i22 + 1) (lv' := [(4, .int (nI (i22 + 1))), (3, .int (nI i21)), (0, .ref h0), (1, .ref st), (2, .ref pk)]) hx hb dKM_numbersFit_51 hl rfl (by decide) rfl (by decide) rfl (fun ls hl => ?_)
            refine lv_goto (tgt := 28) hx hb dKM_numbersFit_54 (by decide) ?_
            exact ih22 (i22 + 1) s23 pl ls H locs (by omega) hF hR (lv_sub hl [0, 1, 2, 3, 4] rfl) hO hP hD hS
          · replace hR := hR.trans (if_neg h25)
            refine lv_iconst (v := nI 0) hx hb dKM_numbersFit_49 (by decide) ?_
            exact mp_zret hx hb hr hlk rfl hP hD hS ((nI 0, s23), pl) ⟨⟨hR.symm, rfl, hF, trivial⟩, hO⟩ [] rfl rfl rfl (by omega) (by omega) dKM_numbersFit_50
      exact lp22 256 0 s22 pl ls _ _ (by omega) hF hR (lv_sub hl [0, 1, 2, 3, 4] rfl) hO hP hD hS
  exact lp21 4 0 s pl ls _ _ (by omega) hF hR (lv_sub hl [0, 1, 2, 3] rfl) hO hP hD hS
def M_KM_hashFits_0 (k : Nat) : Prop := k = 14 ∨ k = 33 ∨ (0 : Nat) = 1
noncomputable def F_KM_hashFits_0_L0 (psk : Nat) : Nat → Nat → Sto → Int32 × Sto
  | 0, i21, s22 => (nI 1, s22)
  | n21 + 1, i21, s22 => if (s22.1 33 i21) = (s22.1 psk (1568 + i21)) then F_KM_hashFits_0_L0 psk n21 (i21 + 1) s22 else (nI 0, s22)
noncomputable def F_KM_hashFits_0 (psk : Nat) (n : Nat) (s : Sto) : Int32 × Sto := bnd (F_KM_digestOf psk n 768 800 s) fun s21 => F_KM_hashFits_0_L0 psk 32 0 s21
set_option maxHeartbeats 400000 in
set_option maxRecDepth 100000 in
theorem N_KM_hashFits_0 (l : Launch) (g : Gd) (sz : Nat) (T : TyN) (s : Sto) (pl : va_W) (hO : okn g T s pl) (hU : inj T) (h0 st sk : Nat) (psk : Nat) (n : Nat) (k_h0 : T h0 = some 24) (k_st : T st = some 5) (k_sk : T sk = some psk) (n_sk : nsp psk = (1, n, [])) (h1 : 1632 ≤ n) (h2 : n < 65536)  : Met l y_KM_hashFits w_KM_hashFits ({ frames := 4, cells := 0, slots := 0, locals := 123 } : Room) (va_Pc [.ref h0, .ref st, .ref sk] (pr (en g) g.1 vcl sz ([] ++ pl))) (va_Qi (fun (r : Int32) (u : (Int32 × Sto) × va_W) => (u.1 = F_KM_hashFits_0 psk n s ∧ r = u.1.1 ∧ frm (M_KM_hashFits_0) s u.1.2 ∧ True) ∧ okn g T u.1.2 u.2) (po g.1 vcl (va_A ([] ++ pl) sz) (fun (u : (Int32 × Sto) × va_W) => [] ++ u.2)) (va_A ([] ++ pl) sz)) 0 0 (va_A ([] ++ pl) sz) := by
  refine mc_entry (cc := c_KM_hashFits) (maxL := 4) (ret := (some .boolean)) (by decide) rfl (Nat.le_of_ble_eq_true rfl) ?_
  intro p e s0 m args below meth c ls F hr hlk hnm hsz hP hD hE hA hl
  obtain ⟨hx, hb, hml, hown, hts⟩ := id F
  have hK := hE.1
  generalize va_A ([] ++ pl) sz = A at hD hE hA ⊢
  have hS : va_S A s0.heap s0.heap [] := va_S.rf
  have hl : lv_has ls 4 [(0, .ref h0), (1, .ref st), (2, .ref sk)] := hl
  have hR : F_KM_hashFits_0 psk n s = F_KM_hashFits_0 psk n s := rfl
  have hF : frm (M_KM_hashFits_0) s s := frm_rf
  refine lv_aload_n hx hb dKM_hashFits_0 rfl (lv_at hl 0 rfl) ?_
  refine lv_aload_n hx hb dKM_hashFits_1 rfl (lv_at hl 2 rfl) ?_
  refine lv_aload_n hx hb dKM_hashFits_2 rfl (lv_at hl 1 rfl) ?_
  refine nw_get (C := "LatticeKeys$KemSet") (TT := T_KS) (N := 10) hx hb hts (wg_ft i_KS) hown hK hO k_st (kn := 5) (ci := 1) (fl := [(1, 2), (1, 3), (1, 10), (1, 4), (1, 800), (1, 1632), (1, 768), (1, 768), (1, 1568), (1, 1600)]) rfl hP rfl 7 (by decide) (hts _ (wg_t kw_247)) (fun _ h9 => h9) (cd := (1, 768)) rfl dKM_hashFits_3 (fun v21 hv21 => ?_)
  obtain rfl := (show v21 = .int (nI 768) from hv21)
  refine lv_aload_n hx hb dKM_hashFits_6 rfl (lv_at hl 1 rfl) ?_
  refine nw_get (C := "LatticeKeys$KemSet") (TT := T_KS) (N := 10) hx hb hts (wg_ft i_KS) hown hK hO k_st (kn := 5) (ci := 1) (fl := [(1, 2), (1, 3), (1, 10), (1, 4), (1, 800), (1, 1632), (1, 768), (1, 768), (1, 1568), (1, 1600)]) rfl hP rfl 4 (by decide) (hts _ (wg_t kw_239)) (fun _ h9 => h9) (cd := (1, 800)) rfl dKM_hashFits_7 (fun v22 hv22 => ?_)
  obtain rfl := (show v22 = .int (nI 800) from hv22)
  refine mp_v (cx := []) (wr := []) hP hD hS hA [] [] rfl rfl rfl (by decide) (va_runV (As := [.ref sk, .int (nI 768), .int (nI 800)]) (rest := []) F (N_KM_digestOf l g _ T s pl hO hU h0 sk psk n 768 800 k_h0 k_sk n_sk (by omega) (by omega)) (cwV 3 hts (wg_app (wg_c kw_661 (wg_c kw_663 (wg_c ks_10 (wg_c kw_3 wg_n)))) kw_664) rfl rfl rfl (by decide +kernel) ⟨by decide, by decide⟩) (pn_W "LatticeKeys$Kem" (en_ok g) (ci := 5) (kn := 24) (fl := [(3, 14), (3, 20), (3, 25), (3, 30), (3, 31), (3, 32), (3, 33), (3, 34), (3, 35), (3, 36)]) hK hO k_h0 rfl hP hD hS hA hE [] rfl rfl rfl) rfl rfl hl.1 rfl (lv_room (Nat.le_of_ble_eq_true rfl)) dKM_hashFits_10 ⟨by omega, by omega⟩) (fun  u21 H locs hu21 hP hD hS => ?_)
  obtain ⟨s21, pl⟩ := u21
  obtain ⟨⟨eq21, hFc21, -⟩, hO⟩ := hu21
  have hO : okn g T s21 pl := hO
  have hP : va_P g.1 vcl ([] ++ pl) _ := hP
  have hD : va_D _ ([] ++ pl) := hD
  have hFc21 : frm (M_KM_digestOf) s s21 := hFc21
  replace hR := bnd_step hR eq21
  have hF := frm_tr hF hFc21 (fun k hk => by unfold M_KM_digestOf at hk; unfold M_KM_hashFits_0; omega)
  refine W.widen (k := 0) (n := 0) (by omega) (by omega) ?_
  refine lv_iconst (v := nI 0) hx hb dKM_hashFits_13 (by decide) ?_
  refine lv_istore_n (lv' := [(3, .int (nI 0)), (0, .ref h0), (1, .ref st), (2, .ref sk)]) hx hb dKM_hashFits_14 rfl hl (by decide) rfl (fun ls hl => ?_)
  have lp21 : ∀ (n21 : Nat) (i21 : Nat) (s22 : Sto) (pl : va_W) (ls : Array Slot) (H : Heap) (locs : List Loc), n21 + i21 = 32 → frm (M_KM_hashFits_0) s s22 → F_KM_hashFits_0 psk n s = F_KM_hashFits_0_L0 psk n21 i21 s22 → lv_has ls 4 [(3, .int (nI i21)), (0, .ref h0), (1, .ref st), (2, .ref sk)] → okn g T s22 pl → va_P g.1 vcl ([] ++ pl) H → va_D A ([] ++ pl) → va_S A s0.heap H locs → W p l e ({ frames := 4, cells := 0, slots := 0, locals := 123 } : Room) s0 m args below meth c H locs 0 0 (MQ below (va_Qi (fun (r : Int32) (u : (Int32 × Sto) × va_W) => (u.1 = F_KM_hashFits_0 psk n s ∧ r = u.1.1 ∧ frm (M_KM_hashFits_0) s u.1.2 ∧ True) ∧ okn g T u.1.2 u.2) (po g.1 vcl A (fun (u : (Int32 × Sto) × va_W) => [] ++ u.2)) A) args s0 0 0 A) (F0 m 15 ls []) := by
    intro n21
    induction n21 with
    | zero =>
      intro i21 s22 pl ls H locs hm21 hF hR hl hO hP hD hS
      refine lv_iload_n hx hb dKM_hashFits_15 rfl (lv_at hl 0 rfl) ?_
      refine lv_bipush (v := nI 32) hx hb dKM_hashFits_16 (by decide) ?_
      refine mi_ge (tgt := 46) hx hb dKM_hashFits_18 (by decide) (by omega) (by omega) (fun h21 => ?_) (fun h21 => absurd h21 (by omega))
      refine lv_iconst (v := nI 1) hx hb dKM_hashFits_46 (by decide) ?_
      exact mp_zret hx hb hr hlk rfl hP hD hS ((nI 1, s22), pl) ⟨⟨hR.symm, rfl, hF, trivial⟩, hO⟩ [] rfl rfl rfl (by omega) (by omega) dKM_hashFits_47
    | succ n21 ih21 =>
      intro i21 s22 pl ls H locs hm21 hF hR hl hO hP hD hS
      refine lv_iload_n hx hb dKM_hashFits_15 rfl (lv_at hl 0 rfl) ?_
      refine lv_bipush (v := nI 32) hx hb dKM_hashFits_16 (by decide) ?_
      refine mi_ge (tgt := 46) hx hb dKM_hashFits_18 (by decide) (by omega) (by omega) (fun h22 => absurd h22 (by omega)) (fun h22 => ?_)
      refine lv_aload_n hx hb dKM_hashFits_21 rfl (lv_at hl 1 rfl) ?_
      refine nw_get (C := "LatticeKeys$Kem") (TT := T_KM) (N := 10) hx hb hts (wg_ft i_KM) hown hK hO k_h0 (kn := 24) (ci := 5) (fl := [(3, 14), (3, 20), (3, 25), (3, 30), (3, 31), (3, 32), (3, 33), (3, 34), (3, 35), (3, 36)]) rfl hP rfl 6 (by decide) (hts _ (wg_t kw_113)) (fun _ h9 => h9) (cd := (3, 33)) rfl dKM_hashFits_22 (fun v23 hv23 => ?_)
      obtain ⟨r21, rfl, kr21⟩ := (show ∃ r : Nat, v23 = .ref r ∧ T r = some 33 from hv23)
      refine lv_iload_n hx hb dKM_hashFits_25 rfl (lv_at hl 0 rfl) ?_
      refine nw_bald hx hb hK hO kr21 (k := 33) rfl hP (by omega) (by omega) dKM_hashFits_26 ?_
      refine lv_aload_n hx hb dKM_hashFits_27 rfl (lv_at hl 3 rfl) ?_
      refine lv_aload_n hx hb dKM_hashFits_28 rfl (lv_at hl 2 rfl) ?_
      refine nw_get (C := "LatticeKeys$KemSet") (TT := T_KS) (N := 10) hx hb hts (wg_ft i_KS) hown hK hO k_st (kn := 5) (ci := 1) (fl := [(1, 2), (1, 3), (1, 10), (1, 4), (1, 800), (1, 1632), (1, 768), (1, 768), (1, 1568), (1, 1600)]) rfl hP rfl 8 (by decide) (hts _ (wg_t kw_250)) (fun _ h9 => h9) (cd := (1, 1568)) rfl dKM_hashFits_29 (fun v24 hv24 => ?_)
      obtain rfl := (show v24 = .int (nI 1568) from hv24)
      refine lv_iload_n hx hb dKM_hashFits_32 rfl (lv_at hl 0 rfl) ?_
      refine mi_iadd hx hb dKM_hashFits_33 ?_
      refine nw_bald hx hb hK hO k_sk (k := psk) n_sk hP (by omega) (by omega) dKM_hashFits_34 ?_
      refine lv_icmp_eq (tgt := 40) hx hb dKM_hashFits_35 (by decide) (fun h23 => ?_) (fun h23 => ?_)
      · replace hR := hR.trans (if_pos h23)
        refine mi_iinc (k := 0) (x := i21) (d := 1) (y := i21 + 1) (lv' := [(3, .int (nI (i21 + 1))), (0, .ref h0), (1, .ref st), (2, .ref sk)]) hx hb dKM_hashFits_40 hl rfl (by decide) rfl (by decide) rfl (fun ls hl => ?_)
        refine lv_goto (tgt := 15) hx hb dKM_hashFits_43 (by decide) ?_
        exact ih21 (i21 + 1) s22 pl ls H locs (by omega) hF hR (lv_sub hl [0, 1, 2, 3] rfl) hO hP hD hS
      · replace hR := hR.trans (if_neg h23)
        refine lv_iconst (v := nI 0) hx hb dKM_hashFits_38 (by decide) ?_
        exact mp_zret hx hb hr hlk rfl hP hD hS ((nI 0, s22), pl) ⟨⟨hR.symm, rfl, hF, trivial⟩, hO⟩ [] rfl rfl rfl (by omega) (by omega) dKM_hashFits_39
  exact lp21 32 0 s21 pl ls _ _ (by omega) hF hR (lv_sub hl [0, 1, 2, 3] rfl) hO hP hD hS
def M_KM_hashFits_1 (k : Nat) : Prop := k = 14 ∨ k = 33 ∨ (0 : Nat) = 1
noncomputable def F_KM_hashFits_1_L0 (psk : Nat) : Nat → Nat → Sto → Int32 × Sto
  | 0, i21, s22 => (nI 1, s22)
  | n21 + 1, i21, s22 => if (s22.1 33 i21) = (s22.1 psk (2336 + i21)) then F_KM_hashFits_1_L0 psk n21 (i21 + 1) s22 else (nI 0, s22)
noncomputable def F_KM_hashFits_1 (psk : Nat) (n : Nat) (s : Sto) : Int32 × Sto := bnd (F_KM_digestOf psk n 1152 1184 s) fun s21 => F_KM_hashFits_1_L0 psk 32 0 s21
set_option maxHeartbeats 400000 in
set_option maxRecDepth 100000 in
theorem N_KM_hashFits_1 (l : Launch) (g : Gd) (sz : Nat) (T : TyN) (s : Sto) (pl : va_W) (hO : okn g T s pl) (hU : inj T) (h0 st sk : Nat) (psk : Nat) (n : Nat) (k_h0 : T h0 = some 24) (k_st : T st = some 6) (k_sk : T sk = some psk) (n_sk : nsp psk = (1, n, [])) (h1 : 2400 ≤ n) (h2 : n < 65536)  : Met l y_KM_hashFits w_KM_hashFits ({ frames := 4, cells := 0, slots := 0, locals := 123 } : Room) (va_Pc [.ref h0, .ref st, .ref sk] (pr (en g) g.1 vcl sz ([] ++ pl))) (va_Qi (fun (r : Int32) (u : (Int32 × Sto) × va_W) => (u.1 = F_KM_hashFits_1 psk n s ∧ r = u.1.1 ∧ frm (M_KM_hashFits_1) s u.1.2 ∧ True) ∧ okn g T u.1.2 u.2) (po g.1 vcl (va_A ([] ++ pl) sz) (fun (u : (Int32 × Sto) × va_W) => [] ++ u.2)) (va_A ([] ++ pl) sz)) 0 0 (va_A ([] ++ pl) sz) := by
  refine mc_entry (cc := c_KM_hashFits) (maxL := 4) (ret := (some .boolean)) (by decide) rfl (Nat.le_of_ble_eq_true rfl) ?_
  intro p e s0 m args below meth c ls F hr hlk hnm hsz hP hD hE hA hl
  obtain ⟨hx, hb, hml, hown, hts⟩ := id F
  have hK := hE.1
  generalize va_A ([] ++ pl) sz = A at hD hE hA ⊢
  have hS : va_S A s0.heap s0.heap [] := va_S.rf
  have hl : lv_has ls 4 [(0, .ref h0), (1, .ref st), (2, .ref sk)] := hl
  have hR : F_KM_hashFits_1 psk n s = F_KM_hashFits_1 psk n s := rfl
  have hF : frm (M_KM_hashFits_1) s s := frm_rf
  refine lv_aload_n hx hb dKM_hashFits_0 rfl (lv_at hl 0 rfl) ?_
  refine lv_aload_n hx hb dKM_hashFits_1 rfl (lv_at hl 2 rfl) ?_
  refine lv_aload_n hx hb dKM_hashFits_2 rfl (lv_at hl 1 rfl) ?_
  refine nw_get (C := "LatticeKeys$KemSet") (TT := T_KS) (N := 10) hx hb hts (wg_ft i_KS) hown hK hO k_st (kn := 6) (ci := 1) (fl := [(1, 3), (1, 2), (1, 10), (1, 4), (1, 1184), (1, 2400), (1, 1088), (1, 1152), (1, 2336), (1, 2368)]) rfl hP rfl 7 (by decide) (hts _ (wg_t kw_247)) (fun _ h9 => h9) (cd := (1, 1152)) rfl dKM_hashFits_3 (fun v21 hv21 => ?_)
  obtain rfl := (show v21 = .int (nI 1152) from hv21)
  refine lv_aload_n hx hb dKM_hashFits_6 rfl (lv_at hl 1 rfl) ?_
  refine nw_get (C := "LatticeKeys$KemSet") (TT := T_KS) (N := 10) hx hb hts (wg_ft i_KS) hown hK hO k_st (kn := 6) (ci := 1) (fl := [(1, 3), (1, 2), (1, 10), (1, 4), (1, 1184), (1, 2400), (1, 1088), (1, 1152), (1, 2336), (1, 2368)]) rfl hP rfl 4 (by decide) (hts _ (wg_t kw_239)) (fun _ h9 => h9) (cd := (1, 1184)) rfl dKM_hashFits_7 (fun v22 hv22 => ?_)
  obtain rfl := (show v22 = .int (nI 1184) from hv22)
  refine mp_v (cx := []) (wr := []) hP hD hS hA [] [] rfl rfl rfl (by decide) (va_runV (As := [.ref sk, .int (nI 1152), .int (nI 1184)]) (rest := []) F (N_KM_digestOf l g _ T s pl hO hU h0 sk psk n 1152 1184 k_h0 k_sk n_sk (by omega) (by omega)) (cwV 3 hts (wg_app (wg_c kw_661 (wg_c kw_663 (wg_c ks_10 (wg_c kw_3 wg_n)))) kw_664) rfl rfl rfl (by decide +kernel) ⟨by decide, by decide⟩) (pn_W "LatticeKeys$Kem" (en_ok g) (ci := 5) (kn := 24) (fl := [(3, 14), (3, 20), (3, 25), (3, 30), (3, 31), (3, 32), (3, 33), (3, 34), (3, 35), (3, 36)]) hK hO k_h0 rfl hP hD hS hA hE [] rfl rfl rfl) rfl rfl hl.1 rfl (lv_room (Nat.le_of_ble_eq_true rfl)) dKM_hashFits_10 ⟨by omega, by omega⟩) (fun  u21 H locs hu21 hP hD hS => ?_)
  obtain ⟨s21, pl⟩ := u21
  obtain ⟨⟨eq21, hFc21, -⟩, hO⟩ := hu21
  have hO : okn g T s21 pl := hO
  have hP : va_P g.1 vcl ([] ++ pl) _ := hP
  have hD : va_D _ ([] ++ pl) := hD
  have hFc21 : frm (M_KM_digestOf) s s21 := hFc21
  replace hR := bnd_step hR eq21
  have hF := frm_tr hF hFc21 (fun k hk => by unfold M_KM_digestOf at hk; unfold M_KM_hashFits_1; omega)
  refine W.widen (k := 0) (n := 0) (by omega) (by omega) ?_
  refine lv_iconst (v := nI 0) hx hb dKM_hashFits_13 (by decide) ?_
  refine lv_istore_n (lv' := [(3, .int (nI 0)), (0, .ref h0), (1, .ref st), (2, .ref sk)]) hx hb dKM_hashFits_14 rfl hl (by decide) rfl (fun ls hl => ?_)
  have lp21 : ∀ (n21 : Nat) (i21 : Nat) (s22 : Sto) (pl : va_W) (ls : Array Slot) (H : Heap) (locs : List Loc), n21 + i21 = 32 → frm (M_KM_hashFits_1) s s22 → F_KM_hashFits_1 psk n s = F_KM_hashFits_1_L0 psk n21 i21 s22 → lv_has ls 4 [(3, .int (nI i21)), (0, .ref h0), (1, .ref st), (2, .ref sk)] → okn g T s22 pl → va_P g.1 vcl ([] ++ pl) H → va_D A ([] ++ pl) → va_S A s0.heap H locs → W p l e ({ frames := 4, cells := 0, slots := 0, locals := 123 } : Room) s0 m args below meth c H locs 0 0 (MQ below (va_Qi (fun (r : Int32) (u : (Int32 × Sto) × va_W) => (u.1 = F_KM_hashFits_1 psk n s ∧ r = u.1.1 ∧ frm (M_KM_hashFits_1) s u.1.2 ∧ True) ∧ okn g T u.1.2 u.2) (po g.1 vcl A (fun (u : (Int32 × Sto) × va_W) => [] ++ u.2)) A) args s0 0 0 A) (F0 m 15 ls []) := by
    intro n21
    induction n21 with
    | zero =>
      intro i21 s22 pl ls H locs hm21 hF hR hl hO hP hD hS
      refine lv_iload_n hx hb dKM_hashFits_15 rfl (lv_at hl 0 rfl) ?_
      refine lv_bipush (v := nI 32) hx hb dKM_hashFits_16 (by decide) ?_
      refine mi_ge (tgt := 46) hx hb dKM_hashFits_18 (by decide) (by omega) (by omega) (fun h21 => ?_) (fun h21 => absurd h21 (by omega))
      refine lv_iconst (v := nI 1) hx hb dKM_hashFits_46 (by decide) ?_
      exact mp_zret hx hb hr hlk rfl hP hD hS ((nI 1, s22), pl) ⟨⟨hR.symm, rfl, hF, trivial⟩, hO⟩ [] rfl rfl rfl (by omega) (by omega) dKM_hashFits_47
    | succ n21 ih21 =>
      intro i21 s22 pl ls H locs hm21 hF hR hl hO hP hD hS
      refine lv_iload_n hx hb dKM_hashFits_15 rfl (lv_at hl 0 rfl) ?_
      refine lv_bipush (v := nI 32) hx hb dKM_hashFits_16 (by decide) ?_
      refine mi_ge (tgt := 46) hx hb dKM_hashFits_18 (by decide) (by omega) (by omega) (fun h22 => absurd h22 (by omega)) (fun h22 => ?_)
      refine lv_aload_n hx hb dKM_hashFits_21 rfl (lv_at hl 1 rfl) ?_
      refine nw_get (C := "LatticeKeys$Kem") (TT := T_KM) (N := 10) hx hb hts (wg_ft i_KM) hown hK hO k_h0 (kn := 24) (ci := 5) (fl := [(3, 14), (3, 20), (3, 25), (3, 30), (3, 31), (3, 32), (3, 33), (3, 34), (3, 35), (3, 36)]) rfl hP rfl 6 (by decide) (hts _ (wg_t kw_113)) (fun _ h9 => h9) (cd := (3, 33)) rfl dKM_hashFits_22 (fun v23 hv23 => ?_)
      obtain ⟨r21, rfl, kr21⟩ := (show ∃ r : Nat, v23 = .ref r ∧ T r = some 33 from hv23)
      refine lv_iload_n hx hb dKM_hashFits_25 rfl (lv_at hl 0 rfl) ?_
      refine nw_bald hx hb hK hO kr21 (k := 33) rfl hP (by omega) (by omega) dKM_hashFits_26 ?_
      refine lv_aload_n hx hb dKM_hashFits_27 rfl (lv_at hl 3 rfl) ?_
      refine lv_aload_n hx hb dKM_hashFits_28 rfl (lv_at hl 2 rfl) ?_
      refine nw_get (C := "LatticeKeys$KemSet") (TT := T_KS) (N := 10) hx hb hts (wg_ft i_KS) hown hK hO k_st (kn := 6) (ci := 1) (fl := [(1, 3), (1, 2), (1, 10), (1, 4), (1, 1184), (1, 2400), (1, 1088), (1, 1152), (1, 2336), (1, 2368)]) rfl hP rfl 8 (by decide) (hts _ (wg_t kw_250)) (fun _ h9 => h9) (cd := (1, 2336)) rfl dKM_hashFits_29 (fun v24 hv24 => ?_)
      obtain rfl := (show v24 = .int (nI 2336) from hv24)
      refine lv_iload_n hx hb dKM_hashFits_32 rfl (lv_at hl 0 rfl) ?_
      refine mi_iadd hx hb dKM_hashFits_33 ?_
      refine nw_bald hx hb hK hO k_sk (k := psk) n_sk hP (by omega) (by omega) dKM_hashFits_34 ?_
      refine lv_icmp_eq (tgt := 40) hx hb dKM_hashFits_35 (by decide) (fun h23 => ?_) (fun h23 => ?_)
      · replace hR := hR.trans (if_pos h23)
        refine mi_iinc (k := 0) (x := i21) (d := 1) (y := i21 + 1) (lv' := [(3, .int (nI (i21 + 1))), (0, .ref h0), (1, .ref st), (2, .ref sk)]) hx hb dKM_hashFits_40 hl rfl (by decide) rfl (by decide) rfl (fun ls hl => ?_)
        refine lv_goto (tgt := 15) hx hb dKM_hashFits_43 (by decide) ?_
        exact ih21 (i21 + 1) s22 pl ls H locs (by omega) hF hR (lv_sub hl [0, 1, 2, 3] rfl) hO hP hD hS
      · replace hR := hR.trans (if_neg h23)
        refine lv_iconst (v := nI 0) hx hb dKM_hashFits_38 (by decide) ?_
        exact mp_zret hx hb hr hlk rfl hP hD hS ((nI 0, s22), pl) ⟨⟨hR.symm, rfl, hF, trivial⟩, hO⟩ [] rfl rfl rfl (by omega) (by omega) dKM_hashFits_39
  exact lp21 32 0 s21 pl ls _ _ (by omega) hF hR (lv_sub hl [0, 1, 2, 3] rfl) hO hP hD hS
def M_KM_hashFits_2 (k : Nat) : Prop := k = 14 ∨ k = 33 ∨ (0 : Nat) = 1
noncomputable def F_KM_hashFits_2_L0 (psk : Nat) : Nat → Nat → Sto → Int32 × Sto
  | 0, i21, s22 => (nI 1, s22)
  | n21 + 1, i21, s22 => if (s22.1 33 i21) = (s22.1 psk (3104 + i21)) then F_KM_hashFits_2_L0 psk n21 (i21 + 1) s22 else (nI 0, s22)
noncomputable def F_KM_hashFits_2 (psk : Nat) (n : Nat) (s : Sto) : Int32 × Sto := bnd (F_KM_digestOf psk n 1536 1568 s) fun s21 => F_KM_hashFits_2_L0 psk 32 0 s21
set_option maxHeartbeats 400000 in
set_option maxRecDepth 100000 in
theorem N_KM_hashFits_2 (l : Launch) (g : Gd) (sz : Nat) (T : TyN) (s : Sto) (pl : va_W) (hO : okn g T s pl) (hU : inj T) (h0 st sk : Nat) (psk : Nat) (n : Nat) (k_h0 : T h0 = some 24) (k_st : T st = some 7) (k_sk : T sk = some psk) (n_sk : nsp psk = (1, n, [])) (h1 : 3168 ≤ n) (h2 : n < 65536)  : Met l y_KM_hashFits w_KM_hashFits ({ frames := 4, cells := 0, slots := 0, locals := 123 } : Room) (va_Pc [.ref h0, .ref st, .ref sk] (pr (en g) g.1 vcl sz ([] ++ pl))) (va_Qi (fun (r : Int32) (u : (Int32 × Sto) × va_W) => (u.1 = F_KM_hashFits_2 psk n s ∧ r = u.1.1 ∧ frm (M_KM_hashFits_2) s u.1.2 ∧ True) ∧ okn g T u.1.2 u.2) (po g.1 vcl (va_A ([] ++ pl) sz) (fun (u : (Int32 × Sto) × va_W) => [] ++ u.2)) (va_A ([] ++ pl) sz)) 0 0 (va_A ([] ++ pl) sz) := by
  refine mc_entry (cc := c_KM_hashFits) (maxL := 4) (ret := (some .boolean)) (by decide) rfl (Nat.le_of_ble_eq_true rfl) ?_
  intro p e s0 m args below meth c ls F hr hlk hnm hsz hP hD hE hA hl
  obtain ⟨hx, hb, hml, hown, hts⟩ := id F
  have hK := hE.1
  generalize va_A ([] ++ pl) sz = A at hD hE hA ⊢
  have hS : va_S A s0.heap s0.heap [] := va_S.rf
  have hl : lv_has ls 4 [(0, .ref h0), (1, .ref st), (2, .ref sk)] := hl
  have hR : F_KM_hashFits_2 psk n s = F_KM_hashFits_2 psk n s := rfl
  have hF : frm (M_KM_hashFits_2) s s := frm_rf
  refine lv_aload_n hx hb dKM_hashFits_0 rfl (lv_at hl 0 rfl) ?_
  refine lv_aload_n hx hb dKM_hashFits_1 rfl (lv_at hl 2 rfl) ?_
  refine lv_aload_n hx hb dKM_hashFits_2 rfl (lv_at hl 1 rfl) ?_
  refine nw_get (C := "LatticeKeys$KemSet") (TT := T_KS) (N := 10) hx hb hts (wg_ft i_KS) hown hK hO k_st (kn := 7) (ci := 1) (fl := [(1, 4), (1, 2), (1, 11), (1, 5), (1, 1568), (1, 3168), (1, 1568), (1, 1536), (1, 3104), (1, 3136)]) rfl hP rfl 7 (by decide) (hts _ (wg_t kw_247)) (fun _ h9 => h9) (cd := (1, 1536)) rfl dKM_hashFits_3 (fun v21 hv21 => ?_)
  obtain rfl := (show v21 = .int (nI 1536) from hv21)
  refine lv_aload_n hx hb dKM_hashFits_6 rfl (lv_at hl 1 rfl) ?_
  refine nw_get (C := "LatticeKeys$KemSet") (TT := T_KS) (N := 10) hx hb hts (wg_ft i_KS) hown hK hO k_st (kn := 7) (ci := 1) (fl := [(1, 4), (1, 2), (1, 11), (1, 5), (1, 1568), (1, 3168), (1, 1568), (1, 1536), (1, 3104), (1, 3136)]) rfl hP rfl 4 (by decide) (hts _ (wg_t kw_239)) (fun _ h9 => h9) (cd := (1, 1568)) rfl dKM_hashFits_7 (fun v22 hv22 => ?_)
  obtain rfl := (show v22 = .int (nI 1568) from hv22)
  refine mp_v (cx := []) (wr := []) hP hD hS hA [] [] rfl rfl rfl (by decide) (va_runV (As := [.ref sk, .int (nI 1536), .int (nI 1568)]) (rest := []) F (N_KM_digestOf l g _ T s pl hO hU h0 sk psk n 1536 1568 k_h0 k_sk n_sk (by omega) (by omega)) (cwV 3 hts (wg_app (wg_c kw_661 (wg_c kw_663 (wg_c ks_10 (wg_c kw_3 wg_n)))) kw_664) rfl rfl rfl (by decide +kernel) ⟨by decide, by decide⟩) (pn_W "LatticeKeys$Kem" (en_ok g) (ci := 5) (kn := 24) (fl := [(3, 14), (3, 20), (3, 25), (3, 30), (3, 31), (3, 32), (3, 33), (3, 34), (3, 35), (3, 36)]) hK hO k_h0 rfl hP hD hS hA hE [] rfl rfl rfl) rfl rfl hl.1 rfl (lv_room (Nat.le_of_ble_eq_true rfl)) dKM_hashFits_10 ⟨by omega, by omega⟩) (fun  u21 H locs hu21 hP hD hS => ?_)
  obtain ⟨s21, pl⟩ := u21
  obtain ⟨⟨eq21, hFc21, -⟩, hO⟩ := hu21
  have hO : okn g T s21 pl := hO
  have hP : va_P g.1 vcl ([] ++ pl) _ := hP
  have hD : va_D _ ([] ++ pl) := hD
  have hFc21 : frm (M_KM_digestOf) s s21 := hFc21
  replace hR := bnd_step hR eq21
  have hF := frm_tr hF hFc21 (fun k hk => by unfold M_KM_digestOf at hk; unfold M_KM_hashFits_2; omega)
  refine W.widen (k := 0) (n := 0) (by omega) (by omega) ?_
  refine lv_iconst (v := nI 0) hx hb dKM_hashFits_13 (by decide) ?_
  refine lv_istore_n (lv' := [(3, .int (nI 0)), (0, .ref h0), (1, .ref st), (2, .ref sk)]) hx hb dKM_hashFits_14 rfl hl (by decide) rfl (fun ls hl => ?_)
  have lp21 : ∀ (n21 : Nat) (i21 : Nat) (s22 : Sto) (pl : va_W) (ls : Array Slot) (H : Heap) (locs : List Loc), n21 + i21 = 32 → frm (M_KM_hashFits_2) s s22 → F_KM_hashFits_2 psk n s = F_KM_hashFits_2_L0 psk n21 i21 s22 → lv_has ls 4 [(3, .int (nI i21)), (0, .ref h0), (1, .ref st), (2, .ref sk)] → okn g T s22 pl → va_P g.1 vcl ([] ++ pl) H → va_D A ([] ++ pl) → va_S A s0.heap H locs → W p l e ({ frames := 4, cells := 0, slots := 0, locals := 123 } : Room) s0 m args below meth c H locs 0 0 (MQ below (va_Qi (fun (r : Int32) (u : (Int32 × Sto) × va_W) => (u.1 = F_KM_hashFits_2 psk n s ∧ r = u.1.1 ∧ frm (M_KM_hashFits_2) s u.1.2 ∧ True) ∧ okn g T u.1.2 u.2) (po g.1 vcl A (fun (u : (Int32 × Sto) × va_W) => [] ++ u.2)) A) args s0 0 0 A) (F0 m 15 ls []) := by
    intro n21
    induction n21 with
    | zero =>
      intro i21 s22 pl ls H locs hm21 hF hR hl hO hP hD hS
      refine lv_iload_n hx hb dKM_hashFits_15 rfl (lv_at hl 0 rfl) ?_
      refine lv_bipush (v := nI 32) hx hb dKM_hashFits_16 (by decide) ?_
      refine mi_ge (tgt := 46) hx hb dKM_hashFits_18 (by decide) (by omega) (by omega) (fun h21 => ?_) (fun h21 => absurd h21 (by omega))
      refine lv_iconst (v := nI 1) hx hb dKM_hashFits_46 (by decide) ?_
      exact mp_zret hx hb hr hlk rfl hP hD hS ((nI 1, s22), pl) ⟨⟨hR.symm, rfl, hF, trivial⟩, hO⟩ [] rfl rfl rfl (by omega) (by omega) dKM_hashFits_47
    | succ n21 ih21 =>
      intro i21 s22 pl ls H locs hm21 hF hR hl hO hP hD hS
      refine lv_iload_n hx hb dKM_hashFits_15 rfl (lv_at hl 0 rfl) ?_
      refine lv_bipush (v := nI 32) hx hb dKM_hashFits_16 (by decide) ?_
      refine mi_ge (tgt := 46) hx hb dKM_hashFits_18 (by decide) (by omega) (by omega) (fun h22 => absurd h22 (by omega)) (fun h22 => ?_)
      refine lv_aload_n hx hb dKM_hashFits_21 rfl (lv_at hl 1 rfl) ?_
      refine nw_get (C := "LatticeKeys$Kem") (TT := T_KM) (N := 10) hx hb hts (wg_ft i_KM) hown hK hO k_h0 (kn := 24) (ci := 5) (fl := [(3, 14), (3, 20), (3, 25), (3, 30), (3, 31), (3, 32), (3, 33), (3, 34), (3, 35), (3, 36)]) rfl hP rfl 6 (by decide) (hts _ (wg_t kw_113)) (fun _ h9 => h9) (cd := (3, 33)) rfl dKM_hashFits_22 (fun v23 hv23 => ?_)
      obtain ⟨r21, rfl, kr21⟩ := (show ∃ r : Nat, v23 = .ref r ∧ T r = some 33 from hv23)
      refine lv_iload_n hx hb dKM_hashFits_25 rfl (lv_at hl 0 rfl) ?_
      refine nw_bald hx hb hK hO kr21 (k := 33) rfl hP (by omega) (by omega) dKM_hashFits_26 ?_
      refine lv_aload_n hx hb dKM_hashFits_27 rfl (lv_at hl 3 rfl) ?_
      refine lv_aload_n hx hb dKM_hashFits_28 rfl (lv_at hl 2 rfl) ?_
      refine nw_get (C := "LatticeKeys$KemSet") (TT := T_KS) (N := 10) hx hb hts (wg_ft i_KS) hown hK hO k_st (kn := 7) (ci := 1) (fl := [(1, 4), (1, 2), (1, 11), (1, 5), (1, 1568), (1, 3168), (1, 1568), (1, 1536), (1, 3104), (1, 3136)]) rfl hP rfl 8 (by decide) (hts _ (wg_t kw_250)) (fun _ h9 => h9) (cd := (1, 3104)) rfl dKM_hashFits_29 (fun v24 hv24 => ?_)
      obtain rfl := (show v24 = .int (nI 3104) from hv24)
      refine lv_iload_n hx hb dKM_hashFits_32 rfl (lv_at hl 0 rfl) ?_
      refine mi_iadd hx hb dKM_hashFits_33 ?_
      refine nw_bald hx hb hK hO k_sk (k := psk) n_sk hP (by omega) (by omega) dKM_hashFits_34 ?_
      refine lv_icmp_eq (tgt := 40) hx hb dKM_hashFits_35 (by decide) (fun h23 => ?_) (fun h23 => ?_)
      · replace hR := hR.trans (if_pos h23)
        refine mi_iinc (k := 0) (x := i21) (d := 1) (y := i21 + 1) (lv' := [(3, .int (nI (i21 + 1))), (0, .ref h0), (1, .ref st), (2, .ref sk)]) hx hb dKM_hashFits_40 hl rfl (by decide) rfl (by decide) rfl (fun ls hl => ?_)
        refine lv_goto (tgt := 15) hx hb dKM_hashFits_43 (by decide) ?_
        exact ih21 (i21 + 1) s22 pl ls H locs (by omega) hF hR (lv_sub hl [0, 1, 2, 3] rfl) hO hP hD hS
      · replace hR := hR.trans (if_neg h23)
        refine lv_iconst (v := nI 0) hx hb dKM_hashFits_38 (by decide) ?_
        exact mp_zret hx hb hr hlk rfl hP hD hS ((nI 0, s22), pl) ⟨⟨hR.symm, rfl, hF, trivial⟩, hO⟩ [] rfl rfl rfl (by omega) (by omega) dKM_hashFits_39
  exact lp21 32 0 s21 pl ls _ _ (by omega) hF hR (lv_sub hl [0, 1, 2, 3] rfl) hO hP hD hS
