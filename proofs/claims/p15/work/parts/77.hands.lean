abbrev c_MH_as : ByteArray := prog_13_method_5_code
abbrev y_MH_as : MethodName := ⟨"LatticeKeysModel$Hands", "as", "(I)V"⟩
abbrev w_MH_as : List Cond := Cond.code y_MH_as c_MH_as 2 none :: WG
theorem dMH_as_0 : decode c_MH_as 0 = .ok (.aload_n 0, 1) := by decide +kernel
theorem dMH_as_1 : decode c_MH_as 1 = .ok (.iload_n 1, 1) := by decide +kernel
theorem dMH_as_2 : decode c_MH_as 2 = .ok (.putfield 103, 3) := by decide +kernel
theorem dMH_as_5 : decode c_MH_as 5 = .ok (.aload_n 0, 1) := by decide +kernel
theorem dMH_as_6 : decode c_MH_as 6 = .ok (.getstatic 91, 3) := by decide +kernel
theorem dMH_as_9 : decode c_MH_as 9 = .ok (.aload_n 0, 1) := by decide +kernel
theorem dMH_as_10 : decode c_MH_as 10 = .ok (.getfield 103, 3) := by decide +kernel
theorem dMH_as_13 : decode c_MH_as 13 = .ok (.iaload, 1) := by decide +kernel
theorem dMH_as_14 : decode c_MH_as 14 = .ok (.putfield 107, 3) := by decide +kernel
theorem dMH_as_17 : decode c_MH_as 17 = .ok (.aload_n 0, 1) := by decide +kernel
theorem dMH_as_18 : decode c_MH_as 18 = .ok (.getstatic 97, 3) := by decide +kernel
theorem dMH_as_21 : decode c_MH_as 21 = .ok (.aload_n 0, 1) := by decide +kernel
theorem dMH_as_22 : decode c_MH_as 22 = .ok (.getfield 103, 3) := by decide +kernel
theorem dMH_as_25 : decode c_MH_as 25 = .ok (.iaload, 1) := by decide +kernel
theorem dMH_as_26 : decode c_MH_as 26 = .ok (.putfield 110, 3) := by decide +kernel
theorem dMH_as_29 : decode c_MH_as 29 = .ok (.aload_n 0, 1) := by decide +kernel
theorem dMH_as_30 : decode c_MH_as 30 = .ok (.getstatic 94, 3) := by decide +kernel
theorem dMH_as_33 : decode c_MH_as 33 = .ok (.aload_n 0, 1) := by decide +kernel
theorem dMH_as_34 : decode c_MH_as 34 = .ok (.getfield 103, 3) := by decide +kernel
theorem dMH_as_37 : decode c_MH_as 37 = .ok (.iaload, 1) := by decide +kernel
theorem dMH_as_38 : decode c_MH_as 38 = .ok (.putfield 113, 3) := by decide +kernel
theorem dMH_as_41 : decode c_MH_as 41 = .ok (.aload_n 0, 1) := by decide +kernel
theorem dMH_as_42 : decode c_MH_as 42 = .ok (.aload_n 0, 1) := by decide +kernel
theorem dMH_as_43 : decode c_MH_as 43 = .ok (.getfield 103, 3) := by decide +kernel
theorem dMH_as_46 : decode c_MH_as 46 = .ok (.ifCond .ne 8, 3) := by decide +kernel
theorem dMH_as_49 : decode c_MH_as 49 = .ok (.ldc 116, 2) := by decide +kernel
theorem dMH_as_51 : decode c_MH_as 51 = .ok (.goto 5, 3) := by decide +kernel
theorem dMH_as_54 : decode c_MH_as 54 = .ok (.ldc 117, 2) := by decide +kernel
theorem dMH_as_56 : decode c_MH_as 56 = .ok (.putfield 118, 3) := by decide +kernel
theorem dMH_as_59 : decode c_MH_as 59 = .ok (.aload_n 0, 1) := by decide +kernel
theorem dMH_as_60 : decode c_MH_as 60 = .ok (.aload_n 0, 1) := by decide +kernel
theorem dMH_as_61 : decode c_MH_as 61 = .ok (.getfield 103, 3) := by decide +kernel
theorem dMH_as_64 : decode c_MH_as 64 = .ok (.ifCond .ne 8, 3) := by decide +kernel
theorem dMH_as_67 : decode c_MH_as 67 = .ok (.ldc 121, 2) := by decide +kernel
theorem dMH_as_69 : decode c_MH_as 69 = .ok (.goto 5, 3) := by decide +kernel
theorem dMH_as_72 : decode c_MH_as 72 = .ok (.ldc 122, 2) := by decide +kernel
theorem dMH_as_74 : decode c_MH_as 74 = .ok (.putfield 123, 3) := by decide +kernel
theorem dMH_as_77 : decode c_MH_as 77 = .ok (.aload_n 0, 1) := by decide +kernel
theorem dMH_as_78 : decode c_MH_as 78 = .ok (.aload_n 0, 1) := by decide +kernel
theorem dMH_as_79 : decode c_MH_as 79 = .ok (.getfield 113, 3) := by decide +kernel
theorem dMH_as_82 : decode c_MH_as 82 = .ok (.getstatic 126, 3) := by decide +kernel
theorem dMH_as_85 : decode c_MH_as 85 = .ok (.aload_n 0, 1) := by decide +kernel
theorem dMH_as_86 : decode c_MH_as 86 = .ok (.getfield 103, 3) := by decide +kernel
theorem dMH_as_89 : decode c_MH_as 89 = .ok (.iaload, 1) := by decide +kernel
theorem dMH_as_90 : decode c_MH_as 90 = .ok (.imul, 1) := by decide +kernel
theorem dMH_as_91 : decode c_MH_as 91 = .ok (.putfield 129, 3) := by decide +kernel
theorem dMH_as_94 : decode c_MH_as 94 = .ok (.aload_n 0, 1) := by decide +kernel
theorem dMH_as_95 : decode c_MH_as 95 = .ok (.bipush 32, 2) := by decide +kernel
theorem dMH_as_97 : decode c_MH_as 97 = .ok (.bipush 16, 2) := by decide +kernel
theorem dMH_as_99 : decode c_MH_as 99 = .ok (.aload_n 0, 1) := by decide +kernel
theorem dMH_as_100 : decode c_MH_as 100 = .ok (.getfield 103, 3) := by decide +kernel
theorem dMH_as_103 : decode c_MH_as 103 = .ok (.imul, 1) := by decide +kernel
theorem dMH_as_104 : decode c_MH_as 104 = .ok (.iadd, 1) := by decide +kernel
theorem dMH_as_105 : decode c_MH_as 105 = .ok (.putfield 132, 3) := by decide +kernel
theorem dMH_as_108 : decode c_MH_as 108 = .ok (.return_, 1) := by decide +kernel
abbrev c_MH_keys : ByteArray := prog_13_method_14_code
abbrev y_MH_keys : MethodName := ⟨"LatticeKeysModel$Hands", "keys", "(I[B[B[B)V"⟩
abbrev w_MH_keys : List Cond := Cond.code y_MH_keys c_MH_keys 10 none :: WG
theorem dMH_keys_0 : decode c_MH_keys 0 = .ok (.aload_n 0, 1) := by decide +kernel
theorem dMH_keys_1 : decode c_MH_keys 1 = .ok (.iload_n 1, 1) := by decide +kernel
theorem dMH_keys_2 : decode c_MH_keys 2 = .ok (.invokevirtual 166, 3) := by decide +kernel
theorem dMH_keys_5 : decode c_MH_keys 5 = .ok (.aload_n 0, 1) := by decide +kernel
theorem dMH_keys_6 : decode c_MH_keys 6 = .ok (.getfield 87, 3) := by decide +kernel
theorem dMH_keys_9 : decode c_MH_keys 9 = .ok (.invokevirtual 156, 3) := by decide +kernel
theorem dMH_keys_12 : decode c_MH_keys 12 = .ok (.aload_n 0, 1) := by decide +kernel
theorem dMH_keys_13 : decode c_MH_keys 13 = .ok (.getfield 87, 3) := by decide +kernel
theorem dMH_keys_16 : decode c_MH_keys 16 = .ok (.aload_n 2, 1) := by decide +kernel
theorem dMH_keys_17 : decode c_MH_keys 17 = .ok (.iconst 0, 1) := by decide +kernel
theorem dMH_keys_18 : decode c_MH_keys 18 = .ok (.bipush 32, 2) := by decide +kernel
theorem dMH_keys_20 : decode c_MH_keys 20 = .ok (.invokevirtual 142, 3) := by decide +kernel
theorem dMH_keys_23 : decode c_MH_keys 23 = .ok (.aload_n 0, 1) := by decide +kernel
theorem dMH_keys_24 : decode c_MH_keys 24 = .ok (.getfield 87, 3) := by decide +kernel
theorem dMH_keys_27 : decode c_MH_keys 27 = .ok (.aload_n 0, 1) := by decide +kernel
theorem dMH_keys_28 : decode c_MH_keys 28 = .ok (.getfield 107, 3) := by decide +kernel
theorem dMH_keys_31 : decode c_MH_keys 31 = .ok (.invokevirtual 146, 3) := by decide +kernel
theorem dMH_keys_34 : decode c_MH_keys 34 = .ok (.aload_n 0, 1) := by decide +kernel
theorem dMH_keys_35 : decode c_MH_keys 35 = .ok (.getfield 87, 3) := by decide +kernel
theorem dMH_keys_38 : decode c_MH_keys 38 = .ok (.aload_n 0, 1) := by decide +kernel
theorem dMH_keys_39 : decode c_MH_keys 39 = .ok (.getfield 110, 3) := by decide +kernel
theorem dMH_keys_42 : decode c_MH_keys 42 = .ok (.invokevirtual 146, 3) := by decide +kernel
theorem dMH_keys_45 : decode c_MH_keys 45 = .ok (.aload_n 0, 1) := by decide +kernel
theorem dMH_keys_46 : decode c_MH_keys 46 = .ok (.getfield 87, 3) := by decide +kernel
theorem dMH_keys_49 : decode c_MH_keys 49 = .ok (.invokevirtual 149, 3) := by decide +kernel
theorem dMH_keys_52 : decode c_MH_keys 52 = .ok (.aload_n 0, 1) := by decide +kernel
theorem dMH_keys_53 : decode c_MH_keys 53 = .ok (.getfield 87, 3) := by decide +kernel
theorem dMH_keys_56 : decode c_MH_keys 56 = .ok (.aload_n 0, 1) := by decide +kernel
theorem dMH_keys_57 : decode c_MH_keys 57 = .ok (.getfield 65, 3) := by decide +kernel
theorem dMH_keys_60 : decode c_MH_keys 60 = .ok (.iconst 0, 1) := by decide +kernel
theorem dMH_keys_61 : decode c_MH_keys 61 = .ok (.sipush 128, 3) := by decide +kernel
theorem dMH_keys_64 : decode c_MH_keys 64 = .ok (.invokevirtual 169, 3) := by decide +kernel
theorem dMH_keys_67 : decode c_MH_keys 67 = .ok (.aload_n 0, 1) := by decide +kernel
theorem dMH_keys_68 : decode c_MH_keys 68 = .ok (.aload_n 0, 1) := by decide +kernel
theorem dMH_keys_69 : decode c_MH_keys 69 = .ok (.getfield 65, 3) := by decide +kernel
theorem dMH_keys_72 : decode c_MH_keys 72 = .ok (.invokevirtual 172, 3) := by decide +kernel
theorem dMH_keys_75 : decode c_MH_keys 75 = .ok (.iconst 0, 1) := by decide +kernel
theorem dMH_keys_76 : decode c_MH_keys 76 = .ok (.istore 5, 2) := by decide +kernel
theorem dMH_keys_78 : decode c_MH_keys 78 = .ok (.iload 5, 2) := by decide +kernel
theorem dMH_keys_80 : decode c_MH_keys 80 = .ok (.aload_n 0, 1) := by decide +kernel
theorem dMH_keys_81 : decode c_MH_keys 81 = .ok (.getfield 110, 3) := by decide +kernel
theorem dMH_keys_84 : decode c_MH_keys 84 = .ok (.if_icmp .ge 51, 3) := by decide +kernel
theorem dMH_keys_87 : decode c_MH_keys 87 = .ok (.aload_n 0, 1) := by decide +kernel
theorem dMH_keys_88 : decode c_MH_keys 88 = .ok (.aload_n 0, 1) := by decide +kernel
theorem dMH_keys_89 : decode c_MH_keys 89 = .ok (.getfield 24, 3) := by decide +kernel
theorem dMH_keys_92 : decode c_MH_keys 92 = .ok (.iload 5, 2) := by decide +kernel
theorem dMH_keys_94 : decode c_MH_keys 94 = .ok (.aaload, 1) := by decide +kernel
theorem dMH_keys_95 : decode c_MH_keys 95 = .ok (.aload_n 0, 1) := by decide +kernel
theorem dMH_keys_96 : decode c_MH_keys 96 = .ok (.getfield 65, 3) := by decide +kernel
theorem dMH_keys_99 : decode c_MH_keys 99 = .ok (.bipush 32, 2) := by decide +kernel
theorem dMH_keys_101 : decode c_MH_keys 101 = .ok (.iload 5, 2) := by decide +kernel
theorem dMH_keys_103 : decode c_MH_keys 103 = .ok (.invokevirtual 176, 3) := by decide +kernel
theorem dMH_keys_106 : decode c_MH_keys 106 = .ok (.aload_n 0, 1) := by decide +kernel
theorem dMH_keys_107 : decode c_MH_keys 107 = .ok (.getfield 15, 3) := by decide +kernel
theorem dMH_keys_110 : decode c_MH_keys 110 = .ok (.aload_n 0, 1) := by decide +kernel
theorem dMH_keys_111 : decode c_MH_keys 111 = .ok (.getfield 24, 3) := by decide +kernel
theorem dMH_keys_114 : decode c_MH_keys 114 = .ok (.iload 5, 2) := by decide +kernel
theorem dMH_keys_116 : decode c_MH_keys 116 = .ok (.aaload, 1) := by decide +kernel
theorem dMH_keys_117 : decode c_MH_keys 117 = .ok (.aload_n 0, 1) := by decide +kernel
theorem dMH_keys_118 : decode c_MH_keys 118 = .ok (.getfield 42, 3) := by decide +kernel
theorem dMH_keys_121 : decode c_MH_keys 121 = .ok (.iload 5, 2) := by decide +kernel
theorem dMH_keys_123 : decode c_MH_keys 123 = .ok (.aaload, 1) := by decide +kernel
theorem dMH_keys_124 : decode c_MH_keys 124 = .ok (.iconst 1, 1) := by decide +kernel
theorem dMH_keys_125 : decode c_MH_keys 125 = .ok (.iconst 0, 1) := by decide +kernel
theorem dMH_keys_126 : decode c_MH_keys 126 = .ok (.invokevirtual 180, 3) := by decide +kernel
theorem dMH_keys_129 : decode c_MH_keys 129 = .ok (.iinc 5 1, 3) := by decide +kernel
theorem dMH_keys_132 : decode c_MH_keys 132 = .ok (.goto (-54), 3) := by decide +kernel
theorem dMH_keys_135 : decode c_MH_keys 135 = .ok (.iconst 0, 1) := by decide +kernel
theorem dMH_keys_136 : decode c_MH_keys 136 = .ok (.istore 5, 2) := by decide +kernel
theorem dMH_keys_138 : decode c_MH_keys 138 = .ok (.iload 5, 2) := by decide +kernel
theorem dMH_keys_140 : decode c_MH_keys 140 = .ok (.aload_n 0, 1) := by decide +kernel
theorem dMH_keys_141 : decode c_MH_keys 141 = .ok (.getfield 107, 3) := by decide +kernel
theorem dMH_keys_144 : decode c_MH_keys 144 = .ok (.if_icmp .ge 136, 3) := by decide +kernel
theorem dMH_keys_147 : decode c_MH_keys 147 = .ok (.aload_n 0, 1) := by decide +kernel
theorem dMH_keys_148 : decode c_MH_keys 148 = .ok (.aload_n 0, 1) := by decide +kernel
theorem dMH_keys_149 : decode c_MH_keys 149 = .ok (.getfield 27, 3) := by decide +kernel
theorem dMH_keys_152 : decode c_MH_keys 152 = .ok (.iload 5, 2) := by decide +kernel
theorem dMH_keys_154 : decode c_MH_keys 154 = .ok (.aaload, 1) := by decide +kernel
theorem dMH_keys_155 : decode c_MH_keys 155 = .ok (.aload_n 0, 1) := by decide +kernel
theorem dMH_keys_156 : decode c_MH_keys 156 = .ok (.getfield 65, 3) := by decide +kernel
theorem dMH_keys_159 : decode c_MH_keys 159 = .ok (.bipush 32, 2) := by decide +kernel
theorem dMH_keys_161 : decode c_MH_keys 161 = .ok (.iload 5, 2) := by decide +kernel
theorem dMH_keys_163 : decode c_MH_keys 163 = .ok (.aload_n 0, 1) := by decide +kernel
theorem dMH_keys_164 : decode c_MH_keys 164 = .ok (.getfield 110, 3) := by decide +kernel
theorem dMH_keys_167 : decode c_MH_keys 167 = .ok (.iadd, 1) := by decide +kernel
theorem dMH_keys_168 : decode c_MH_keys 168 = .ok (.invokevirtual 176, 3) := by decide +kernel
theorem dMH_keys_171 : decode c_MH_keys 171 = .ok (.aload_n 0, 1) := by decide +kernel
theorem dMH_keys_172 : decode c_MH_keys 172 = .ok (.iload 5, 2) := by decide +kernel
theorem dMH_keys_174 : decode c_MH_keys 174 = .ok (.aload_n 0, 1) := by decide +kernel
theorem dMH_keys_175 : decode c_MH_keys 175 = .ok (.getfield 55, 3) := by decide +kernel
theorem dMH_keys_178 : decode c_MH_keys 178 = .ok (.invokevirtual 183, 3) := by decide +kernel
theorem dMH_keys_181 : decode c_MH_keys 181 = .ok (.iconst 0, 1) := by decide +kernel
theorem dMH_keys_182 : decode c_MH_keys 182 = .ok (.istore 6, 2) := by decide +kernel
theorem dMH_keys_184 : decode c_MH_keys 184 = .ok (.iload 6, 2) := by decide +kernel
theorem dMH_keys_186 : decode c_MH_keys 186 = .ok (.sipush 256, 3) := by decide +kernel
theorem dMH_keys_189 : decode c_MH_keys 189 = .ok (.if_icmp .ge 85, 3) := by decide +kernel
theorem dMH_keys_192 : decode c_MH_keys 192 = .ok (.aload_n 0, 1) := by decide +kernel
theorem dMH_keys_193 : decode c_MH_keys 193 = .ok (.getfield 55, 3) := by decide +kernel
theorem dMH_keys_196 : decode c_MH_keys 196 = .ok (.iload 6, 2) := by decide +kernel
theorem dMH_keys_198 : decode c_MH_keys 198 = .ok (.iaload, 1) := by decide +kernel
theorem dMH_keys_199 : decode c_MH_keys 199 = .ok (.aload_n 0, 1) := by decide +kernel
theorem dMH_keys_200 : decode c_MH_keys 200 = .ok (.getfield 27, 3) := by decide +kernel
theorem dMH_keys_203 : decode c_MH_keys 203 = .ok (.iload 5, 2) := by decide +kernel
theorem dMH_keys_205 : decode c_MH_keys 205 = .ok (.aaload, 1) := by decide +kernel
theorem dMH_keys_206 : decode c_MH_keys 206 = .ok (.iload 6, 2) := by decide +kernel
theorem dMH_keys_208 : decode c_MH_keys 208 = .ok (.iaload, 1) := by decide +kernel
theorem dMH_keys_209 : decode c_MH_keys 209 = .ok (.iadd, 1) := by decide +kernel
theorem dMH_keys_210 : decode c_MH_keys 210 = .ok (.ldc 11, 2) := by decide +kernel
theorem dMH_keys_212 : decode c_MH_keys 212 = .ok (.irem, 1) := by decide +kernel
theorem dMH_keys_213 : decode c_MH_keys 213 = .ok (.istore 7, 2) := by decide +kernel
theorem dMH_keys_215 : decode c_MH_keys 215 = .ok (.iload 7, 2) := by decide +kernel
theorem dMH_keys_217 : decode c_MH_keys 217 = .ok (.sipush 8192, 3) := by decide +kernel
theorem dMH_keys_220 : decode c_MH_keys 220 = .ok (.irem, 1) := by decide +kernel
theorem dMH_keys_221 : decode c_MH_keys 221 = .ok (.istore 8, 2) := by decide +kernel
theorem dMH_keys_223 : decode c_MH_keys 223 = .ok (.iload 8, 2) := by decide +kernel
theorem dMH_keys_225 : decode c_MH_keys 225 = .ok (.sipush 4096, 3) := by decide +kernel
theorem dMH_keys_228 : decode c_MH_keys 228 = .ok (.if_icmp .le 9, 3) := by decide +kernel
theorem dMH_keys_231 : decode c_MH_keys 231 = .ok (.iinc 8 (-8192), 6) := by decide +kernel
theorem dMH_keys_237 : decode c_MH_keys 237 = .ok (.aload_n 0, 1) := by decide +kernel
theorem dMH_keys_238 : decode c_MH_keys 238 = .ok (.getfield 30, 3) := by decide +kernel
theorem dMH_keys_241 : decode c_MH_keys 241 = .ok (.iload 5, 2) := by decide +kernel
theorem dMH_keys_243 : decode c_MH_keys 243 = .ok (.aaload, 1) := by decide +kernel
theorem dMH_keys_244 : decode c_MH_keys 244 = .ok (.iload 6, 2) := by decide +kernel
theorem dMH_keys_246 : decode c_MH_keys 246 = .ok (.iload 8, 2) := by decide +kernel
theorem dMH_keys_248 : decode c_MH_keys 248 = .ok (.iastore, 1) := by decide +kernel
theorem dMH_keys_249 : decode c_MH_keys 249 = .ok (.aload_n 0, 1) := by decide +kernel
theorem dMH_keys_250 : decode c_MH_keys 250 = .ok (.getfield 33, 3) := by decide +kernel
theorem dMH_keys_253 : decode c_MH_keys 253 = .ok (.iload 5, 2) := by decide +kernel
theorem dMH_keys_255 : decode c_MH_keys 255 = .ok (.aaload, 1) := by decide +kernel
theorem dMH_keys_256 : decode c_MH_keys 256 = .ok (.iload 6, 2) := by decide +kernel
theorem dMH_keys_258 : decode c_MH_keys 258 = .ok (.iload 7, 2) := by decide +kernel
theorem dMH_keys_260 : decode c_MH_keys 260 = .ok (.iload 8, 2) := by decide +kernel
theorem dMH_keys_262 : decode c_MH_keys 262 = .ok (.isub, 1) := by decide +kernel
theorem dMH_keys_263 : decode c_MH_keys 263 = .ok (.sipush 8192, 3) := by decide +kernel
theorem dMH_keys_266 : decode c_MH_keys 266 = .ok (.idiv, 1) := by decide +kernel
theorem dMH_keys_267 : decode c_MH_keys 267 = .ok (.iastore, 1) := by decide +kernel
theorem dMH_keys_268 : decode c_MH_keys 268 = .ok (.iinc 6 1, 3) := by decide +kernel
theorem dMH_keys_271 : decode c_MH_keys 271 = .ok (.goto (-87), 3) := by decide +kernel
theorem dMH_keys_274 : decode c_MH_keys 274 = .ok (.iinc 5 1, 3) := by decide +kernel
theorem dMH_keys_277 : decode c_MH_keys 277 = .ok (.goto (-139), 3) := by decide +kernel
theorem dMH_keys_280 : decode c_MH_keys 280 = .ok (.iconst 0, 1) := by decide +kernel
theorem dMH_keys_281 : decode c_MH_keys 281 = .ok (.istore 5, 2) := by decide +kernel
theorem dMH_keys_283 : decode c_MH_keys 283 = .ok (.iload 5, 2) := by decide +kernel
theorem dMH_keys_285 : decode c_MH_keys 285 = .ok (.bipush 32, 2) := by decide +kernel
theorem dMH_keys_287 : decode c_MH_keys 287 = .ok (.if_icmp .ge 50, 3) := by decide +kernel
theorem dMH_keys_290 : decode c_MH_keys 290 = .ok (.aload_n 3, 1) := by decide +kernel
theorem dMH_keys_291 : decode c_MH_keys 291 = .ok (.iload 5, 2) := by decide +kernel
theorem dMH_keys_293 : decode c_MH_keys 293 = .ok (.aload_n 0, 1) := by decide +kernel
theorem dMH_keys_294 : decode c_MH_keys 294 = .ok (.getfield 65, 3) := by decide +kernel
theorem dMH_keys_297 : decode c_MH_keys 297 = .ok (.iload 5, 2) := by decide +kernel
theorem dMH_keys_299 : decode c_MH_keys 299 = .ok (.baload, 1) := by decide +kernel
theorem dMH_keys_300 : decode c_MH_keys 300 = .ok (.bastore, 1) := by decide +kernel
theorem dMH_keys_301 : decode c_MH_keys 301 = .ok (.aload 4, 2) := by decide +kernel
theorem dMH_keys_303 : decode c_MH_keys 303 = .ok (.iload 5, 2) := by decide +kernel
theorem dMH_keys_305 : decode c_MH_keys 305 = .ok (.aload_n 0, 1) := by decide +kernel
theorem dMH_keys_306 : decode c_MH_keys 306 = .ok (.getfield 65, 3) := by decide +kernel
theorem dMH_keys_309 : decode c_MH_keys 309 = .ok (.iload 5, 2) := by decide +kernel
theorem dMH_keys_311 : decode c_MH_keys 311 = .ok (.baload, 1) := by decide +kernel
theorem dMH_keys_312 : decode c_MH_keys 312 = .ok (.bastore, 1) := by decide +kernel
theorem dMH_keys_313 : decode c_MH_keys 313 = .ok (.aload 4, 2) := by decide +kernel
theorem dMH_keys_315 : decode c_MH_keys 315 = .ok (.bipush 32, 2) := by decide +kernel
theorem dMH_keys_317 : decode c_MH_keys 317 = .ok (.iload 5, 2) := by decide +kernel
theorem dMH_keys_319 : decode c_MH_keys 319 = .ok (.iadd, 1) := by decide +kernel
theorem dMH_keys_320 : decode c_MH_keys 320 = .ok (.aload_n 0, 1) := by decide +kernel
theorem dMH_keys_321 : decode c_MH_keys 321 = .ok (.getfield 65, 3) := by decide +kernel
theorem dMH_keys_324 : decode c_MH_keys 324 = .ok (.bipush 96, 2) := by decide +kernel
theorem dMH_keys_326 : decode c_MH_keys 326 = .ok (.iload 5, 2) := by decide +kernel
theorem dMH_keys_328 : decode c_MH_keys 328 = .ok (.iadd, 1) := by decide +kernel
theorem dMH_keys_329 : decode c_MH_keys 329 = .ok (.baload, 1) := by decide +kernel
theorem dMH_keys_330 : decode c_MH_keys 330 = .ok (.bastore, 1) := by decide +kernel
theorem dMH_keys_331 : decode c_MH_keys 331 = .ok (.iinc 5 1, 3) := by decide +kernel
theorem dMH_keys_334 : decode c_MH_keys 334 = .ok (.goto (-51), 3) := by decide +kernel
theorem dMH_keys_337 : decode c_MH_keys 337 = .ok (.iconst 0, 1) := by decide +kernel
theorem dMH_keys_338 : decode c_MH_keys 338 = .ok (.istore 5, 2) := by decide +kernel
theorem dMH_keys_340 : decode c_MH_keys 340 = .ok (.iload 5, 2) := by decide +kernel
theorem dMH_keys_342 : decode c_MH_keys 342 = .ok (.aload_n 0, 1) := by decide +kernel
theorem dMH_keys_343 : decode c_MH_keys 343 = .ok (.getfield 107, 3) := by decide +kernel
theorem dMH_keys_346 : decode c_MH_keys 346 = .ok (.if_icmp .ge 58, 3) := by decide +kernel
theorem dMH_keys_349 : decode c_MH_keys 349 = .ok (.iconst 0, 1) := by decide +kernel
theorem dMH_keys_350 : decode c_MH_keys 350 = .ok (.istore 6, 2) := by decide +kernel
theorem dMH_keys_352 : decode c_MH_keys 352 = .ok (.iload 6, 2) := by decide +kernel
theorem dMH_keys_354 : decode c_MH_keys 354 = .ok (.sipush 256, 3) := by decide +kernel
theorem dMH_keys_357 : decode c_MH_keys 357 = .ok (.if_icmp .ge 41, 3) := by decide +kernel
theorem dMH_keys_360 : decode c_MH_keys 360 = .ok (.aload_n 3, 1) := by decide +kernel
theorem dMH_keys_361 : decode c_MH_keys 361 = .ok (.sipush 256, 3) := by decide +kernel
theorem dMH_keys_364 : decode c_MH_keys 364 = .ok (.sipush 2560, 3) := by decide +kernel
theorem dMH_keys_367 : decode c_MH_keys 367 = .ok (.iload 5, 2) := by decide +kernel
theorem dMH_keys_369 : decode c_MH_keys 369 = .ok (.imul, 1) := by decide +kernel
theorem dMH_keys_370 : decode c_MH_keys 370 = .ok (.iadd, 1) := by decide +kernel
theorem dMH_keys_371 : decode c_MH_keys 371 = .ok (.bipush 10, 2) := by decide +kernel
theorem dMH_keys_373 : decode c_MH_keys 373 = .ok (.iload 6, 2) := by decide +kernel
theorem dMH_keys_375 : decode c_MH_keys 375 = .ok (.imul, 1) := by decide +kernel
theorem dMH_keys_376 : decode c_MH_keys 376 = .ok (.iadd, 1) := by decide +kernel
theorem dMH_keys_377 : decode c_MH_keys 377 = .ok (.bipush 10, 2) := by decide +kernel
theorem dMH_keys_379 : decode c_MH_keys 379 = .ok (.aload_n 0, 1) := by decide +kernel
theorem dMH_keys_380 : decode c_MH_keys 380 = .ok (.getfield 33, 3) := by decide +kernel
theorem dMH_keys_383 : decode c_MH_keys 383 = .ok (.iload 5, 2) := by decide +kernel
theorem dMH_keys_385 : decode c_MH_keys 385 = .ok (.aaload, 1) := by decide +kernel
theorem dMH_keys_386 : decode c_MH_keys 386 = .ok (.iload 6, 2) := by decide +kernel
theorem dMH_keys_388 : decode c_MH_keys 388 = .ok (.iaload, 1) := by decide +kernel
theorem dMH_keys_389 : decode c_MH_keys 389 = .ok (.invokestatic 187, 3) := by decide +kernel
theorem dMH_keys_392 : decode c_MH_keys 392 = .ok (.iinc 6 1, 3) := by decide +kernel
theorem dMH_keys_395 : decode c_MH_keys 395 = .ok (.goto (-43), 3) := by decide +kernel
theorem dMH_keys_398 : decode c_MH_keys 398 = .ok (.iinc 5 1, 3) := by decide +kernel
theorem dMH_keys_401 : decode c_MH_keys 401 = .ok (.goto (-61), 3) := by decide +kernel
theorem dMH_keys_404 : decode c_MH_keys 404 = .ok (.aload_n 0, 1) := by decide +kernel
theorem dMH_keys_405 : decode c_MH_keys 405 = .ok (.getfield 87, 3) := by decide +kernel
theorem dMH_keys_408 : decode c_MH_keys 408 = .ok (.invokevirtual 156, 3) := by decide +kernel
theorem dMH_keys_411 : decode c_MH_keys 411 = .ok (.aload_n 0, 1) := by decide +kernel
theorem dMH_keys_412 : decode c_MH_keys 412 = .ok (.getfield 87, 3) := by decide +kernel
theorem dMH_keys_415 : decode c_MH_keys 415 = .ok (.aload_n 3, 1) := by decide +kernel
theorem dMH_keys_416 : decode c_MH_keys 416 = .ok (.iconst 0, 1) := by decide +kernel
theorem dMH_keys_417 : decode c_MH_keys 417 = .ok (.aload_n 0, 1) := by decide +kernel
theorem dMH_keys_418 : decode c_MH_keys 418 = .ok (.getfield 103, 3) := by decide +kernel
theorem dMH_keys_421 : decode c_MH_keys 421 = .ok (.invokestatic 193, 3) := by decide +kernel
theorem dMH_keys_424 : decode c_MH_keys 424 = .ok (.invokevirtual 142, 3) := by decide +kernel
theorem dMH_keys_427 : decode c_MH_keys 427 = .ok (.aload_n 0, 1) := by decide +kernel
theorem dMH_keys_428 : decode c_MH_keys 428 = .ok (.getfield 87, 3) := by decide +kernel
theorem dMH_keys_431 : decode c_MH_keys 431 = .ok (.invokevirtual 149, 3) := by decide +kernel
theorem dMH_keys_434 : decode c_MH_keys 434 = .ok (.aload_n 0, 1) := by decide +kernel
theorem dMH_keys_435 : decode c_MH_keys 435 = .ok (.getfield 87, 3) := by decide +kernel
theorem dMH_keys_438 : decode c_MH_keys 438 = .ok (.aload 4, 2) := by decide +kernel
theorem dMH_keys_440 : decode c_MH_keys 440 = .ok (.bipush 64, 2) := by decide +kernel
theorem dMH_keys_442 : decode c_MH_keys 442 = .ok (.bipush 64, 2) := by decide +kernel
theorem dMH_keys_444 : decode c_MH_keys 444 = .ok (.invokevirtual 169, 3) := by decide +kernel
theorem dMH_keys_447 : decode c_MH_keys 447 = .ok (.aload_n 0, 1) := by decide +kernel
theorem dMH_keys_448 : decode c_MH_keys 448 = .ok (.getfield 113, 3) := by decide +kernel
theorem dMH_keys_451 : decode c_MH_keys 451 = .ok (.iconst 2, 1) := by decide +kernel
theorem dMH_keys_452 : decode c_MH_keys 452 = .ok (.if_icmp .ne 7, 3) := by decide +kernel
theorem dMH_keys_455 : decode c_MH_keys 455 = .ok (.iconst 3, 1) := by decide +kernel
theorem dMH_keys_456 : decode c_MH_keys 456 = .ok (.goto 4, 3) := by decide +kernel
theorem dMH_keys_459 : decode c_MH_keys 459 = .ok (.iconst 4, 1) := by decide +kernel
theorem dMH_keys_460 : decode c_MH_keys 460 = .ok (.istore 5, 2) := by decide +kernel
theorem dMH_keys_462 : decode c_MH_keys 462 = .ok (.sipush 1024, 3) := by decide +kernel
theorem dMH_keys_465 : decode c_MH_keys 465 = .ok (.istore 6, 2) := by decide +kernel
theorem dMH_keys_467 : decode c_MH_keys 467 = .ok (.iconst 0, 1) := by decide +kernel
theorem dMH_keys_468 : decode c_MH_keys 468 = .ok (.istore 7, 2) := by decide +kernel
theorem dMH_keys_470 : decode c_MH_keys 470 = .ok (.iload 7, 2) := by decide +kernel
theorem dMH_keys_472 : decode c_MH_keys 472 = .ok (.aload_n 0, 1) := by decide +kernel
theorem dMH_keys_473 : decode c_MH_keys 473 = .ok (.getfield 107, 3) := by decide +kernel
theorem dMH_keys_476 : decode c_MH_keys 476 = .ok (.aload_n 0, 1) := by decide +kernel
theorem dMH_keys_477 : decode c_MH_keys 477 = .ok (.getfield 110, 3) := by decide +kernel
theorem dMH_keys_480 : decode c_MH_keys 480 = .ok (.iadd, 1) := by decide +kernel
theorem dMH_keys_481 : decode c_MH_keys 481 = .ok (.if_icmp .ge 110, 3) := by decide +kernel
theorem dMH_keys_484 : decode c_MH_keys 484 = .ok (.iconst 0, 1) := by decide +kernel
theorem dMH_keys_485 : decode c_MH_keys 485 = .ok (.istore 8, 2) := by decide +kernel
theorem dMH_keys_487 : decode c_MH_keys 487 = .ok (.iload 8, 2) := by decide +kernel
theorem dMH_keys_489 : decode c_MH_keys 489 = .ok (.sipush 256, 3) := by decide +kernel
theorem dMH_keys_492 : decode c_MH_keys 492 = .ok (.if_icmp .ge 93, 3) := by decide +kernel
theorem dMH_keys_495 : decode c_MH_keys 495 = .ok (.iload 7, 2) := by decide +kernel
theorem dMH_keys_497 : decode c_MH_keys 497 = .ok (.aload_n 0, 1) := by decide +kernel
theorem dMH_keys_498 : decode c_MH_keys 498 = .ok (.getfield 110, 3) := by decide +kernel
theorem dMH_keys_501 : decode c_MH_keys 501 = .ok (.if_icmp .ge 16, 3) := by decide +kernel
theorem dMH_keys_504 : decode c_MH_keys 504 = .ok (.aload_n 0, 1) := by decide +kernel
theorem dMH_keys_505 : decode c_MH_keys 505 = .ok (.getfield 24, 3) := by decide +kernel
theorem dMH_keys_508 : decode c_MH_keys 508 = .ok (.iload 7, 2) := by decide +kernel
theorem dMH_keys_510 : decode c_MH_keys 510 = .ok (.aaload, 1) := by decide +kernel
theorem dMH_keys_511 : decode c_MH_keys 511 = .ok (.iload 8, 2) := by decide +kernel
theorem dMH_keys_513 : decode c_MH_keys 513 = .ok (.iaload, 1) := by decide +kernel
theorem dMH_keys_514 : decode c_MH_keys 514 = .ok (.goto 18, 3) := by decide +kernel
theorem dMH_keys_517 : decode c_MH_keys 517 = .ok (.aload_n 0, 1) := by decide +kernel
theorem dMH_keys_518 : decode c_MH_keys 518 = .ok (.getfield 27, 3) := by decide +kernel
theorem dMH_keys_521 : decode c_MH_keys 521 = .ok (.iload 7, 2) := by decide +kernel
theorem dMH_keys_523 : decode c_MH_keys 523 = .ok (.aload_n 0, 1) := by decide +kernel
theorem dMH_keys_524 : decode c_MH_keys 524 = .ok (.getfield 110, 3) := by decide +kernel
theorem dMH_keys_527 : decode c_MH_keys 527 = .ok (.isub, 1) := by decide +kernel
theorem dMH_keys_528 : decode c_MH_keys 528 = .ok (.aaload, 1) := by decide +kernel
theorem dMH_keys_529 : decode c_MH_keys 529 = .ok (.iload 8, 2) := by decide +kernel
theorem dMH_keys_531 : decode c_MH_keys 531 = .ok (.iaload, 1) := by decide +kernel
theorem dMH_keys_532 : decode c_MH_keys 532 = .ok (.istore 9, 2) := by decide +kernel
theorem dMH_keys_534 : decode c_MH_keys 534 = .ok (.aload 4, 2) := by decide +kernel
theorem dMH_keys_536 : decode c_MH_keys 536 = .ok (.iload 6, 2) := by decide +kernel
theorem dMH_keys_538 : decode c_MH_keys 538 = .ok (.iload 5, 2) := by decide +kernel
theorem dMH_keys_540 : decode c_MH_keys 540 = .ok (.iload 9, 2) := by decide +kernel
theorem dMH_keys_542 : decode c_MH_keys 542 = .ok (.aload_n 0, 1) := by decide +kernel
theorem dMH_keys_543 : decode c_MH_keys 543 = .ok (.getfield 113, 3) := by decide +kernel
theorem dMH_keys_546 : decode c_MH_keys 546 = .ok (.if_icmp .le 16, 3) := by decide +kernel
theorem dMH_keys_549 : decode c_MH_keys 549 = .ok (.aload_n 0, 1) := by decide +kernel
theorem dMH_keys_550 : decode c_MH_keys 550 = .ok (.getfield 113, 3) := by decide +kernel
theorem dMH_keys_553 : decode c_MH_keys 553 = .ok (.iload 9, 2) := by decide +kernel
theorem dMH_keys_555 : decode c_MH_keys 555 = .ok (.isub, 1) := by decide +kernel
theorem dMH_keys_556 : decode c_MH_keys 556 = .ok (.ldc 11, 2) := by decide +kernel
theorem dMH_keys_558 : decode c_MH_keys 558 = .ok (.iadd, 1) := by decide +kernel
theorem dMH_keys_559 : decode c_MH_keys 559 = .ok (.goto 10, 3) := by decide +kernel
theorem dMH_keys_562 : decode c_MH_keys 562 = .ok (.aload_n 0, 1) := by decide +kernel
theorem dMH_keys_563 : decode c_MH_keys 563 = .ok (.getfield 113, 3) := by decide +kernel
theorem dMH_keys_566 : decode c_MH_keys 566 = .ok (.iload 9, 2) := by decide +kernel
theorem dMH_keys_568 : decode c_MH_keys 568 = .ok (.isub, 1) := by decide +kernel
theorem dMH_keys_569 : decode c_MH_keys 569 = .ok (.invokestatic 187, 3) := by decide +kernel
theorem dMH_keys_572 : decode c_MH_keys 572 = .ok (.iload 6, 2) := by decide +kernel
theorem dMH_keys_574 : decode c_MH_keys 574 = .ok (.iload 5, 2) := by decide +kernel
theorem dMH_keys_576 : decode c_MH_keys 576 = .ok (.iadd, 1) := by decide +kernel
theorem dMH_keys_577 : decode c_MH_keys 577 = .ok (.istore 6, 2) := by decide +kernel
theorem dMH_keys_579 : decode c_MH_keys 579 = .ok (.iinc 8 1, 3) := by decide +kernel
theorem dMH_keys_582 : decode c_MH_keys 582 = .ok (.goto (-95), 3) := by decide +kernel
theorem dMH_keys_585 : decode c_MH_keys 585 = .ok (.iinc 7 1, 3) := by decide +kernel
theorem dMH_keys_588 : decode c_MH_keys 588 = .ok (.goto (-118), 3) := by decide +kernel
theorem dMH_keys_591 : decode c_MH_keys 591 = .ok (.iconst 0, 1) := by decide +kernel
theorem dMH_keys_592 : decode c_MH_keys 592 = .ok (.istore 7, 2) := by decide +kernel
theorem dMH_keys_594 : decode c_MH_keys 594 = .ok (.iload 7, 2) := by decide +kernel
theorem dMH_keys_596 : decode c_MH_keys 596 = .ok (.aload_n 0, 1) := by decide +kernel
theorem dMH_keys_597 : decode c_MH_keys 597 = .ok (.getfield 107, 3) := by decide +kernel
theorem dMH_keys_600 : decode c_MH_keys 600 = .ok (.if_icmp .ge 52, 3) := by decide +kernel
theorem dMH_keys_603 : decode c_MH_keys 603 = .ok (.iconst 0, 1) := by decide +kernel
theorem dMH_keys_604 : decode c_MH_keys 604 = .ok (.istore 8, 2) := by decide +kernel
theorem dMH_keys_606 : decode c_MH_keys 606 = .ok (.iload 8, 2) := by decide +kernel
theorem dMH_keys_608 : decode c_MH_keys 608 = .ok (.sipush 256, 3) := by decide +kernel
theorem dMH_keys_611 : decode c_MH_keys 611 = .ok (.if_icmp .ge 35, 3) := by decide +kernel
theorem dMH_keys_614 : decode c_MH_keys 614 = .ok (.aload 4, 2) := by decide +kernel
theorem dMH_keys_616 : decode c_MH_keys 616 = .ok (.iload 6, 2) := by decide +kernel
theorem dMH_keys_618 : decode c_MH_keys 618 = .ok (.bipush 13, 2) := by decide +kernel
theorem dMH_keys_620 : decode c_MH_keys 620 = .ok (.sipush 4096, 3) := by decide +kernel
theorem dMH_keys_623 : decode c_MH_keys 623 = .ok (.aload_n 0, 1) := by decide +kernel
theorem dMH_keys_624 : decode c_MH_keys 624 = .ok (.getfield 30, 3) := by decide +kernel
theorem dMH_keys_627 : decode c_MH_keys 627 = .ok (.iload 7, 2) := by decide +kernel
theorem dMH_keys_629 : decode c_MH_keys 629 = .ok (.aaload, 1) := by decide +kernel
theorem dMH_keys_630 : decode c_MH_keys 630 = .ok (.iload 8, 2) := by decide +kernel
theorem dMH_keys_632 : decode c_MH_keys 632 = .ok (.iaload, 1) := by decide +kernel
theorem dMH_keys_633 : decode c_MH_keys 633 = .ok (.isub, 1) := by decide +kernel
theorem dMH_keys_634 : decode c_MH_keys 634 = .ok (.invokestatic 187, 3) := by decide +kernel
theorem dMH_keys_637 : decode c_MH_keys 637 = .ok (.iinc 6 13, 3) := by decide +kernel
theorem dMH_keys_640 : decode c_MH_keys 640 = .ok (.iinc 8 1, 3) := by decide +kernel
theorem dMH_keys_643 : decode c_MH_keys 643 = .ok (.goto (-37), 3) := by decide +kernel
theorem dMH_keys_646 : decode c_MH_keys 646 = .ok (.iinc 7 1, 3) := by decide +kernel
theorem dMH_keys_649 : decode c_MH_keys 649 = .ok (.goto (-55), 3) := by decide +kernel
theorem dMH_keys_652 : decode c_MH_keys 652 = .ok (.return_, 1) := by decide +kernel
abbrev c_MH_sign : ByteArray := prog_13_method_22_code
abbrev y_MH_sign : MethodName := ⟨"LatticeKeysModel$Hands", "sign", "(I[B[BII[B)I"⟩
abbrev w_MH_sign : List Cond := Cond.code y_MH_sign c_MH_sign 9 (some .int) :: WG
theorem dMH_sign_0 : decode c_MH_sign 0 = .ok (.aload_n 0, 1) := by decide +kernel
theorem dMH_sign_1 : decode c_MH_sign 1 = .ok (.iload_n 1, 1) := by decide +kernel
theorem dMH_sign_2 : decode c_MH_sign 2 = .ok (.invokevirtual 166, 3) := by decide +kernel
theorem dMH_sign_5 : decode c_MH_sign 5 = .ok (.aload_n 0, 1) := by decide +kernel
theorem dMH_sign_6 : decode c_MH_sign 6 = .ok (.aload_n 2, 1) := by decide +kernel
theorem dMH_sign_7 : decode c_MH_sign 7 = .ok (.invokevirtual 226, 3) := by decide +kernel
theorem dMH_sign_10 : decode c_MH_sign 10 = .ok (.aload_n 0, 1) := by decide +kernel
theorem dMH_sign_11 : decode c_MH_sign 11 = .ok (.aload_n 2, 1) := by decide +kernel
theorem dMH_sign_12 : decode c_MH_sign 12 = .ok (.invokevirtual 172, 3) := by decide +kernel
theorem dMH_sign_15 : decode c_MH_sign 15 = .ok (.aload_n 0, 1) := by decide +kernel
theorem dMH_sign_16 : decode c_MH_sign 16 = .ok (.aload_n 2, 1) := by decide +kernel
theorem dMH_sign_17 : decode c_MH_sign 17 = .ok (.bipush 64, 2) := by decide +kernel
theorem dMH_sign_19 : decode c_MH_sign 19 = .ok (.aload_n 3, 1) := by decide +kernel
theorem dMH_sign_20 : decode c_MH_sign 20 = .ok (.bipush 32, 2) := by decide +kernel
theorem dMH_sign_22 : decode c_MH_sign 22 = .ok (.iload 4, 2) := by decide +kernel
theorem dMH_sign_24 : decode c_MH_sign 24 = .ok (.iload 5, 2) := by decide +kernel
theorem dMH_sign_26 : decode c_MH_sign 26 = .ok (.invokevirtual 229, 3) := by decide +kernel
theorem dMH_sign_29 : decode c_MH_sign 29 = .ok (.aload_n 0, 1) := by decide +kernel
theorem dMH_sign_30 : decode c_MH_sign 30 = .ok (.getfield 87, 3) := by decide +kernel
theorem dMH_sign_33 : decode c_MH_sign 33 = .ok (.invokevirtual 156, 3) := by decide +kernel
theorem dMH_sign_36 : decode c_MH_sign 36 = .ok (.aload_n 0, 1) := by decide +kernel
theorem dMH_sign_37 : decode c_MH_sign 37 = .ok (.getfield 87, 3) := by decide +kernel
theorem dMH_sign_40 : decode c_MH_sign 40 = .ok (.aload_n 2, 1) := by decide +kernel
theorem dMH_sign_41 : decode c_MH_sign 41 = .ok (.bipush 32, 2) := by decide +kernel
theorem dMH_sign_43 : decode c_MH_sign 43 = .ok (.bipush 32, 2) := by decide +kernel
theorem dMH_sign_45 : decode c_MH_sign 45 = .ok (.invokevirtual 142, 3) := by decide +kernel
theorem dMH_sign_48 : decode c_MH_sign 48 = .ok (.aload_n 0, 1) := by decide +kernel
theorem dMH_sign_49 : decode c_MH_sign 49 = .ok (.getfield 87, 3) := by decide +kernel
theorem dMH_sign_52 : decode c_MH_sign 52 = .ok (.aload_n 3, 1) := by decide +kernel
theorem dMH_sign_53 : decode c_MH_sign 53 = .ok (.iconst 0, 1) := by decide +kernel
theorem dMH_sign_54 : decode c_MH_sign 54 = .ok (.bipush 32, 2) := by decide +kernel
theorem dMH_sign_56 : decode c_MH_sign 56 = .ok (.invokevirtual 142, 3) := by decide +kernel
theorem dMH_sign_59 : decode c_MH_sign 59 = .ok (.aload_n 0, 1) := by decide +kernel
theorem dMH_sign_60 : decode c_MH_sign 60 = .ok (.getfield 87, 3) := by decide +kernel
theorem dMH_sign_63 : decode c_MH_sign 63 = .ok (.aload_n 0, 1) := by decide +kernel
theorem dMH_sign_64 : decode c_MH_sign 64 = .ok (.getfield 69, 3) := by decide +kernel
theorem dMH_sign_67 : decode c_MH_sign 67 = .ok (.iconst 0, 1) := by decide +kernel
theorem dMH_sign_68 : decode c_MH_sign 68 = .ok (.bipush 64, 2) := by decide +kernel
theorem dMH_sign_70 : decode c_MH_sign 70 = .ok (.invokevirtual 142, 3) := by decide +kernel
theorem dMH_sign_73 : decode c_MH_sign 73 = .ok (.aload_n 0, 1) := by decide +kernel
theorem dMH_sign_74 : decode c_MH_sign 74 = .ok (.getfield 87, 3) := by decide +kernel
theorem dMH_sign_77 : decode c_MH_sign 77 = .ok (.invokevirtual 149, 3) := by decide +kernel
theorem dMH_sign_80 : decode c_MH_sign 80 = .ok (.aload_n 0, 1) := by decide +kernel
theorem dMH_sign_81 : decode c_MH_sign 81 = .ok (.getfield 87, 3) := by decide +kernel
theorem dMH_sign_84 : decode c_MH_sign 84 = .ok (.aload_n 0, 1) := by decide +kernel
theorem dMH_sign_85 : decode c_MH_sign 85 = .ok (.getfield 72, 3) := by decide +kernel
theorem dMH_sign_88 : decode c_MH_sign 88 = .ok (.iconst 0, 1) := by decide +kernel
theorem dMH_sign_89 : decode c_MH_sign 89 = .ok (.bipush 64, 2) := by decide +kernel
theorem dMH_sign_91 : decode c_MH_sign 91 = .ok (.invokevirtual 169, 3) := by decide +kernel
theorem dMH_sign_94 : decode c_MH_sign 94 = .ok (.iconst 1, 1) := by decide +kernel
theorem dMH_sign_95 : decode c_MH_sign 95 = .ok (.istore 7, 2) := by decide +kernel
theorem dMH_sign_97 : decode c_MH_sign 97 = .ok (.iload 7, 2) := by decide +kernel
theorem dMH_sign_99 : decode c_MH_sign 99 = .ok (.sipush 200, 3) := by decide +kernel
theorem dMH_sign_102 : decode c_MH_sign 102 = .ok (.if_icmp .gt 130, 3) := by decide +kernel
theorem dMH_sign_105 : decode c_MH_sign 105 = .ok (.aload_n 0, 1) := by decide +kernel
theorem dMH_sign_106 : decode c_MH_sign 106 = .ok (.iload 7, 2) := by decide +kernel
theorem dMH_sign_108 : decode c_MH_sign 108 = .ok (.iconst 1, 1) := by decide +kernel
theorem dMH_sign_109 : decode c_MH_sign 109 = .ok (.isub, 1) := by decide +kernel
theorem dMH_sign_110 : decode c_MH_sign 110 = .ok (.aload_n 0, 1) := by decide +kernel
theorem dMH_sign_111 : decode c_MH_sign 111 = .ok (.getfield 110, 3) := by decide +kernel
theorem dMH_sign_114 : decode c_MH_sign 114 = .ok (.imul, 1) := by decide +kernel
theorem dMH_sign_115 : decode c_MH_sign 115 = .ok (.invokevirtual 233, 3) := by decide +kernel
theorem dMH_sign_118 : decode c_MH_sign 118 = .ok (.iconst 0, 1) := by decide +kernel
theorem dMH_sign_119 : decode c_MH_sign 119 = .ok (.istore 8, 2) := by decide +kernel
theorem dMH_sign_121 : decode c_MH_sign 121 = .ok (.iload 8, 2) := by decide +kernel
theorem dMH_sign_123 : decode c_MH_sign 123 = .ok (.aload_n 0, 1) := by decide +kernel
theorem dMH_sign_124 : decode c_MH_sign 124 = .ok (.getfield 110, 3) := by decide +kernel
theorem dMH_sign_127 : decode c_MH_sign 127 = .ok (.if_icmp .ge 32, 3) := by decide +kernel
theorem dMH_sign_130 : decode c_MH_sign 130 = .ok (.aload_n 0, 1) := by decide +kernel
theorem dMH_sign_131 : decode c_MH_sign 131 = .ok (.getfield 15, 3) := by decide +kernel
theorem dMH_sign_134 : decode c_MH_sign 134 = .ok (.aload_n 0, 1) := by decide +kernel
theorem dMH_sign_135 : decode c_MH_sign 135 = .ok (.getfield 36, 3) := by decide +kernel
theorem dMH_sign_138 : decode c_MH_sign 138 = .ok (.iload 8, 2) := by decide +kernel
theorem dMH_sign_140 : decode c_MH_sign 140 = .ok (.aaload, 1) := by decide +kernel
theorem dMH_sign_141 : decode c_MH_sign 141 = .ok (.aload_n 0, 1) := by decide +kernel
theorem dMH_sign_142 : decode c_MH_sign 142 = .ok (.getfield 42, 3) := by decide +kernel
theorem dMH_sign_145 : decode c_MH_sign 145 = .ok (.iload 8, 2) := by decide +kernel
theorem dMH_sign_147 : decode c_MH_sign 147 = .ok (.aaload, 1) := by decide +kernel
theorem dMH_sign_148 : decode c_MH_sign 148 = .ok (.iconst 1, 1) := by decide +kernel
theorem dMH_sign_149 : decode c_MH_sign 149 = .ok (.iconst 0, 1) := by decide +kernel
theorem dMH_sign_150 : decode c_MH_sign 150 = .ok (.invokevirtual 180, 3) := by decide +kernel
theorem dMH_sign_153 : decode c_MH_sign 153 = .ok (.iinc 8 1, 3) := by decide +kernel
theorem dMH_sign_156 : decode c_MH_sign 156 = .ok (.goto (-35), 3) := by decide +kernel
theorem dMH_sign_159 : decode c_MH_sign 159 = .ok (.iconst 0, 1) := by decide +kernel
theorem dMH_sign_160 : decode c_MH_sign 160 = .ok (.istore 8, 2) := by decide +kernel
theorem dMH_sign_162 : decode c_MH_sign 162 = .ok (.iload 8, 2) := by decide +kernel
theorem dMH_sign_164 : decode c_MH_sign 164 = .ok (.aload_n 0, 1) := by decide +kernel
theorem dMH_sign_165 : decode c_MH_sign 165 = .ok (.getfield 107, 3) := by decide +kernel
theorem dMH_sign_168 : decode c_MH_sign 168 = .ok (.if_icmp .ge 22, 3) := by decide +kernel
theorem dMH_sign_171 : decode c_MH_sign 171 = .ok (.aload_n 0, 1) := by decide +kernel
theorem dMH_sign_172 : decode c_MH_sign 172 = .ok (.iload 8, 2) := by decide +kernel
theorem dMH_sign_174 : decode c_MH_sign 174 = .ok (.aload_n 0, 1) := by decide +kernel
theorem dMH_sign_175 : decode c_MH_sign 175 = .ok (.getfield 45, 3) := by decide +kernel
theorem dMH_sign_178 : decode c_MH_sign 178 = .ok (.iload 8, 2) := by decide +kernel
theorem dMH_sign_180 : decode c_MH_sign 180 = .ok (.aaload, 1) := by decide +kernel
theorem dMH_sign_181 : decode c_MH_sign 181 = .ok (.invokevirtual 183, 3) := by decide +kernel
theorem dMH_sign_184 : decode c_MH_sign 184 = .ok (.iinc 8 1, 3) := by decide +kernel
theorem dMH_sign_187 : decode c_MH_sign 187 = .ok (.goto (-25), 3) := by decide +kernel
theorem dMH_sign_190 : decode c_MH_sign 190 = .ok (.aload_n 0, 1) := by decide +kernel
theorem dMH_sign_191 : decode c_MH_sign 191 = .ok (.iconst 0, 1) := by decide +kernel
theorem dMH_sign_192 : decode c_MH_sign 192 = .ok (.aload_n 0, 1) := by decide +kernel
theorem dMH_sign_193 : decode c_MH_sign 193 = .ok (.getfield 78, 3) := by decide +kernel
theorem dMH_sign_196 : decode c_MH_sign 196 = .ok (.invokevirtual 236, 3) := by decide +kernel
theorem dMH_sign_199 : decode c_MH_sign 199 = .ok (.aload_n 0, 1) := by decide +kernel
theorem dMH_sign_200 : decode c_MH_sign 200 = .ok (.aload_n 0, 1) := by decide +kernel
theorem dMH_sign_201 : decode c_MH_sign 201 = .ok (.getfield 78, 3) := by decide +kernel
theorem dMH_sign_204 : decode c_MH_sign 204 = .ok (.invokevirtual 240, 3) := by decide +kernel
theorem dMH_sign_207 : decode c_MH_sign 207 = .ok (.aload_n 0, 1) := by decide +kernel
theorem dMH_sign_208 : decode c_MH_sign 208 = .ok (.invokevirtual 243, 3) := by decide +kernel
theorem dMH_sign_211 : decode c_MH_sign 211 = .ok (.ifCond .ne 6, 3) := by decide +kernel
theorem dMH_sign_214 : decode c_MH_sign 214 = .ok (.goto 12, 3) := by decide +kernel
theorem dMH_sign_217 : decode c_MH_sign 217 = .ok (.aload_n 0, 1) := by decide +kernel
theorem dMH_sign_218 : decode c_MH_sign 218 = .ok (.aload 6, 2) := by decide +kernel
theorem dMH_sign_220 : decode c_MH_sign 220 = .ok (.invokevirtual 247, 3) := by decide +kernel
theorem dMH_sign_223 : decode c_MH_sign 223 = .ok (.iload 7, 2) := by decide +kernel
theorem dMH_sign_225 : decode c_MH_sign 225 = .ok (.ireturn, 1) := by decide +kernel
theorem dMH_sign_226 : decode c_MH_sign 226 = .ok (.iinc 7 1, 3) := by decide +kernel
theorem dMH_sign_229 : decode c_MH_sign 229 = .ok (.goto (-132), 3) := by decide +kernel
theorem dMH_sign_232 : decode c_MH_sign 232 = .ok (.iconst 0, 1) := by decide +kernel
theorem dMH_sign_233 : decode c_MH_sign 233 = .ok (.ireturn, 1) := by decide +kernel
abbrev c_MH_verify : ByteArray := prog_13_method_25_code
abbrev y_MH_verify : MethodName := ⟨"LatticeKeysModel$Hands", "verify", "(I[B[BII)Z"⟩
abbrev w_MH_verify : List Cond := Cond.code y_MH_verify c_MH_verify 11 (some .boolean) :: WG
theorem dMH_verify_0 : decode c_MH_verify 0 = .ok (.aload_n 0, 1) := by decide +kernel
theorem dMH_verify_1 : decode c_MH_verify 1 = .ok (.iload_n 1, 1) := by decide +kernel
theorem dMH_verify_2 : decode c_MH_verify 2 = .ok (.invokevirtual 166, 3) := by decide +kernel
theorem dMH_verify_5 : decode c_MH_verify 5 = .ok (.aload_n 0, 1) := by decide +kernel
theorem dMH_verify_6 : decode c_MH_verify 6 = .ok (.getfield 103, 3) := by decide +kernel
theorem dMH_verify_9 : decode c_MH_verify 9 = .ok (.ifCond .ne 8, 3) := by decide +kernel
theorem dMH_verify_12 : decode c_MH_verify 12 = .ok (.bipush 18, 2) := by decide +kernel
theorem dMH_verify_14 : decode c_MH_verify 14 = .ok (.goto 5, 3) := by decide +kernel
theorem dMH_verify_17 : decode c_MH_verify 17 = .ok (.bipush 20, 2) := by decide +kernel
theorem dMH_verify_19 : decode c_MH_verify 19 = .ok (.istore 6, 2) := by decide +kernel
theorem dMH_verify_21 : decode c_MH_verify 21 = .ok (.bipush 8, 2) := by decide +kernel
theorem dMH_verify_23 : decode c_MH_verify 23 = .ok (.aload_n 0, 1) := by decide +kernel
theorem dMH_verify_24 : decode c_MH_verify 24 = .ok (.getfield 132, 3) := by decide +kernel
theorem dMH_verify_27 : decode c_MH_verify 27 = .ok (.imul, 1) := by decide +kernel
theorem dMH_verify_28 : decode c_MH_verify 28 = .ok (.istore 7, 2) := by decide +kernel
theorem dMH_verify_30 : decode c_MH_verify 30 = .ok (.iconst 1, 1) := by decide +kernel
theorem dMH_verify_31 : decode c_MH_verify 31 = .ok (.istore 8, 2) := by decide +kernel
theorem dMH_verify_33 : decode c_MH_verify 33 = .ok (.iconst 0, 1) := by decide +kernel
theorem dMH_verify_34 : decode c_MH_verify 34 = .ok (.istore 9, 2) := by decide +kernel
theorem dMH_verify_36 : decode c_MH_verify 36 = .ok (.iload 9, 2) := by decide +kernel
theorem dMH_verify_38 : decode c_MH_verify 38 = .ok (.aload_n 0, 1) := by decide +kernel
theorem dMH_verify_39 : decode c_MH_verify 39 = .ok (.getfield 132, 3) := by decide +kernel
theorem dMH_verify_42 : decode c_MH_verify 42 = .ok (.if_icmp .ge 20, 3) := by decide +kernel
theorem dMH_verify_45 : decode c_MH_verify 45 = .ok (.aload_n 0, 1) := by decide +kernel
theorem dMH_verify_46 : decode c_MH_verify 46 = .ok (.getfield 78, 3) := by decide +kernel
theorem dMH_verify_49 : decode c_MH_verify 49 = .ok (.iload 9, 2) := by decide +kernel
theorem dMH_verify_51 : decode c_MH_verify 51 = .ok (.aload_n 3, 1) := by decide +kernel
theorem dMH_verify_52 : decode c_MH_verify 52 = .ok (.iload 9, 2) := by decide +kernel
theorem dMH_verify_54 : decode c_MH_verify 54 = .ok (.baload, 1) := by decide +kernel
theorem dMH_verify_55 : decode c_MH_verify 55 = .ok (.bastore, 1) := by decide +kernel
theorem dMH_verify_56 : decode c_MH_verify 56 = .ok (.iinc 9 1, 3) := by decide +kernel
theorem dMH_verify_59 : decode c_MH_verify 59 = .ok (.goto (-23), 3) := by decide +kernel
theorem dMH_verify_62 : decode c_MH_verify 62 = .ok (.iconst 0, 1) := by decide +kernel
theorem dMH_verify_63 : decode c_MH_verify 63 = .ok (.istore 9, 2) := by decide +kernel
theorem dMH_verify_65 : decode c_MH_verify 65 = .ok (.iload 9, 2) := by decide +kernel
theorem dMH_verify_67 : decode c_MH_verify 67 = .ok (.aload_n 0, 1) := by decide +kernel
theorem dMH_verify_68 : decode c_MH_verify 68 = .ok (.getfield 110, 3) := by decide +kernel
theorem dMH_verify_71 : decode c_MH_verify 71 = .ok (.if_icmp .ge 93, 3) := by decide +kernel
theorem dMH_verify_74 : decode c_MH_verify 74 = .ok (.iconst 0, 1) := by decide +kernel
theorem dMH_verify_75 : decode c_MH_verify 75 = .ok (.istore 10, 2) := by decide +kernel
theorem dMH_verify_77 : decode c_MH_verify 77 = .ok (.iload 10, 2) := by decide +kernel
theorem dMH_verify_79 : decode c_MH_verify 79 = .ok (.sipush 256, 3) := by decide +kernel
theorem dMH_verify_82 : decode c_MH_verify 82 = .ok (.if_icmp .ge 76, 3) := by decide +kernel
theorem dMH_verify_85 : decode c_MH_verify 85 = .ok (.aload_n 0, 1) := by decide +kernel
theorem dMH_verify_86 : decode c_MH_verify 86 = .ok (.getfield 39, 3) := by decide +kernel
theorem dMH_verify_89 : decode c_MH_verify 89 = .ok (.iload 9, 2) := by decide +kernel
theorem dMH_verify_91 : decode c_MH_verify 91 = .ok (.aaload, 1) := by decide +kernel
theorem dMH_verify_92 : decode c_MH_verify 92 = .ok (.iload 10, 2) := by decide +kernel
theorem dMH_verify_94 : decode c_MH_verify 94 = .ok (.aload_n 0, 1) := by decide +kernel
theorem dMH_verify_95 : decode c_MH_verify 95 = .ok (.getfield 118, 3) := by decide +kernel
theorem dMH_verify_98 : decode c_MH_verify 98 = .ok (.aload_n 3, 1) := by decide +kernel
theorem dMH_verify_99 : decode c_MH_verify 99 = .ok (.iload 7, 2) := by decide +kernel
theorem dMH_verify_101 : decode c_MH_verify 101 = .ok (.iload 6, 2) := by decide +kernel
theorem dMH_verify_103 : decode c_MH_verify 103 = .ok (.invokestatic 197, 3) := by decide +kernel
theorem dMH_verify_106 : decode c_MH_verify 106 = .ok (.invokestatic 201, 3) := by decide +kernel
theorem dMH_verify_109 : decode c_MH_verify 109 = .ok (.iastore, 1) := by decide +kernel
theorem dMH_verify_110 : decode c_MH_verify 110 = .ok (.iload 8, 2) := by decide +kernel
theorem dMH_verify_112 : decode c_MH_verify 112 = .ok (.aload_n 0, 1) := by decide +kernel
theorem dMH_verify_113 : decode c_MH_verify 113 = .ok (.getfield 39, 3) := by decide +kernel
theorem dMH_verify_116 : decode c_MH_verify 116 = .ok (.iload 9, 2) := by decide +kernel
theorem dMH_verify_118 : decode c_MH_verify 118 = .ok (.aaload, 1) := by decide +kernel
theorem dMH_verify_119 : decode c_MH_verify 119 = .ok (.iload 10, 2) := by decide +kernel
theorem dMH_verify_121 : decode c_MH_verify 121 = .ok (.iaload, 1) := by decide +kernel
theorem dMH_verify_122 : decode c_MH_verify 122 = .ok (.invokestatic 218, 3) := by decide +kernel
theorem dMH_verify_125 : decode c_MH_verify 125 = .ok (.aload_n 0, 1) := by decide +kernel
theorem dMH_verify_126 : decode c_MH_verify 126 = .ok (.getfield 118, 3) := by decide +kernel
theorem dMH_verify_129 : decode c_MH_verify 129 = .ok (.aload_n 0, 1) := by decide +kernel
theorem dMH_verify_130 : decode c_MH_verify 130 = .ok (.getfield 129, 3) := by decide +kernel
theorem dMH_verify_133 : decode c_MH_verify 133 = .ok (.isub, 1) := by decide +kernel
theorem dMH_verify_134 : decode c_MH_verify 134 = .ok (.if_icmp .ge 7, 3) := by decide +kernel
theorem dMH_verify_137 : decode c_MH_verify 137 = .ok (.iconst 1, 1) := by decide +kernel
theorem dMH_verify_138 : decode c_MH_verify 138 = .ok (.goto 4, 3) := by decide +kernel
theorem dMH_verify_141 : decode c_MH_verify 141 = .ok (.iconst 0, 1) := by decide +kernel
theorem dMH_verify_142 : decode c_MH_verify 142 = .ok (.iand, 1) := by decide +kernel
theorem dMH_verify_143 : decode c_MH_verify 143 = .ok (.istore 8, 2) := by decide +kernel
theorem dMH_verify_145 : decode c_MH_verify 145 = .ok (.iload 7, 2) := by decide +kernel
theorem dMH_verify_147 : decode c_MH_verify 147 = .ok (.iload 6, 2) := by decide +kernel
theorem dMH_verify_149 : decode c_MH_verify 149 = .ok (.iadd, 1) := by decide +kernel
theorem dMH_verify_150 : decode c_MH_verify 150 = .ok (.istore 7, 2) := by decide +kernel
theorem dMH_verify_152 : decode c_MH_verify 152 = .ok (.iinc 10 1, 3) := by decide +kernel
theorem dMH_verify_155 : decode c_MH_verify 155 = .ok (.goto (-78), 3) := by decide +kernel
theorem dMH_verify_158 : decode c_MH_verify 158 = .ok (.iinc 9 1, 3) := by decide +kernel
theorem dMH_verify_161 : decode c_MH_verify 161 = .ok (.goto (-96), 3) := by decide +kernel
theorem dMH_verify_164 : decode c_MH_verify 164 = .ok (.iload 8, 2) := by decide +kernel
theorem dMH_verify_166 : decode c_MH_verify 166 = .ok (.ifCond .eq 16, 3) := by decide +kernel
theorem dMH_verify_169 : decode c_MH_verify 169 = .ok (.aload_n 0, 1) := by decide +kernel
theorem dMH_verify_170 : decode c_MH_verify 170 = .ok (.aload_n 3, 1) := by decide +kernel
theorem dMH_verify_171 : decode c_MH_verify 171 = .ok (.iload 7, 2) := by decide +kernel
theorem dMH_verify_173 : decode c_MH_verify 173 = .ok (.bipush 8, 2) := by decide +kernel
theorem dMH_verify_175 : decode c_MH_verify 175 = .ok (.idiv, 1) := by decide +kernel
theorem dMH_verify_176 : decode c_MH_verify 176 = .ok (.invokevirtual 250, 3) := by decide +kernel
theorem dMH_verify_179 : decode c_MH_verify 179 = .ok (.ifCond .ne 5, 3) := by decide +kernel
theorem dMH_verify_182 : decode c_MH_verify 182 = .ok (.iconst 0, 1) := by decide +kernel
theorem dMH_verify_183 : decode c_MH_verify 183 = .ok (.ireturn, 1) := by decide +kernel
theorem dMH_verify_184 : decode c_MH_verify 184 = .ok (.aload_n 0, 1) := by decide +kernel
theorem dMH_verify_185 : decode c_MH_verify 185 = .ok (.getfield 87, 3) := by decide +kernel
theorem dMH_verify_188 : decode c_MH_verify 188 = .ok (.invokevirtual 156, 3) := by decide +kernel
theorem dMH_verify_191 : decode c_MH_verify 191 = .ok (.aload_n 0, 1) := by decide +kernel
theorem dMH_verify_192 : decode c_MH_verify 192 = .ok (.getfield 87, 3) := by decide +kernel
theorem dMH_verify_195 : decode c_MH_verify 195 = .ok (.aload_n 2, 1) := by decide +kernel
theorem dMH_verify_196 : decode c_MH_verify 196 = .ok (.iconst 0, 1) := by decide +kernel
theorem dMH_verify_197 : decode c_MH_verify 197 = .ok (.aload_n 0, 1) := by decide +kernel
theorem dMH_verify_198 : decode c_MH_verify 198 = .ok (.getfield 103, 3) := by decide +kernel
theorem dMH_verify_201 : decode c_MH_verify 201 = .ok (.invokestatic 193, 3) := by decide +kernel
theorem dMH_verify_204 : decode c_MH_verify 204 = .ok (.invokevirtual 142, 3) := by decide +kernel
theorem dMH_verify_207 : decode c_MH_verify 207 = .ok (.aload_n 0, 1) := by decide +kernel
theorem dMH_verify_208 : decode c_MH_verify 208 = .ok (.getfield 87, 3) := by decide +kernel
theorem dMH_verify_211 : decode c_MH_verify 211 = .ok (.invokevirtual 149, 3) := by decide +kernel
theorem dMH_verify_214 : decode c_MH_verify 214 = .ok (.aload_n 0, 1) := by decide +kernel
theorem dMH_verify_215 : decode c_MH_verify 215 = .ok (.getfield 87, 3) := by decide +kernel
theorem dMH_verify_218 : decode c_MH_verify 218 = .ok (.aload_n 0, 1) := by decide +kernel
theorem dMH_verify_219 : decode c_MH_verify 219 = .ok (.getfield 84, 3) := by decide +kernel
theorem dMH_verify_222 : decode c_MH_verify 222 = .ok (.iconst 0, 1) := by decide +kernel
theorem dMH_verify_223 : decode c_MH_verify 223 = .ok (.bipush 64, 2) := by decide +kernel
theorem dMH_verify_225 : decode c_MH_verify 225 = .ok (.invokevirtual 169, 3) := by decide +kernel
theorem dMH_verify_228 : decode c_MH_verify 228 = .ok (.aload_n 0, 1) := by decide +kernel
theorem dMH_verify_229 : decode c_MH_verify 229 = .ok (.aload_n 0, 1) := by decide +kernel
theorem dMH_verify_230 : decode c_MH_verify 230 = .ok (.getfield 84, 3) := by decide +kernel
theorem dMH_verify_233 : decode c_MH_verify 233 = .ok (.iconst 0, 1) := by decide +kernel
theorem dMH_verify_234 : decode c_MH_verify 234 = .ok (.aload_n 3, 1) := by decide +kernel
theorem dMH_verify_235 : decode c_MH_verify 235 = .ok (.aload_n 0, 1) := by decide +kernel
theorem dMH_verify_236 : decode c_MH_verify 236 = .ok (.getfield 103, 3) := by decide +kernel
theorem dMH_verify_239 : decode c_MH_verify 239 = .ok (.invokestatic 254, 3) := by decide +kernel
theorem dMH_verify_242 : decode c_MH_verify 242 = .ok (.iload 4, 2) := by decide +kernel
theorem dMH_verify_244 : decode c_MH_verify 244 = .ok (.iload 5, 2) := by decide +kernel
theorem dMH_verify_246 : decode c_MH_verify 246 = .ok (.invokevirtual 229, 3) := by decide +kernel
theorem dMH_verify_249 : decode c_MH_verify 249 = .ok (.aload_n 0, 1) := by decide +kernel
theorem dMH_verify_250 : decode c_MH_verify 250 = .ok (.aload_n 2, 1) := by decide +kernel
theorem dMH_verify_251 : decode c_MH_verify 251 = .ok (.invokevirtual 172, 3) := by decide +kernel
theorem dMH_verify_254 : decode c_MH_verify 254 = .ok (.aload_n 0, 1) := by decide +kernel
theorem dMH_verify_255 : decode c_MH_verify 255 = .ok (.aload_n 0, 1) := by decide +kernel
theorem dMH_verify_256 : decode c_MH_verify 256 = .ok (.getfield 78, 3) := by decide +kernel
theorem dMH_verify_259 : decode c_MH_verify 259 = .ok (.invokevirtual 240, 3) := by decide +kernel
theorem dMH_verify_262 : decode c_MH_verify 262 = .ok (.iconst 0, 1) := by decide +kernel
theorem dMH_verify_263 : decode c_MH_verify 263 = .ok (.istore 9, 2) := by decide +kernel
theorem dMH_verify_265 : decode c_MH_verify 265 = .ok (.iload 9, 2) := by decide +kernel
theorem dMH_verify_267 : decode c_MH_verify 267 = .ok (.aload_n 0, 1) := by decide +kernel
theorem dMH_verify_268 : decode c_MH_verify 268 = .ok (.getfield 110, 3) := by decide +kernel
theorem dMH_verify_271 : decode c_MH_verify 271 = .ok (.if_icmp .ge 32, 3) := by decide +kernel
theorem dMH_verify_274 : decode c_MH_verify 274 = .ok (.aload_n 0, 1) := by decide +kernel
theorem dMH_verify_275 : decode c_MH_verify 275 = .ok (.getfield 15, 3) := by decide +kernel
theorem dMH_verify_278 : decode c_MH_verify 278 = .ok (.aload_n 0, 1) := by decide +kernel
theorem dMH_verify_279 : decode c_MH_verify 279 = .ok (.getfield 39, 3) := by decide +kernel
theorem dMH_verify_282 : decode c_MH_verify 282 = .ok (.iload 9, 2) := by decide +kernel
theorem dMH_verify_284 : decode c_MH_verify 284 = .ok (.aaload, 1) := by decide +kernel
theorem dMH_verify_285 : decode c_MH_verify 285 = .ok (.aload_n 0, 1) := by decide +kernel
theorem dMH_verify_286 : decode c_MH_verify 286 = .ok (.getfield 42, 3) := by decide +kernel
theorem dMH_verify_289 : decode c_MH_verify 289 = .ok (.iload 9, 2) := by decide +kernel
theorem dMH_verify_291 : decode c_MH_verify 291 = .ok (.aaload, 1) := by decide +kernel
theorem dMH_verify_292 : decode c_MH_verify 292 = .ok (.iconst 1, 1) := by decide +kernel
theorem dMH_verify_293 : decode c_MH_verify 293 = .ok (.iconst 0, 1) := by decide +kernel
theorem dMH_verify_294 : decode c_MH_verify 294 = .ok (.invokevirtual 180, 3) := by decide +kernel
theorem dMH_verify_297 : decode c_MH_verify 297 = .ok (.iinc 9 1, 3) := by decide +kernel
theorem dMH_verify_300 : decode c_MH_verify 300 = .ok (.goto (-35), 3) := by decide +kernel
theorem dMH_verify_303 : decode c_MH_verify 303 = .ok (.iconst 0, 1) := by decide +kernel
theorem dMH_verify_304 : decode c_MH_verify 304 = .ok (.istore 9, 2) := by decide +kernel
theorem dMH_verify_306 : decode c_MH_verify 306 = .ok (.iload 9, 2) := by decide +kernel
theorem dMH_verify_308 : decode c_MH_verify 308 = .ok (.aload_n 0, 1) := by decide +kernel
theorem dMH_verify_309 : decode c_MH_verify 309 = .ok (.getfield 107, 3) := by decide +kernel
theorem dMH_verify_312 : decode c_MH_verify 312 = .ok (.if_icmp .ge 136, 3) := by decide +kernel
theorem dMH_verify_315 : decode c_MH_verify 315 = .ok (.aload_n 0, 1) := by decide +kernel
theorem dMH_verify_316 : decode c_MH_verify 316 = .ok (.iload 9, 2) := by decide +kernel
theorem dMH_verify_318 : decode c_MH_verify 318 = .ok (.aload_n 0, 1) := by decide +kernel
theorem dMH_verify_319 : decode c_MH_verify 319 = .ok (.getfield 45, 3) := by decide +kernel
theorem dMH_verify_322 : decode c_MH_verify 322 = .ok (.iload 9, 2) := by decide +kernel
theorem dMH_verify_324 : decode c_MH_verify 324 = .ok (.aaload, 1) := by decide +kernel
theorem dMH_verify_325 : decode c_MH_verify 325 = .ok (.invokevirtual 183, 3) := by decide +kernel
theorem dMH_verify_328 : decode c_MH_verify 328 = .ok (.iconst 0, 1) := by decide +kernel
theorem dMH_verify_329 : decode c_MH_verify 329 = .ok (.istore 10, 2) := by decide +kernel
theorem dMH_verify_331 : decode c_MH_verify 331 = .ok (.iload 10, 2) := by decide +kernel
theorem dMH_verify_333 : decode c_MH_verify 333 = .ok (.sipush 256, 3) := by decide +kernel
theorem dMH_verify_336 : decode c_MH_verify 336 = .ok (.if_icmp .ge 44, 3) := by decide +kernel
theorem dMH_verify_339 : decode c_MH_verify 339 = .ok (.aload_n 0, 1) := by decide +kernel
theorem dMH_verify_340 : decode c_MH_verify 340 = .ok (.getfield 33, 3) := by decide +kernel
theorem dMH_verify_343 : decode c_MH_verify 343 = .ok (.iload 9, 2) := by decide +kernel
theorem dMH_verify_345 : decode c_MH_verify 345 = .ok (.aaload, 1) := by decide +kernel
theorem dMH_verify_346 : decode c_MH_verify 346 = .ok (.iload 10, 2) := by decide +kernel
theorem dMH_verify_348 : decode c_MH_verify 348 = .ok (.aload_n 2, 1) := by decide +kernel
theorem dMH_verify_349 : decode c_MH_verify 349 = .ok (.sipush 256, 3) := by decide +kernel
theorem dMH_verify_352 : decode c_MH_verify 352 = .ok (.sipush 2560, 3) := by decide +kernel
theorem dMH_verify_355 : decode c_MH_verify 355 = .ok (.iload 9, 2) := by decide +kernel
theorem dMH_verify_357 : decode c_MH_verify 357 = .ok (.imul, 1) := by decide +kernel
theorem dMH_verify_358 : decode c_MH_verify 358 = .ok (.iadd, 1) := by decide +kernel
theorem dMH_verify_359 : decode c_MH_verify 359 = .ok (.bipush 10, 2) := by decide +kernel
theorem dMH_verify_361 : decode c_MH_verify 361 = .ok (.iload 10, 2) := by decide +kernel
theorem dMH_verify_363 : decode c_MH_verify 363 = .ok (.imul, 1) := by decide +kernel
theorem dMH_verify_364 : decode c_MH_verify 364 = .ok (.iadd, 1) := by decide +kernel
theorem dMH_verify_365 : decode c_MH_verify 365 = .ok (.bipush 10, 2) := by decide +kernel
theorem dMH_verify_367 : decode c_MH_verify 367 = .ok (.invokestatic 197, 3) := by decide +kernel
theorem dMH_verify_370 : decode c_MH_verify 370 = .ok (.bipush 13, 2) := by decide +kernel
theorem dMH_verify_372 : decode c_MH_verify 372 = .ok (.ishl, 1) := by decide +kernel
theorem dMH_verify_373 : decode c_MH_verify 373 = .ok (.iastore, 1) := by decide +kernel
theorem dMH_verify_374 : decode c_MH_verify 374 = .ok (.iinc 10 1, 3) := by decide +kernel
theorem dMH_verify_377 : decode c_MH_verify 377 = .ok (.goto (-46), 3) := by decide +kernel
theorem dMH_verify_380 : decode c_MH_verify 380 = .ok (.aload_n 0, 1) := by decide +kernel
theorem dMH_verify_381 : decode c_MH_verify 381 = .ok (.aload_n 0, 1) := by decide +kernel
theorem dMH_verify_382 : decode c_MH_verify 382 = .ok (.getfield 33, 3) := by decide +kernel
theorem dMH_verify_385 : decode c_MH_verify 385 = .ok (.iload 9, 2) := by decide +kernel
theorem dMH_verify_387 : decode c_MH_verify 387 = .ok (.aaload, 1) := by decide +kernel
theorem dMH_verify_388 : decode c_MH_verify 388 = .ok (.aload_n 0, 1) := by decide +kernel
theorem dMH_verify_389 : decode c_MH_verify 389 = .ok (.getfield 55, 3) := by decide +kernel
theorem dMH_verify_392 : decode c_MH_verify 392 = .ok (.invokevirtual 214, 3) := by decide +kernel
theorem dMH_verify_395 : decode c_MH_verify 395 = .ok (.iconst 0, 1) := by decide +kernel
theorem dMH_verify_396 : decode c_MH_verify 396 = .ok (.istore 10, 2) := by decide +kernel
theorem dMH_verify_398 : decode c_MH_verify 398 = .ok (.iload 10, 2) := by decide +kernel
theorem dMH_verify_400 : decode c_MH_verify 400 = .ok (.sipush 256, 3) := by decide +kernel
theorem dMH_verify_403 : decode c_MH_verify 403 = .ok (.if_icmp .ge 39, 3) := by decide +kernel
theorem dMH_verify_406 : decode c_MH_verify 406 = .ok (.aload_n 0, 1) := by decide +kernel
theorem dMH_verify_407 : decode c_MH_verify 407 = .ok (.getfield 45, 3) := by decide +kernel
theorem dMH_verify_410 : decode c_MH_verify 410 = .ok (.iload 9, 2) := by decide +kernel
theorem dMH_verify_412 : decode c_MH_verify 412 = .ok (.aaload, 1) := by decide +kernel
theorem dMH_verify_413 : decode c_MH_verify 413 = .ok (.iload 10, 2) := by decide +kernel
theorem dMH_verify_415 : decode c_MH_verify 415 = .ok (.aload_n 0, 1) := by decide +kernel
theorem dMH_verify_416 : decode c_MH_verify 416 = .ok (.getfield 45, 3) := by decide +kernel
theorem dMH_verify_419 : decode c_MH_verify 419 = .ok (.iload 9, 2) := by decide +kernel
theorem dMH_verify_421 : decode c_MH_verify 421 = .ok (.aaload, 1) := by decide +kernel
theorem dMH_verify_422 : decode c_MH_verify 422 = .ok (.iload 10, 2) := by decide +kernel
theorem dMH_verify_424 : decode c_MH_verify 424 = .ok (.iaload, 1) := by decide +kernel
theorem dMH_verify_425 : decode c_MH_verify 425 = .ok (.aload_n 0, 1) := by decide +kernel
theorem dMH_verify_426 : decode c_MH_verify 426 = .ok (.getfield 55, 3) := by decide +kernel
theorem dMH_verify_429 : decode c_MH_verify 429 = .ok (.iload 10, 2) := by decide +kernel
theorem dMH_verify_431 : decode c_MH_verify 431 = .ok (.iaload, 1) := by decide +kernel
theorem dMH_verify_432 : decode c_MH_verify 432 = .ok (.invokestatic 201, 3) := by decide +kernel
theorem dMH_verify_435 : decode c_MH_verify 435 = .ok (.iastore, 1) := by decide +kernel
theorem dMH_verify_436 : decode c_MH_verify 436 = .ok (.iinc 10 1, 3) := by decide +kernel
theorem dMH_verify_439 : decode c_MH_verify 439 = .ok (.goto (-41), 3) := by decide +kernel
theorem dMH_verify_442 : decode c_MH_verify 442 = .ok (.iinc 9 1, 3) := by decide +kernel
theorem dMH_verify_445 : decode c_MH_verify 445 = .ok (.goto (-139), 3) := by decide +kernel
theorem dMH_verify_448 : decode c_MH_verify 448 = .ok (.aload_n 0, 1) := by decide +kernel
theorem dMH_verify_449 : decode c_MH_verify 449 = .ok (.iconst 1, 1) := by decide +kernel
theorem dMH_verify_450 : decode c_MH_verify 450 = .ok (.aload_n 0, 1) := by decide +kernel
theorem dMH_verify_451 : decode c_MH_verify 451 = .ok (.getfield 81, 3) := by decide +kernel
theorem dMH_verify_454 : decode c_MH_verify 454 = .ok (.invokevirtual 236, 3) := by decide +kernel
theorem dMH_verify_457 : decode c_MH_verify 457 = .ok (.iconst 0, 1) := by decide +kernel
theorem dMH_verify_458 : decode c_MH_verify 458 = .ok (.istore 9, 2) := by decide +kernel
theorem dMH_verify_460 : decode c_MH_verify 460 = .ok (.iload 9, 2) := by decide +kernel
theorem dMH_verify_462 : decode c_MH_verify 462 = .ok (.aload_n 0, 1) := by decide +kernel
theorem dMH_verify_463 : decode c_MH_verify 463 = .ok (.getfield 132, 3) := by decide +kernel
theorem dMH_verify_466 : decode c_MH_verify 466 = .ok (.if_icmp .ge 28, 3) := by decide +kernel
theorem dMH_verify_469 : decode c_MH_verify 469 = .ok (.aload_n 0, 1) := by decide +kernel
theorem dMH_verify_470 : decode c_MH_verify 470 = .ok (.getfield 81, 3) := by decide +kernel
theorem dMH_verify_473 : decode c_MH_verify 473 = .ok (.iload 9, 2) := by decide +kernel
theorem dMH_verify_475 : decode c_MH_verify 475 = .ok (.baload, 1) := by decide +kernel
theorem dMH_verify_476 : decode c_MH_verify 476 = .ok (.aload_n 0, 1) := by decide +kernel
theorem dMH_verify_477 : decode c_MH_verify 477 = .ok (.getfield 78, 3) := by decide +kernel
theorem dMH_verify_480 : decode c_MH_verify 480 = .ok (.iload 9, 2) := by decide +kernel
theorem dMH_verify_482 : decode c_MH_verify 482 = .ok (.baload, 1) := by decide +kernel
theorem dMH_verify_483 : decode c_MH_verify 483 = .ok (.if_icmp .eq 5, 3) := by decide +kernel
theorem dMH_verify_486 : decode c_MH_verify 486 = .ok (.iconst 0, 1) := by decide +kernel
theorem dMH_verify_487 : decode c_MH_verify 487 = .ok (.ireturn, 1) := by decide +kernel
theorem dMH_verify_488 : decode c_MH_verify 488 = .ok (.iinc 9 1, 3) := by decide +kernel
theorem dMH_verify_491 : decode c_MH_verify 491 = .ok (.goto (-31), 3) := by decide +kernel
theorem dMH_verify_494 : decode c_MH_verify 494 = .ok (.iconst 1, 1) := by decide +kernel
theorem dMH_verify_495 : decode c_MH_verify 495 = .ok (.ireturn, 1) := by decide +kernel
set_option maxHeartbeats 4000000 in
set_option maxRecDepth 100000 in
theorem t_MH_as_0 (l : Launch) (g : Gd) (sz : Nat) (T : Ty) (xs : List Nat) (pl : va_W) (hO : okx g T xs pl) (hU : uni T) (h0 r0 r1 r2 r3 r4 r5 r6 r7 r8 r9 r10 r11 r12 r13 r14 r15 r16 r17 r18 r19 r20 r21 r22 : Nat) (z0 z1 z2 z3 z4 z5 z6 z7 : Int32)  : Met l y_MH_as w_MH_as ({ frames := 0, cells := 0, slots := 0, locals := 0 } : Room) (va_Pc [.ref h0, .int (nI 0)] (pr (en g) g.1 vcl sz ([(h0, .inr (12, [.ref r0, .ref r1, .ref r2, .ref r3, .ref r4, .ref r5, .ref r6, .ref r7, .ref r8, .ref r9, .ref r10, .ref r11, .ref r12, .ref r13, .ref r14, .ref r15, .ref r16, .ref r17, .ref r18, .ref r19, .ref r20, .ref r21, .ref r22, .int z0, .int z1, .int z2, .int z3, .int z4, .int z5, .int z6, .int z7]))] ++ pl))) (va_Qv (fun (u : va_W) => (True) ∧ okx g T xs u) (po g.1 vcl (va_A ([(h0, .inr (12, [.ref r0, .ref r1, .ref r2, .ref r3, .ref r4, .ref r5, .ref r6, .ref r7, .ref r8, .ref r9, .ref r10, .ref r11, .ref r12, .ref r13, .ref r14, .ref r15, .ref r16, .ref r17, .ref r18, .ref r19, .ref r20, .ref r21, .ref r22, .int z0, .int z1, .int z2, .int z3, .int z4, .int z5, .int z6, .int z7]))] ++ pl) sz) (fun (u : va_W) => [(h0, .inr (12, [.ref r0, .ref r1, .ref r2, .ref r3, .ref r4, .ref r5, .ref r6, .ref r7, .ref r8, .ref r9, .ref r10, .ref r11, .ref r12, .ref r13, .ref r14, .ref r15, .ref r16, .ref r17, .ref r18, .ref r19, .ref r20, .ref r21, .ref r22, .int (nI 0), .int (nI 4), .int (nI 4), .int (nI 2), .int (nI 131072), .int (nI 95232), .int (nI 78), .int (nI 32)]))] ++ u)) (va_A ([(h0, .inr (12, [.ref r0, .ref r1, .ref r2, .ref r3, .ref r4, .ref r5, .ref r6, .ref r7, .ref r8, .ref r9, .ref r10, .ref r11, .ref r12, .ref r13, .ref r14, .ref r15, .ref r16, .ref r17, .ref r18, .ref r19, .ref r20, .ref r21, .ref r22, .int z0, .int z1, .int z2, .int z3, .int z4, .int z5, .int z6, .int z7]))] ++ pl) sz)) 0 0 (va_A ([(h0, .inr (12, [.ref r0, .ref r1, .ref r2, .ref r3, .ref r4, .ref r5, .ref r6, .ref r7, .ref r8, .ref r9, .ref r10, .ref r11, .ref r12, .ref r13, .ref r14, .ref r15, .ref r16, .ref r17, .ref r18, .ref r19, .ref r20, .ref r21, .ref r22, .int z0, .int z1, .int z2, .int z3, .int z4, .int z5, .int z6, .int z7]))] ++ pl) sz) := by
  refine mc_entry (cc := c_MH_as) (maxL := 2) (ret := none) (by decide) rfl (Nat.le_of_ble_eq_true rfl) ?_
  intro p e s m args below meth c ls F hr hlk hnm hsz hP hD hE hA hl
  obtain ⟨hx, hb, hml, hown, hts⟩ := id F
  have hK := hE.1
  generalize va_A ([(h0, .inr (12, [.ref r0, .ref r1, .ref r2, .ref r3, .ref r4, .ref r5, .ref r6, .ref r7, .ref r8, .ref r9, .ref r10, .ref r11, .ref r12, .ref r13, .ref r14, .ref r15, .ref r16, .ref r17, .ref r18, .ref r19, .ref r20, .ref r21, .ref r22, .int z0, .int z1, .int z2, .int z3, .int z4, .int z5, .int z6, .int z7]))] ++ pl) sz = A at hD hE hA ⊢
  have hS : va_S A s.heap s.heap [] := va_S.rf
  have hl : lv_has ls 2 [(0, .ref h0), (1, .int (nI 0))] := hl
  refine lv_aload_n hx hb dMH_as_0 rfl (lv_at hl 0 rfl) ?_
  refine lv_iload_n hx hb dMH_as_1 rfl (lv_at hl 1 rfl) ?_
  refine va_put (D := g.1) (ci := 12) (v := .int (nI 0)) (ty := .int) (C := "LatticeKeysModel$Hands") (T := T_MH) (N := 31) hx hb hts (wg_ft i_MH) ty_MH k_MH n_MH hown hK hP hD hS 0 rfl rfl 23 (by decide) (hts _ (wg_t kw_1455)) (fun _ h9 => h9) rfl (by decide +kernel) rfl rfl (Nat.le_of_ble_eq_true rfl) dMH_as_2 (fun H locs hP hD hS => ?_)
  have hP : va_P g.1 vcl ([(h0, .inr (12, [.ref r0, .ref r1, .ref r2, .ref r3, .ref r4, .ref r5, .ref r6, .ref r7, .ref r8, .ref r9, .ref r10, .ref r11, .ref r12, .ref r13, .ref r14, .ref r15, .ref r16, .ref r17, .ref r18, .ref r19, .ref r20, .ref r21, .ref r22, .int (nI 0), .int z1, .int z2, .int z3, .int z4, .int z5, .int z6, .int z7]))] ++ pl) _ := hP
  have hD : va_D _ ([(h0, .inr (12, [.ref r0, .ref r1, .ref r2, .ref r3, .ref r4, .ref r5, .ref r6, .ref r7, .ref r8, .ref r9, .ref r10, .ref r11, .ref r12, .ref r13, .ref r14, .ref r15, .ref r16, .ref r17, .ref r18, .ref r19, .ref r20, .ref r21, .ref r22, .int (nI 0), .int z1, .int z2, .int z3, .int z4, .int z5, .int z6, .int z7]))] ++ pl) := hD
  refine lv_aload_n hx hb dMH_as_5 rfl (lv_at hl 0 rfl) ?_
  refine va_gets hx hb (hE.2.1 23 _ rfl).1 hS hown (hts _ (wg_t kw_1706)) (fun _ h9 => h9) dMH_as_6 ?_
  refine lv_aload_n hx hb dMH_as_9 rfl (lv_at hl 0 rfl) ?_
  refine va_get (D := g.1) (ci := 12) (C := "LatticeKeysModel$Hands") (T := T_MH) (N := 31) hx hb hts (wg_ft i_MH) hown hK hP 0 rfl rfl 23 (by decide) (hts _ (wg_t kw_1455)) (fun _ h9 => h9) rfl dMH_as_10 ?_
  refine va_ti (v := .int (nI 4)) hx hb (hE.2.1 23 _ rfl).2 hS (vp_in_nI (by decide) (by decide)) (by decide +kernel) dMH_as_13 ?_
  refine va_put (D := g.1) (ci := 12) (v := .int (nI 4)) (ty := .int) (C := "LatticeKeysModel$Hands") (T := T_MH) (N := 31) hx hb hts (wg_ft i_MH) ty_MH k_MH n_MH hown hK hP hD hS 0 rfl rfl 24 (by decide) (hts _ (wg_t kw_1456)) (fun _ h9 => h9) rfl (by decide +kernel) rfl rfl (Nat.le_of_ble_eq_true rfl) dMH_as_14 (fun H locs hP hD hS => ?_)
  have hP : va_P g.1 vcl ([(h0, .inr (12, [.ref r0, .ref r1, .ref r2, .ref r3, .ref r4, .ref r5, .ref r6, .ref r7, .ref r8, .ref r9, .ref r10, .ref r11, .ref r12, .ref r13, .ref r14, .ref r15, .ref r16, .ref r17, .ref r18, .ref r19, .ref r20, .ref r21, .ref r22, .int (nI 0), .int (nI 4), .int z2, .int z3, .int z4, .int z5, .int z6, .int z7]))] ++ pl) _ := hP
  have hD : va_D _ ([(h0, .inr (12, [.ref r0, .ref r1, .ref r2, .ref r3, .ref r4, .ref r5, .ref r6, .ref r7, .ref r8, .ref r9, .ref r10, .ref r11, .ref r12, .ref r13, .ref r14, .ref r15, .ref r16, .ref r17, .ref r18, .ref r19, .ref r20, .ref r21, .ref r22, .int (nI 0), .int (nI 4), .int z2, .int z3, .int z4, .int z5, .int z6, .int z7]))] ++ pl) := hD
  refine lv_aload_n hx hb dMH_as_17 rfl (lv_at hl 0 rfl) ?_
  refine va_gets hx hb (hE.2.1 24 _ rfl).1 hS hown (hts _ (wg_t kw_1708)) (fun _ h9 => h9) dMH_as_18 ?_
  refine lv_aload_n hx hb dMH_as_21 rfl (lv_at hl 0 rfl) ?_
  refine va_get (D := g.1) (ci := 12) (C := "LatticeKeysModel$Hands") (T := T_MH) (N := 31) hx hb hts (wg_ft i_MH) hown hK hP 0 rfl rfl 23 (by decide) (hts _ (wg_t kw_1455)) (fun _ h9 => h9) rfl dMH_as_22 ?_
  refine va_ti (v := .int (nI 4)) hx hb (hE.2.1 24 _ rfl).2 hS (vp_in_nI (by decide) (by decide)) (by decide +kernel) dMH_as_25 ?_
  refine va_put (D := g.1) (ci := 12) (v := .int (nI 4)) (ty := .int) (C := "LatticeKeysModel$Hands") (T := T_MH) (N := 31) hx hb hts (wg_ft i_MH) ty_MH k_MH n_MH hown hK hP hD hS 0 rfl rfl 25 (by decide) (hts _ (wg_t kw_1457)) (fun _ h9 => h9) rfl (by decide +kernel) rfl rfl (Nat.le_of_ble_eq_true rfl) dMH_as_26 (fun H locs hP hD hS => ?_)
  have hP : va_P g.1 vcl ([(h0, .inr (12, [.ref r0, .ref r1, .ref r2, .ref r3, .ref r4, .ref r5, .ref r6, .ref r7, .ref r8, .ref r9, .ref r10, .ref r11, .ref r12, .ref r13, .ref r14, .ref r15, .ref r16, .ref r17, .ref r18, .ref r19, .ref r20, .ref r21, .ref r22, .int (nI 0), .int (nI 4), .int (nI 4), .int z3, .int z4, .int z5, .int z6, .int z7]))] ++ pl) _ := hP
  have hD : va_D _ ([(h0, .inr (12, [.ref r0, .ref r1, .ref r2, .ref r3, .ref r4, .ref r5, .ref r6, .ref r7, .ref r8, .ref r9, .ref r10, .ref r11, .ref r12, .ref r13, .ref r14, .ref r15, .ref r16, .ref r17, .ref r18, .ref r19, .ref r20, .ref r21, .ref r22, .int (nI 0), .int (nI 4), .int (nI 4), .int z3, .int z4, .int z5, .int z6, .int z7]))] ++ pl) := hD
  refine lv_aload_n hx hb dMH_as_29 rfl (lv_at hl 0 rfl) ?_
  refine va_gets hx hb (hE.2.1 25 _ rfl).1 hS hown (hts _ (wg_t kw_1710)) (fun _ h9 => h9) dMH_as_30 ?_
  refine lv_aload_n hx hb dMH_as_33 rfl (lv_at hl 0 rfl) ?_
  refine va_get (D := g.1) (ci := 12) (C := "LatticeKeysModel$Hands") (T := T_MH) (N := 31) hx hb hts (wg_ft i_MH) hown hK hP 0 rfl rfl 23 (by decide) (hts _ (wg_t kw_1455)) (fun _ h9 => h9) rfl dMH_as_34 ?_
  refine va_ti (v := .int (nI 2)) hx hb (hE.2.1 25 _ rfl).2 hS (vp_in_nI (by decide) (by decide)) (by decide +kernel) dMH_as_37 ?_
  refine va_put (D := g.1) (ci := 12) (v := .int (nI 2)) (ty := .int) (C := "LatticeKeysModel$Hands") (T := T_MH) (N := 31) hx hb hts (wg_ft i_MH) ty_MH k_MH n_MH hown hK hP hD hS 0 rfl rfl 26 (by decide) (hts _ (wg_t kw_1458)) (fun _ h9 => h9) rfl (by decide +kernel) rfl rfl (Nat.le_of_ble_eq_true rfl) dMH_as_38 (fun H locs hP hD hS => ?_)
  have hP : va_P g.1 vcl ([(h0, .inr (12, [.ref r0, .ref r1, .ref r2, .ref r3, .ref r4, .ref r5, .ref r6, .ref r7, .ref r8, .ref r9, .ref r10, .ref r11, .ref r12, .ref r13, .ref r14, .ref r15, .ref r16, .ref r17, .ref r18, .ref r19, .ref r20, .ref r21, .ref r22, .int (nI 0), .int (nI 4), .int (nI 4), .int (nI 2), .int z4, .int z5, .int z6, .int z7]))] ++ pl) _ := hP
  have hD : va_D _ ([(h0, .inr (12, [.ref r0, .ref r1, .ref r2, .ref r3, .ref r4, .ref r5, .ref r6, .ref r7, .ref r8, .ref r9, .ref r10, .ref r11, .ref r12, .ref r13, .ref r14, .ref r15, .ref r16, .ref r17, .ref r18, .ref r19, .ref r20, .ref r21, .ref r22, .int (nI 0), .int (nI 4), .int (nI 4), .int (nI 2), .int z4, .int z5, .int z6, .int z7]))] ++ pl) := hD
  refine lv_aload_n hx hb dMH_as_41 rfl (lv_at hl 0 rfl) ?_
  refine lv_aload_n hx hb dMH_as_42 rfl (lv_at hl 0 rfl) ?_
  refine va_get (D := g.1) (ci := 12) (C := "LatticeKeysModel$Hands") (T := T_MH) (N := 31) hx hb hts (wg_ft i_MH) hown hK hP 0 rfl rfl 23 (by decide) (hts _ (wg_t kw_1455)) (fun _ h9 => h9) rfl dMH_as_43 ?_
  refine lv_if_ne (tgt := 54) hx hb dMH_as_46 (by decide) (fun h21 => absurd h21 (by decide)) (fun h21 => ?_)
  refine lv_ldc (v := 131072) hx hb hown (hts _ (wg_t kw_1712)) dMH_as_49 ?_
  refine mi_as (show (131072 : Int32) = nI 131072 by decide) ?_
  refine lv_goto (tgt := 56) hx hb dMH_as_51 (by decide) ?_
  refine va_put (D := g.1) (ci := 12) (v := .int (nI 131072)) (ty := .int) (C := "LatticeKeysModel$Hands") (T := T_MH) (N := 31) hx hb hts (wg_ft i_MH) ty_MH k_MH n_MH hown hK hP hD hS 0 rfl rfl 27 (by decide) (hts _ (wg_t kw_1459)) (fun _ h9 => h9) rfl (by decide +kernel) rfl rfl (Nat.le_of_ble_eq_true rfl) dMH_as_56 (fun H locs hP hD hS => ?_)
  have hP : va_P g.1 vcl ([(h0, .inr (12, [.ref r0, .ref r1, .ref r2, .ref r3, .ref r4, .ref r5, .ref r6, .ref r7, .ref r8, .ref r9, .ref r10, .ref r11, .ref r12, .ref r13, .ref r14, .ref r15, .ref r16, .ref r17, .ref r18, .ref r19, .ref r20, .ref r21, .ref r22, .int (nI 0), .int (nI 4), .int (nI 4), .int (nI 2), .int (nI 131072), .int z5, .int z6, .int z7]))] ++ pl) _ := hP
  have hD : va_D _ ([(h0, .inr (12, [.ref r0, .ref r1, .ref r2, .ref r3, .ref r4, .ref r5, .ref r6, .ref r7, .ref r8, .ref r9, .ref r10, .ref r11, .ref r12, .ref r13, .ref r14, .ref r15, .ref r16, .ref r17, .ref r18, .ref r19, .ref r20, .ref r21, .ref r22, .int (nI 0), .int (nI 4), .int (nI 4), .int (nI 2), .int (nI 131072), .int z5, .int z6, .int z7]))] ++ pl) := hD
  refine lv_aload_n hx hb dMH_as_59 rfl (lv_at hl 0 rfl) ?_
  refine lv_aload_n hx hb dMH_as_60 rfl (lv_at hl 0 rfl) ?_
  refine va_get (D := g.1) (ci := 12) (C := "LatticeKeysModel$Hands") (T := T_MH) (N := 31) hx hb hts (wg_ft i_MH) hown hK hP 0 rfl rfl 23 (by decide) (hts _ (wg_t kw_1455)) (fun _ h9 => h9) rfl dMH_as_61 ?_
  refine lv_if_ne (tgt := 72) hx hb dMH_as_64 (by decide) (fun h22 => absurd h22 (by decide)) (fun h22 => ?_)
  refine lv_ldc (v := 95232) hx hb hown (hts _ (wg_t kw_1714)) dMH_as_67 ?_
  refine mi_as (show (95232 : Int32) = nI 95232 by decide) ?_
  refine lv_goto (tgt := 74) hx hb dMH_as_69 (by decide) ?_
  refine va_put (D := g.1) (ci := 12) (v := .int (nI 95232)) (ty := .int) (C := "LatticeKeysModel$Hands") (T := T_MH) (N := 31) hx hb hts (wg_ft i_MH) ty_MH k_MH n_MH hown hK hP hD hS 0 rfl rfl 28 (by decide) (hts _ (wg_t kw_1460)) (fun _ h9 => h9) rfl (by decide +kernel) rfl rfl (Nat.le_of_ble_eq_true rfl) dMH_as_74 (fun H locs hP hD hS => ?_)
  have hP : va_P g.1 vcl ([(h0, .inr (12, [.ref r0, .ref r1, .ref r2, .ref r3, .ref r4, .ref r5, .ref r6, .ref r7, .ref r8, .ref r9, .ref r10, .ref r11, .ref r12, .ref r13, .ref r14, .ref r15, .ref r16, .ref r17, .ref r18, .ref r19, .ref r20, .ref r21, .ref r22, .int (nI 0), .int (nI 4), .int (nI 4), .int (nI 2), .int (nI 131072), .int (nI 95232), .int z6, .int z7]))] ++ pl) _ := hP
  have hD : va_D _ ([(h0, .inr (12, [.ref r0, .ref r1, .ref r2, .ref r3, .ref r4, .ref r5, .ref r6, .ref r7, .ref r8, .ref r9, .ref r10, .ref r11, .ref r12, .ref r13, .ref r14, .ref r15, .ref r16, .ref r17, .ref r18, .ref r19, .ref r20, .ref r21, .ref r22, .int (nI 0), .int (nI 4), .int (nI 4), .int (nI 2), .int (nI 131072), .int (nI 95232), .int z6, .int z7]))] ++ pl) := hD
  refine lv_aload_n hx hb dMH_as_77 rfl (lv_at hl 0 rfl) ?_
  refine lv_aload_n hx hb dMH_as_78 rfl (lv_at hl 0 rfl) ?_
  refine va_get (D := g.1) (ci := 12) (C := "LatticeKeysModel$Hands") (T := T_MH) (N := 31) hx hb hts (wg_ft i_MH) hown hK hP 0 rfl rfl 26 (by decide) (hts _ (wg_t kw_1458)) (fun _ h9 => h9) rfl dMH_as_79 ?_
  refine va_gets hx hb (hE.2.1 26 _ rfl).1 hS hown (hts _ (wg_t kw_1716)) (fun _ h9 => h9) dMH_as_82 ?_
  refine lv_aload_n hx hb dMH_as_85 rfl (lv_at hl 0 rfl) ?_
  refine va_get (D := g.1) (ci := 12) (C := "LatticeKeysModel$Hands") (T := T_MH) (N := 31) hx hb hts (wg_ft i_MH) hown hK hP 0 rfl rfl 23 (by decide) (hts _ (wg_t kw_1455)) (fun _ h9 => h9) rfl dMH_as_86 ?_
  refine va_ti (v := .int (nI 39)) hx hb (hE.2.1 26 _ rfl).2 hS (vp_in_nI (by decide) (by decide)) (by decide +kernel) dMH_as_89 ?_
  refine mi_imul hx hb dMH_as_90 ?_
  refine mi_as (show nI (2 * 39) = nI 78 from rfl) ?_
  refine va_put (D := g.1) (ci := 12) (v := .int (nI 78)) (ty := .int) (C := "LatticeKeysModel$Hands") (T := T_MH) (N := 31) hx hb hts (wg_ft i_MH) ty_MH k_MH n_MH hown hK hP hD hS 0 rfl rfl 29 (by decide) (hts _ (wg_t kw_1461)) (fun _ h9 => h9) rfl (by decide +kernel) rfl rfl (Nat.le_of_ble_eq_true rfl) dMH_as_91 (fun H locs hP hD hS => ?_)
  have hP : va_P g.1 vcl ([(h0, .inr (12, [.ref r0, .ref r1, .ref r2, .ref r3, .ref r4, .ref r5, .ref r6, .ref r7, .ref r8, .ref r9, .ref r10, .ref r11, .ref r12, .ref r13, .ref r14, .ref r15, .ref r16, .ref r17, .ref r18, .ref r19, .ref r20, .ref r21, .ref r22, .int (nI 0), .int (nI 4), .int (nI 4), .int (nI 2), .int (nI 131072), .int (nI 95232), .int (nI 78), .int z7]))] ++ pl) _ := hP
  have hD : va_D _ ([(h0, .inr (12, [.ref r0, .ref r1, .ref r2, .ref r3, .ref r4, .ref r5, .ref r6, .ref r7, .ref r8, .ref r9, .ref r10, .ref r11, .ref r12, .ref r13, .ref r14, .ref r15, .ref r16, .ref r17, .ref r18, .ref r19, .ref r20, .ref r21, .ref r22, .int (nI 0), .int (nI 4), .int (nI 4), .int (nI 2), .int (nI 131072), .int (nI 95232), .int (nI 78), .int z7]))] ++ pl) := hD
  refine lv_aload_n hx hb dMH_as_94 rfl (lv_at hl 0 rfl) ?_
  refine lv_bipush (v := nI 32) hx hb dMH_as_95 (by decide) ?_
  refine lv_bipush (v := nI 16) hx hb dMH_as_97 (by decide) ?_
  refine lv_aload_n hx hb dMH_as_99 rfl (lv_at hl 0 rfl) ?_
  refine va_get (D := g.1) (ci := 12) (C := "LatticeKeysModel$Hands") (T := T_MH) (N := 31) hx hb hts (wg_ft i_MH) hown hK hP 0 rfl rfl 23 (by decide) (hts _ (wg_t kw_1455)) (fun _ h9 => h9) rfl dMH_as_100 ?_
  refine mi_imul hx hb dMH_as_103 ?_
  refine mi_as (show nI (16 * 0) = nI 0 from rfl) ?_
  refine mi_iadd hx hb dMH_as_104 ?_
  refine mi_as (show nI (32 + 0) = nI 32 from rfl) ?_
  refine va_put (D := g.1) (ci := 12) (v := .int (nI 32)) (ty := .int) (C := "LatticeKeysModel$Hands") (T := T_MH) (N := 31) hx hb hts (wg_ft i_MH) ty_MH k_MH n_MH hown hK hP hD hS 0 rfl rfl 30 (by decide) (hts _ (wg_t kw_1462)) (fun _ h9 => h9) rfl (by decide +kernel) rfl rfl (Nat.le_of_ble_eq_true rfl) dMH_as_105 (fun H locs hP hD hS => ?_)
  have hP : va_P g.1 vcl ([(h0, .inr (12, [.ref r0, .ref r1, .ref r2, .ref r3, .ref r4, .ref r5, .ref r6, .ref r7, .ref r8, .ref r9, .ref r10, .ref r11, .ref r12, .ref r13, .ref r14, .ref r15, .ref r16, .ref r17, .ref r18, .ref r19, .ref r20, .ref r21, .ref r22, .int (nI 0), .int (nI 4), .int (nI 4), .int (nI 2), .int (nI 131072), .int (nI 95232), .int (nI 78), .int (nI 32)]))] ++ pl) _ := hP
  have hD : va_D _ ([(h0, .inr (12, [.ref r0, .ref r1, .ref r2, .ref r3, .ref r4, .ref r5, .ref r6, .ref r7, .ref r8, .ref r9, .ref r10, .ref r11, .ref r12, .ref r13, .ref r14, .ref r15, .ref r16, .ref r17, .ref r18, .ref r19, .ref r20, .ref r21, .ref r22, .int (nI 0), .int (nI 4), .int (nI 4), .int (nI 2), .int (nI 131072), .int (nI 95232), .int (nI 78), .int (nI 32)]))] ++ pl) := hD
  exact mp_vret hx hb hr hlk hP hD hS pl ⟨trivial, hO⟩ [0] rfl rfl rfl (by omega) (by omega) dMH_as_108
set_option maxHeartbeats 4000000 in
set_option maxRecDepth 100000 in
theorem t_MH_as_1 (l : Launch) (g : Gd) (sz : Nat) (T : Ty) (xs : List Nat) (pl : va_W) (hO : okx g T xs pl) (hU : uni T) (h0 r0 r1 r2 r3 r4 r5 r6 r7 r8 r9 r10 r11 r12 r13 r14 r15 r16 r17 r18 r19 r20 r21 r22 : Nat) (z0 z1 z2 z3 z4 z5 z6 z7 : Int32)  : Met l y_MH_as w_MH_as ({ frames := 0, cells := 0, slots := 0, locals := 0 } : Room) (va_Pc [.ref h0, .int (nI 1)] (pr (en g) g.1 vcl sz ([(h0, .inr (12, [.ref r0, .ref r1, .ref r2, .ref r3, .ref r4, .ref r5, .ref r6, .ref r7, .ref r8, .ref r9, .ref r10, .ref r11, .ref r12, .ref r13, .ref r14, .ref r15, .ref r16, .ref r17, .ref r18, .ref r19, .ref r20, .ref r21, .ref r22, .int z0, .int z1, .int z2, .int z3, .int z4, .int z5, .int z6, .int z7]))] ++ pl))) (va_Qv (fun (u : va_W) => (True) ∧ okx g T xs u) (po g.1 vcl (va_A ([(h0, .inr (12, [.ref r0, .ref r1, .ref r2, .ref r3, .ref r4, .ref r5, .ref r6, .ref r7, .ref r8, .ref r9, .ref r10, .ref r11, .ref r12, .ref r13, .ref r14, .ref r15, .ref r16, .ref r17, .ref r18, .ref r19, .ref r20, .ref r21, .ref r22, .int z0, .int z1, .int z2, .int z3, .int z4, .int z5, .int z6, .int z7]))] ++ pl) sz) (fun (u : va_W) => [(h0, .inr (12, [.ref r0, .ref r1, .ref r2, .ref r3, .ref r4, .ref r5, .ref r6, .ref r7, .ref r8, .ref r9, .ref r10, .ref r11, .ref r12, .ref r13, .ref r14, .ref r15, .ref r16, .ref r17, .ref r18, .ref r19, .ref r20, .ref r21, .ref r22, .int (nI 1), .int (nI 6), .int (nI 5), .int (nI 4), .int (nI 524288), .int (nI 261888), .int (nI 196), .int (nI 48)]))] ++ u)) (va_A ([(h0, .inr (12, [.ref r0, .ref r1, .ref r2, .ref r3, .ref r4, .ref r5, .ref r6, .ref r7, .ref r8, .ref r9, .ref r10, .ref r11, .ref r12, .ref r13, .ref r14, .ref r15, .ref r16, .ref r17, .ref r18, .ref r19, .ref r20, .ref r21, .ref r22, .int z0, .int z1, .int z2, .int z3, .int z4, .int z5, .int z6, .int z7]))] ++ pl) sz)) 0 0 (va_A ([(h0, .inr (12, [.ref r0, .ref r1, .ref r2, .ref r3, .ref r4, .ref r5, .ref r6, .ref r7, .ref r8, .ref r9, .ref r10, .ref r11, .ref r12, .ref r13, .ref r14, .ref r15, .ref r16, .ref r17, .ref r18, .ref r19, .ref r20, .ref r21, .ref r22, .int z0, .int z1, .int z2, .int z3, .int z4, .int z5, .int z6, .int z7]))] ++ pl) sz) := by
  refine mc_entry (cc := c_MH_as) (maxL := 2) (ret := none) (by decide) rfl (Nat.le_of_ble_eq_true rfl) ?_
  intro p e s m args below meth c ls F hr hlk hnm hsz hP hD hE hA hl
  obtain ⟨hx, hb, hml, hown, hts⟩ := id F
  have hK := hE.1
  generalize va_A ([(h0, .inr (12, [.ref r0, .ref r1, .ref r2, .ref r3, .ref r4, .ref r5, .ref r6, .ref r7, .ref r8, .ref r9, .ref r10, .ref r11, .ref r12, .ref r13, .ref r14, .ref r15, .ref r16, .ref r17, .ref r18, .ref r19, .ref r20, .ref r21, .ref r22, .int z0, .int z1, .int z2, .int z3, .int z4, .int z5, .int z6, .int z7]))] ++ pl) sz = A at hD hE hA ⊢
  have hS : va_S A s.heap s.heap [] := va_S.rf
  have hl : lv_has ls 2 [(0, .ref h0), (1, .int (nI 1))] := hl
  refine lv_aload_n hx hb dMH_as_0 rfl (lv_at hl 0 rfl) ?_
  refine lv_iload_n hx hb dMH_as_1 rfl (lv_at hl 1 rfl) ?_
  refine va_put (D := g.1) (ci := 12) (v := .int (nI 1)) (ty := .int) (C := "LatticeKeysModel$Hands") (T := T_MH) (N := 31) hx hb hts (wg_ft i_MH) ty_MH k_MH n_MH hown hK hP hD hS 0 rfl rfl 23 (by decide) (hts _ (wg_t kw_1455)) (fun _ h9 => h9) rfl (by decide +kernel) rfl rfl (Nat.le_of_ble_eq_true rfl) dMH_as_2 (fun H locs hP hD hS => ?_)
  have hP : va_P g.1 vcl ([(h0, .inr (12, [.ref r0, .ref r1, .ref r2, .ref r3, .ref r4, .ref r5, .ref r6, .ref r7, .ref r8, .ref r9, .ref r10, .ref r11, .ref r12, .ref r13, .ref r14, .ref r15, .ref r16, .ref r17, .ref r18, .ref r19, .ref r20, .ref r21, .ref r22, .int (nI 1), .int z1, .int z2, .int z3, .int z4, .int z5, .int z6, .int z7]))] ++ pl) _ := hP
  have hD : va_D _ ([(h0, .inr (12, [.ref r0, .ref r1, .ref r2, .ref r3, .ref r4, .ref r5, .ref r6, .ref r7, .ref r8, .ref r9, .ref r10, .ref r11, .ref r12, .ref r13, .ref r14, .ref r15, .ref r16, .ref r17, .ref r18, .ref r19, .ref r20, .ref r21, .ref r22, .int (nI 1), .int z1, .int z2, .int z3, .int z4, .int z5, .int z6, .int z7]))] ++ pl) := hD
  refine lv_aload_n hx hb dMH_as_5 rfl (lv_at hl 0 rfl) ?_
  refine va_gets hx hb (hE.2.1 23 _ rfl).1 hS hown (hts _ (wg_t kw_1706)) (fun _ h9 => h9) dMH_as_6 ?_
  refine lv_aload_n hx hb dMH_as_9 rfl (lv_at hl 0 rfl) ?_
  refine va_get (D := g.1) (ci := 12) (C := "LatticeKeysModel$Hands") (T := T_MH) (N := 31) hx hb hts (wg_ft i_MH) hown hK hP 0 rfl rfl 23 (by decide) (hts _ (wg_t kw_1455)) (fun _ h9 => h9) rfl dMH_as_10 ?_
  refine va_ti (v := .int (nI 6)) hx hb (hE.2.1 23 _ rfl).2 hS (vp_in_nI (by decide) (by decide)) (by decide +kernel) dMH_as_13 ?_
  refine va_put (D := g.1) (ci := 12) (v := .int (nI 6)) (ty := .int) (C := "LatticeKeysModel$Hands") (T := T_MH) (N := 31) hx hb hts (wg_ft i_MH) ty_MH k_MH n_MH hown hK hP hD hS 0 rfl rfl 24 (by decide) (hts _ (wg_t kw_1456)) (fun _ h9 => h9) rfl (by decide +kernel) rfl rfl (Nat.le_of_ble_eq_true rfl) dMH_as_14 (fun H locs hP hD hS => ?_)
  have hP : va_P g.1 vcl ([(h0, .inr (12, [.ref r0, .ref r1, .ref r2, .ref r3, .ref r4, .ref r5, .ref r6, .ref r7, .ref r8, .ref r9, .ref r10, .ref r11, .ref r12, .ref r13, .ref r14, .ref r15, .ref r16, .ref r17, .ref r18, .ref r19, .ref r20, .ref r21, .ref r22, .int (nI 1), .int (nI 6), .int z2, .int z3, .int z4, .int z5, .int z6, .int z7]))] ++ pl) _ := hP
  have hD : va_D _ ([(h0, .inr (12, [.ref r0, .ref r1, .ref r2, .ref r3, .ref r4, .ref r5, .ref r6, .ref r7, .ref r8, .ref r9, .ref r10, .ref r11, .ref r12, .ref r13, .ref r14, .ref r15, .ref r16, .ref r17, .ref r18, .ref r19, .ref r20, .ref r21, .ref r22, .int (nI 1), .int (nI 6), .int z2, .int z3, .int z4, .int z5, .int z6, .int z7]))] ++ pl) := hD
  refine lv_aload_n hx hb dMH_as_17 rfl (lv_at hl 0 rfl) ?_
  refine va_gets hx hb (hE.2.1 24 _ rfl).1 hS hown (hts _ (wg_t kw_1708)) (fun _ h9 => h9) dMH_as_18 ?_
  refine lv_aload_n hx hb dMH_as_21 rfl (lv_at hl 0 rfl) ?_
  refine va_get (D := g.1) (ci := 12) (C := "LatticeKeysModel$Hands") (T := T_MH) (N := 31) hx hb hts (wg_ft i_MH) hown hK hP 0 rfl rfl 23 (by decide) (hts _ (wg_t kw_1455)) (fun _ h9 => h9) rfl dMH_as_22 ?_
  refine va_ti (v := .int (nI 5)) hx hb (hE.2.1 24 _ rfl).2 hS (vp_in_nI (by decide) (by decide)) (by decide +kernel) dMH_as_25 ?_
  refine va_put (D := g.1) (ci := 12) (v := .int (nI 5)) (ty := .int) (C := "LatticeKeysModel$Hands") (T := T_MH) (N := 31) hx hb hts (wg_ft i_MH) ty_MH k_MH n_MH hown hK hP hD hS 0 rfl rfl 25 (by decide) (hts _ (wg_t kw_1457)) (fun _ h9 => h9) rfl (by decide +kernel) rfl rfl (Nat.le_of_ble_eq_true rfl) dMH_as_26 (fun H locs hP hD hS => ?_)
  have hP : va_P g.1 vcl ([(h0, .inr (12, [.ref r0, .ref r1, .ref r2, .ref r3, .ref r4, .ref r5, .ref r6, .ref r7, .ref r8, .ref r9, .ref r10, .ref r11, .ref r12, .ref r13, .ref r14, .ref r15, .ref r16, .ref r17, .ref r18, .ref r19, .ref r20, .ref r21, .ref r22, .int (nI 1), .int (nI 6), .int (nI 5), .int z3, .int z4, .int z5, .int z6, .int z7]))] ++ pl) _ := hP
  have hD : va_D _ ([(h0, .inr (12, [.ref r0, .ref r1, .ref r2, .ref r3, .ref r4, .ref r5, .ref r6, .ref r7, .ref r8, .ref r9, .ref r10, .ref r11, .ref r12, .ref r13, .ref r14, .ref r15, .ref r16, .ref r17, .ref r18, .ref r19, .ref r20, .ref r21, .ref r22, .int (nI 1), .int (nI 6), .int (nI 5), .int z3, .int z4, .int z5, .int z6, .int z7]))] ++ pl) := hD
  refine lv_aload_n hx hb dMH_as_29 rfl (lv_at hl 0 rfl) ?_
  refine va_gets hx hb (hE.2.1 25 _ rfl).1 hS hown (hts _ (wg_t kw_1710)) (fun _ h9 => h9) dMH_as_30 ?_
  refine lv_aload_n hx hb dMH_as_33 rfl (lv_at hl 0 rfl) ?_
  refine va_get (D := g.1) (ci := 12) (C := "LatticeKeysModel$Hands") (T := T_MH) (N := 31) hx hb hts (wg_ft i_MH) hown hK hP 0 rfl rfl 23 (by decide) (hts _ (wg_t kw_1455)) (fun _ h9 => h9) rfl dMH_as_34 ?_
  refine va_ti (v := .int (nI 4)) hx hb (hE.2.1 25 _ rfl).2 hS (vp_in_nI (by decide) (by decide)) (by decide +kernel) dMH_as_37 ?_
  refine va_put (D := g.1) (ci := 12) (v := .int (nI 4)) (ty := .int) (C := "LatticeKeysModel$Hands") (T := T_MH) (N := 31) hx hb hts (wg_ft i_MH) ty_MH k_MH n_MH hown hK hP hD hS 0 rfl rfl 26 (by decide) (hts _ (wg_t kw_1458)) (fun _ h9 => h9) rfl (by decide +kernel) rfl rfl (Nat.le_of_ble_eq_true rfl) dMH_as_38 (fun H locs hP hD hS => ?_)
  have hP : va_P g.1 vcl ([(h0, .inr (12, [.ref r0, .ref r1, .ref r2, .ref r3, .ref r4, .ref r5, .ref r6, .ref r7, .ref r8, .ref r9, .ref r10, .ref r11, .ref r12, .ref r13, .ref r14, .ref r15, .ref r16, .ref r17, .ref r18, .ref r19, .ref r20, .ref r21, .ref r22, .int (nI 1), .int (nI 6), .int (nI 5), .int (nI 4), .int z4, .int z5, .int z6, .int z7]))] ++ pl) _ := hP
  have hD : va_D _ ([(h0, .inr (12, [.ref r0, .ref r1, .ref r2, .ref r3, .ref r4, .ref r5, .ref r6, .ref r7, .ref r8, .ref r9, .ref r10, .ref r11, .ref r12, .ref r13, .ref r14, .ref r15, .ref r16, .ref r17, .ref r18, .ref r19, .ref r20, .ref r21, .ref r22, .int (nI 1), .int (nI 6), .int (nI 5), .int (nI 4), .int z4, .int z5, .int z6, .int z7]))] ++ pl) := hD
  refine lv_aload_n hx hb dMH_as_41 rfl (lv_at hl 0 rfl) ?_
  refine lv_aload_n hx hb dMH_as_42 rfl (lv_at hl 0 rfl) ?_
  refine va_get (D := g.1) (ci := 12) (C := "LatticeKeysModel$Hands") (T := T_MH) (N := 31) hx hb hts (wg_ft i_MH) hown hK hP 0 rfl rfl 23 (by decide) (hts _ (wg_t kw_1455)) (fun _ h9 => h9) rfl dMH_as_43 ?_
  refine lv_if_ne (tgt := 54) hx hb dMH_as_46 (by decide) (fun h21 => ?_) (fun h21 => absurd h21 (by decide))
  refine lv_ldc (v := 524288) hx hb hown (hts _ (wg_t kw_1713)) dMH_as_54 ?_
  refine mi_as (show (524288 : Int32) = nI 524288 by decide) ?_
  refine va_put (D := g.1) (ci := 12) (v := .int (nI 524288)) (ty := .int) (C := "LatticeKeysModel$Hands") (T := T_MH) (N := 31) hx hb hts (wg_ft i_MH) ty_MH k_MH n_MH hown hK hP hD hS 0 rfl rfl 27 (by decide) (hts _ (wg_t kw_1459)) (fun _ h9 => h9) rfl (by decide +kernel) rfl rfl (Nat.le_of_ble_eq_true rfl) dMH_as_56 (fun H locs hP hD hS => ?_)
  have hP : va_P g.1 vcl ([(h0, .inr (12, [.ref r0, .ref r1, .ref r2, .ref r3, .ref r4, .ref r5, .ref r6, .ref r7, .ref r8, .ref r9, .ref r10, .ref r11, .ref r12, .ref r13, .ref r14, .ref r15, .ref r16, .ref r17, .ref r18, .ref r19, .ref r20, .ref r21, .ref r22, .int (nI 1), .int (nI 6), .int (nI 5), .int (nI 4), .int (nI 524288), .int z5, .int z6, .int z7]))] ++ pl) _ := hP
  have hD : va_D _ ([(h0, .inr (12, [.ref r0, .ref r1, .ref r2, .ref r3, .ref r4, .ref r5, .ref r6, .ref r7, .ref r8, .ref r9, .ref r10, .ref r11, .ref r12, .ref r13, .ref r14, .ref r15, .ref r16, .ref r17, .ref r18, .ref r19, .ref r20, .ref r21, .ref r22, .int (nI 1), .int (nI 6), .int (nI 5), .int (nI 4), .int (nI 524288), .int z5, .int z6, .int z7]))] ++ pl) := hD
  refine lv_aload_n hx hb dMH_as_59 rfl (lv_at hl 0 rfl) ?_
  refine lv_aload_n hx hb dMH_as_60 rfl (lv_at hl 0 rfl) ?_
  refine va_get (D := g.1) (ci := 12) (C := "LatticeKeysModel$Hands") (T := T_MH) (N := 31) hx hb hts (wg_ft i_MH) hown hK hP 0 rfl rfl 23 (by decide) (hts _ (wg_t kw_1455)) (fun _ h9 => h9) rfl dMH_as_61 ?_
  refine lv_if_ne (tgt := 72) hx hb dMH_as_64 (by decide) (fun h22 => ?_) (fun h22 => absurd h22 (by decide))
  refine lv_ldc (v := 261888) hx hb hown (hts _ (wg_t kw_1715)) dMH_as_72 ?_
  refine mi_as (show (261888 : Int32) = nI 261888 by decide) ?_
  refine va_put (D := g.1) (ci := 12) (v := .int (nI 261888)) (ty := .int) (C := "LatticeKeysModel$Hands") (T := T_MH) (N := 31) hx hb hts (wg_ft i_MH) ty_MH k_MH n_MH hown hK hP hD hS 0 rfl rfl 28 (by decide) (hts _ (wg_t kw_1460)) (fun _ h9 => h9) rfl (by decide +kernel) rfl rfl (Nat.le_of_ble_eq_true rfl) dMH_as_74 (fun H locs hP hD hS => ?_)
  have hP : va_P g.1 vcl ([(h0, .inr (12, [.ref r0, .ref r1, .ref r2, .ref r3, .ref r4, .ref r5, .ref r6, .ref r7, .ref r8, .ref r9, .ref r10, .ref r11, .ref r12, .ref r13, .ref r14, .ref r15, .ref r16, .ref r17, .ref r18, .ref r19, .ref r20, .ref r21, .ref r22, .int (nI 1), .int (nI 6), .int (nI 5), .int (nI 4), .int (nI 524288), .int (nI 261888), .int z6, .int z7]))] ++ pl) _ := hP
  have hD : va_D _ ([(h0, .inr (12, [.ref r0, .ref r1, .ref r2, .ref r3, .ref r4, .ref r5, .ref r6, .ref r7, .ref r8, .ref r9, .ref r10, .ref r11, .ref r12, .ref r13, .ref r14, .ref r15, .ref r16, .ref r17, .ref r18, .ref r19, .ref r20, .ref r21, .ref r22, .int (nI 1), .int (nI 6), .int (nI 5), .int (nI 4), .int (nI 524288), .int (nI 261888), .int z6, .int z7]))] ++ pl) := hD
  refine lv_aload_n hx hb dMH_as_77 rfl (lv_at hl 0 rfl) ?_
  refine lv_aload_n hx hb dMH_as_78 rfl (lv_at hl 0 rfl) ?_
  refine va_get (D := g.1) (ci := 12) (C := "LatticeKeysModel$Hands") (T := T_MH) (N := 31) hx hb hts (wg_ft i_MH) hown hK hP 0 rfl rfl 26 (by decide) (hts _ (wg_t kw_1458)) (fun _ h9 => h9) rfl dMH_as_79 ?_
  refine va_gets hx hb (hE.2.1 26 _ rfl).1 hS hown (hts _ (wg_t kw_1716)) (fun _ h9 => h9) dMH_as_82 ?_
  refine lv_aload_n hx hb dMH_as_85 rfl (lv_at hl 0 rfl) ?_
  refine va_get (D := g.1) (ci := 12) (C := "LatticeKeysModel$Hands") (T := T_MH) (N := 31) hx hb hts (wg_ft i_MH) hown hK hP 0 rfl rfl 23 (by decide) (hts _ (wg_t kw_1455)) (fun _ h9 => h9) rfl dMH_as_86 ?_
  refine va_ti (v := .int (nI 49)) hx hb (hE.2.1 26 _ rfl).2 hS (vp_in_nI (by decide) (by decide)) (by decide +kernel) dMH_as_89 ?_
  refine mi_imul hx hb dMH_as_90 ?_
  refine mi_as (show nI (4 * 49) = nI 196 from rfl) ?_
  refine va_put (D := g.1) (ci := 12) (v := .int (nI 196)) (ty := .int) (C := "LatticeKeysModel$Hands") (T := T_MH) (N := 31) hx hb hts (wg_ft i_MH) ty_MH k_MH n_MH hown hK hP hD hS 0 rfl rfl 29 (by decide) (hts _ (wg_t kw_1461)) (fun _ h9 => h9) rfl (by decide +kernel) rfl rfl (Nat.le_of_ble_eq_true rfl) dMH_as_91 (fun H locs hP hD hS => ?_)
  have hP : va_P g.1 vcl ([(h0, .inr (12, [.ref r0, .ref r1, .ref r2, .ref r3, .ref r4, .ref r5, .ref r6, .ref r7, .ref r8, .ref r9, .ref r10, .ref r11, .ref r12, .ref r13, .ref r14, .ref r15, .ref r16, .ref r17, .ref r18, .ref r19, .ref r20, .ref r21, .ref r22, .int (nI 1), .int (nI 6), .int (nI 5), .int (nI 4), .int (nI 524288), .int (nI 261888), .int (nI 196), .int z7]))] ++ pl) _ := hP
  have hD : va_D _ ([(h0, .inr (12, [.ref r0, .ref r1, .ref r2, .ref r3, .ref r4, .ref r5, .ref r6, .ref r7, .ref r8, .ref r9, .ref r10, .ref r11, .ref r12, .ref r13, .ref r14, .ref r15, .ref r16, .ref r17, .ref r18, .ref r19, .ref r20, .ref r21, .ref r22, .int (nI 1), .int (nI 6), .int (nI 5), .int (nI 4), .int (nI 524288), .int (nI 261888), .int (nI 196), .int z7]))] ++ pl) := hD
  refine lv_aload_n hx hb dMH_as_94 rfl (lv_at hl 0 rfl) ?_
  refine lv_bipush (v := nI 32) hx hb dMH_as_95 (by decide) ?_
  refine lv_bipush (v := nI 16) hx hb dMH_as_97 (by decide) ?_
  refine lv_aload_n hx hb dMH_as_99 rfl (lv_at hl 0 rfl) ?_
  refine va_get (D := g.1) (ci := 12) (C := "LatticeKeysModel$Hands") (T := T_MH) (N := 31) hx hb hts (wg_ft i_MH) hown hK hP 0 rfl rfl 23 (by decide) (hts _ (wg_t kw_1455)) (fun _ h9 => h9) rfl dMH_as_100 ?_
  refine mi_imul hx hb dMH_as_103 ?_
  refine mi_as (show nI (16 * 1) = nI 16 from rfl) ?_
  refine mi_iadd hx hb dMH_as_104 ?_
  refine mi_as (show nI (32 + 16) = nI 48 from rfl) ?_
  refine va_put (D := g.1) (ci := 12) (v := .int (nI 48)) (ty := .int) (C := "LatticeKeysModel$Hands") (T := T_MH) (N := 31) hx hb hts (wg_ft i_MH) ty_MH k_MH n_MH hown hK hP hD hS 0 rfl rfl 30 (by decide) (hts _ (wg_t kw_1462)) (fun _ h9 => h9) rfl (by decide +kernel) rfl rfl (Nat.le_of_ble_eq_true rfl) dMH_as_105 (fun H locs hP hD hS => ?_)
  have hP : va_P g.1 vcl ([(h0, .inr (12, [.ref r0, .ref r1, .ref r2, .ref r3, .ref r4, .ref r5, .ref r6, .ref r7, .ref r8, .ref r9, .ref r10, .ref r11, .ref r12, .ref r13, .ref r14, .ref r15, .ref r16, .ref r17, .ref r18, .ref r19, .ref r20, .ref r21, .ref r22, .int (nI 1), .int (nI 6), .int (nI 5), .int (nI 4), .int (nI 524288), .int (nI 261888), .int (nI 196), .int (nI 48)]))] ++ pl) _ := hP
  have hD : va_D _ ([(h0, .inr (12, [.ref r0, .ref r1, .ref r2, .ref r3, .ref r4, .ref r5, .ref r6, .ref r7, .ref r8, .ref r9, .ref r10, .ref r11, .ref r12, .ref r13, .ref r14, .ref r15, .ref r16, .ref r17, .ref r18, .ref r19, .ref r20, .ref r21, .ref r22, .int (nI 1), .int (nI 6), .int (nI 5), .int (nI 4), .int (nI 524288), .int (nI 261888), .int (nI 196), .int (nI 48)]))] ++ pl) := hD
  exact mp_vret hx hb hr hlk hP hD hS pl ⟨trivial, hO⟩ [0] rfl rfl rfl (by omega) (by omega) dMH_as_108
set_option maxHeartbeats 4000000 in
set_option maxRecDepth 100000 in
theorem t_MH_as_2 (l : Launch) (g : Gd) (sz : Nat) (T : Ty) (xs : List Nat) (pl : va_W) (hO : okx g T xs pl) (hU : uni T) (h0 r0 r1 r2 r3 r4 r5 r6 r7 r8 r9 r10 r11 r12 r13 r14 r15 r16 r17 r18 r19 r20 r21 r22 : Nat) (z0 z1 z2 z3 z4 z5 z6 z7 : Int32)  : Met l y_MH_as w_MH_as ({ frames := 0, cells := 0, slots := 0, locals := 0 } : Room) (va_Pc [.ref h0, .int (nI 2)] (pr (en g) g.1 vcl sz ([(h0, .inr (12, [.ref r0, .ref r1, .ref r2, .ref r3, .ref r4, .ref r5, .ref r6, .ref r7, .ref r8, .ref r9, .ref r10, .ref r11, .ref r12, .ref r13, .ref r14, .ref r15, .ref r16, .ref r17, .ref r18, .ref r19, .ref r20, .ref r21, .ref r22, .int z0, .int z1, .int z2, .int z3, .int z4, .int z5, .int z6, .int z7]))] ++ pl))) (va_Qv (fun (u : va_W) => (True) ∧ okx g T xs u) (po g.1 vcl (va_A ([(h0, .inr (12, [.ref r0, .ref r1, .ref r2, .ref r3, .ref r4, .ref r5, .ref r6, .ref r7, .ref r8, .ref r9, .ref r10, .ref r11, .ref r12, .ref r13, .ref r14, .ref r15, .ref r16, .ref r17, .ref r18, .ref r19, .ref r20, .ref r21, .ref r22, .int z0, .int z1, .int z2, .int z3, .int z4, .int z5, .int z6, .int z7]))] ++ pl) sz) (fun (u : va_W) => [(h0, .inr (12, [.ref r0, .ref r1, .ref r2, .ref r3, .ref r4, .ref r5, .ref r6, .ref r7, .ref r8, .ref r9, .ref r10, .ref r11, .ref r12, .ref r13, .ref r14, .ref r15, .ref r16, .ref r17, .ref r18, .ref r19, .ref r20, .ref r21, .ref r22, .int (nI 2), .int (nI 8), .int (nI 7), .int (nI 2), .int (nI 524288), .int (nI 261888), .int (nI 120), .int (nI 64)]))] ++ u)) (va_A ([(h0, .inr (12, [.ref r0, .ref r1, .ref r2, .ref r3, .ref r4, .ref r5, .ref r6, .ref r7, .ref r8, .ref r9, .ref r10, .ref r11, .ref r12, .ref r13, .ref r14, .ref r15, .ref r16, .ref r17, .ref r18, .ref r19, .ref r20, .ref r21, .ref r22, .int z0, .int z1, .int z2, .int z3, .int z4, .int z5, .int z6, .int z7]))] ++ pl) sz)) 0 0 (va_A ([(h0, .inr (12, [.ref r0, .ref r1, .ref r2, .ref r3, .ref r4, .ref r5, .ref r6, .ref r7, .ref r8, .ref r9, .ref r10, .ref r11, .ref r12, .ref r13, .ref r14, .ref r15, .ref r16, .ref r17, .ref r18, .ref r19, .ref r20, .ref r21, .ref r22, .int z0, .int z1, .int z2, .int z3, .int z4, .int z5, .int z6, .int z7]))] ++ pl) sz) := by
  refine mc_entry (cc := c_MH_as) (maxL := 2) (ret := none) (by decide) rfl (Nat.le_of_ble_eq_true rfl) ?_
  intro p e s m args below meth c ls F hr hlk hnm hsz hP hD hE hA hl
  obtain ⟨hx, hb, hml, hown, hts⟩ := id F
  have hK := hE.1
  generalize va_A ([(h0, .inr (12, [.ref r0, .ref r1, .ref r2, .ref r3, .ref r4, .ref r5, .ref r6, .ref r7, .ref r8, .ref r9, .ref r10, .ref r11, .ref r12, .ref r13, .ref r14, .ref r15, .ref r16, .ref r17, .ref r18, .ref r19, .ref r20, .ref r21, .ref r22, .int z0, .int z1, .int z2, .int z3, .int z4, .int z5, .int z6, .int z7]))] ++ pl) sz = A at hD hE hA ⊢
  have hS : va_S A s.heap s.heap [] := va_S.rf
  have hl : lv_has ls 2 [(0, .ref h0), (1, .int (nI 2))] := hl
  refine lv_aload_n hx hb dMH_as_0 rfl (lv_at hl 0 rfl) ?_
  refine lv_iload_n hx hb dMH_as_1 rfl (lv_at hl 1 rfl) ?_
  refine va_put (D := g.1) (ci := 12) (v := .int (nI 2)) (ty := .int) (C := "LatticeKeysModel$Hands") (T := T_MH) (N := 31) hx hb hts (wg_ft i_MH) ty_MH k_MH n_MH hown hK hP hD hS 0 rfl rfl 23 (by decide) (hts _ (wg_t kw_1455)) (fun _ h9 => h9) rfl (by decide +kernel) rfl rfl (Nat.le_of_ble_eq_true rfl) dMH_as_2 (fun H locs hP hD hS => ?_)
  have hP : va_P g.1 vcl ([(h0, .inr (12, [.ref r0, .ref r1, .ref r2, .ref r3, .ref r4, .ref r5, .ref r6, .ref r7, .ref r8, .ref r9, .ref r10, .ref r11, .ref r12, .ref r13, .ref r14, .ref r15, .ref r16, .ref r17, .ref r18, .ref r19, .ref r20, .ref r21, .ref r22, .int (nI 2), .int z1, .int z2, .int z3, .int z4, .int z5, .int z6, .int z7]))] ++ pl) _ := hP
  have hD : va_D _ ([(h0, .inr (12, [.ref r0, .ref r1, .ref r2, .ref r3, .ref r4, .ref r5, .ref r6, .ref r7, .ref r8, .ref r9, .ref r10, .ref r11, .ref r12, .ref r13, .ref r14, .ref r15, .ref r16, .ref r17, .ref r18, .ref r19, .ref r20, .ref r21, .ref r22, .int (nI 2), .int z1, .int z2, .int z3, .int z4, .int z5, .int z6, .int z7]))] ++ pl) := hD
  refine lv_aload_n hx hb dMH_as_5 rfl (lv_at hl 0 rfl) ?_
  refine va_gets hx hb (hE.2.1 23 _ rfl).1 hS hown (hts _ (wg_t kw_1706)) (fun _ h9 => h9) dMH_as_6 ?_
  refine lv_aload_n hx hb dMH_as_9 rfl (lv_at hl 0 rfl) ?_
  refine va_get (D := g.1) (ci := 12) (C := "LatticeKeysModel$Hands") (T := T_MH) (N := 31) hx hb hts (wg_ft i_MH) hown hK hP 0 rfl rfl 23 (by decide) (hts _ (wg_t kw_1455)) (fun _ h9 => h9) rfl dMH_as_10 ?_
  refine va_ti (v := .int (nI 8)) hx hb (hE.2.1 23 _ rfl).2 hS (vp_in_nI (by decide) (by decide)) (by decide +kernel) dMH_as_13 ?_
  refine va_put (D := g.1) (ci := 12) (v := .int (nI 8)) (ty := .int) (C := "LatticeKeysModel$Hands") (T := T_MH) (N := 31) hx hb hts (wg_ft i_MH) ty_MH k_MH n_MH hown hK hP hD hS 0 rfl rfl 24 (by decide) (hts _ (wg_t kw_1456)) (fun _ h9 => h9) rfl (by decide +kernel) rfl rfl (Nat.le_of_ble_eq_true rfl) dMH_as_14 (fun H locs hP hD hS => ?_)
  have hP : va_P g.1 vcl ([(h0, .inr (12, [.ref r0, .ref r1, .ref r2, .ref r3, .ref r4, .ref r5, .ref r6, .ref r7, .ref r8, .ref r9, .ref r10, .ref r11, .ref r12, .ref r13, .ref r14, .ref r15, .ref r16, .ref r17, .ref r18, .ref r19, .ref r20, .ref r21, .ref r22, .int (nI 2), .int (nI 8), .int z2, .int z3, .int z4, .int z5, .int z6, .int z7]))] ++ pl) _ := hP
  have hD : va_D _ ([(h0, .inr (12, [.ref r0, .ref r1, .ref r2, .ref r3, .ref r4, .ref r5, .ref r6, .ref r7, .ref r8, .ref r9, .ref r10, .ref r11, .ref r12, .ref r13, .ref r14, .ref r15, .ref r16, .ref r17, .ref r18, .ref r19, .ref r20, .ref r21, .ref r22, .int (nI 2), .int (nI 8), .int z2, .int z3, .int z4, .int z5, .int z6, .int z7]))] ++ pl) := hD
  refine lv_aload_n hx hb dMH_as_17 rfl (lv_at hl 0 rfl) ?_
  refine va_gets hx hb (hE.2.1 24 _ rfl).1 hS hown (hts _ (wg_t kw_1708)) (fun _ h9 => h9) dMH_as_18 ?_
  refine lv_aload_n hx hb dMH_as_21 rfl (lv_at hl 0 rfl) ?_
  refine va_get (D := g.1) (ci := 12) (C := "LatticeKeysModel$Hands") (T := T_MH) (N := 31) hx hb hts (wg_ft i_MH) hown hK hP 0 rfl rfl 23 (by decide) (hts _ (wg_t kw_1455)) (fun _ h9 => h9) rfl dMH_as_22 ?_
  refine va_ti (v := .int (nI 7)) hx hb (hE.2.1 24 _ rfl).2 hS (vp_in_nI (by decide) (by decide)) (by decide +kernel) dMH_as_25 ?_
  refine va_put (D := g.1) (ci := 12) (v := .int (nI 7)) (ty := .int) (C := "LatticeKeysModel$Hands") (T := T_MH) (N := 31) hx hb hts (wg_ft i_MH) ty_MH k_MH n_MH hown hK hP hD hS 0 rfl rfl 25 (by decide) (hts _ (wg_t kw_1457)) (fun _ h9 => h9) rfl (by decide +kernel) rfl rfl (Nat.le_of_ble_eq_true rfl) dMH_as_26 (fun H locs hP hD hS => ?_)
  have hP : va_P g.1 vcl ([(h0, .inr (12, [.ref r0, .ref r1, .ref r2, .ref r3, .ref r4, .ref r5, .ref r6, .ref r7, .ref r8, .ref r9, .ref r10, .ref r11, .ref r12, .ref r13, .ref r14, .ref r15, .ref r16, .ref r17, .ref r18, .ref r19, .ref r20, .ref r21, .ref r22, .int (nI 2), .int (nI 8), .int (nI 7), .int z3, .int z4, .int z5, .int z6, .int z7]))] ++ pl) _ := hP
  have hD : va_D _ ([(h0, .inr (12, [.ref r0, .ref r1, .ref r2, .ref r3, .ref r4, .ref r5, .ref r6, .ref r7, .ref r8, .ref r9, .ref r10, .ref r11, .ref r12, .ref r13, .ref r14, .ref r15, .ref r16, .ref r17, .ref r18, .ref r19, .ref r20, .ref r21, .ref r22, .int (nI 2), .int (nI 8), .int (nI 7), .int z3, .int z4, .int z5, .int z6, .int z7]))] ++ pl) := hD
  refine lv_aload_n hx hb dMH_as_29 rfl (lv_at hl 0 rfl) ?_
  refine va_gets hx hb (hE.2.1 25 _ rfl).1 hS hown (hts _ (wg_t kw_1710)) (fun _ h9 => h9) dMH_as_30 ?_
  refine lv_aload_n hx hb dMH_as_33 rfl (lv_at hl 0 rfl) ?_
  refine va_get (D := g.1) (ci := 12) (C := "LatticeKeysModel$Hands") (T := T_MH) (N := 31) hx hb hts (wg_ft i_MH) hown hK hP 0 rfl rfl 23 (by decide) (hts _ (wg_t kw_1455)) (fun _ h9 => h9) rfl dMH_as_34 ?_
  refine va_ti (v := .int (nI 2)) hx hb (hE.2.1 25 _ rfl).2 hS (vp_in_nI (by decide) (by decide)) (by decide +kernel) dMH_as_37 ?_
  refine va_put (D := g.1) (ci := 12) (v := .int (nI 2)) (ty := .int) (C := "LatticeKeysModel$Hands") (T := T_MH) (N := 31) hx hb hts (wg_ft i_MH) ty_MH k_MH n_MH hown hK hP hD hS 0 rfl rfl 26 (by decide) (hts _ (wg_t kw_1458)) (fun _ h9 => h9) rfl (by decide +kernel) rfl rfl (Nat.le_of_ble_eq_true rfl) dMH_as_38 (fun H locs hP hD hS => ?_)
  have hP : va_P g.1 vcl ([(h0, .inr (12, [.ref r0, .ref r1, .ref r2, .ref r3, .ref r4, .ref r5, .ref r6, .ref r7, .ref r8, .ref r9, .ref r10, .ref r11, .ref r12, .ref r13, .ref r14, .ref r15, .ref r16, .ref r17, .ref r18, .ref r19, .ref r20, .ref r21, .ref r22, .int (nI 2), .int (nI 8), .int (nI 7), .int (nI 2), .int z4, .int z5, .int z6, .int z7]))] ++ pl) _ := hP
  have hD : va_D _ ([(h0, .inr (12, [.ref r0, .ref r1, .ref r2, .ref r3, .ref r4, .ref r5, .ref r6, .ref r7, .ref r8, .ref r9, .ref r10, .ref r11, .ref r12, .ref r13, .ref r14, .ref r15, .ref r16, .ref r17, .ref r18, .ref r19, .ref r20, .ref r21, .ref r22, .int (nI 2), .int (nI 8), .int (nI 7), .int (nI 2), .int z4, .int z5, .int z6, .int z7]))] ++ pl) := hD
  refine lv_aload_n hx hb dMH_as_41 rfl (lv_at hl 0 rfl) ?_
  refine lv_aload_n hx hb dMH_as_42 rfl (lv_at hl 0 rfl) ?_
  refine va_get (D := g.1) (ci := 12) (C := "LatticeKeysModel$Hands") (T := T_MH) (N := 31) hx hb hts (wg_ft i_MH) hown hK hP 0 rfl rfl 23 (by decide) (hts _ (wg_t kw_1455)) (fun _ h9 => h9) rfl dMH_as_43 ?_
  refine lv_if_ne (tgt := 54) hx hb dMH_as_46 (by decide) (fun h21 => ?_) (fun h21 => absurd h21 (by decide))
  refine lv_ldc (v := 524288) hx hb hown (hts _ (wg_t kw_1713)) dMH_as_54 ?_
  refine mi_as (show (524288 : Int32) = nI 524288 by decide) ?_
  refine va_put (D := g.1) (ci := 12) (v := .int (nI 524288)) (ty := .int) (C := "LatticeKeysModel$Hands") (T := T_MH) (N := 31) hx hb hts (wg_ft i_MH) ty_MH k_MH n_MH hown hK hP hD hS 0 rfl rfl 27 (by decide) (hts _ (wg_t kw_1459)) (fun _ h9 => h9) rfl (by decide +kernel) rfl rfl (Nat.le_of_ble_eq_true rfl) dMH_as_56 (fun H locs hP hD hS => ?_)
  have hP : va_P g.1 vcl ([(h0, .inr (12, [.ref r0, .ref r1, .ref r2, .ref r3, .ref r4, .ref r5, .ref r6, .ref r7, .ref r8, .ref r9, .ref r10, .ref r11, .ref r12, .ref r13, .ref r14, .ref r15, .ref r16, .ref r17, .ref r18, .ref r19, .ref r20, .ref r21, .ref r22, .int (nI 2), .int (nI 8), .int (nI 7), .int (nI 2), .int (nI 524288), .int z5, .int z6, .int z7]))] ++ pl) _ := hP
  have hD : va_D _ ([(h0, .inr (12, [.ref r0, .ref r1, .ref r2, .ref r3, .ref r4, .ref r5, .ref r6, .ref r7, .ref r8, .ref r9, .ref r10, .ref r11, .ref r12, .ref r13, .ref r14, .ref r15, .ref r16, .ref r17, .ref r18, .ref r19, .ref r20, .ref r21, .ref r22, .int (nI 2), .int (nI 8), .int (nI 7), .int (nI 2), .int (nI 524288), .int z5, .int z6, .int z7]))] ++ pl) := hD
  refine lv_aload_n hx hb dMH_as_59 rfl (lv_at hl 0 rfl) ?_
  refine lv_aload_n hx hb dMH_as_60 rfl (lv_at hl 0 rfl) ?_
  refine va_get (D := g.1) (ci := 12) (C := "LatticeKeysModel$Hands") (T := T_MH) (N := 31) hx hb hts (wg_ft i_MH) hown hK hP 0 rfl rfl 23 (by decide) (hts _ (wg_t kw_1455)) (fun _ h9 => h9) rfl dMH_as_61 ?_
  refine lv_if_ne (tgt := 72) hx hb dMH_as_64 (by decide) (fun h22 => ?_) (fun h22 => absurd h22 (by decide))
  refine lv_ldc (v := 261888) hx hb hown (hts _ (wg_t kw_1715)) dMH_as_72 ?_
  refine mi_as (show (261888 : Int32) = nI 261888 by decide) ?_
  refine va_put (D := g.1) (ci := 12) (v := .int (nI 261888)) (ty := .int) (C := "LatticeKeysModel$Hands") (T := T_MH) (N := 31) hx hb hts (wg_ft i_MH) ty_MH k_MH n_MH hown hK hP hD hS 0 rfl rfl 28 (by decide) (hts _ (wg_t kw_1460)) (fun _ h9 => h9) rfl (by decide +kernel) rfl rfl (Nat.le_of_ble_eq_true rfl) dMH_as_74 (fun H locs hP hD hS => ?_)
  have hP : va_P g.1 vcl ([(h0, .inr (12, [.ref r0, .ref r1, .ref r2, .ref r3, .ref r4, .ref r5, .ref r6, .ref r7, .ref r8, .ref r9, .ref r10, .ref r11, .ref r12, .ref r13, .ref r14, .ref r15, .ref r16, .ref r17, .ref r18, .ref r19, .ref r20, .ref r21, .ref r22, .int (nI 2), .int (nI 8), .int (nI 7), .int (nI 2), .int (nI 524288), .int (nI 261888), .int z6, .int z7]))] ++ pl) _ := hP
  have hD : va_D _ ([(h0, .inr (12, [.ref r0, .ref r1, .ref r2, .ref r3, .ref r4, .ref r5, .ref r6, .ref r7, .ref r8, .ref r9, .ref r10, .ref r11, .ref r12, .ref r13, .ref r14, .ref r15, .ref r16, .ref r17, .ref r18, .ref r19, .ref r20, .ref r21, .ref r22, .int (nI 2), .int (nI 8), .int (nI 7), .int (nI 2), .int (nI 524288), .int (nI 261888), .int z6, .int z7]))] ++ pl) := hD
  refine lv_aload_n hx hb dMH_as_77 rfl (lv_at hl 0 rfl) ?_
  refine lv_aload_n hx hb dMH_as_78 rfl (lv_at hl 0 rfl) ?_
  refine va_get (D := g.1) (ci := 12) (C := "LatticeKeysModel$Hands") (T := T_MH) (N := 31) hx hb hts (wg_ft i_MH) hown hK hP 0 rfl rfl 26 (by decide) (hts _ (wg_t kw_1458)) (fun _ h9 => h9) rfl dMH_as_79 ?_
  refine va_gets hx hb (hE.2.1 26 _ rfl).1 hS hown (hts _ (wg_t kw_1716)) (fun _ h9 => h9) dMH_as_82 ?_
  refine lv_aload_n hx hb dMH_as_85 rfl (lv_at hl 0 rfl) ?_
  refine va_get (D := g.1) (ci := 12) (C := "LatticeKeysModel$Hands") (T := T_MH) (N := 31) hx hb hts (wg_ft i_MH) hown hK hP 0 rfl rfl 23 (by decide) (hts _ (wg_t kw_1455)) (fun _ h9 => h9) rfl dMH_as_86 ?_
  refine va_ti (v := .int (nI 60)) hx hb (hE.2.1 26 _ rfl).2 hS (vp_in_nI (by decide) (by decide)) (by decide +kernel) dMH_as_89 ?_
  refine mi_imul hx hb dMH_as_90 ?_
  refine mi_as (show nI (2 * 60) = nI 120 from rfl) ?_
  refine va_put (D := g.1) (ci := 12) (v := .int (nI 120)) (ty := .int) (C := "LatticeKeysModel$Hands") (T := T_MH) (N := 31) hx hb hts (wg_ft i_MH) ty_MH k_MH n_MH hown hK hP hD hS 0 rfl rfl 29 (by decide) (hts _ (wg_t kw_1461)) (fun _ h9 => h9) rfl (by decide +kernel) rfl rfl (Nat.le_of_ble_eq_true rfl) dMH_as_91 (fun H locs hP hD hS => ?_)
  have hP : va_P g.1 vcl ([(h0, .inr (12, [.ref r0, .ref r1, .ref r2, .ref r3, .ref r4, .ref r5, .ref r6, .ref r7, .ref r8, .ref r9, .ref r10, .ref r11, .ref r12, .ref r13, .ref r14, .ref r15, .ref r16, .ref r17, .ref r18, .ref r19, .ref r20, .ref r21, .ref r22, .int (nI 2), .int (nI 8), .int (nI 7), .int (nI 2), .int (nI 524288), .int (nI 261888), .int (nI 120), .int z7]))] ++ pl) _ := hP
  have hD : va_D _ ([(h0, .inr (12, [.ref r0, .ref r1, .ref r2, .ref r3, .ref r4, .ref r5, .ref r6, .ref r7, .ref r8, .ref r9, .ref r10, .ref r11, .ref r12, .ref r13, .ref r14, .ref r15, .ref r16, .ref r17, .ref r18, .ref r19, .ref r20, .ref r21, .ref r22, .int (nI 2), .int (nI 8), .int (nI 7), .int (nI 2), .int (nI 524288), .int (nI 261888), .int (nI 120), .int z7]))] ++ pl) := hD
  refine lv_aload_n hx hb dMH_as_94 rfl (lv_at hl 0 rfl) ?_
  refine lv_bipush (v := nI 32) hx hb dMH_as_95 (by decide) ?_
  refine lv_bipush (v := nI 16) hx hb dMH_as_97 (by decide) ?_
  refine lv_aload_n hx hb dMH_as_99 rfl (lv_at hl 0 rfl) ?_
  refine va_get (D := g.1) (ci := 12) (C := "LatticeKeysModel$Hands") (T := T_MH) (N := 31) hx hb hts (wg_ft i_MH) hown hK hP 0 rfl rfl 23 (by decide) (hts _ (wg_t kw_1455)) (fun _ h9 => h9) rfl dMH_as_100 ?_
  refine mi_imul hx hb dMH_as_103 ?_
  refine mi_as (show nI (16 * 2) = nI 32 from rfl) ?_
  refine mi_iadd hx hb dMH_as_104 ?_
  refine mi_as (show nI (32 + 32) = nI 64 from rfl) ?_
  refine va_put (D := g.1) (ci := 12) (v := .int (nI 64)) (ty := .int) (C := "LatticeKeysModel$Hands") (T := T_MH) (N := 31) hx hb hts (wg_ft i_MH) ty_MH k_MH n_MH hown hK hP hD hS 0 rfl rfl 30 (by decide) (hts _ (wg_t kw_1462)) (fun _ h9 => h9) rfl (by decide +kernel) rfl rfl (Nat.le_of_ble_eq_true rfl) dMH_as_105 (fun H locs hP hD hS => ?_)
  have hP : va_P g.1 vcl ([(h0, .inr (12, [.ref r0, .ref r1, .ref r2, .ref r3, .ref r4, .ref r5, .ref r6, .ref r7, .ref r8, .ref r9, .ref r10, .ref r11, .ref r12, .ref r13, .ref r14, .ref r15, .ref r16, .ref r17, .ref r18, .ref r19, .ref r20, .ref r21, .ref r22, .int (nI 2), .int (nI 8), .int (nI 7), .int (nI 2), .int (nI 524288), .int (nI 261888), .int (nI 120), .int (nI 64)]))] ++ pl) _ := hP
  have hD : va_D _ ([(h0, .inr (12, [.ref r0, .ref r1, .ref r2, .ref r3, .ref r4, .ref r5, .ref r6, .ref r7, .ref r8, .ref r9, .ref r10, .ref r11, .ref r12, .ref r13, .ref r14, .ref r15, .ref r16, .ref r17, .ref r18, .ref r19, .ref r20, .ref r21, .ref r22, .int (nI 2), .int (nI 8), .int (nI 7), .int (nI 2), .int (nI 524288), .int (nI 261888), .int (nI 120), .int (nI 64)]))] ++ pl) := hD
  exact mp_vret hx hb hr hlk hP hD hS pl ⟨trivial, hO⟩ [0] rfl rfl rfl (by omega) (by omega) dMH_as_108
set_option maxHeartbeats 4000000 in
set_option maxRecDepth 100000 in
theorem t_MH_keys_0 (l : Launch) (g : Gd) (sz : Nat) (T0 : Ty) (pl : va_W) (hO : okx g T0 [] pl) (hU : uni T0) (h0 b pk sk n : Nat) (k_h0 : T0 h0 = some (49, 0)) (k_b : T0 b = some (1, n)) (k_pk : T0 pk = some (1, 2592)) (k_sk : T0 sk = some (1, 4896)) (h1 : 32 ≤ n) (h2 : n < 65536)  : Met l y_MH_keys w_MH_keys ({ frames := 4, cells := 0, slots := 0, locals := 98 } : Room) (va_Pc [.ref h0, .int (nI 0), .ref b, .ref pk, .ref sk] (pr (en g) g.1 vcl sz ([] ++ pl))) (va_Qv (fun (u : va_W) => (True) ∧ okx g T0 [] u) (po g.1 vcl (va_A ([] ++ pl) sz) (fun (u : va_W) => [] ++ u)) (va_A ([] ++ pl) sz)) 0 0 (va_A ([] ++ pl) sz) := by
  refine mc_entry (cc := c_MH_keys) (maxL := 10) (ret := none) (by decide) rfl (Nat.le_of_ble_eq_true rfl) ?_
  intro p e s m args below meth c ls F hr hlk hnm hsz hP hD hE hA hl
  obtain ⟨hx, hb, hml, hown, hts⟩ := id F
  have hK := hE.1
  generalize va_A ([] ++ pl) sz = A at hD hE hA ⊢
  have hS : va_S A s.heap s.heap [] := va_S.rf
  have hl : lv_has ls 10 [(0, .ref h0), (1, .int (nI 0)), (2, .ref b), (3, .ref pk), (4, .ref sk)] := hl
  refine lv_aload_n hx hb dMH_keys_0 rfl (lv_at hl 0 rfl) ?_
  refine lv_iload_n hx hb dMH_keys_1 rfl (lv_at hl 1 rfl) ?_
  obtain ⟨e21, pl, hP, hD, hk21, hO⟩ := open1 hP hD hO k_h0 (nxg clo_nil k_h0 (p := 11) rfl)
  obtain ⟨fs21, rfl, hf21⟩ := hk21
  obtain ⟨v21, vs21, rfl, hv21, hf22⟩ := fall_cons hf21
  obtain ⟨r21, rfl, kr21⟩ := (show ∃ r : Nat, v21 = .ref r ∧ T0 r = some (20, 0) from hv21)
  obtain ⟨v22, vs22, rfl, hv22, hf23⟩ := fall_cons hf22
  obtain ⟨r22, rfl, kr22⟩ := (show ∃ r : Nat, v22 = .ref r ∧ T0 r = some (22, 0) from hv22)
  obtain ⟨v23, vs23, rfl, hv23, hf24⟩ := fall_cons hf23
  obtain ⟨r23, rfl, kr23⟩ := (show ∃ r : Nat, v23 = .ref r ∧ T0 r = some (3, 64) from hv23)
  obtain ⟨v24, vs24, rfl, hv24, hf25⟩ := fall_cons hf24
  obtain ⟨r24, rfl, kr24⟩ := (show ∃ r : Nat, v24 = .ref r ∧ T0 r = some (3, 7) from hv24)
  obtain ⟨v25, vs25, rfl, hv25, hf26⟩ := fall_cons hf25
  obtain ⟨r25, rfl, kr25⟩ := (show ∃ r : Nat, v25 = .ref r ∧ T0 r = some (3, 8) from hv25)
  obtain ⟨v26, vs26, rfl, hv26, hf27⟩ := fall_cons hf26
  obtain ⟨r26, rfl, kr26⟩ := (show ∃ r : Nat, v26 = .ref r ∧ T0 r = some (3, 8) from hv26)
  obtain ⟨v27, vs27, rfl, hv27, hf28⟩ := fall_cons hf27
  obtain ⟨r27, rfl, kr27⟩ := (show ∃ r : Nat, v27 = .ref r ∧ T0 r = some (3, 8) from hv27)
  obtain ⟨v28, vs28, rfl, hv28, hf29⟩ := fall_cons hf28
  obtain ⟨r28, rfl, kr28⟩ := (show ∃ r : Nat, v28 = .ref r ∧ T0 r = some (3, 7) from hv28)
  obtain ⟨v29, vs29, rfl, hv29, hf30⟩ := fall_cons hf29
  obtain ⟨r29, rfl, kr29⟩ := (show ∃ r : Nat, v29 = .ref r ∧ T0 r = some (3, 7) from hv29)
  obtain ⟨v30, vs30, rfl, hv30, hf31⟩ := fall_cons hf30
  obtain ⟨r30, rfl, kr30⟩ := (show ∃ r : Nat, v30 = .ref r ∧ T0 r = some (3, 7) from hv30)
  obtain ⟨v31, vs31, rfl, hv31, hf32⟩ := fall_cons hf31
  obtain ⟨r31, rfl, kr31⟩ := (show ∃ r : Nat, v31 = .ref r ∧ T0 r = some (3, 8) from hv31)
  obtain ⟨v32, vs32, rfl, hv32, hf33⟩ := fall_cons hf32
  obtain ⟨r32, rfl, kr32⟩ := (show ∃ r : Nat, v32 = .ref r ∧ T0 r = some (3, 8) from hv32)
  obtain ⟨v33, vs33, rfl, hv33, hf34⟩ := fall_cons hf33
  obtain ⟨r33, rfl, kr33⟩ := (show ∃ r : Nat, v33 = .ref r ∧ T0 r = some (0, 256) from hv33)
  obtain ⟨v34, vs34, rfl, hv34, hf35⟩ := fall_cons hf34
  obtain ⟨r34, rfl, kr34⟩ := (show ∃ r : Nat, v34 = .ref r ∧ T0 r = some (0, 256) from hv34)
  obtain ⟨v35, vs35, rfl, hv35, hf36⟩ := fall_cons hf35
  obtain ⟨r35, rfl, kr35⟩ := (show ∃ r : Nat, v35 = .ref r ∧ T0 r = some (0, 256) from hv35)
  obtain ⟨v36, vs36, rfl, hv36, hf37⟩ := fall_cons hf36
  obtain ⟨r36, rfl, kr36⟩ := (show ∃ r : Nat, v36 = .ref r ∧ T0 r = some (2, 256) from hv36)
  obtain ⟨v37, vs37, rfl, hv37, hf38⟩ := fall_cons hf37
  obtain ⟨r37, rfl, kr37⟩ := (show ∃ r : Nat, v37 = .ref r ∧ T0 r = some (1, 128) from hv37)
  obtain ⟨v38, vs38, rfl, hv38, hf39⟩ := fall_cons hf38
  obtain ⟨r38, rfl, kr38⟩ := (show ∃ r : Nat, v38 = .ref r ∧ T0 r = some (1, 64) from hv38)
  obtain ⟨v39, vs39, rfl, hv39, hf40⟩ := fall_cons hf39
  obtain ⟨r39, rfl, kr39⟩ := (show ∃ r : Nat, v39 = .ref r ∧ T0 r = some (1, 64) from hv39)
  obtain ⟨v40, vs40, rfl, hv40, hf41⟩ := fall_cons hf40
  obtain ⟨r40, rfl, kr40⟩ := (show ∃ r : Nat, v40 = .ref r ∧ T0 r = some (1, 640) from hv40)
  obtain ⟨v41, vs41, rfl, hv41, hf42⟩ := fall_cons hf41
  obtain ⟨r41, rfl, kr41⟩ := (show ∃ r : Nat, v41 = .ref r ∧ T0 r = some (1, 64) from hv41)
  obtain ⟨v42, vs42, rfl, hv42, hf43⟩ := fall_cons hf42
  obtain ⟨r42, rfl, kr42⟩ := (show ∃ r : Nat, v42 = .ref r ∧ T0 r = some (1, 64) from hv42)
  obtain ⟨v43, vs43, rfl, hv43, hf44⟩ := fall_cons hf43
  obtain ⟨r43, rfl, kr43⟩ := (show ∃ r : Nat, v43 = .ref r ∧ T0 r = some (1, 64) from hv43)
  obtain ⟨v44, vs44, rfl, hv44, hf45⟩ := fall_cons hf44
  obtain ⟨z21, rfl⟩ := (show ∃ z : Int32, v44 = .int z from hv44)
  obtain ⟨v45, vs45, rfl, hv45, hf46⟩ := fall_cons hf45
  obtain ⟨z22, rfl⟩ := (show ∃ z : Int32, v45 = .int z from hv45)
  obtain ⟨v46, vs46, rfl, hv46, hf47⟩ := fall_cons hf46
  obtain ⟨z23, rfl⟩ := (show ∃ z : Int32, v46 = .int z from hv46)
  obtain ⟨v47, vs47, rfl, hv47, hf48⟩ := fall_cons hf47
  obtain ⟨z24, rfl⟩ := (show ∃ z : Int32, v47 = .int z from hv47)
  obtain ⟨v48, vs48, rfl, hv48, hf49⟩ := fall_cons hf48
  obtain ⟨z25, rfl⟩ := (show ∃ z : Int32, v48 = .int z from hv48)
  obtain ⟨v49, vs49, rfl, hv49, hf50⟩ := fall_cons hf49
  obtain ⟨z26, rfl⟩ := (show ∃ z : Int32, v49 = .int z from hv49)
  obtain ⟨v50, vs50, rfl, hv50, hf51⟩ := fall_cons hf50
  obtain ⟨z27, rfl⟩ := (show ∃ z : Int32, v50 = .int z from hv50)
  obtain ⟨v51, vs51, rfl, hv51, hf52⟩ := fall_cons hf51
  obtain ⟨z28, rfl⟩ := (show ∃ z : Int32, v51 = .int z from hv51)
  obtain rfl := fall_nil hf52
  have hP : va_P g.1 vcl ([(h0, .inr (12, [.ref r21, .ref r22, .ref r23, .ref r24, .ref r25, .ref r26, .ref r27, .ref r28, .ref r29, .ref r30, .ref r31, .ref r32, .ref r33, .ref r34, .ref r35, .ref r36, .ref r37, .ref r38, .ref r39, .ref r40, .ref r41, .ref r42, .ref r43, .int z21, .int z22, .int z23, .int z24, .int z25, .int z26, .int z27, .int z28]))] ++ pl) _ := hP
  have hD : va_D _ ([(h0, .inr (12, [.ref r21, .ref r22, .ref r23, .ref r24, .ref r25, .ref r26, .ref r27, .ref r28, .ref r29, .ref r30, .ref r31, .ref r32, .ref r33, .ref r34, .ref r35, .ref r36, .ref r37, .ref r38, .ref r39, .ref r40, .ref r41, .ref r42, .ref r43, .int z21, .int z22, .int z23, .int z24, .int z25, .int z26, .int z27, .int z28]))] ++ pl) := hD
  refine mp_v (cx := [(h0, .inr (12, [.ref r21, .ref r22, .ref r23, .ref r24, .ref r25, .ref r26, .ref r27, .ref r28, .ref r29, .ref r30, .ref r31, .ref r32, .ref r33, .ref r34, .ref r35, .ref r36, .ref r37, .ref r38, .ref r39, .ref r40, .ref r41, .ref r42, .ref r43, .int z21, .int z22, .int z23, .int z24, .int z25, .int z26, .int z27, .int z28]))]) (wr := []) hP hD hS hA [0] [] rfl rfl rfl (by decide) (va_runV (As := [.int (nI 0)]) (rest := []) F (t_MH_as_0 l g _ T0 (h0 :: []) pl hO hU  h0 r21 r22 r23 r24 r25 r26 r27 r28 r29 r30 r31 r32 r33 r34 r35 r36 r37 r38 r39 r40 r41 r42 r43 z21 z22 z23 z24 z25 z26 z27 z28) (cwV 1 hts (wg_app (wg_c kw_1702 (wg_c kw_1704 (wg_c ks_60 (wg_c kw_13 wg_n)))) kw_1705) rfl rfl rfl (by decide +kernel) ⟨by decide, by decide⟩) (pp_V (en_ok g) (q0 := 0) hK hP hD hS hA hE [0] rfl rfl rfl rfl) rfl rfl hl.1 rfl (lv_room (Nat.le_of_ble_eq_true rfl)) dMH_keys_2 ⟨by omega, by omega⟩) (fun  pl H locs hu21 hP hD hS => ?_)
  obtain ⟨hq21, hO⟩ := hu21
  have hP : va_P g.1 vcl ([(h0, .inr (12, [.ref r21, .ref r22, .ref r23, .ref r24, .ref r25, .ref r26, .ref r27, .ref r28, .ref r29, .ref r30, .ref r31, .ref r32, .ref r33, .ref r34, .ref r35, .ref r36, .ref r37, .ref r38, .ref r39, .ref r40, .ref r41, .ref r42, .ref r43, .int (nI 0), .int (nI 4), .int (nI 4), .int (nI 2), .int (nI 131072), .int (nI 95232), .int (nI 78), .int (nI 32)]))] ++ pl) _ := hP
  have hD : va_D _ ([(h0, .inr (12, [.ref r21, .ref r22, .ref r23, .ref r24, .ref r25, .ref r26, .ref r27, .ref r28, .ref r29, .ref r30, .ref r31, .ref r32, .ref r33, .ref r34, .ref r35, .ref r36, .ref r37, .ref r38, .ref r39, .ref r40, .ref r41, .ref r42, .ref r43, .int (nI 0), .int (nI 4), .int (nI 4), .int (nI 2), .int (nI 131072), .int (nI 95232), .int (nI 78), .int (nI 32)]))] ++ pl) := hD
  refine W.widen (k := 0) (n := 0) (by omega) (by omega) ?_
  have hO := hands_in (j := 0) (e := .inr (12, [.ref r21, .ref r22, .ref r23, .ref r24, .ref r25, .ref r26, .ref r27, .ref r28, .ref r29, .ref r30, .ref r31, .ref r32, .ref r33, .ref r34, .ref r35, .ref r36, .ref r37, .ref r38, .ref r39, .ref r40, .ref r41, .ref r42, .ref r43, .int (nI 0), .int (nI 4), .int (nI 4), .int (nI 2), .int (nI 131072), .int (nI 95232), .int (nI 78), .int (nI 32)])) hO k_h0 ⟨_, rfl, ⟨r21, rfl, kr21⟩, ⟨r22, rfl, kr22⟩, ⟨r23, rfl, kr23⟩, ⟨r24, rfl, kr24⟩, ⟨r25, rfl, kr25⟩, ⟨r26, rfl, kr26⟩, ⟨r27, rfl, kr27⟩, ⟨r28, rfl, kr28⟩, ⟨r29, rfl, kr29⟩, ⟨r30, rfl, kr30⟩, ⟨r31, rfl, kr31⟩, ⟨r32, rfl, kr32⟩, ⟨r33, rfl, kr33⟩, ⟨r34, rfl, kr34⟩, ⟨r35, rfl, kr35⟩, ⟨r36, rfl, kr36⟩, ⟨r37, rfl, kr37⟩, ⟨r38, rfl, kr38⟩, ⟨r39, rfl, kr39⟩, ⟨r40, rfl, kr40⟩, ⟨r41, rfl, kr41⟩, ⟨r42, rfl, kr42⟩, ⟨r43, rfl, kr43⟩, rfl, rfl, rfl, rfl, rfl, rfl, rfl, rfl, trivial⟩
  have hP : va_P g.1 vcl ([] ++ ((h0, .inr (12, [.ref r21, .ref r22, .ref r23, .ref r24, .ref r25, .ref r26, .ref r27, .ref r28, .ref r29, .ref r30, .ref r31, .ref r32, .ref r33, .ref r34, .ref r35, .ref r36, .ref r37, .ref r38, .ref r39, .ref r40, .ref r41, .ref r42, .ref r43, .int (nI 0), .int (nI 4), .int (nI 4), .int (nI 2), .int (nI 131072), .int (nI 95232), .int (nI 78), .int (nI 32)])) :: pl)) _ := hP
  have hD : va_D _ ([] ++ ((h0, .inr (12, [.ref r21, .ref r22, .ref r23, .ref r24, .ref r25, .ref r26, .ref r27, .ref r28, .ref r29, .ref r30, .ref r31, .ref r32, .ref r33, .ref r34, .ref r35, .ref r36, .ref r37, .ref r38, .ref r39, .ref r40, .ref r41, .ref r42, .ref r43, .int (nI 0), .int (nI 4), .int (nI 4), .int (nI 2), .int (nI 131072), .int (nI 95232), .int (nI 78), .int (nI 32)])) :: pl)) := hD
  generalize ((h0, .inr (12, [.ref r21, .ref r22, .ref r23, .ref r24, .ref r25, .ref r26, .ref r27, .ref r28, .ref r29, .ref r30, .ref r31, .ref r32, .ref r33, .ref r34, .ref r35, .ref r36, .ref r37, .ref r38, .ref r39, .ref r40, .ref r41, .ref r42, .ref r43, .int (nI 0), .int (nI 4), .int (nI 4), .int (nI 2), .int (nI 131072), .int (nI 95232), .int (nI 78), .int (nI 32)])) :: pl) = pl at hO hP hD
  have hback : ∀ pl, okx g (tyU T0 h0 (46 + 0, 0)) [] pl → okx g T0 [] pl := fun pl h9 => hands_out k_h0 (hands_wk 0 (by decide)) h9
  have hU := uni_U (a := h0) (k := (46 + 0, 0)) hU rfl
  have k_b := tyU_k (k := (46 + 0, 0)) k_h0 k_b (by intro h9; cases h9)
  have k_pk := tyU_k (k := (46 + 0, 0)) k_h0 k_pk (by intro h9; cases h9)
  have k_sk := tyU_k (k := (46 + 0, 0)) k_h0 k_sk (by intro h9; cases h9)
  have k_h0 : tyU T0 h0 (46 + 0, 0) h0 = some (46 + 0, 0) := tyU_at
  generalize tyU T0 h0 (46 + 0, 0) = T at hO hback hU k_b k_pk k_sk k_h0
  refine lv_aload_n hx hb dMH_keys_5 rfl (lv_at hl 0 rfl) ?_
  refine ty_get (ci := 12) (C := "LatticeKeysModel$Hands") (TT := T_MH) (N := 31) (kd := (46, 0)) hx hb hts (wg_ft i_MH) hown hK hO k_h0 (nxg clo_nil k_h0 rfl) hP (fun _ h9 => h9) rfl 0 (by decide) (hts _ (wg_t kw_1432)) (fun _ h9 => h9) (cd := (3, 20, 0)) rfl dMH_keys_6 (fun v52 hv52 => ?_)
  obtain ⟨r44, rfl, kr44⟩ := (show ∃ r : Nat, v52 = .ref r ∧ T r = some (20, 0) from hv52)
  obtain ⟨e22, pl, hP, hD, hk22, hO⟩ := open1 hP hD hO kr44 (nxg clo_nil kr44 rfl)
  obtain ⟨am21, am22, am23, am24, am25, rt21, ps21, x21, rfl, km21, km22, km23, km24, km25, hr21, hr22, hr23⟩ := hk22
  obtain ⟨e23, pl, hP, hD, hk23, hO⟩ := open1 hP hD hO km21 (nmc (knd_ne km21 kr44 (by decide)) (nxg clo_nil km21 rfl))
  obtain ⟨f21, rfl⟩ := hk23
  obtain ⟨e24, pl, hP, hD, hk24, hO⟩ := open1 hP hD hO km22 (nmc (knd_ne km22 km21 (by decide)) (nmc (knd_ne km22 kr44 (by decide)) (nxg clo_nil km22 rfl)))
  obtain ⟨f22, rfl⟩ := hk24
  obtain ⟨e25, pl, hP, hD, hk25, hO⟩ := open1 hP hD hO km23 (nmc (knd_ne km23 km22 (by decide)) (nmc (knd_ne km23 km21 (by decide)) (nmc (knd_ne km23 kr44 (by decide)) (nxg clo_nil km23 rfl))))
  obtain ⟨f23, rfl⟩ := hk25
  obtain ⟨e26, pl, hP, hD, hk26, hO⟩ := open1 hP hD hO km24 (nmc (knd_ne km24 km23 (by decide)) (nmc (knd_ne km24 km22 (by decide)) (nmc (knd_ne km24 km21 (by decide)) (nmc (knd_ne km24 kr44 (by decide)) (nxg clo_nil km24 rfl)))))
  obtain ⟨f24, rfl⟩ := hk26
  obtain ⟨e27, pl, hP, hD, hk27, hO⟩ := open1 hP hD hO km25 (nmc (knd_ne km25 km24 (by decide)) (nmc (knd_ne km25 km23 (by decide)) (nmc (knd_ne km25 km22 (by decide)) (nmc (knd_ne km25 km21 (by decide)) (nmc (knd_ne km25 kr44 (by decide)) (nxg clo_nil km25 rfl))))))
  obtain ⟨f25, rfl⟩ := hk27
  have hP : va_P g.1 vcl ([(r44, .inr (9, [.ref am21, .ref am22, .ref am23, .ref am24, .ref am25, .int (nI rt21), .int (nI ps21), .int x21])), (am21, .inl (g.2.1 2, 25, .inr (.inl f21))), (am22, .inl (g.2.1 2, 25, .inr (.inl f22))), (am23, .inl (g.2.1 2, 5, .inr (.inl f23))), (am24, .inl (g.2.1 2, 24, .inr (.inl f24))), (am25, .inl (g.2.1 0, 25, .inl f25))] ++ pl) _ := hP
  have hD : va_D _ ([(r44, .inr (9, [.ref am21, .ref am22, .ref am23, .ref am24, .ref am25, .int (nI rt21), .int (nI ps21), .int x21])), (am21, .inl (g.2.1 2, 25, .inr (.inl f21))), (am22, .inl (g.2.1 2, 25, .inr (.inl f22))), (am23, .inl (g.2.1 2, 5, .inr (.inl f23))), (am24, .inl (g.2.1 2, 24, .inr (.inl f24))), (am25, .inl (g.2.1 0, 25, .inl f25))] ++ pl) := hD
  refine mp_v (cx := [(r44, .inr (9, [.ref am21, .ref am22, .ref am23, .ref am24, .ref am25, .int (nI rt21), .int (nI ps21), .int x21])), (am21, .inl (g.2.1 2, 25, .inr (.inl f21))), (am22, .inl (g.2.1 2, 25, .inr (.inl f22))), (am23, .inl (g.2.1 2, 5, .inr (.inl f23))), (am24, .inl (g.2.1 2, 24, .inr (.inl f24))), (am25, .inl (g.2.1 0, 25, .inl f25))]) (wr := []) hP hD hS hA [0, 1, 2, 3, 4, 5] [] rfl rfl rfl (by decide) (va_runV (As := []) (rest := []) F (t_MS_shake l g _ T (am25 :: (am24 :: (am23 :: (am22 :: (am21 :: (r44 :: [])))))) pl hO hU  r44 am21 am22 am23 am24 am25 rt21 ps21 x21 f21 f22 f23 f24 f25) (cwV 0 hts (wg_app (wg_c kw_1718 (wg_c kw_1661 (wg_c kw_1662 (wg_c kw_10 wg_n)))) kw_1663) rfl rfl rfl (by decide +kernel) ⟨by decide, by decide⟩) (pp_V (en_ok g) (q0 := 0) hK hP hD hS hA hE [0, 1, 2, 3, 4, 5] rfl rfl rfl rfl) rfl rfl hl.1 rfl (lv_room (Nat.le_of_ble_eq_true rfl)) dMH_keys_9 ⟨by omega, by omega⟩) (fun  u21 H locs hu22 hP hD hS => ?_)
  obtain ⟨u22, pl⟩ := u21
  obtain ⟨hq22, hO⟩ := hu22
  obtain ⟨ps22, f26, f27, f28⟩ := u22
  have hP : va_P g.1 vcl ([(r44, .inr (9, [.ref am21, .ref am22, .ref am23, .ref am24, .ref am25, .int (nI 136), .int (nI ps22), .int (nI 31)])), (am21, .inl (g.2.1 2, 25, .inr (.inl f26))), (am22, .inl (g.2.1 2, 25, .inr (.inl f27))), (am23, .inl (g.2.1 2, 5, .inr (.inl f28))), (am24, .inl (g.2.1 2, 24, .inr (.inl f24))), (am25, .inl (g.2.1 0, 25, .inl f25))] ++ pl) _ := hP
  have hD : va_D _ ([(r44, .inr (9, [.ref am21, .ref am22, .ref am23, .ref am24, .ref am25, .int (nI 136), .int (nI ps22), .int (nI 31)])), (am21, .inl (g.2.1 2, 25, .inr (.inl f26))), (am22, .inl (g.2.1 2, 25, .inr (.inl f27))), (am23, .inl (g.2.1 2, 5, .inr (.inl f28))), (am24, .inl (g.2.1 2, 24, .inr (.inl f24))), (am25, .inl (g.2.1 0, 25, .inl f25))] ++ pl) := hD
  have hq22 : ps22 ≤ 136 := hq22
  refine W.widen (k := 0) (n := 0) (by omega) (by omega) ?_
  refine lv_aload_n hx hb dMH_keys_12 rfl (lv_at hl 0 rfl) ?_
  refine ty_get (ci := 12) (C := "LatticeKeysModel$Hands") (TT := T_MH) (N := 31) (kd := (46, 0)) hx hb hts (wg_ft i_MH) hown hK hO k_h0 (nxg (clo_cons (clo_cons (clo_cons (clo_cons (clo_cons (clo_cons clo_nil kr44 (by decide)) km21 (by decide)) km22 (by decide)) km23 (by decide)) km24 (by decide)) km25 (by decide)) k_h0 rfl) hP (fun _ h9 => h9) rfl 0 (by decide) (hts _ (wg_t kw_1432)) (fun _ h9 => h9) (cd := (3, 20, 0)) rfl dMH_keys_13 (fun v53 hv53 => ?_)
  obtain ⟨r45, rfl, kr45⟩ := (show ∃ r : Nat, v53 = .ref r ∧ T r = some (20, 0) from hv53)
  obtain rfl : r44 = r45 := hU _ _ _ (by decide) kr44 kr45
  refine lv_aload_n hx hb dMH_keys_16 rfl (lv_at hl 2 rfl) ?_
  refine lv_iconst (v := nI 0) hx hb dMH_keys_17 (by decide) ?_
  refine lv_bipush (v := nI 32) hx hb dMH_keys_18 (by decide) ?_
  refine mp_v (cx := [(r44, .inr (9, [.ref am21, .ref am22, .ref am23, .ref am24, .ref am25, .int (nI 136), .int (nI ps22), .int (nI 31)])), (am21, .inl (g.2.1 2, 25, .inr (.inl f26))), (am22, .inl (g.2.1 2, 25, .inr (.inl f27))), (am23, .inl (g.2.1 2, 5, .inr (.inl f28))), (am24, .inl (g.2.1 2, 24, .inr (.inl f24))), (am25, .inl (g.2.1 0, 25, .inl f25))]) (wr := []) hP hD hS hA [0, 1, 2, 3, 4, 5] [] rfl rfl rfl (by decide) (va_runV (As := [.ref b, .int (nI 0), .int (nI 32)]) (rest := []) F (t_MS_puts l g _ T (am25 :: (am24 :: (am23 :: (am22 :: (am21 :: (r44 :: [])))))) pl hO hU (clo_cons (clo_cons (clo_cons (clo_cons (clo_cons (clo_cons clo_nil kr44 (by decide)) km21 (by decide)) km22 (by decide)) km23 (by decide)) km24 (by decide)) km25 (by decide)) b n 0 32 r44 am21 am22 am23 am24 am25 136 ps22 (nI 31) f26 f27 f28 f24 f25 k_b (by omega) (by omega) (by omega) (by omega)) (cwV 3 hts (wg_app (wg_c kw_1719 (wg_c kw_1612 (wg_c kw_1613 (wg_c kw_10 wg_n)))) kw_1614) rfl rfl rfl (by decide +kernel) ⟨by decide, by decide⟩) (pp_V (en_ok g) (q0 := 0) hK hP hD hS hA hE [0, 1, 2, 3, 4, 5] rfl rfl rfl rfl) rfl rfl hl.1 rfl (lv_room (Nat.le_of_ble_eq_true rfl)) dMH_keys_20 ⟨by omega, by omega⟩) (fun  u23 H locs hu23 hP hD hS => ?_)
  obtain ⟨u24, pl⟩ := u23
  obtain ⟨hq23, hO⟩ := hu23
  obtain ⟨ps23, f29, f30, f31⟩ := u24
  have hP : va_P g.1 vcl ([(r44, .inr (9, [.ref am21, .ref am22, .ref am23, .ref am24, .ref am25, .int (nI 136), .int (nI ps23), .int (nI 31)])), (am21, .inl (g.2.1 2, 25, .inr (.inl f29))), (am22, .inl (g.2.1 2, 25, .inr (.inl f30))), (am23, .inl (g.2.1 2, 5, .inr (.inl f31))), (am24, .inl (g.2.1 2, 24, .inr (.inl f24))), (am25, .inl (g.2.1 0, 25, .inl f25))] ++ pl) _ := hP
  have hD : va_D _ ([(r44, .inr (9, [.ref am21, .ref am22, .ref am23, .ref am24, .ref am25, .int (nI 136), .int (nI ps23), .int (nI 31)])), (am21, .inl (g.2.1 2, 25, .inr (.inl f29))), (am22, .inl (g.2.1 2, 25, .inr (.inl f30))), (am23, .inl (g.2.1 2, 5, .inr (.inl f31))), (am24, .inl (g.2.1 2, 24, .inr (.inl f24))), (am25, .inl (g.2.1 0, 25, .inl f25))] ++ pl) := hD
  have hq23 : ps23 ≤ 136 := hq23
  refine W.widen (k := 0) (n := 0) (by omega) (by omega) ?_
  refine lv_aload_n hx hb dMH_keys_23 rfl (lv_at hl 0 rfl) ?_
  refine ty_get (ci := 12) (C := "LatticeKeysModel$Hands") (TT := T_MH) (N := 31) (kd := (46, 0)) hx hb hts (wg_ft i_MH) hown hK hO k_h0 (nxg (clo_cons (clo_cons (clo_cons (clo_cons (clo_cons (clo_cons clo_nil kr44 (by decide)) km21 (by decide)) km22 (by decide)) km23 (by decide)) km24 (by decide)) km25 (by decide)) k_h0 rfl) hP (fun _ h9 => h9) rfl 0 (by decide) (hts _ (wg_t kw_1432)) (fun _ h9 => h9) (cd := (3, 20, 0)) rfl dMH_keys_24 (fun v54 hv54 => ?_)
  obtain ⟨r46, rfl, kr46⟩ := (show ∃ r : Nat, v54 = .ref r ∧ T r = some (20, 0) from hv54)
  obtain rfl : r44 = r46 := hU _ _ _ (by decide) kr44 kr46
  refine lv_aload_n hx hb dMH_keys_27 rfl (lv_at hl 0 rfl) ?_
  refine ty_get (ci := 12) (C := "LatticeKeysModel$Hands") (TT := T_MH) (N := 31) (kd := (46, 0)) hx hb hts (wg_ft i_MH) hown hK hO k_h0 (nxg (clo_cons (clo_cons (clo_cons (clo_cons (clo_cons (clo_cons clo_nil kr44 (by decide)) km21 (by decide)) km22 (by decide)) km23 (by decide)) km24 (by decide)) km25 (by decide)) k_h0 rfl) hP (fun _ h9 => h9) rfl 24 (by decide) (hts _ (wg_t kw_1456)) (fun _ h9 => h9) (cd := (1, 0, 4)) rfl dMH_keys_28 (fun v55 hv55 => ?_)
  obtain rfl := (show v55 = .int (nI 4) from hv55)
  refine mp_v (cx := [(r44, .inr (9, [.ref am21, .ref am22, .ref am23, .ref am24, .ref am25, .int (nI 136), .int (nI ps23), .int (nI 31)])), (am21, .inl (g.2.1 2, 25, .inr (.inl f29))), (am22, .inl (g.2.1 2, 25, .inr (.inl f30))), (am23, .inl (g.2.1 2, 5, .inr (.inl f31))), (am24, .inl (g.2.1 2, 24, .inr (.inl f24))), (am25, .inl (g.2.1 0, 25, .inl f25))]) (wr := []) hP hD hS hA [0, 1, 2, 3, 4, 5] [] rfl rfl rfl (by decide) (va_runV (As := [.int (nI 4)]) (rest := []) F (t_MS_put l g _ T (am25 :: (am24 :: (am23 :: (am22 :: (am21 :: (r44 :: [])))))) pl hO hU  (nI 4) r44 am21 am22 am23 am24 am25 136 ps23 (nI 31) f29 f30 f31 f24 f25 (by omega) (by omega)) (cwV 1 hts (wg_app (wg_c kw_1720 (wg_c kw_1616 (wg_c kw_1617 (wg_c kw_10 wg_n)))) kw_1618) rfl rfl rfl (by decide +kernel) ⟨by decide, by decide⟩) (pp_V (en_ok g) (q0 := 0) hK hP hD hS hA hE [0, 1, 2, 3, 4, 5] rfl rfl rfl rfl) rfl rfl hl.1 rfl (lv_room (Nat.le_of_ble_eq_true rfl)) dMH_keys_31 ⟨by omega, by omega⟩) (fun  u25 H locs hu24 hP hD hS => ?_)
  obtain ⟨u26, pl⟩ := u25
  obtain ⟨hq24, hO⟩ := hu24
  obtain ⟨ps24, f32, f33, f34⟩ := u26
  have hP : va_P g.1 vcl ([(r44, .inr (9, [.ref am21, .ref am22, .ref am23, .ref am24, .ref am25, .int (nI 136), .int (nI ps24), .int (nI 31)])), (am21, .inl (g.2.1 2, 25, .inr (.inl f32))), (am22, .inl (g.2.1 2, 25, .inr (.inl f33))), (am23, .inl (g.2.1 2, 5, .inr (.inl f34))), (am24, .inl (g.2.1 2, 24, .inr (.inl f24))), (am25, .inl (g.2.1 0, 25, .inl f25))] ++ pl) _ := hP
  have hD : va_D _ ([(r44, .inr (9, [.ref am21, .ref am22, .ref am23, .ref am24, .ref am25, .int (nI 136), .int (nI ps24), .int (nI 31)])), (am21, .inl (g.2.1 2, 25, .inr (.inl f32))), (am22, .inl (g.2.1 2, 25, .inr (.inl f33))), (am23, .inl (g.2.1 2, 5, .inr (.inl f34))), (am24, .inl (g.2.1 2, 24, .inr (.inl f24))), (am25, .inl (g.2.1 0, 25, .inl f25))] ++ pl) := hD
  have hq24 : ps24 ≤ 136 := hq24
  refine W.widen (k := 0) (n := 0) (by omega) (by omega) ?_
  refine lv_aload_n hx hb dMH_keys_34 rfl (lv_at hl 0 rfl) ?_
  refine ty_get (ci := 12) (C := "LatticeKeysModel$Hands") (TT := T_MH) (N := 31) (kd := (46, 0)) hx hb hts (wg_ft i_MH) hown hK hO k_h0 (nxg (clo_cons (clo_cons (clo_cons (clo_cons (clo_cons (clo_cons clo_nil kr44 (by decide)) km21 (by decide)) km22 (by decide)) km23 (by decide)) km24 (by decide)) km25 (by decide)) k_h0 rfl) hP (fun _ h9 => h9) rfl 0 (by decide) (hts _ (wg_t kw_1432)) (fun _ h9 => h9) (cd := (3, 20, 0)) rfl dMH_keys_35 (fun v56 hv56 => ?_)
  obtain ⟨r47, rfl, kr47⟩ := (show ∃ r : Nat, v56 = .ref r ∧ T r = some (20, 0) from hv56)
  obtain rfl : r44 = r47 := hU _ _ _ (by decide) kr44 kr47
  refine lv_aload_n hx hb dMH_keys_38 rfl (lv_at hl 0 rfl) ?_
  refine ty_get (ci := 12) (C := "LatticeKeysModel$Hands") (TT := T_MH) (N := 31) (kd := (46, 0)) hx hb hts (wg_ft i_MH) hown hK hO k_h0 (nxg (clo_cons (clo_cons (clo_cons (clo_cons (clo_cons (clo_cons clo_nil kr44 (by decide)) km21 (by decide)) km22 (by decide)) km23 (by decide)) km24 (by decide)) km25 (by decide)) k_h0 rfl) hP (fun _ h9 => h9) rfl 25 (by decide) (hts _ (wg_t kw_1457)) (fun _ h9 => h9) (cd := (1, 0, 4)) rfl dMH_keys_39 (fun v57 hv57 => ?_)
  obtain rfl := (show v57 = .int (nI 4) from hv57)
  refine mp_v (cx := [(r44, .inr (9, [.ref am21, .ref am22, .ref am23, .ref am24, .ref am25, .int (nI 136), .int (nI ps24), .int (nI 31)])), (am21, .inl (g.2.1 2, 25, .inr (.inl f32))), (am22, .inl (g.2.1 2, 25, .inr (.inl f33))), (am23, .inl (g.2.1 2, 5, .inr (.inl f34))), (am24, .inl (g.2.1 2, 24, .inr (.inl f24))), (am25, .inl (g.2.1 0, 25, .inl f25))]) (wr := []) hP hD hS hA [0, 1, 2, 3, 4, 5] [] rfl rfl rfl (by decide) (va_runV (As := [.int (nI 4)]) (rest := []) F (t_MS_put l g _ T (am25 :: (am24 :: (am23 :: (am22 :: (am21 :: (r44 :: [])))))) pl hO hU  (nI 4) r44 am21 am22 am23 am24 am25 136 ps24 (nI 31) f32 f33 f34 f24 f25 (by omega) (by omega)) (cwV 1 hts (wg_app (wg_c kw_1720 (wg_c kw_1616 (wg_c kw_1617 (wg_c kw_10 wg_n)))) kw_1618) rfl rfl rfl (by decide +kernel) ⟨by decide, by decide⟩) (pp_V (en_ok g) (q0 := 0) hK hP hD hS hA hE [0, 1, 2, 3, 4, 5] rfl rfl rfl rfl) rfl rfl hl.1 rfl (lv_room (Nat.le_of_ble_eq_true rfl)) dMH_keys_42 ⟨by omega, by omega⟩) (fun  u27 H locs hu25 hP hD hS => ?_)
  obtain ⟨u28, pl⟩ := u27
  obtain ⟨hq25, hO⟩ := hu25
  obtain ⟨ps25, f35, f36, f37⟩ := u28
  have hP : va_P g.1 vcl ([(r44, .inr (9, [.ref am21, .ref am22, .ref am23, .ref am24, .ref am25, .int (nI 136), .int (nI ps25), .int (nI 31)])), (am21, .inl (g.2.1 2, 25, .inr (.inl f35))), (am22, .inl (g.2.1 2, 25, .inr (.inl f36))), (am23, .inl (g.2.1 2, 5, .inr (.inl f37))), (am24, .inl (g.2.1 2, 24, .inr (.inl f24))), (am25, .inl (g.2.1 0, 25, .inl f25))] ++ pl) _ := hP
  have hD : va_D _ ([(r44, .inr (9, [.ref am21, .ref am22, .ref am23, .ref am24, .ref am25, .int (nI 136), .int (nI ps25), .int (nI 31)])), (am21, .inl (g.2.1 2, 25, .inr (.inl f35))), (am22, .inl (g.2.1 2, 25, .inr (.inl f36))), (am23, .inl (g.2.1 2, 5, .inr (.inl f37))), (am24, .inl (g.2.1 2, 24, .inr (.inl f24))), (am25, .inl (g.2.1 0, 25, .inl f25))] ++ pl) := hD
  have hq25 : ps25 ≤ 136 := hq25
  refine W.widen (k := 0) (n := 0) (by omega) (by omega) ?_
  refine lv_aload_n hx hb dMH_keys_45 rfl (lv_at hl 0 rfl) ?_
  refine ty_get (ci := 12) (C := "LatticeKeysModel$Hands") (TT := T_MH) (N := 31) (kd := (46, 0)) hx hb hts (wg_ft i_MH) hown hK hO k_h0 (nxg (clo_cons (clo_cons (clo_cons (clo_cons (clo_cons (clo_cons clo_nil kr44 (by decide)) km21 (by decide)) km22 (by decide)) km23 (by decide)) km24 (by decide)) km25 (by decide)) k_h0 rfl) hP (fun _ h9 => h9) rfl 0 (by decide) (hts _ (wg_t kw_1432)) (fun _ h9 => h9) (cd := (3, 20, 0)) rfl dMH_keys_46 (fun v58 hv58 => ?_)
  obtain ⟨r48, rfl, kr48⟩ := (show ∃ r : Nat, v58 = .ref r ∧ T r = some (20, 0) from hv58)
  obtain rfl : r44 = r48 := hU _ _ _ (by decide) kr44 kr48
  refine mp_v (cx := [(r44, .inr (9, [.ref am21, .ref am22, .ref am23, .ref am24, .ref am25, .int (nI 136), .int (nI ps25), .int (nI 31)])), (am21, .inl (g.2.1 2, 25, .inr (.inl f35))), (am22, .inl (g.2.1 2, 25, .inr (.inl f36))), (am23, .inl (g.2.1 2, 5, .inr (.inl f37))), (am24, .inl (g.2.1 2, 24, .inr (.inl f24))), (am25, .inl (g.2.1 0, 25, .inl f25))]) (wr := []) hP hD hS hA [0, 1, 2, 3, 4, 5] [] rfl rfl rfl (by decide) (va_runV (As := []) (rest := []) F (t_MS_end l g _ T (am25 :: (am24 :: (am23 :: (am22 :: (am21 :: (r44 :: [])))))) pl hO hU  r44 am21 am22 am23 am24 am25 136 ps25 (nI 31) f35 f36 f37 f24 f25 (by omega) (by omega)) (cwV 0 hts (wg_app (wg_c kw_1721 (wg_c kw_1634 (wg_c kw_1635 (wg_c kw_10 wg_n)))) kw_1636) rfl rfl rfl (by decide +kernel) ⟨by decide, by decide⟩) (pp_V (en_ok g) (q0 := 0) hK hP hD hS hA hE [0, 1, 2, 3, 4, 5] rfl rfl rfl rfl) rfl rfl hl.1 rfl (lv_room (Nat.le_of_ble_eq_true rfl)) dMH_keys_49 ⟨by omega, by omega⟩) (fun  u29 H locs hu26 hP hD hS => ?_)
  obtain ⟨u30, pl⟩ := u29
  obtain ⟨hq26, hO⟩ := hu26
  obtain ⟨ps26, f38, f39, f40⟩ := u30
  have hP : va_P g.1 vcl ([(r44, .inr (9, [.ref am21, .ref am22, .ref am23, .ref am24, .ref am25, .int (nI 136), .int (nI ps26), .int (nI 31)])), (am21, .inl (g.2.1 2, 25, .inr (.inl f38))), (am22, .inl (g.2.1 2, 25, .inr (.inl f39))), (am23, .inl (g.2.1 2, 5, .inr (.inl f40))), (am24, .inl (g.2.1 2, 24, .inr (.inl f24))), (am25, .inl (g.2.1 0, 25, .inl f25))] ++ pl) _ := hP
  have hD : va_D _ ([(r44, .inr (9, [.ref am21, .ref am22, .ref am23, .ref am24, .ref am25, .int (nI 136), .int (nI ps26), .int (nI 31)])), (am21, .inl (g.2.1 2, 25, .inr (.inl f38))), (am22, .inl (g.2.1 2, 25, .inr (.inl f39))), (am23, .inl (g.2.1 2, 5, .inr (.inl f40))), (am24, .inl (g.2.1 2, 24, .inr (.inl f24))), (am25, .inl (g.2.1 0, 25, .inl f25))] ++ pl) := hD
  have hq26 : ps26 ≤ 136 := hq26
  refine W.widen (k := 0) (n := 0) (by omega) (by omega) ?_
  refine lv_aload_n hx hb dMH_keys_52 rfl (lv_at hl 0 rfl) ?_
  refine ty_get (ci := 12) (C := "LatticeKeysModel$Hands") (TT := T_MH) (N := 31) (kd := (46, 0)) hx hb hts (wg_ft i_MH) hown hK hO k_h0 (nxg (clo_cons (clo_cons (clo_cons (clo_cons (clo_cons (clo_cons clo_nil kr44 (by decide)) km21 (by decide)) km22 (by decide)) km23 (by decide)) km24 (by decide)) km25 (by decide)) k_h0 rfl) hP (fun _ h9 => h9) rfl 0 (by decide) (hts _ (wg_t kw_1432)) (fun _ h9 => h9) (cd := (3, 20, 0)) rfl dMH_keys_53 (fun v59 hv59 => ?_)
  obtain ⟨r49, rfl, kr49⟩ := (show ∃ r : Nat, v59 = .ref r ∧ T r = some (20, 0) from hv59)
  obtain rfl : r44 = r49 := hU _ _ _ (by decide) kr44 kr49
  refine lv_aload_n hx hb dMH_keys_56 rfl (lv_at hl 0 rfl) ?_
  refine ty_get (ci := 12) (C := "LatticeKeysModel$Hands") (TT := T_MH) (N := 31) (kd := (46, 0)) hx hb hts (wg_ft i_MH) hown hK hO k_h0 (nxg (clo_cons (clo_cons (clo_cons (clo_cons (clo_cons (clo_cons clo_nil kr44 (by decide)) km21 (by decide)) km22 (by decide)) km23 (by decide)) km24 (by decide)) km25 (by decide)) k_h0 rfl) hP (fun _ h9 => h9) rfl 16 (by decide) (hts _ (wg_t kw_1448)) (fun _ h9 => h9) (cd := (3, 1, 128)) rfl dMH_keys_57 (fun v60 hv60 => ?_)
  obtain ⟨r50, rfl, kr50⟩ := (show ∃ r : Nat, v60 = .ref r ∧ T r = some (1, 128) from hv60)
  refine lv_iconst (v := nI 0) hx hb dMH_keys_60 (by decide) ?_
  refine lv_sipush (v := nI 128) hx hb dMH_keys_61 (by decide) ?_
  refine mp_v (cx := [(r44, .inr (9, [.ref am21, .ref am22, .ref am23, .ref am24, .ref am25, .int (nI 136), .int (nI ps26), .int (nI 31)])), (am21, .inl (g.2.1 2, 25, .inr (.inl f38))), (am22, .inl (g.2.1 2, 25, .inr (.inl f39))), (am23, .inl (g.2.1 2, 5, .inr (.inl f40))), (am24, .inl (g.2.1 2, 24, .inr (.inl f24))), (am25, .inl (g.2.1 0, 25, .inl f25))]) (wr := []) hP hD hS hA [0, 1, 2, 3, 4, 5] [] rfl rfl rfl (by decide) (va_runV (As := [.ref r50, .int (nI 0), .int (nI 128)]) (rest := []) F (t_MS_take l g _ T (am25 :: (am24 :: (am23 :: (am22 :: (am21 :: (r44 :: [])))))) pl hO hU (clo_cons (clo_cons (clo_cons (clo_cons (clo_cons (clo_cons clo_nil kr44 (by decide)) km21 (by decide)) km22 (by decide)) km23 (by decide)) km24 (by decide)) km25 (by decide)) r50 128 0 128 r44 am21 am22 am23 am24 am25 136 ps26 (nI 31) f38 f39 f40 f24 f25 kr50 (by omega) (by omega) (by omega) (by omega)) (cwV 3 hts (wg_app (wg_c kw_1722 (wg_c kw_1638 (wg_c kw_1639 (wg_c kw_10 wg_n)))) kw_1640) rfl rfl rfl (by decide +kernel) ⟨by decide, by decide⟩) (pp_V (en_ok g) (q0 := 0) hK hP hD hS hA hE [0, 1, 2, 3, 4, 5] rfl rfl rfl rfl) rfl rfl hl.1 rfl (lv_room (Nat.le_of_ble_eq_true rfl)) dMH_keys_64 ⟨by omega, by omega⟩) (fun  u31 H locs hu27 hP hD hS => ?_)
  obtain ⟨u32, pl⟩ := u31
  obtain ⟨hq27, hO⟩ := hu27
  obtain ⟨ps27, f41, f42, f43⟩ := u32
  have hP : va_P g.1 vcl ([(r44, .inr (9, [.ref am21, .ref am22, .ref am23, .ref am24, .ref am25, .int (nI 136), .int (nI ps27), .int (nI 31)])), (am21, .inl (g.2.1 2, 25, .inr (.inl f41))), (am22, .inl (g.2.1 2, 25, .inr (.inl f42))), (am23, .inl (g.2.1 2, 5, .inr (.inl f43))), (am24, .inl (g.2.1 2, 24, .inr (.inl f24))), (am25, .inl (g.2.1 0, 25, .inl f25))] ++ pl) _ := hP
  have hD : va_D _ ([(r44, .inr (9, [.ref am21, .ref am22, .ref am23, .ref am24, .ref am25, .int (nI 136), .int (nI ps27), .int (nI 31)])), (am21, .inl (g.2.1 2, 25, .inr (.inl f41))), (am22, .inl (g.2.1 2, 25, .inr (.inl f42))), (am23, .inl (g.2.1 2, 5, .inr (.inl f43))), (am24, .inl (g.2.1 2, 24, .inr (.inl f24))), (am25, .inl (g.2.1 0, 25, .inl f25))] ++ pl) := hD
  have hq27 : ps27 ≤ 136 := hq27
  refine W.widen (k := 0) (n := 0) (by omega) (by omega) ?_
  refine lv_aload_n hx hb dMH_keys_67 rfl (lv_at hl 0 rfl) ?_
  refine lv_aload_n hx hb dMH_keys_68 rfl (lv_at hl 0 rfl) ?_
  refine ty_get (ci := 12) (C := "LatticeKeysModel$Hands") (TT := T_MH) (N := 31) (kd := (46, 0)) hx hb hts (wg_ft i_MH) hown hK hO k_h0 (nxg (clo_cons (clo_cons (clo_cons (clo_cons (clo_cons (clo_cons clo_nil kr44 (by decide)) km21 (by decide)) km22 (by decide)) km23 (by decide)) km24 (by decide)) km25 (by decide)) k_h0 rfl) hP (fun _ h9 => h9) rfl 16 (by decide) (hts _ (wg_t kw_1448)) (fun _ h9 => h9) (cd := (3, 1, 128)) rfl dMH_keys_69 (fun v61 hv61 => ?_)
  obtain ⟨r51, rfl, kr51⟩ := (show ∃ r : Nat, v61 = .ref r ∧ T r = some (1, 128) from hv61)
  have hO := close1 (e := .inl (g.2.1 0, 25, .inl f25)) hO km25 ⟨_, rfl⟩
  have hO := close1 (e := .inl (g.2.1 2, 24, .inr (.inl f24))) hO km24 ⟨_, rfl⟩
  have hO := close1 (e := .inl (g.2.1 2, 5, .inr (.inl f43))) hO km23 ⟨_, rfl⟩
  have hO := close1 (e := .inl (g.2.1 2, 25, .inr (.inl f42))) hO km22 ⟨_, rfl⟩
  have hO := close1 (e := .inl (g.2.1 2, 25, .inr (.inl f41))) hO km21 ⟨_, rfl⟩
  have hO := close1 (e := .inr (9, [.ref am21, .ref am22, .ref am23, .ref am24, .ref am25, .int (nI 136), .int (nI ps27), .int (nI 31)])) hO kr44 ⟨_, _, _, _, _, _, _, _, rfl, km21, km22, km23, km24, km25, by omega, by omega, by omega⟩
  have hO : okx g T [] ((r44, .inr (9, [.ref am21, .ref am22, .ref am23, .ref am24, .ref am25, .int (nI 136), .int (nI ps27), .int (nI 31)])) :: (am21, .inl (g.2.1 2, 25, .inr (.inl f41))) :: (am22, .inl (g.2.1 2, 25, .inr (.inl f42))) :: (am23, .inl (g.2.1 2, 5, .inr (.inl f43))) :: (am24, .inl (g.2.1 2, 24, .inr (.inl f24))) :: (am25, .inl (g.2.1 0, 25, .inl f25)) :: pl) := hO
  have hP : va_P g.1 vcl ([] ++ ((r44, .inr (9, [.ref am21, .ref am22, .ref am23, .ref am24, .ref am25, .int (nI 136), .int (nI ps27), .int (nI 31)])) :: (am21, .inl (g.2.1 2, 25, .inr (.inl f41))) :: (am22, .inl (g.2.1 2, 25, .inr (.inl f42))) :: (am23, .inl (g.2.1 2, 5, .inr (.inl f43))) :: (am24, .inl (g.2.1 2, 24, .inr (.inl f24))) :: (am25, .inl (g.2.1 0, 25, .inl f25)) :: pl)) _ := hP
  have hD : va_D _ ([] ++ ((r44, .inr (9, [.ref am21, .ref am22, .ref am23, .ref am24, .ref am25, .int (nI 136), .int (nI ps27), .int (nI 31)])) :: (am21, .inl (g.2.1 2, 25, .inr (.inl f41))) :: (am22, .inl (g.2.1 2, 25, .inr (.inl f42))) :: (am23, .inl (g.2.1 2, 5, .inr (.inl f43))) :: (am24, .inl (g.2.1 2, 24, .inr (.inl f24))) :: (am25, .inl (g.2.1 0, 25, .inl f25)) :: pl)) := hD
  generalize ((r44, .inr (9, [.ref am21, .ref am22, .ref am23, .ref am24, .ref am25, .int (nI 136), .int (nI ps27), .int (nI 31)])) :: (am21, .inl (g.2.1 2, 25, .inr (.inl f41))) :: (am22, .inl (g.2.1 2, 25, .inr (.inl f42))) :: (am23, .inl (g.2.1 2, 5, .inr (.inl f43))) :: (am24, .inl (g.2.1 2, 24, .inr (.inl f24))) :: (am25, .inl (g.2.1 0, 25, .inl f25)) :: pl) = pl at hO hP hD
  refine mp_v (cx := []) (wr := []) hP hD hS hA [] [] rfl rfl rfl (by decide) (va_runV (As := [.ref r51]) (rest := []) F (t_MH_expand_0 l g _ T [] pl hO hU clo_nil clo_nil h0 r51 128 k_h0 kr51 (by omega) (by omega)) (cwV 1 hts (wg_app (wg_c kw_1723 (wg_c kw_1725 (wg_c ks_61 (wg_c kw_13 wg_n)))) kw_1726) rfl rfl rfl (by decide +kernel) ⟨by decide, by decide⟩) (pp_VT (en_ok g) (ci := 12) (kd := (46, 0)) hK hO k_h0 (nxg clo_nil k_h0 rfl) (fun _ h9 => ko1 h9) hP hD hS hA hE [] rfl rfl rfl) rfl rfl hl.1 rfl (lv_room (Nat.le_of_ble_eq_true rfl)) dMH_keys_72 ⟨by omega, by omega⟩) (fun  pl H locs hu28 hP hD hS => ?_)
  obtain ⟨hq28, hO⟩ := hu28
  have hP : va_P g.1 vcl ([] ++ pl) _ := hP
  have hD : va_D _ ([] ++ pl) := hD
  refine W.widen (k := 0) (n := 0) (by omega) (by omega) ?_
  refine lv_iconst (v := nI 0) hx hb dMH_keys_75 (by decide) ?_
  refine lv_istore (lv' := [(5, .int (nI 0)), (0, .ref h0), (1, .int (nI 0)), (2, .ref b), (3, .ref pk), (4, .ref sk)]) hx hb dMH_keys_76 hl (by decide) rfl (fun ls hl => ?_)
  have lp21 : ∀ (n21 : Nat) (i21 : Nat) (pl : va_W) (ls : Array Slot) (H : Heap) (locs : List Loc), n21 + i21 = 4 → lv_has ls 10 [(5, .int (nI i21)), (0, .ref h0), (3, .ref pk), (4, .ref sk)] → okx g T [] pl → va_P g.1 vcl ([] ++ pl) H → va_D A ([] ++ pl) → va_S A s.heap H locs → W p l e ({ frames := 4, cells := 0, slots := 0, locals := 98 } : Room) s m args below meth c H locs 0 0 (MQ below (va_Qv (fun (u : va_W) => (True) ∧ okx g T0 [] u) (po g.1 vcl A (fun (u : va_W) => [] ++ u)) A) args s 0 0 A) (F0 m 78 ls []) := by
    intro n21
    induction n21 with
    | zero =>
      intro i21 pl ls H locs hm21  hl hO hP hD hS
      refine lv_iload hx hb dMH_keys_78 (lv_at hl 0 rfl) ?_
      refine lv_aload_n hx hb dMH_keys_80 rfl (lv_at hl 1 rfl) ?_
      refine ty_get (ci := 12) (C := "LatticeKeysModel$Hands") (TT := T_MH) (N := 31) (kd := (46, 0)) hx hb hts (wg_ft i_MH) hown hK hO k_h0 (nxg clo_nil k_h0 rfl) hP (fun _ h9 => h9) rfl 25 (by decide) (hts _ (wg_t kw_1457)) (fun _ h9 => h9) (cd := (1, 0, 4)) rfl dMH_keys_81 (fun v62 hv62 => ?_)
      obtain rfl := (show v62 = .int (nI 4) from hv62)
      refine mi_ge (tgt := 135) hx hb dMH_keys_84 (by decide) (by omega) (by omega) (fun h21 => ?_) (fun h21 => absurd h21 (by omega))
      refine lv_iconst (v := nI 0) hx hb dMH_keys_135 (by decide) ?_
      refine lv_istore (lv' := [(5, .int (nI 0)), (0, .ref h0), (3, .ref pk), (4, .ref sk)]) hx hb dMH_keys_136 hl (by decide) rfl (fun ls hl => ?_)
      have lp22 : ∀ (n22 : Nat) (i22 : Nat) (pl : va_W) (ls : Array Slot) (H : Heap) (locs : List Loc), n22 + i22 = 4 → lv_has ls 10 [(5, .int (nI i22)), (0, .ref h0), (3, .ref pk), (4, .ref sk)] → okx g T [] pl → va_P g.1 vcl ([] ++ pl) H → va_D A ([] ++ pl) → va_S A s.heap H locs → W p l e ({ frames := 4, cells := 0, slots := 0, locals := 98 } : Room) s m args below meth c H locs 0 0 (MQ below (va_Qv (fun (u : va_W) => (True) ∧ okx g T0 [] u) (po g.1 vcl A (fun (u : va_W) => [] ++ u)) A) args s 0 0 A) (F0 m 138 ls []) := by
        intro n22
        induction n22 with
        | zero =>
          intro i22 pl ls H locs hm22  hl hO hP hD hS
          refine lv_iload hx hb dMH_keys_138 (lv_at hl 0 rfl) ?_
          refine lv_aload_n hx hb dMH_keys_140 rfl (lv_at hl 1 rfl) ?_
          refine ty_get (ci := 12) (C := "LatticeKeysModel$Hands") (TT := T_MH) (N := 31) (kd := (46, 0)) hx hb hts (wg_ft i_MH) hown hK hO k_h0 (nxg clo_nil k_h0 rfl) hP (fun _ h9 => h9) rfl 24 (by decide) (hts _ (wg_t kw_1456)) (fun _ h9 => h9) (cd := (1, 0, 4)) rfl dMH_keys_141 (fun v63 hv63 => ?_)
          obtain rfl := (show v63 = .int (nI 4) from hv63)
          refine mi_ge (tgt := 280) hx hb dMH_keys_144 (by decide) (by omega) (by omega) (fun h22 => ?_) (fun h22 => absurd h22 (by omega))
          refine lv_iconst (v := nI 0) hx hb dMH_keys_280 (by decide) ?_
          refine lv_istore (lv' := [(5, .int (nI 0)), (0, .ref h0), (3, .ref pk), (4, .ref sk)]) hx hb dMH_keys_281 hl (by decide) rfl (fun ls hl => ?_)
          have lp23 : ∀ (n23 : Nat) (i23 : Nat) (pl : va_W) (ls : Array Slot) (H : Heap) (locs : List Loc), n23 + i23 = 32 → lv_has ls 10 [(5, .int (nI i23)), (0, .ref h0), (3, .ref pk), (4, .ref sk)] → okx g T [] pl → va_P g.1 vcl ([] ++ pl) H → va_D A ([] ++ pl) → va_S A s.heap H locs → W p l e ({ frames := 4, cells := 0, slots := 0, locals := 98 } : Room) s m args below meth c H locs 0 0 (MQ below (va_Qv (fun (u : va_W) => (True) ∧ okx g T0 [] u) (po g.1 vcl A (fun (u : va_W) => [] ++ u)) A) args s 0 0 A) (F0 m 283 ls []) := by
            intro n23
            induction n23 with
            | zero =>
              intro i23 pl ls H locs hm23  hl hO hP hD hS
              refine lv_iload hx hb dMH_keys_283 (lv_at hl 0 rfl) ?_
              refine lv_bipush (v := nI 32) hx hb dMH_keys_285 (by decide) ?_
              refine mi_ge (tgt := 337) hx hb dMH_keys_287 (by decide) (by omega) (by omega) (fun h23 => ?_) (fun h23 => absurd h23 (by omega))
              refine lv_iconst (v := nI 0) hx hb dMH_keys_337 (by decide) ?_
              refine lv_istore (lv' := [(5, .int (nI 0)), (0, .ref h0), (3, .ref pk), (4, .ref sk)]) hx hb dMH_keys_338 hl (by decide) rfl (fun ls hl => ?_)
              have lp24 : ∀ (n24 : Nat) (i24 : Nat) (pl : va_W) (ls : Array Slot) (H : Heap) (locs : List Loc), n24 + i24 = 4 → lv_has ls 10 [(5, .int (nI i24)), (0, .ref h0), (3, .ref pk), (4, .ref sk)] → okx g T [] pl → va_P g.1 vcl ([] ++ pl) H → va_D A ([] ++ pl) → va_S A s.heap H locs → W p l e ({ frames := 4, cells := 0, slots := 0, locals := 98 } : Room) s m args below meth c H locs 0 0 (MQ below (va_Qv (fun (u : va_W) => (True) ∧ okx g T0 [] u) (po g.1 vcl A (fun (u : va_W) => [] ++ u)) A) args s 0 0 A) (F0 m 340 ls []) := by
                intro n24
                induction n24 with
                | zero =>
                  intro i24 pl ls H locs hm24  hl hO hP hD hS
                  refine lv_iload hx hb dMH_keys_340 (lv_at hl 0 rfl) ?_
                  refine lv_aload_n hx hb dMH_keys_342 rfl (lv_at hl 1 rfl) ?_
                  refine ty_get (ci := 12) (C := "LatticeKeysModel$Hands") (TT := T_MH) (N := 31) (kd := (46, 0)) hx hb hts (wg_ft i_MH) hown hK hO k_h0 (nxg clo_nil k_h0 rfl) hP (fun _ h9 => h9) rfl 24 (by decide) (hts _ (wg_t kw_1456)) (fun _ h9 => h9) (cd := (1, 0, 4)) rfl dMH_keys_343 (fun v64 hv64 => ?_)
                  obtain rfl := (show v64 = .int (nI 4) from hv64)
                  refine mi_ge (tgt := 404) hx hb dMH_keys_346 (by decide) (by omega) (by omega) (fun h24 => ?_) (fun h24 => absurd h24 (by omega))
                  refine lv_aload_n hx hb dMH_keys_404 rfl (lv_at hl 1 rfl) ?_
                  refine ty_get (ci := 12) (C := "LatticeKeysModel$Hands") (TT := T_MH) (N := 31) (kd := (46, 0)) hx hb hts (wg_ft i_MH) hown hK hO k_h0 (nxg clo_nil k_h0 rfl) hP (fun _ h9 => h9) rfl 0 (by decide) (hts _ (wg_t kw_1432)) (fun _ h9 => h9) (cd := (3, 20, 0)) rfl dMH_keys_405 (fun v65 hv65 => ?_)
                  obtain ⟨r52, rfl, kr52⟩ := (show ∃ r : Nat, v65 = .ref r ∧ T r = some (20, 0) from hv65)
                  obtain rfl : r44 = r52 := hU _ _ _ (by decide) kr44 kr52
                  obtain ⟨e28, pl, hP, hD, hk28, hO⟩ := open1 hP hD hO kr44 (nxg clo_nil kr44 rfl)
                  obtain ⟨am26, am27, am28, am29, am30, rt22, ps28, x22, rfl, km26, km27, km28, km29, km30, hr24, hr25, hr26⟩ := hk28
                  obtain ⟨e29, pl, hP, hD, hk29, hO⟩ := open1 hP hD hO km26 (nmc (knd_ne km26 kr44 (by decide)) (nxg clo_nil km26 rfl))
                  obtain ⟨f44, rfl⟩ := hk29
                  obtain ⟨e30, pl, hP, hD, hk30, hO⟩ := open1 hP hD hO km27 (nmc (knd_ne km27 km26 (by decide)) (nmc (knd_ne km27 kr44 (by decide)) (nxg clo_nil km27 rfl)))
                  obtain ⟨f45, rfl⟩ := hk30
                  obtain ⟨e31, pl, hP, hD, hk31, hO⟩ := open1 hP hD hO km28 (nmc (knd_ne km28 km27 (by decide)) (nmc (knd_ne km28 km26 (by decide)) (nmc (knd_ne km28 kr44 (by decide)) (nxg clo_nil km28 rfl))))
                  obtain ⟨f46, rfl⟩ := hk31
                  obtain ⟨e32, pl, hP, hD, hk32, hO⟩ := open1 hP hD hO km29 (nmc (knd_ne km29 km28 (by decide)) (nmc (knd_ne km29 km27 (by decide)) (nmc (knd_ne km29 km26 (by decide)) (nmc (knd_ne km29 kr44 (by decide)) (nxg clo_nil km29 rfl)))))
                  obtain ⟨f47, rfl⟩ := hk32
                  obtain ⟨e33, pl, hP, hD, hk33, hO⟩ := open1 hP hD hO km30 (nmc (knd_ne km30 km29 (by decide)) (nmc (knd_ne km30 km28 (by decide)) (nmc (knd_ne km30 km27 (by decide)) (nmc (knd_ne km30 km26 (by decide)) (nmc (knd_ne km30 kr44 (by decide)) (nxg clo_nil km30 rfl))))))
                  obtain ⟨f48, rfl⟩ := hk33
                  have hP : va_P g.1 vcl ([(r44, .inr (9, [.ref am26, .ref am27, .ref am28, .ref am29, .ref am30, .int (nI rt22), .int (nI ps28), .int x22])), (am26, .inl (g.2.1 2, 25, .inr (.inl f44))), (am27, .inl (g.2.1 2, 25, .inr (.inl f45))), (am28, .inl (g.2.1 2, 5, .inr (.inl f46))), (am29, .inl (g.2.1 2, 24, .inr (.inl f47))), (am30, .inl (g.2.1 0, 25, .inl f48))] ++ pl) _ := hP
                  have hD : va_D _ ([(r44, .inr (9, [.ref am26, .ref am27, .ref am28, .ref am29, .ref am30, .int (nI rt22), .int (nI ps28), .int x22])), (am26, .inl (g.2.1 2, 25, .inr (.inl f44))), (am27, .inl (g.2.1 2, 25, .inr (.inl f45))), (am28, .inl (g.2.1 2, 5, .inr (.inl f46))), (am29, .inl (g.2.1 2, 24, .inr (.inl f47))), (am30, .inl (g.2.1 0, 25, .inl f48))] ++ pl) := hD
                  refine mp_v (cx := [(r44, .inr (9, [.ref am26, .ref am27, .ref am28, .ref am29, .ref am30, .int (nI rt22), .int (nI ps28), .int x22])), (am26, .inl (g.2.1 2, 25, .inr (.inl f44))), (am27, .inl (g.2.1 2, 25, .inr (.inl f45))), (am28, .inl (g.2.1 2, 5, .inr (.inl f46))), (am29, .inl (g.2.1 2, 24, .inr (.inl f47))), (am30, .inl (g.2.1 0, 25, .inl f48))]) (wr := []) hP hD hS hA [0, 1, 2, 3, 4, 5] [] rfl rfl rfl (by decide) (va_runV (As := []) (rest := []) F (t_MS_shake l g _ T (am30 :: (am29 :: (am28 :: (am27 :: (am26 :: (r44 :: [])))))) pl hO hU  r44 am26 am27 am28 am29 am30 rt22 ps28 x22 f44 f45 f46 f47 f48) (cwV 0 hts (wg_app (wg_c kw_1718 (wg_c kw_1661 (wg_c kw_1662 (wg_c kw_10 wg_n)))) kw_1663) rfl rfl rfl (by decide +kernel) ⟨by decide, by decide⟩) (pp_V (en_ok g) (q0 := 0) hK hP hD hS hA hE [0, 1, 2, 3, 4, 5] rfl rfl rfl rfl) rfl rfl hl.1 rfl (lv_room (Nat.le_of_ble_eq_true rfl)) dMH_keys_408 ⟨by omega, by omega⟩) (fun  u33 H locs hu29 hP hD hS => ?_)
                  obtain ⟨u34, pl⟩ := u33
                  obtain ⟨hq29, hO⟩ := hu29
                  obtain ⟨ps29, f49, f50, f51⟩ := u34
                  have hP : va_P g.1 vcl ([(r44, .inr (9, [.ref am26, .ref am27, .ref am28, .ref am29, .ref am30, .int (nI 136), .int (nI ps29), .int (nI 31)])), (am26, .inl (g.2.1 2, 25, .inr (.inl f49))), (am27, .inl (g.2.1 2, 25, .inr (.inl f50))), (am28, .inl (g.2.1 2, 5, .inr (.inl f51))), (am29, .inl (g.2.1 2, 24, .inr (.inl f47))), (am30, .inl (g.2.1 0, 25, .inl f48))] ++ pl) _ := hP
                  have hD : va_D _ ([(r44, .inr (9, [.ref am26, .ref am27, .ref am28, .ref am29, .ref am30, .int (nI 136), .int (nI ps29), .int (nI 31)])), (am26, .inl (g.2.1 2, 25, .inr (.inl f49))), (am27, .inl (g.2.1 2, 25, .inr (.inl f50))), (am28, .inl (g.2.1 2, 5, .inr (.inl f51))), (am29, .inl (g.2.1 2, 24, .inr (.inl f47))), (am30, .inl (g.2.1 0, 25, .inl f48))] ++ pl) := hD
                  have hq29 : ps29 ≤ 136 := hq29
                  refine W.widen (k := 0) (n := 0) (by omega) (by omega) ?_
                  refine lv_aload_n hx hb dMH_keys_411 rfl (lv_at hl 1 rfl) ?_
                  refine ty_get (ci := 12) (C := "LatticeKeysModel$Hands") (TT := T_MH) (N := 31) (kd := (46, 0)) hx hb hts (wg_ft i_MH) hown hK hO k_h0 (nxg (clo_cons (clo_cons (clo_cons (clo_cons (clo_cons (clo_cons clo_nil kr44 (by decide)) km26 (by decide)) km27 (by decide)) km28 (by decide)) km29 (by decide)) km30 (by decide)) k_h0 rfl) hP (fun _ h9 => h9) rfl 0 (by decide) (hts _ (wg_t kw_1432)) (fun _ h9 => h9) (cd := (3, 20, 0)) rfl dMH_keys_412 (fun v66 hv66 => ?_)
                  obtain ⟨r53, rfl, kr53⟩ := (show ∃ r : Nat, v66 = .ref r ∧ T r = some (20, 0) from hv66)
                  obtain rfl : r44 = r53 := hU _ _ _ (by decide) kr44 kr53
                  refine lv_aload_n hx hb dMH_keys_415 rfl (lv_at hl 2 rfl) ?_
                  refine lv_iconst (v := nI 0) hx hb dMH_keys_416 (by decide) ?_
                  refine lv_aload_n hx hb dMH_keys_417 rfl (lv_at hl 1 rfl) ?_
                  refine ty_get (ci := 12) (C := "LatticeKeysModel$Hands") (TT := T_MH) (N := 31) (kd := (46, 0)) hx hb hts (wg_ft i_MH) hown hK hO k_h0 (nxg (clo_cons (clo_cons (clo_cons (clo_cons (clo_cons (clo_cons clo_nil kr44 (by decide)) km26 (by decide)) km27 (by decide)) km28 (by decide)) km29 (by decide)) km30 (by decide)) k_h0 rfl) hP (fun _ h9 => h9) rfl 23 (by decide) (hts _ (wg_t kw_1455)) (fun _ h9 => h9) (cd := (1, 0, 0)) rfl dMH_keys_418 (fun v67 hv67 => ?_)
                  obtain rfl := (show v67 = .int (nI 0) from hv67)
                  refine mp_i (cx := []) (wr := [(r44, .inr (9, [.ref am26, .ref am27, .ref am28, .ref am29, .ref am30, .int (nI 136), .int (nI ps29), .int (nI 31)])), (am26, .inl (g.2.1 2, 25, .inr (.inl f49))), (am27, .inl (g.2.1 2, 25, .inr (.inl f50))), (am28, .inl (g.2.1 2, 5, .inr (.inl f51))), (am29, .inl (g.2.1 2, 24, .inr (.inl f47))), (am30, .inl (g.2.1 0, 25, .inl f48))]) hP hD hS hA [] [0, 1, 2, 3, 4, 5] rfl rfl rfl (by decide) (va_runS (As := [.int (nI 0)]) (rest := [.int (nI 0), .ref pk, .ref r44]) F (t_MH_openSize_0 l g _ T (am30 :: (am29 :: (am28 :: (am27 :: (am26 :: (r44 :: [])))))) pl hO hU  ) (va_cwS 1 hts (wg_app (wg_c kw_1744 (wg_c kw_1745 (wg_c kw_13 wg_n))) kw_1746) rfl rfl rfl (by decide +kernel) ⟨by decide, by decide⟩) (pp_S (en_ok g) hP hD hS hA hE [] rfl rfl) rfl rfl hl.1 rfl (lv_room (Nat.le_of_ble_eq_true rfl)) dMH_keys_421 ⟨by omega, by omega⟩) (fun r54 pl H locs hu30 hP hD hS => ?_)
                  obtain ⟨hq30, hO⟩ := hu30
                  have hP : va_P g.1 vcl ([(r44, .inr (9, [.ref am26, .ref am27, .ref am28, .ref am29, .ref am30, .int (nI 136), .int (nI ps29), .int (nI 31)])), (am26, .inl (g.2.1 2, 25, .inr (.inl f49))), (am27, .inl (g.2.1 2, 25, .inr (.inl f50))), (am28, .inl (g.2.1 2, 5, .inr (.inl f51))), (am29, .inl (g.2.1 2, 24, .inr (.inl f47))), (am30, .inl (g.2.1 0, 25, .inl f48))] ++ pl) _ := hP
                  have hD : va_D _ ([(r44, .inr (9, [.ref am26, .ref am27, .ref am28, .ref am29, .ref am30, .int (nI 136), .int (nI ps29), .int (nI 31)])), (am26, .inl (g.2.1 2, 25, .inr (.inl f49))), (am27, .inl (g.2.1 2, 25, .inr (.inl f50))), (am28, .inl (g.2.1 2, 5, .inr (.inl f51))), (am29, .inl (g.2.1 2, 24, .inr (.inl f47))), (am30, .inl (g.2.1 0, 25, .inl f48))] ++ pl) := hD
                  obtain rfl := hq30
                  refine W.widen (k := 0) (n := 0) (by omega) (by omega) ?_
                  refine mp_v (cx := [(r44, .inr (9, [.ref am26, .ref am27, .ref am28, .ref am29, .ref am30, .int (nI 136), .int (nI ps29), .int (nI 31)])), (am26, .inl (g.2.1 2, 25, .inr (.inl f49))), (am27, .inl (g.2.1 2, 25, .inr (.inl f50))), (am28, .inl (g.2.1 2, 5, .inr (.inl f51))), (am29, .inl (g.2.1 2, 24, .inr (.inl f47))), (am30, .inl (g.2.1 0, 25, .inl f48))]) (wr := []) hP hD hS hA [0, 1, 2, 3, 4, 5] [] rfl rfl rfl (by decide) (va_runV (As := [.ref pk, .int (nI 0), .int (nI 1312)]) (rest := []) F (t_MS_puts l g _ T (am30 :: (am29 :: (am28 :: (am27 :: (am26 :: (r44 :: [])))))) pl hO hU (clo_cons (clo_cons (clo_cons (clo_cons (clo_cons (clo_cons clo_nil kr44 (by decide)) km26 (by decide)) km27 (by decide)) km28 (by decide)) km29 (by decide)) km30 (by decide)) pk 2592 0 1312 r44 am26 am27 am28 am29 am30 136 ps29 (nI 31) f49 f50 f51 f47 f48 k_pk (by omega) (by omega) (by omega) (by omega)) (cwV 3 hts (wg_app (wg_c kw_1719 (wg_c kw_1612 (wg_c kw_1613 (wg_c kw_10 wg_n)))) kw_1614) rfl rfl rfl (by decide +kernel) ⟨by decide, by decide⟩) (pp_V (en_ok g) (q0 := 0) hK hP hD hS hA hE [0, 1, 2, 3, 4, 5] rfl rfl rfl rfl) rfl rfl hl.1 rfl (lv_room (Nat.le_of_ble_eq_true rfl)) dMH_keys_424 ⟨by omega, by omega⟩) (fun  u35 H locs hu31 hP hD hS => ?_)
                  obtain ⟨u36, pl⟩ := u35
                  obtain ⟨hq31, hO⟩ := hu31
                  obtain ⟨ps30, f52, f53, f54⟩ := u36
                  have hP : va_P g.1 vcl ([(r44, .inr (9, [.ref am26, .ref am27, .ref am28, .ref am29, .ref am30, .int (nI 136), .int (nI ps30), .int (nI 31)])), (am26, .inl (g.2.1 2, 25, .inr (.inl f52))), (am27, .inl (g.2.1 2, 25, .inr (.inl f53))), (am28, .inl (g.2.1 2, 5, .inr (.inl f54))), (am29, .inl (g.2.1 2, 24, .inr (.inl f47))), (am30, .inl (g.2.1 0, 25, .inl f48))] ++ pl) _ := hP
                  have hD : va_D _ ([(r44, .inr (9, [.ref am26, .ref am27, .ref am28, .ref am29, .ref am30, .int (nI 136), .int (nI ps30), .int (nI 31)])), (am26, .inl (g.2.1 2, 25, .inr (.inl f52))), (am27, .inl (g.2.1 2, 25, .inr (.inl f53))), (am28, .inl (g.2.1 2, 5, .inr (.inl f54))), (am29, .inl (g.2.1 2, 24, .inr (.inl f47))), (am30, .inl (g.2.1 0, 25, .inl f48))] ++ pl) := hD
                  have hq31 : ps30 ≤ 136 := hq31
                  refine W.widen (k := 0) (n := 0) (by omega) (by omega) ?_
                  refine lv_aload_n hx hb dMH_keys_427 rfl (lv_at hl 1 rfl) ?_
                  refine ty_get (ci := 12) (C := "LatticeKeysModel$Hands") (TT := T_MH) (N := 31) (kd := (46, 0)) hx hb hts (wg_ft i_MH) hown hK hO k_h0 (nxg (clo_cons (clo_cons (clo_cons (clo_cons (clo_cons (clo_cons clo_nil kr44 (by decide)) km26 (by decide)) km27 (by decide)) km28 (by decide)) km29 (by decide)) km30 (by decide)) k_h0 rfl) hP (fun _ h9 => h9) rfl 0 (by decide) (hts _ (wg_t kw_1432)) (fun _ h9 => h9) (cd := (3, 20, 0)) rfl dMH_keys_428 (fun v68 hv68 => ?_)
                  obtain ⟨r55, rfl, kr54⟩ := (show ∃ r : Nat, v68 = .ref r ∧ T r = some (20, 0) from hv68)
                  obtain rfl : r44 = r55 := hU _ _ _ (by decide) kr44 kr54
                  refine mp_v (cx := [(r44, .inr (9, [.ref am26, .ref am27, .ref am28, .ref am29, .ref am30, .int (nI 136), .int (nI ps30), .int (nI 31)])), (am26, .inl (g.2.1 2, 25, .inr (.inl f52))), (am27, .inl (g.2.1 2, 25, .inr (.inl f53))), (am28, .inl (g.2.1 2, 5, .inr (.inl f54))), (am29, .inl (g.2.1 2, 24, .inr (.inl f47))), (am30, .inl (g.2.1 0, 25, .inl f48))]) (wr := []) hP hD hS hA [0, 1, 2, 3, 4, 5] [] rfl rfl rfl (by decide) (va_runV (As := []) (rest := []) F (t_MS_end l g _ T (am30 :: (am29 :: (am28 :: (am27 :: (am26 :: (r44 :: [])))))) pl hO hU  r44 am26 am27 am28 am29 am30 136 ps30 (nI 31) f52 f53 f54 f47 f48 (by omega) (by omega)) (cwV 0 hts (wg_app (wg_c kw_1721 (wg_c kw_1634 (wg_c kw_1635 (wg_c kw_10 wg_n)))) kw_1636) rfl rfl rfl (by decide +kernel) ⟨by decide, by decide⟩) (pp_V (en_ok g) (q0 := 0) hK hP hD hS hA hE [0, 1, 2, 3, 4, 5] rfl rfl rfl rfl) rfl rfl hl.1 rfl (lv_room (Nat.le_of_ble_eq_true rfl)) dMH_keys_431 ⟨by omega, by omega⟩) (fun  u37 H locs hu32 hP hD hS => ?_)
                  obtain ⟨u38, pl⟩ := u37
                  obtain ⟨hq32, hO⟩ := hu32
                  obtain ⟨ps31, f55, f56, f57⟩ := u38
                  have hP : va_P g.1 vcl ([(r44, .inr (9, [.ref am26, .ref am27, .ref am28, .ref am29, .ref am30, .int (nI 136), .int (nI ps31), .int (nI 31)])), (am26, .inl (g.2.1 2, 25, .inr (.inl f55))), (am27, .inl (g.2.1 2, 25, .inr (.inl f56))), (am28, .inl (g.2.1 2, 5, .inr (.inl f57))), (am29, .inl (g.2.1 2, 24, .inr (.inl f47))), (am30, .inl (g.2.1 0, 25, .inl f48))] ++ pl) _ := hP
                  have hD : va_D _ ([(r44, .inr (9, [.ref am26, .ref am27, .ref am28, .ref am29, .ref am30, .int (nI 136), .int (nI ps31), .int (nI 31)])), (am26, .inl (g.2.1 2, 25, .inr (.inl f55))), (am27, .inl (g.2.1 2, 25, .inr (.inl f56))), (am28, .inl (g.2.1 2, 5, .inr (.inl f57))), (am29, .inl (g.2.1 2, 24, .inr (.inl f47))), (am30, .inl (g.2.1 0, 25, .inl f48))] ++ pl) := hD
                  have hq32 : ps31 ≤ 136 := hq32
                  refine W.widen (k := 0) (n := 0) (by omega) (by omega) ?_
                  refine lv_aload_n hx hb dMH_keys_434 rfl (lv_at hl 1 rfl) ?_
                  refine ty_get (ci := 12) (C := "LatticeKeysModel$Hands") (TT := T_MH) (N := 31) (kd := (46, 0)) hx hb hts (wg_ft i_MH) hown hK hO k_h0 (nxg (clo_cons (clo_cons (clo_cons (clo_cons (clo_cons (clo_cons clo_nil kr44 (by decide)) km26 (by decide)) km27 (by decide)) km28 (by decide)) km29 (by decide)) km30 (by decide)) k_h0 rfl) hP (fun _ h9 => h9) rfl 0 (by decide) (hts _ (wg_t kw_1432)) (fun _ h9 => h9) (cd := (3, 20, 0)) rfl dMH_keys_435 (fun v69 hv69 => ?_)
                  obtain ⟨r56, rfl, kr55⟩ := (show ∃ r : Nat, v69 = .ref r ∧ T r = some (20, 0) from hv69)
                  obtain rfl : r44 = r56 := hU _ _ _ (by decide) kr44 kr55
                  refine lv_aload hx hb dMH_keys_438 (lv_at hl 3 rfl) ?_
                  refine lv_bipush (v := nI 64) hx hb dMH_keys_440 (by decide) ?_
                  refine lv_bipush (v := nI 64) hx hb dMH_keys_442 (by decide) ?_
                  refine mp_v (cx := [(r44, .inr (9, [.ref am26, .ref am27, .ref am28, .ref am29, .ref am30, .int (nI 136), .int (nI ps31), .int (nI 31)])), (am26, .inl (g.2.1 2, 25, .inr (.inl f55))), (am27, .inl (g.2.1 2, 25, .inr (.inl f56))), (am28, .inl (g.2.1 2, 5, .inr (.inl f57))), (am29, .inl (g.2.1 2, 24, .inr (.inl f47))), (am30, .inl (g.2.1 0, 25, .inl f48))]) (wr := []) hP hD hS hA [0, 1, 2, 3, 4, 5] [] rfl rfl rfl (by decide) (va_runV (As := [.ref sk, .int (nI 64), .int (nI 64)]) (rest := []) F (t_MS_take l g _ T (am30 :: (am29 :: (am28 :: (am27 :: (am26 :: (r44 :: [])))))) pl hO hU (clo_cons (clo_cons (clo_cons (clo_cons (clo_cons (clo_cons clo_nil kr44 (by decide)) km26 (by decide)) km27 (by decide)) km28 (by decide)) km29 (by decide)) km30 (by decide)) sk 4896 64 64 r44 am26 am27 am28 am29 am30 136 ps31 (nI 31) f55 f56 f57 f47 f48 k_sk (by omega) (by omega) (by omega) (by omega)) (cwV 3 hts (wg_app (wg_c kw_1722 (wg_c kw_1638 (wg_c kw_1639 (wg_c kw_10 wg_n)))) kw_1640) rfl rfl rfl (by decide +kernel) ⟨by decide, by decide⟩) (pp_V (en_ok g) (q0 := 0) hK hP hD hS hA hE [0, 1, 2, 3, 4, 5] rfl rfl rfl rfl) rfl rfl hl.1 rfl (lv_room (Nat.le_of_ble_eq_true rfl)) dMH_keys_444 ⟨by omega, by omega⟩) (fun  u39 H locs hu33 hP hD hS => ?_)
                  obtain ⟨u40, pl⟩ := u39
                  obtain ⟨hq33, hO⟩ := hu33
                  obtain ⟨ps32, f58, f59, f60⟩ := u40
                  have hP : va_P g.1 vcl ([(r44, .inr (9, [.ref am26, .ref am27, .ref am28, .ref am29, .ref am30, .int (nI 136), .int (nI ps32), .int (nI 31)])), (am26, .inl (g.2.1 2, 25, .inr (.inl f58))), (am27, .inl (g.2.1 2, 25, .inr (.inl f59))), (am28, .inl (g.2.1 2, 5, .inr (.inl f60))), (am29, .inl (g.2.1 2, 24, .inr (.inl f47))), (am30, .inl (g.2.1 0, 25, .inl f48))] ++ pl) _ := hP
                  have hD : va_D _ ([(r44, .inr (9, [.ref am26, .ref am27, .ref am28, .ref am29, .ref am30, .int (nI 136), .int (nI ps32), .int (nI 31)])), (am26, .inl (g.2.1 2, 25, .inr (.inl f58))), (am27, .inl (g.2.1 2, 25, .inr (.inl f59))), (am28, .inl (g.2.1 2, 5, .inr (.inl f60))), (am29, .inl (g.2.1 2, 24, .inr (.inl f47))), (am30, .inl (g.2.1 0, 25, .inl f48))] ++ pl) := hD
                  have hq33 : ps32 ≤ 136 := hq33
                  refine W.widen (k := 0) (n := 0) (by omega) (by omega) ?_
                  refine lv_aload_n hx hb dMH_keys_447 rfl (lv_at hl 1 rfl) ?_
                  refine ty_get (ci := 12) (C := "LatticeKeysModel$Hands") (TT := T_MH) (N := 31) (kd := (46, 0)) hx hb hts (wg_ft i_MH) hown hK hO k_h0 (nxg (clo_cons (clo_cons (clo_cons (clo_cons (clo_cons (clo_cons clo_nil kr44 (by decide)) km26 (by decide)) km27 (by decide)) km28 (by decide)) km29 (by decide)) km30 (by decide)) k_h0 rfl) hP (fun _ h9 => h9) rfl 26 (by decide) (hts _ (wg_t kw_1458)) (fun _ h9 => h9) (cd := (1, 0, 2)) rfl dMH_keys_448 (fun v70 hv70 => ?_)
                  obtain rfl := (show v70 = .int (nI 2) from hv70)
                  refine lv_iconst (v := nI 2) hx hb dMH_keys_451 (by decide) ?_
                  refine mi_ne (tgt := 459) hx hb dMH_keys_452 (by decide) (by omega) (by omega) (fun h25 => absurd h25 (by omega)) (fun h25 => ?_)
                  refine lv_iconst (v := nI 3) hx hb dMH_keys_455 (by decide) ?_
                  refine lv_goto (tgt := 460) hx hb dMH_keys_456 (by decide) ?_
                  refine lv_istore (lv' := [(5, .int (nI 3)), (0, .ref h0), (3, .ref pk), (4, .ref sk)]) hx hb dMH_keys_460 hl (by decide) rfl (fun ls hl => ?_)
                  refine lv_sipush (v := nI 1024) hx hb dMH_keys_462 (by decide) ?_
                  refine lv_istore (lv' := [(6, .int (nI 1024)), (5, .int (nI 3)), (0, .ref h0), (3, .ref pk), (4, .ref sk)]) hx hb dMH_keys_465 hl (by decide) rfl (fun ls hl => ?_)
                  refine lv_iconst (v := nI 0) hx hb dMH_keys_467 (by decide) ?_
                  refine lv_istore (lv' := [(7, .int (nI 0)), (6, .int (nI 1024)), (5, .int (nI 3)), (0, .ref h0), (3, .ref pk), (4, .ref sk)]) hx hb dMH_keys_468 hl (by decide) rfl (fun ls hl => ?_)
                  have hO := close1 (e := .inl (g.2.1 0, 25, .inl f48)) hO km30 ⟨_, rfl⟩
                  have hO := close1 (e := .inl (g.2.1 2, 24, .inr (.inl f47))) hO km29 ⟨_, rfl⟩
                  have hO := close1 (e := .inl (g.2.1 2, 5, .inr (.inl f60))) hO km28 ⟨_, rfl⟩
                  have hO := close1 (e := .inl (g.2.1 2, 25, .inr (.inl f59))) hO km27 ⟨_, rfl⟩
                  have hO := close1 (e := .inl (g.2.1 2, 25, .inr (.inl f58))) hO km26 ⟨_, rfl⟩
                  have hO := close1 (e := .inr (9, [.ref am26, .ref am27, .ref am28, .ref am29, .ref am30, .int (nI 136), .int (nI ps32), .int (nI 31)])) hO kr44 ⟨_, _, _, _, _, _, _, _, rfl, km26, km27, km28, km29, km30, by omega, by omega, by omega⟩
                  have hO : okx g T [] ((r44, .inr (9, [.ref am26, .ref am27, .ref am28, .ref am29, .ref am30, .int (nI 136), .int (nI ps32), .int (nI 31)])) :: (am26, .inl (g.2.1 2, 25, .inr (.inl f58))) :: (am27, .inl (g.2.1 2, 25, .inr (.inl f59))) :: (am28, .inl (g.2.1 2, 5, .inr (.inl f60))) :: (am29, .inl (g.2.1 2, 24, .inr (.inl f47))) :: (am30, .inl (g.2.1 0, 25, .inl f48)) :: pl) := hO
                  have hP : va_P g.1 vcl ([] ++ ((r44, .inr (9, [.ref am26, .ref am27, .ref am28, .ref am29, .ref am30, .int (nI 136), .int (nI ps32), .int (nI 31)])) :: (am26, .inl (g.2.1 2, 25, .inr (.inl f58))) :: (am27, .inl (g.2.1 2, 25, .inr (.inl f59))) :: (am28, .inl (g.2.1 2, 5, .inr (.inl f60))) :: (am29, .inl (g.2.1 2, 24, .inr (.inl f47))) :: (am30, .inl (g.2.1 0, 25, .inl f48)) :: pl)) _ := hP
                  have hD : va_D _ ([] ++ ((r44, .inr (9, [.ref am26, .ref am27, .ref am28, .ref am29, .ref am30, .int (nI 136), .int (nI ps32), .int (nI 31)])) :: (am26, .inl (g.2.1 2, 25, .inr (.inl f58))) :: (am27, .inl (g.2.1 2, 25, .inr (.inl f59))) :: (am28, .inl (g.2.1 2, 5, .inr (.inl f60))) :: (am29, .inl (g.2.1 2, 24, .inr (.inl f47))) :: (am30, .inl (g.2.1 0, 25, .inl f48)) :: pl)) := hD
                  generalize ((r44, .inr (9, [.ref am26, .ref am27, .ref am28, .ref am29, .ref am30, .int (nI 136), .int (nI ps32), .int (nI 31)])) :: (am26, .inl (g.2.1 2, 25, .inr (.inl f58))) :: (am27, .inl (g.2.1 2, 25, .inr (.inl f59))) :: (am28, .inl (g.2.1 2, 5, .inr (.inl f60))) :: (am29, .inl (g.2.1 2, 24, .inr (.inl f47))) :: (am30, .inl (g.2.1 0, 25, .inl f48)) :: pl) = pl at hO hP hD
                  have lp25 : ∀ (n25 : Nat) (i25 : Nat) (az21 : Nat) (pl : va_W) (ls : Array Slot) (H : Heap) (locs : List Loc), n25 + i25 = 8 → (az21 = 1024 + 768 * i25) → lv_has ls 10 [(7, .int (nI i25)), (6, .int (nI az21)), (5, .int (nI 3)), (0, .ref h0), (4, .ref sk)] → okx g T [] pl → va_P g.1 vcl ([] ++ pl) H → va_D A ([] ++ pl) → va_S A s.heap H locs → W p l e ({ frames := 4, cells := 0, slots := 0, locals := 98 } : Room) s m args below meth c H locs 0 0 (MQ below (va_Qv (fun (u : va_W) => (True) ∧ okx g T0 [] u) (po g.1 vcl A (fun (u : va_W) => [] ++ u)) A) args s 0 0 A) (F0 m 470 ls []) := by
                    intro n25
                    induction n25 with
                    | zero =>
                      intro i25 az21 pl ls H locs hm25 hi21 hl hO hP hD hS
                      refine lv_iload hx hb dMH_keys_470 (lv_at hl 0 rfl) ?_
                      refine lv_aload_n hx hb dMH_keys_472 rfl (lv_at hl 3 rfl) ?_
                      refine ty_get (ci := 12) (C := "LatticeKeysModel$Hands") (TT := T_MH) (N := 31) (kd := (46, 0)) hx hb hts (wg_ft i_MH) hown hK hO k_h0 (nxg clo_nil k_h0 rfl) hP (fun _ h9 => h9) rfl 24 (by decide) (hts _ (wg_t kw_1456)) (fun _ h9 => h9) (cd := (1, 0, 4)) rfl dMH_keys_473 (fun v71 hv71 => ?_)
                      obtain rfl := (show v71 = .int (nI 4) from hv71)
                      refine lv_aload_n hx hb dMH_keys_476 rfl (lv_at hl 3 rfl) ?_
                      refine ty_get (ci := 12) (C := "LatticeKeysModel$Hands") (TT := T_MH) (N := 31) (kd := (46, 0)) hx hb hts (wg_ft i_MH) hown hK hO k_h0 (nxg clo_nil k_h0 rfl) hP (fun _ h9 => h9) rfl 25 (by decide) (hts _ (wg_t kw_1457)) (fun _ h9 => h9) (cd := (1, 0, 4)) rfl dMH_keys_477 (fun v72 hv72 => ?_)
                      obtain rfl := (show v72 = .int (nI 4) from hv72)
                      refine mi_iadd hx hb dMH_keys_480 ?_
                      refine mi_as (show nI (4 + 4) = nI 8 from rfl) ?_
                      refine mi_ge (tgt := 591) hx hb dMH_keys_481 (by decide) (by omega) (by omega) (fun h26 => ?_) (fun h26 => absurd h26 (by omega))
                      refine lv_iconst (v := nI 0) hx hb dMH_keys_591 (by decide) ?_
                      refine lv_istore (lv' := [(7, .int (nI 0)), (6, .int (nI az21)), (5, .int (nI 3)), (0, .ref h0), (4, .ref sk)]) hx hb dMH_keys_592 hl (by decide) rfl (fun ls hl => ?_)
                      have lp26 : ∀ (n26 : Nat) (i26 : Nat) (az22 : Nat) (pl : va_W) (ls : Array Slot) (H : Heap) (locs : List Loc), n26 + i26 = 4 → (az22 = 7168 + 3328 * i26) → lv_has ls 10 [(7, .int (nI i26)), (6, .int (nI az22)), (0, .ref h0), (4, .ref sk)] → okx g T [] pl → va_P g.1 vcl ([] ++ pl) H → va_D A ([] ++ pl) → va_S A s.heap H locs → W p l e ({ frames := 4, cells := 0, slots := 0, locals := 98 } : Room) s m args below meth c H locs 0 0 (MQ below (va_Qv (fun (u : va_W) => (True) ∧ okx g T0 [] u) (po g.1 vcl A (fun (u : va_W) => [] ++ u)) A) args s 0 0 A) (F0 m 594 ls []) := by
                        intro n26
                        induction n26 with
                        | zero =>
                          intro i26 az22 pl ls H locs hm26 hi22 hl hO hP hD hS
                          refine lv_iload hx hb dMH_keys_594 (lv_at hl 0 rfl) ?_
                          refine lv_aload_n hx hb dMH_keys_596 rfl (lv_at hl 2 rfl) ?_
                          refine ty_get (ci := 12) (C := "LatticeKeysModel$Hands") (TT := T_MH) (N := 31) (kd := (46, 0)) hx hb hts (wg_ft i_MH) hown hK hO k_h0 (nxg clo_nil k_h0 rfl) hP (fun _ h9 => h9) rfl 24 (by decide) (hts _ (wg_t kw_1456)) (fun _ h9 => h9) (cd := (1, 0, 4)) rfl dMH_keys_597 (fun v73 hv73 => ?_)
                          obtain rfl := (show v73 = .int (nI 4) from hv73)
                          refine mi_ge (tgt := 652) hx hb dMH_keys_600 (by decide) (by omega) (by omega) (fun h27 => ?_) (fun h27 => absurd h27 (by omega))
                          exact mp_vret hx hb hr hlk hP hD hS pl ⟨trivial, (hback _ hO)⟩ [] rfl rfl rfl (by omega) (by omega) dMH_keys_652
                        | succ n26 ih26 =>
                          intro i26 az22 pl ls H locs hm26 hi22 hl hO hP hD hS
                          refine lv_iload hx hb dMH_keys_594 (lv_at hl 0 rfl) ?_
                          refine lv_aload_n hx hb dMH_keys_596 rfl (lv_at hl 2 rfl) ?_
                          refine ty_get (ci := 12) (C := "LatticeKeysModel$Hands") (TT := T_MH) (N := 31) (kd := (46, 0)) hx hb hts (wg_ft i_MH) hown hK hO k_h0 (nxg clo_nil k_h0 rfl) hP (fun _ h9 => h9) rfl 24 (by decide) (hts _ (wg_t kw_1456)) (fun _ h9 => h9) (cd := (1, 0, 4)) rfl dMH_keys_597 (fun v74 hv74 => ?_)
                          obtain rfl := (show v74 = .int (nI 4) from hv74)
                          refine mi_ge (tgt := 652) hx hb dMH_keys_600 (by decide) (by omega) (by omega) (fun h28 => absurd h28 (by omega)) (fun h28 => ?_)
                          refine lv_iconst (v := nI 0) hx hb dMH_keys_603 (by decide) ?_
                          refine lv_istore (lv' := [(8, .int (nI 0)), (7, .int (nI i26)), (6, .int (nI az22)), (0, .ref h0), (4, .ref sk)]) hx hb dMH_keys_604 hl (by decide) rfl (fun ls hl => ?_)
                          have lp27 : ∀ (n27 : Nat) (i27 : Nat) (az23 : Nat) (pl : va_W) (ls : Array Slot) (H : Heap) (locs : List Loc), n27 + i27 = 256 → (az23 = 7168 + 3328 * i26 + 13 * i27) → lv_has ls 10 [(8, .int (nI i27)), (7, .int (nI i26)), (6, .int (nI az23)), (0, .ref h0), (4, .ref sk)] → okx g T [] pl → va_P g.1 vcl ([] ++ pl) H → va_D A ([] ++ pl) → va_S A s.heap H locs → W p l e ({ frames := 4, cells := 0, slots := 0, locals := 98 } : Room) s m args below meth c H locs 0 0 (MQ below (va_Qv (fun (u : va_W) => (True) ∧ okx g T0 [] u) (po g.1 vcl A (fun (u : va_W) => [] ++ u)) A) args s 0 0 A) (F0 m 606 ls []) := by
                            intro n27
                            induction n27 with
                            | zero =>
                              intro i27 az23 pl ls H locs hm27 hi23 hl hO hP hD hS
                              refine lv_iload hx hb dMH_keys_606 (lv_at hl 0 rfl) ?_
                              refine lv_sipush (v := nI 256) hx hb dMH_keys_608 (by decide) ?_
                              refine mi_ge (tgt := 646) hx hb dMH_keys_611 (by decide) (by omega) (by omega) (fun h29 => ?_) (fun h29 => absurd h29 (by omega))
                              refine mi_iinc (k := 1) (x := i26) (d := 1) (y := i26 + 1) (lv' := [(7, .int (nI (i26 + 1))), (8, .int (nI i27)), (6, .int (nI az23)), (0, .ref h0), (4, .ref sk)]) hx hb dMH_keys_646 hl rfl (by decide) rfl (by decide) rfl (fun ls hl => ?_)
                              refine lv_goto (tgt := 594) hx hb dMH_keys_649 (by decide) ?_
                              exact ih26 (i26 + 1) az23 pl ls H locs (by omega) (by omega) (lv_sub hl [0, 2, 3, 4] rfl) hO hP hD hS
                            | succ n27 ih27 =>
                              intro i27 az23 pl ls H locs hm27 hi23 hl hO hP hD hS
                              refine lv_iload hx hb dMH_keys_606 (lv_at hl 0 rfl) ?_
                              refine lv_sipush (v := nI 256) hx hb dMH_keys_608 (by decide) ?_
                              refine mi_ge (tgt := 646) hx hb dMH_keys_611 (by decide) (by omega) (by omega) (fun h30 => absurd h30 (by omega)) (fun h30 => ?_)
                              refine lv_aload hx hb dMH_keys_614 (lv_at hl 4 rfl) ?_
                              refine lv_iload hx hb dMH_keys_616 (lv_at hl 2 rfl) ?_
                              refine lv_bipush (v := nI 13) hx hb dMH_keys_618 (by decide) ?_
                              refine lv_sipush (v := nI 4096) hx hb dMH_keys_620 (by decide) ?_
                              refine lv_aload_n hx hb dMH_keys_623 rfl (lv_at hl 3 rfl) ?_
                              refine ty_get (ci := 12) (C := "LatticeKeysModel$Hands") (TT := T_MH) (N := 31) (kd := (46, 0)) hx hb hts (wg_ft i_MH) hown hK hO k_h0 (nxg clo_nil k_h0 rfl) hP (fun _ h9 => h9) rfl 5 (by decide) (hts _ (wg_t kw_1437)) (fun _ h9 => h9) (cd := (3, 3, 8)) rfl dMH_keys_624 (fun v75 hv75 => ?_)
                              obtain ⟨r57, rfl, kr56⟩ := (show ∃ r : Nat, v75 = .ref r ∧ T r = some (3, 8) from hv75)
                              refine lv_iload hx hb dMH_keys_627 (lv_at hl 1 rfl) ?_
                              refine ty_aald3 hx hb hK hO kr56 (nxg clo_nil kr56 rfl) hP (by omega) (by decide) dMH_keys_629 (fun r58 kr57 => ?_)
                              refine lv_iload hx hb dMH_keys_630 (lv_at hl 0 rfl) ?_
                              refine ty_iald hx hb hK hO kr57 (nxg clo_nil kr57 rfl) hP (vp_in_nI (by omega) (by decide)) dMH_keys_632 (fun z29 => ?_)
                              refine lv_isub hx hb dMH_keys_633 ?_
                              refine mi_any (fun z30 => ?_)
                              refine mp_v (cx := []) (wr := []) hP hD hS hA [] [] rfl rfl rfl (by decide) (va_runSN (As := [.ref sk, .int (nI az23), .int (nI 13), .int z30]) (rest := []) F (t_M_pack l g _ T [] pl hO hU clo_nil sk 4896 az23 13 z30 k_sk (by omega) (by omega)) ⟨va_cnB 4 hts (wg_in kw_1690) rfl rfl rfl (hE.2.2.2.2.2.2.2.2.2.1) (hts _ (wg_t kw_9)) (by decide +kernel) ⟨by decide, by decide⟩, hts _ (wg_t kw_1689), trivial⟩ (pp_S (en_ok g) hP hD hS hA hE [] rfl rfl) rfl rfl hl.1 rfl (lv_room (Nat.le_of_ble_eq_true rfl)) dMH_keys_634 ⟨by omega, by omega⟩) (fun  pl H locs hu34 hP hD hS => ?_)
                              obtain ⟨hq34, hO⟩ := hu34
                              have hP : va_P g.1 vcl ([] ++ pl) _ := hP
                              have hD : va_D _ ([] ++ pl) := hD
                              refine W.widen (k := 0) (n := 0) (by omega) (by omega) ?_
                              refine mi_iinc (k := 2) (x := az23) (d := 13) (y := az23 + 13) (lv' := [(6, .int (nI (az23 + 13))), (8, .int (nI i27)), (7, .int (nI i26)), (0, .ref h0), (4, .ref sk)]) hx hb dMH_keys_637 hl rfl (by decide) rfl (by decide) rfl (fun ls hl => ?_)
                              refine mi_iinc (k := 1) (x := i27) (d := 1) (y := i27 + 1) (lv' := [(8, .int (nI (i27 + 1))), (6, .int (nI (az23 + 13))), (7, .int (nI i26)), (0, .ref h0), (4, .ref sk)]) hx hb dMH_keys_640 hl rfl (by decide) rfl (by decide) rfl (fun ls hl => ?_)
                              refine lv_goto (tgt := 606) hx hb dMH_keys_643 (by decide) ?_
                              exact ih27 (i27 + 1) (az23 + 13) pl ls H locs (by omega) (by omega) (lv_sub hl [0, 2, 1, 3, 4] rfl) hO hP hD hS
                          exact lp27 256 0 az22 pl ls _ _ (by omega) (by omega) (lv_sub hl [0, 1, 2, 3, 4] rfl) hO hP hD hS
                      exact lp26 4 0 az21 pl ls _ _ (by omega) (by omega) (lv_sub hl [0, 1, 3, 4] rfl) hO hP hD hS
                    | succ n25 ih25 =>
                      intro i25 az21 pl ls H locs hm25 hi21 hl hO hP hD hS
                      refine lv_iload hx hb dMH_keys_470 (lv_at hl 0 rfl) ?_
                      refine lv_aload_n hx hb dMH_keys_472 rfl (lv_at hl 3 rfl) ?_
                      refine ty_get (ci := 12) (C := "LatticeKeysModel$Hands") (TT := T_MH) (N := 31) (kd := (46, 0)) hx hb hts (wg_ft i_MH) hown hK hO k_h0 (nxg clo_nil k_h0 rfl) hP (fun _ h9 => h9) rfl 24 (by decide) (hts _ (wg_t kw_1456)) (fun _ h9 => h9) (cd := (1, 0, 4)) rfl dMH_keys_473 (fun v76 hv76 => ?_)
                      obtain rfl := (show v76 = .int (nI 4) from hv76)
                      refine lv_aload_n hx hb dMH_keys_476 rfl (lv_at hl 3 rfl) ?_
                      refine ty_get (ci := 12) (C := "LatticeKeysModel$Hands") (TT := T_MH) (N := 31) (kd := (46, 0)) hx hb hts (wg_ft i_MH) hown hK hO k_h0 (nxg clo_nil k_h0 rfl) hP (fun _ h9 => h9) rfl 25 (by decide) (hts _ (wg_t kw_1457)) (fun _ h9 => h9) (cd := (1, 0, 4)) rfl dMH_keys_477 (fun v77 hv77 => ?_)
                      obtain rfl := (show v77 = .int (nI 4) from hv77)
                      refine mi_iadd hx hb dMH_keys_480 ?_
                      refine mi_as (show nI (4 + 4) = nI 8 from rfl) ?_
                      refine mi_ge (tgt := 591) hx hb dMH_keys_481 (by decide) (by omega) (by omega) (fun h31 => absurd h31 (by omega)) (fun h31 => ?_)
                      refine lv_iconst (v := nI 0) hx hb dMH_keys_484 (by decide) ?_
                      refine lv_istore (lv' := [(8, .int (nI 0)), (7, .int (nI i25)), (6, .int (nI az21)), (5, .int (nI 3)), (0, .ref h0), (4, .ref sk)]) hx hb dMH_keys_485 hl (by decide) rfl (fun ls hl => ?_)
                      have lp28 : ∀ (n28 : Nat) (i28 : Nat) (az24 : Nat) (pl : va_W) (ls : Array Slot) (H : Heap) (locs : List Loc), n28 + i28 = 256 → (az24 = 1024 + 768 * i25 + 3 * i28) → lv_has ls 10 [(8, .int (nI i28)), (7, .int (nI i25)), (6, .int (nI az24)), (5, .int (nI 3)), (0, .ref h0), (4, .ref sk)] → okx g T [] pl → va_P g.1 vcl ([] ++ pl) H → va_D A ([] ++ pl) → va_S A s.heap H locs → W p l e ({ frames := 4, cells := 0, slots := 0, locals := 98 } : Room) s m args below meth c H locs 0 0 (MQ below (va_Qv (fun (u : va_W) => (True) ∧ okx g T0 [] u) (po g.1 vcl A (fun (u : va_W) => [] ++ u)) A) args s 0 0 A) (F0 m 487 ls []) := by
                        intro n28
                        induction n28 with
                        | zero =>
                          intro i28 az24 pl ls H locs hm28 hi24 hl hO hP hD hS
                          refine lv_iload hx hb dMH_keys_487 (lv_at hl 0 rfl) ?_
                          refine lv_sipush (v := nI 256) hx hb dMH_keys_489 (by decide) ?_
                          refine mi_ge (tgt := 585) hx hb dMH_keys_492 (by decide) (by omega) (by omega) (fun h32 => ?_) (fun h32 => absurd h32 (by omega))
                          refine mi_iinc (k := 1) (x := i25) (d := 1) (y := i25 + 1) (lv' := [(7, .int (nI (i25 + 1))), (8, .int (nI i28)), (6, .int (nI az24)), (5, .int (nI 3)), (0, .ref h0), (4, .ref sk)]) hx hb dMH_keys_585 hl rfl (by decide) rfl (by decide) rfl (fun ls hl => ?_)
                          refine lv_goto (tgt := 470) hx hb dMH_keys_588 (by decide) ?_
                          exact ih25 (i25 + 1) az24 pl ls H locs (by omega) (by omega) (lv_sub hl [0, 2, 3, 4, 5] rfl) hO hP hD hS
                        | succ n28 ih28 =>
                          intro i28 az24 pl ls H locs hm28 hi24 hl hO hP hD hS
                          refine lv_iload hx hb dMH_keys_487 (lv_at hl 0 rfl) ?_
                          refine lv_sipush (v := nI 256) hx hb dMH_keys_489 (by decide) ?_
                          refine mi_ge (tgt := 585) hx hb dMH_keys_492 (by decide) (by omega) (by omega) (fun h33 => absurd h33 (by omega)) (fun h33 => ?_)
                          refine lv_iload hx hb dMH_keys_495 (lv_at hl 1 rfl) ?_
                          refine lv_aload_n hx hb dMH_keys_497 rfl (lv_at hl 4 rfl) ?_
                          refine ty_get (ci := 12) (C := "LatticeKeysModel$Hands") (TT := T_MH) (N := 31) (kd := (46, 0)) hx hb hts (wg_ft i_MH) hown hK hO k_h0 (nxg clo_nil k_h0 rfl) hP (fun _ h9 => h9) rfl 25 (by decide) (hts _ (wg_t kw_1457)) (fun _ h9 => h9) (cd := (1, 0, 4)) rfl dMH_keys_498 (fun v78 hv78 => ?_)
                          obtain rfl := (show v78 = .int (nI 4) from hv78)
                          refine mi_ge (tgt := 517) hx hb dMH_keys_501 (by decide) (by omega) (by omega) (fun h34 => ?_) (fun h34 => ?_)
                          · refine lv_aload_n hx hb dMH_keys_517 rfl (lv_at hl 4 rfl) ?_
                            refine ty_get (ci := 12) (C := "LatticeKeysModel$Hands") (TT := T_MH) (N := 31) (kd := (46, 0)) hx hb hts (wg_ft i_MH) hown hK hO k_h0 (nxg clo_nil k_h0 rfl) hP (fun _ h9 => h9) rfl 4 (by decide) (hts _ (wg_t kw_1436)) (fun _ h9 => h9) (cd := (3, 3, 8)) rfl dMH_keys_518 (fun v79 hv79 => ?_)
                            obtain ⟨r59, rfl, kr58⟩ := (show ∃ r : Nat, v79 = .ref r ∧ T r = some (3, 8) from hv79)
                            refine lv_iload hx hb dMH_keys_521 (lv_at hl 1 rfl) ?_
                            refine lv_aload_n hx hb dMH_keys_523 rfl (lv_at hl 4 rfl) ?_
                            refine ty_get (ci := 12) (C := "LatticeKeysModel$Hands") (TT := T_MH) (N := 31) (kd := (46, 0)) hx hb hts (wg_ft i_MH) hown hK hO k_h0 (nxg clo_nil k_h0 rfl) hP (fun _ h9 => h9) rfl 25 (by decide) (hts _ (wg_t kw_1457)) (fun _ h9 => h9) (cd := (1, 0, 4)) rfl dMH_keys_524 (fun v80 hv80 => ?_)
                            obtain rfl := (show v80 = .int (nI 4) from hv80)
                            refine mi_isub hx hb dMH_keys_527 (by omega) ?_
                            refine ty_aald3 hx hb hK hO kr58 (nxg clo_nil kr58 rfl) hP (by omega) (by decide) dMH_keys_528 (fun r60 kr59 => ?_)
                            refine lv_iload hx hb dMH_keys_529 (lv_at hl 0 rfl) ?_
                            refine ty_iald hx hb hK hO kr59 (nxg clo_nil kr59 rfl) hP (vp_in_nI (by omega) (by decide)) dMH_keys_531 (fun z31 => ?_)
                            refine lv_istore (lv' := [(9, .int z31), (8, .int (nI i28)), (7, .int (nI i25)), (6, .int (nI az24)), (5, .int (nI 3)), (0, .ref h0), (4, .ref sk)]) hx hb dMH_keys_532 hl (by decide) rfl (fun ls hl => ?_)
                            refine lv_aload hx hb dMH_keys_534 (lv_at hl 6 rfl) ?_
                            refine lv_iload hx hb dMH_keys_536 (lv_at hl 3 rfl) ?_
                            refine lv_iload hx hb dMH_keys_538 (lv_at hl 4 rfl) ?_
                            refine lv_iload hx hb dMH_keys_540 (lv_at hl 0 rfl) ?_
                            refine lv_aload_n hx hb dMH_keys_542 rfl (lv_at hl 5 rfl) ?_
                            refine ty_get (ci := 12) (C := "LatticeKeysModel$Hands") (TT := T_MH) (N := 31) (kd := (46, 0)) hx hb hts (wg_ft i_MH) hown hK hO k_h0 (nxg clo_nil k_h0 rfl) hP (fun _ h9 => h9) rfl 26 (by decide) (hts _ (wg_t kw_1458)) (fun _ h9 => h9) (cd := (1, 0, 2)) rfl dMH_keys_543 (fun v81 hv81 => ?_)
                            obtain rfl := (show v81 = .int (nI 2) from hv81)
                            refine lv_icmp_le (tgt := 562) hx hb dMH_keys_546 (by decide) (fun h35 => ?_) (fun h35 => ?_)
                            · refine lv_aload_n hx hb dMH_keys_562 rfl (lv_at hl 5 rfl) ?_
                              refine ty_get (ci := 12) (C := "LatticeKeysModel$Hands") (TT := T_MH) (N := 31) (kd := (46, 0)) hx hb hts (wg_ft i_MH) hown hK hO k_h0 (nxg clo_nil k_h0 rfl) hP (fun _ h9 => h9) rfl 26 (by decide) (hts _ (wg_t kw_1458)) (fun _ h9 => h9) (cd := (1, 0, 2)) rfl dMH_keys_563 (fun v82 hv82 => ?_)
                              obtain rfl := (show v82 = .int (nI 2) from hv82)
                              refine lv_iload hx hb dMH_keys_566 (lv_at hl 0 rfl) ?_
                              refine lv_isub hx hb dMH_keys_568 ?_
                              refine mi_any (fun z32 => ?_)
                              refine mp_v (cx := []) (wr := []) hP hD hS hA [] [] rfl rfl rfl (by decide) (va_runSN (As := [.ref sk, .int (nI az24), .int (nI 3), .int z32]) (rest := []) F (t_M_pack l g _ T [] pl hO hU clo_nil sk 4896 az24 3 z32 k_sk (by omega) (by omega)) ⟨va_cnB 4 hts (wg_in kw_1690) rfl rfl rfl (hE.2.2.2.2.2.2.2.2.2.1) (hts _ (wg_t kw_9)) (by decide +kernel) ⟨by decide, by decide⟩, hts _ (wg_t kw_1689), trivial⟩ (pp_S (en_ok g) hP hD hS hA hE [] rfl rfl) rfl rfl hl.1 rfl (lv_room (Nat.le_of_ble_eq_true rfl)) dMH_keys_569 ⟨by omega, by omega⟩) (fun  pl H locs hu35 hP hD hS => ?_)
                              obtain ⟨hq35, hO⟩ := hu35
                              have hP : va_P g.1 vcl ([] ++ pl) _ := hP
                              have hD : va_D _ ([] ++ pl) := hD
                              refine W.widen (k := 0) (n := 0) (by omega) (by omega) ?_
                              refine lv_iload hx hb dMH_keys_572 (lv_at hl 3 rfl) ?_
                              refine lv_iload hx hb dMH_keys_574 (lv_at hl 4 rfl) ?_
                              refine mi_iadd hx hb dMH_keys_576 ?_
                              refine lv_istore (lv' := [(6, .int (nI (az24 + 3))), (9, .int z31), (8, .int (nI i28)), (7, .int (nI i25)), (5, .int (nI 3)), (0, .ref h0), (4, .ref sk)]) hx hb dMH_keys_577 hl (by decide) rfl (fun ls hl => ?_)
                              refine mi_iinc (k := 2) (x := i28) (d := 1) (y := i28 + 1) (lv' := [(8, .int (nI (i28 + 1))), (6, .int (nI (az24 + 3))), (9, .int z31), (7, .int (nI i25)), (5, .int (nI 3)), (0, .ref h0), (4, .ref sk)]) hx hb dMH_keys_579 hl rfl (by decide) rfl (by decide) rfl (fun ls hl => ?_)
                              refine lv_goto (tgt := 487) hx hb dMH_keys_582 (by decide) ?_
                              exact ih28 (i28 + 1) (az24 + 3) pl ls H locs (by omega) (by omega) (lv_sub hl [0, 3, 1, 4, 5, 6] rfl) hO hP hD hS
                            · refine lv_aload_n hx hb dMH_keys_549 rfl (lv_at hl 5 rfl) ?_
                              refine ty_get (ci := 12) (C := "LatticeKeysModel$Hands") (TT := T_MH) (N := 31) (kd := (46, 0)) hx hb hts (wg_ft i_MH) hown hK hO k_h0 (nxg clo_nil k_h0 rfl) hP (fun _ h9 => h9) rfl 26 (by decide) (hts _ (wg_t kw_1458)) (fun _ h9 => h9) (cd := (1, 0, 2)) rfl dMH_keys_550 (fun v83 hv83 => ?_)
                              obtain rfl := (show v83 = .int (nI 2) from hv83)
                              refine lv_iload hx hb dMH_keys_553 (lv_at hl 0 rfl) ?_
                              refine lv_isub hx hb dMH_keys_555 ?_
                              refine mi_any (fun z33 => ?_)
                              refine lv_ldc (v := 8380417) hx hb hown (hts _ (wg_t kw_1429)) dMH_keys_556 ?_
                              refine mi_as (show (8380417 : Int32) = nI 8380417 by decide) ?_
                              refine lv_iadd hx hb dMH_keys_558 ?_
                              refine mi_any (fun z34 => ?_)
                              refine lv_goto (tgt := 569) hx hb dMH_keys_559 (by decide) ?_
                              refine mp_v (cx := []) (wr := []) hP hD hS hA [] [] rfl rfl rfl (by decide) (va_runSN (As := [.ref sk, .int (nI az24), .int (nI 3), .int z34]) (rest := []) F (t_M_pack l g _ T [] pl hO hU clo_nil sk 4896 az24 3 z34 k_sk (by omega) (by omega)) ⟨va_cnB 4 hts (wg_in kw_1690) rfl rfl rfl (hE.2.2.2.2.2.2.2.2.2.1) (hts _ (wg_t kw_9)) (by decide +kernel) ⟨by decide, by decide⟩, hts _ (wg_t kw_1689), trivial⟩ (pp_S (en_ok g) hP hD hS hA hE [] rfl rfl) rfl rfl hl.1 rfl (lv_room (Nat.le_of_ble_eq_true rfl)) dMH_keys_569 ⟨by omega, by omega⟩) (fun  pl H locs hu36 hP hD hS => ?_)
                              obtain ⟨hq36, hO⟩ := hu36
                              have hP : va_P g.1 vcl ([] ++ pl) _ := hP
                              have hD : va_D _ ([] ++ pl) := hD
                              refine W.widen (k := 0) (n := 0) (by omega) (by omega) ?_
                              refine lv_iload hx hb dMH_keys_572 (lv_at hl 3 rfl) ?_
                              refine lv_iload hx hb dMH_keys_574 (lv_at hl 4 rfl) ?_
                              refine mi_iadd hx hb dMH_keys_576 ?_
                              refine lv_istore (lv' := [(6, .int (nI (az24 + 3))), (9, .int z31), (8, .int (nI i28)), (7, .int (nI i25)), (5, .int (nI 3)), (0, .ref h0), (4, .ref sk)]) hx hb dMH_keys_577 hl (by decide) rfl (fun ls hl => ?_)
                              refine mi_iinc (k := 2) (x := i28) (d := 1) (y := i28 + 1) (lv' := [(8, .int (nI (i28 + 1))), (6, .int (nI (az24 + 3))), (9, .int z31), (7, .int (nI i25)), (5, .int (nI 3)), (0, .ref h0), (4, .ref sk)]) hx hb dMH_keys_579 hl rfl (by decide) rfl (by decide) rfl (fun ls hl => ?_)
                              refine lv_goto (tgt := 487) hx hb dMH_keys_582 (by decide) ?_
                              exact ih28 (i28 + 1) (az24 + 3) pl ls H locs (by omega) (by omega) (lv_sub hl [0, 3, 1, 4, 5, 6] rfl) hO hP hD hS
                          · refine lv_aload_n hx hb dMH_keys_504 rfl (lv_at hl 4 rfl) ?_
                            refine ty_get (ci := 12) (C := "LatticeKeysModel$Hands") (TT := T_MH) (N := 31) (kd := (46, 0)) hx hb hts (wg_ft i_MH) hown hK hO k_h0 (nxg clo_nil k_h0 rfl) hP (fun _ h9 => h9) rfl 3 (by decide) (hts _ (wg_t kw_1435)) (fun _ h9 => h9) (cd := (3, 3, 7)) rfl dMH_keys_505 (fun v84 hv84 => ?_)
                            obtain ⟨r61, rfl, kr60⟩ := (show ∃ r : Nat, v84 = .ref r ∧ T r = some (3, 7) from hv84)
                            refine lv_iload hx hb dMH_keys_508 (lv_at hl 1 rfl) ?_
                            refine ty_aald3 hx hb hK hO kr60 (nxg clo_nil kr60 rfl) hP (by omega) (by decide) dMH_keys_510 (fun r62 kr61 => ?_)
                            refine lv_iload hx hb dMH_keys_511 (lv_at hl 0 rfl) ?_
                            refine ty_iald hx hb hK hO kr61 (nxg clo_nil kr61 rfl) hP (vp_in_nI (by omega) (by decide)) dMH_keys_513 (fun z35 => ?_)
                            refine lv_goto (tgt := 532) hx hb dMH_keys_514 (by decide) ?_
                            refine lv_istore (lv' := [(9, .int z35), (8, .int (nI i28)), (7, .int (nI i25)), (6, .int (nI az24)), (5, .int (nI 3)), (0, .ref h0), (4, .ref sk)]) hx hb dMH_keys_532 hl (by decide) rfl (fun ls hl => ?_)
                            refine lv_aload hx hb dMH_keys_534 (lv_at hl 6 rfl) ?_
                            refine lv_iload hx hb dMH_keys_536 (lv_at hl 3 rfl) ?_
                            refine lv_iload hx hb dMH_keys_538 (lv_at hl 4 rfl) ?_
                            refine lv_iload hx hb dMH_keys_540 (lv_at hl 0 rfl) ?_
                            refine lv_aload_n hx hb dMH_keys_542 rfl (lv_at hl 5 rfl) ?_
                            refine ty_get (ci := 12) (C := "LatticeKeysModel$Hands") (TT := T_MH) (N := 31) (kd := (46, 0)) hx hb hts (wg_ft i_MH) hown hK hO k_h0 (nxg clo_nil k_h0 rfl) hP (fun _ h9 => h9) rfl 26 (by decide) (hts _ (wg_t kw_1458)) (fun _ h9 => h9) (cd := (1, 0, 2)) rfl dMH_keys_543 (fun v85 hv85 => ?_)
                            obtain rfl := (show v85 = .int (nI 2) from hv85)
                            refine lv_icmp_le (tgt := 562) hx hb dMH_keys_546 (by decide) (fun h36 => ?_) (fun h36 => ?_)
                            · refine lv_aload_n hx hb dMH_keys_562 rfl (lv_at hl 5 rfl) ?_
                              refine ty_get (ci := 12) (C := "LatticeKeysModel$Hands") (TT := T_MH) (N := 31) (kd := (46, 0)) hx hb hts (wg_ft i_MH) hown hK hO k_h0 (nxg clo_nil k_h0 rfl) hP (fun _ h9 => h9) rfl 26 (by decide) (hts _ (wg_t kw_1458)) (fun _ h9 => h9) (cd := (1, 0, 2)) rfl dMH_keys_563 (fun v86 hv86 => ?_)
                              obtain rfl := (show v86 = .int (nI 2) from hv86)
                              refine lv_iload hx hb dMH_keys_566 (lv_at hl 0 rfl) ?_
                              refine lv_isub hx hb dMH_keys_568 ?_
                              refine mi_any (fun z36 => ?_)
                              refine mp_v (cx := []) (wr := []) hP hD hS hA [] [] rfl rfl rfl (by decide) (va_runSN (As := [.ref sk, .int (nI az24), .int (nI 3), .int z36]) (rest := []) F (t_M_pack l g _ T [] pl hO hU clo_nil sk 4896 az24 3 z36 k_sk (by omega) (by omega)) ⟨va_cnB 4 hts (wg_in kw_1690) rfl rfl rfl (hE.2.2.2.2.2.2.2.2.2.1) (hts _ (wg_t kw_9)) (by decide +kernel) ⟨by decide, by decide⟩, hts _ (wg_t kw_1689), trivial⟩ (pp_S (en_ok g) hP hD hS hA hE [] rfl rfl) rfl rfl hl.1 rfl (lv_room (Nat.le_of_ble_eq_true rfl)) dMH_keys_569 ⟨by omega, by omega⟩) (fun  pl H locs hu37 hP hD hS => ?_)
                              obtain ⟨hq37, hO⟩ := hu37
                              have hP : va_P g.1 vcl ([] ++ pl) _ := hP
                              have hD : va_D _ ([] ++ pl) := hD
                              refine W.widen (k := 0) (n := 0) (by omega) (by omega) ?_
                              refine lv_iload hx hb dMH_keys_572 (lv_at hl 3 rfl) ?_
                              refine lv_iload hx hb dMH_keys_574 (lv_at hl 4 rfl) ?_
                              refine mi_iadd hx hb dMH_keys_576 ?_
                              refine lv_istore (lv' := [(6, .int (nI (az24 + 3))), (9, .int z35), (8, .int (nI i28)), (7, .int (nI i25)), (5, .int (nI 3)), (0, .ref h0), (4, .ref sk)]) hx hb dMH_keys_577 hl (by decide) rfl (fun ls hl => ?_)
                              refine mi_iinc (k := 2) (x := i28) (d := 1) (y := i28 + 1) (lv' := [(8, .int (nI (i28 + 1))), (6, .int (nI (az24 + 3))), (9, .int z35), (7, .int (nI i25)), (5, .int (nI 3)), (0, .ref h0), (4, .ref sk)]) hx hb dMH_keys_579 hl rfl (by decide) rfl (by decide) rfl (fun ls hl => ?_)
                              refine lv_goto (tgt := 487) hx hb dMH_keys_582 (by decide) ?_
                              exact ih28 (i28 + 1) (az24 + 3) pl ls H locs (by omega) (by omega) (lv_sub hl [0, 3, 1, 4, 5, 6] rfl) hO hP hD hS
                            · refine lv_aload_n hx hb dMH_keys_549 rfl (lv_at hl 5 rfl) ?_
                              refine ty_get (ci := 12) (C := "LatticeKeysModel$Hands") (TT := T_MH) (N := 31) (kd := (46, 0)) hx hb hts (wg_ft i_MH) hown hK hO k_h0 (nxg clo_nil k_h0 rfl) hP (fun _ h9 => h9) rfl 26 (by decide) (hts _ (wg_t kw_1458)) (fun _ h9 => h9) (cd := (1, 0, 2)) rfl dMH_keys_550 (fun v87 hv87 => ?_)
                              obtain rfl := (show v87 = .int (nI 2) from hv87)
                              refine lv_iload hx hb dMH_keys_553 (lv_at hl 0 rfl) ?_
                              refine lv_isub hx hb dMH_keys_555 ?_
                              refine mi_any (fun z37 => ?_)
                              refine lv_ldc (v := 8380417) hx hb hown (hts _ (wg_t kw_1429)) dMH_keys_556 ?_
                              refine mi_as (show (8380417 : Int32) = nI 8380417 by decide) ?_
                              refine lv_iadd hx hb dMH_keys_558 ?_
                              refine mi_any (fun z38 => ?_)
                              refine lv_goto (tgt := 569) hx hb dMH_keys_559 (by decide) ?_
                              refine mp_v (cx := []) (wr := []) hP hD hS hA [] [] rfl rfl rfl (by decide) (va_runSN (As := [.ref sk, .int (nI az24), .int (nI 3), .int z38]) (rest := []) F (t_M_pack l g _ T [] pl hO hU clo_nil sk 4896 az24 3 z38 k_sk (by omega) (by omega)) ⟨va_cnB 4 hts (wg_in kw_1690) rfl rfl rfl (hE.2.2.2.2.2.2.2.2.2.1) (hts _ (wg_t kw_9)) (by decide +kernel) ⟨by decide, by decide⟩, hts _ (wg_t kw_1689), trivial⟩ (pp_S (en_ok g) hP hD hS hA hE [] rfl rfl) rfl rfl hl.1 rfl (lv_room (Nat.le_of_ble_eq_true rfl)) dMH_keys_569 ⟨by omega, by omega⟩) (fun  pl H locs hu38 hP hD hS => ?_)
                              obtain ⟨hq38, hO⟩ := hu38
                              have hP : va_P g.1 vcl ([] ++ pl) _ := hP
                              have hD : va_D _ ([] ++ pl) := hD
                              refine W.widen (k := 0) (n := 0) (by omega) (by omega) ?_
                              refine lv_iload hx hb dMH_keys_572 (lv_at hl 3 rfl) ?_
                              refine lv_iload hx hb dMH_keys_574 (lv_at hl 4 rfl) ?_
                              refine mi_iadd hx hb dMH_keys_576 ?_
                              refine lv_istore (lv' := [(6, .int (nI (az24 + 3))), (9, .int z35), (8, .int (nI i28)), (7, .int (nI i25)), (5, .int (nI 3)), (0, .ref h0), (4, .ref sk)]) hx hb dMH_keys_577 hl (by decide) rfl (fun ls hl => ?_)
                              refine mi_iinc (k := 2) (x := i28) (d := 1) (y := i28 + 1) (lv' := [(8, .int (nI (i28 + 1))), (6, .int (nI (az24 + 3))), (9, .int z35), (7, .int (nI i25)), (5, .int (nI 3)), (0, .ref h0), (4, .ref sk)]) hx hb dMH_keys_579 hl rfl (by decide) rfl (by decide) rfl (fun ls hl => ?_)
                              refine lv_goto (tgt := 487) hx hb dMH_keys_582 (by decide) ?_
                              exact ih28 (i28 + 1) (az24 + 3) pl ls H locs (by omega) (by omega) (lv_sub hl [0, 3, 1, 4, 5, 6] rfl) hO hP hD hS
                      exact lp28 256 0 az21 pl ls _ _ (by omega) (by omega) (lv_sub hl [0, 1, 2, 3, 4, 5] rfl) hO hP hD hS
                  exact lp25 8 0 1024 pl ls _ _ (by omega) (by omega) (lv_sub hl [0, 1, 2, 3, 5] rfl) hO hP hD hS
                | succ n24 ih24 =>
                  intro i24 pl ls H locs hm24  hl hO hP hD hS
                  refine lv_iload hx hb dMH_keys_340 (lv_at hl 0 rfl) ?_
                  refine lv_aload_n hx hb dMH_keys_342 rfl (lv_at hl 1 rfl) ?_
                  refine ty_get (ci := 12) (C := "LatticeKeysModel$Hands") (TT := T_MH) (N := 31) (kd := (46, 0)) hx hb hts (wg_ft i_MH) hown hK hO k_h0 (nxg clo_nil k_h0 rfl) hP (fun _ h9 => h9) rfl 24 (by decide) (hts _ (wg_t kw_1456)) (fun _ h9 => h9) (cd := (1, 0, 4)) rfl dMH_keys_343 (fun v88 hv88 => ?_)
                  obtain rfl := (show v88 = .int (nI 4) from hv88)
                  refine mi_ge (tgt := 404) hx hb dMH_keys_346 (by decide) (by omega) (by omega) (fun h37 => absurd h37 (by omega)) (fun h37 => ?_)
                  refine lv_iconst (v := nI 0) hx hb dMH_keys_349 (by decide) ?_
                  refine lv_istore (lv' := [(6, .int (nI 0)), (5, .int (nI i24)), (0, .ref h0), (3, .ref pk), (4, .ref sk)]) hx hb dMH_keys_350 hl (by decide) rfl (fun ls hl => ?_)
                  have lp29 : ∀ (n29 : Nat) (i29 : Nat) (pl : va_W) (ls : Array Slot) (H : Heap) (locs : List Loc), n29 + i29 = 256 → lv_has ls 10 [(6, .int (nI i29)), (5, .int (nI i24)), (0, .ref h0), (3, .ref pk), (4, .ref sk)] → okx g T [] pl → va_P g.1 vcl ([] ++ pl) H → va_D A ([] ++ pl) → va_S A s.heap H locs → W p l e ({ frames := 4, cells := 0, slots := 0, locals := 98 } : Room) s m args below meth c H locs 0 0 (MQ below (va_Qv (fun (u : va_W) => (True) ∧ okx g T0 [] u) (po g.1 vcl A (fun (u : va_W) => [] ++ u)) A) args s 0 0 A) (F0 m 352 ls []) := by
                    intro n29
                    induction n29 with
                    | zero =>
                      intro i29 pl ls H locs hm29  hl hO hP hD hS
                      refine lv_iload hx hb dMH_keys_352 (lv_at hl 0 rfl) ?_
                      refine lv_sipush (v := nI 256) hx hb dMH_keys_354 (by decide) ?_
                      refine mi_ge (tgt := 398) hx hb dMH_keys_357 (by decide) (by omega) (by omega) (fun h38 => ?_) (fun h38 => absurd h38 (by omega))
                      refine mi_iinc (k := 1) (x := i24) (d := 1) (y := i24 + 1) (lv' := [(5, .int (nI (i24 + 1))), (6, .int (nI i29)), (0, .ref h0), (3, .ref pk), (4, .ref sk)]) hx hb dMH_keys_398 hl rfl (by decide) rfl (by decide) rfl (fun ls hl => ?_)
                      refine lv_goto (tgt := 340) hx hb dMH_keys_401 (by decide) ?_
                      exact ih24 (i24 + 1) pl ls H locs (by omega) (lv_sub hl [0, 2, 3, 4] rfl) hO hP hD hS
                    | succ n29 ih29 =>
                      intro i29 pl ls H locs hm29  hl hO hP hD hS
                      refine lv_iload hx hb dMH_keys_352 (lv_at hl 0 rfl) ?_
                      refine lv_sipush (v := nI 256) hx hb dMH_keys_354 (by decide) ?_
                      refine mi_ge (tgt := 398) hx hb dMH_keys_357 (by decide) (by omega) (by omega) (fun h39 => absurd h39 (by omega)) (fun h39 => ?_)
                      refine lv_aload_n hx hb dMH_keys_360 rfl (lv_at hl 3 rfl) ?_
                      refine lv_sipush (v := nI 256) hx hb dMH_keys_361 (by decide) ?_
                      refine lv_sipush (v := nI 2560) hx hb dMH_keys_364 (by decide) ?_
                      refine lv_iload hx hb dMH_keys_367 (lv_at hl 1 rfl) ?_
                      refine mi_imul hx hb dMH_keys_369 ?_
                      refine mi_iadd hx hb dMH_keys_370 ?_
                      refine lv_bipush (v := nI 10) hx hb dMH_keys_371 (by decide) ?_
                      refine lv_iload hx hb dMH_keys_373 (lv_at hl 0 rfl) ?_
                      refine mi_imul hx hb dMH_keys_375 ?_
                      refine mi_iadd hx hb dMH_keys_376 ?_
                      refine lv_bipush (v := nI 10) hx hb dMH_keys_377 (by decide) ?_
                      refine lv_aload_n hx hb dMH_keys_379 rfl (lv_at hl 2 rfl) ?_
                      refine ty_get (ci := 12) (C := "LatticeKeysModel$Hands") (TT := T_MH) (N := 31) (kd := (46, 0)) hx hb hts (wg_ft i_MH) hown hK hO k_h0 (nxg clo_nil k_h0 rfl) hP (fun _ h9 => h9) rfl 6 (by decide) (hts _ (wg_t kw_1438)) (fun _ h9 => h9) (cd := (3, 3, 8)) rfl dMH_keys_380 (fun v89 hv89 => ?_)
                      obtain ⟨r63, rfl, kr62⟩ := (show ∃ r : Nat, v89 = .ref r ∧ T r = some (3, 8) from hv89)
                      refine lv_iload hx hb dMH_keys_383 (lv_at hl 1 rfl) ?_
                      refine ty_aald3 hx hb hK hO kr62 (nxg clo_nil kr62 rfl) hP (by omega) (by decide) dMH_keys_385 (fun r64 kr63 => ?_)
                      refine lv_iload hx hb dMH_keys_386 (lv_at hl 0 rfl) ?_
                      refine ty_iald hx hb hK hO kr63 (nxg clo_nil kr63 rfl) hP (vp_in_nI (by omega) (by decide)) dMH_keys_388 (fun z39 => ?_)
                      refine mp_v (cx := []) (wr := []) hP hD hS hA [] [] rfl rfl rfl (by decide) (va_runSN (As := [.ref pk, .int (nI ((256 + (2560 * i24)) + (10 * i29))), .int (nI 10), .int z39]) (rest := []) F (t_M_pack l g _ T [] pl hO hU clo_nil pk 2592 ((256 + (2560 * i24)) + (10 * i29)) 10 z39 k_pk (by omega) (by omega)) ⟨va_cnB 4 hts (wg_in kw_1690) rfl rfl rfl (hE.2.2.2.2.2.2.2.2.2.1) (hts _ (wg_t kw_9)) (by decide +kernel) ⟨by decide, by decide⟩, hts _ (wg_t kw_1689), trivial⟩ (pp_S (en_ok g) hP hD hS hA hE [] rfl rfl) rfl rfl hl.1 rfl (lv_room (Nat.le_of_ble_eq_true rfl)) dMH_keys_389 ⟨by omega, by omega⟩) (fun  pl H locs hu39 hP hD hS => ?_)
                      obtain ⟨hq39, hO⟩ := hu39
                      have hP : va_P g.1 vcl ([] ++ pl) _ := hP
                      have hD : va_D _ ([] ++ pl) := hD
                      refine W.widen (k := 0) (n := 0) (by omega) (by omega) ?_
                      refine mi_iinc (k := 0) (x := i29) (d := 1) (y := i29 + 1) (lv' := [(6, .int (nI (i29 + 1))), (5, .int (nI i24)), (0, .ref h0), (3, .ref pk), (4, .ref sk)]) hx hb dMH_keys_392 hl rfl (by decide) rfl (by decide) rfl (fun ls hl => ?_)
                      refine lv_goto (tgt := 352) hx hb dMH_keys_395 (by decide) ?_
                      exact ih29 (i29 + 1) pl ls H locs (by omega) (lv_sub hl [0, 1, 2, 3, 4] rfl) hO hP hD hS
                  exact lp29 256 0 pl ls _ _ (by omega) (lv_sub hl [0, 1, 2, 3, 4] rfl) hO hP hD hS
              exact lp24 4 0 pl ls _ _ (by omega) (lv_sub hl [0, 1, 2, 3] rfl) hO hP hD hS
            | succ n23 ih23 =>
              intro i23 pl ls H locs hm23  hl hO hP hD hS
              refine lv_iload hx hb dMH_keys_283 (lv_at hl 0 rfl) ?_
              refine lv_bipush (v := nI 32) hx hb dMH_keys_285 (by decide) ?_
              refine mi_ge (tgt := 337) hx hb dMH_keys_287 (by decide) (by omega) (by omega) (fun h40 => absurd h40 (by omega)) (fun h40 => ?_)
              refine lv_aload_n hx hb dMH_keys_290 rfl (lv_at hl 2 rfl) ?_
              refine lv_iload hx hb dMH_keys_291 (lv_at hl 0 rfl) ?_
              refine lv_aload_n hx hb dMH_keys_293 rfl (lv_at hl 1 rfl) ?_
              refine ty_get (ci := 12) (C := "LatticeKeysModel$Hands") (TT := T_MH) (N := 31) (kd := (46, 0)) hx hb hts (wg_ft i_MH) hown hK hO k_h0 (nxg clo_nil k_h0 rfl) hP (fun _ h9 => h9) rfl 16 (by decide) (hts _ (wg_t kw_1448)) (fun _ h9 => h9) (cd := (3, 1, 128)) rfl dMH_keys_294 (fun v90 hv90 => ?_)
              obtain ⟨r65, rfl, kr64⟩ := (show ∃ r : Nat, v90 = .ref r ∧ T r = some (1, 128) from hv90)
              refine lv_iload hx hb dMH_keys_297 (lv_at hl 0 rfl) ?_
              refine ty_bald hx hb hK hO kr64 (nxg clo_nil kr64 rfl) hP (vp_in_nI (by omega) (by decide)) dMH_keys_299 (fun z40 => ?_)
              refine ty_bast hx hb hK hO k_pk (nxg clo_nil k_pk rfl) hP hD hS (vp_in_nI (by omega) (by decide)) dMH_keys_300 (fun pl H locs hO hP hD hS => ?_)
              refine lv_aload hx hb dMH_keys_301 (lv_at hl 3 rfl) ?_
              refine lv_iload hx hb dMH_keys_303 (lv_at hl 0 rfl) ?_
              refine lv_aload_n hx hb dMH_keys_305 rfl (lv_at hl 1 rfl) ?_
              refine ty_get (ci := 12) (C := "LatticeKeysModel$Hands") (TT := T_MH) (N := 31) (kd := (46, 0)) hx hb hts (wg_ft i_MH) hown hK hO k_h0 (nxg clo_nil k_h0 rfl) hP (fun _ h9 => h9) rfl 16 (by decide) (hts _ (wg_t kw_1448)) (fun _ h9 => h9) (cd := (3, 1, 128)) rfl dMH_keys_306 (fun v91 hv91 => ?_)
              obtain ⟨r66, rfl, kr65⟩ := (show ∃ r : Nat, v91 = .ref r ∧ T r = some (1, 128) from hv91)
              refine lv_iload hx hb dMH_keys_309 (lv_at hl 0 rfl) ?_
              refine ty_bald hx hb hK hO kr65 (nxg clo_nil kr65 rfl) hP (vp_in_nI (by omega) (by decide)) dMH_keys_311 (fun z41 => ?_)
              refine ty_bast hx hb hK hO k_sk (nxg clo_nil k_sk rfl) hP hD hS (vp_in_nI (by omega) (by decide)) dMH_keys_312 (fun pl H locs hO hP hD hS => ?_)
              refine lv_aload hx hb dMH_keys_313 (lv_at hl 3 rfl) ?_
              refine lv_bipush (v := nI 32) hx hb dMH_keys_315 (by decide) ?_
              refine lv_iload hx hb dMH_keys_317 (lv_at hl 0 rfl) ?_
              refine mi_iadd hx hb dMH_keys_319 ?_
              refine lv_aload_n hx hb dMH_keys_320 rfl (lv_at hl 1 rfl) ?_
              refine ty_get (ci := 12) (C := "LatticeKeysModel$Hands") (TT := T_MH) (N := 31) (kd := (46, 0)) hx hb hts (wg_ft i_MH) hown hK hO k_h0 (nxg clo_nil k_h0 rfl) hP (fun _ h9 => h9) rfl 16 (by decide) (hts _ (wg_t kw_1448)) (fun _ h9 => h9) (cd := (3, 1, 128)) rfl dMH_keys_321 (fun v92 hv92 => ?_)
              obtain ⟨r67, rfl, kr66⟩ := (show ∃ r : Nat, v92 = .ref r ∧ T r = some (1, 128) from hv92)
              refine lv_bipush (v := nI 96) hx hb dMH_keys_324 (by decide) ?_
              refine lv_iload hx hb dMH_keys_326 (lv_at hl 0 rfl) ?_
              refine mi_iadd hx hb dMH_keys_328 ?_
              refine ty_bald hx hb hK hO kr66 (nxg clo_nil kr66 rfl) hP (vp_in_nI (by omega) (by decide)) dMH_keys_329 (fun z42 => ?_)
              refine ty_bast hx hb hK hO k_sk (nxg clo_nil k_sk rfl) hP hD hS (vp_in_nI (by omega) (by decide)) dMH_keys_330 (fun pl H locs hO hP hD hS => ?_)
              refine mi_iinc (k := 0) (x := i23) (d := 1) (y := i23 + 1) (lv' := [(5, .int (nI (i23 + 1))), (0, .ref h0), (3, .ref pk), (4, .ref sk)]) hx hb dMH_keys_331 hl rfl (by decide) rfl (by decide) rfl (fun ls hl => ?_)
              refine lv_goto (tgt := 283) hx hb dMH_keys_334 (by decide) ?_
              exact ih23 (i23 + 1) pl ls H locs (by omega) (lv_sub hl [0, 1, 2, 3] rfl) hO hP hD hS
          exact lp23 32 0 pl ls _ _ (by omega) (lv_sub hl [0, 1, 2, 3] rfl) hO hP hD hS
        | succ n22 ih22 =>
          intro i22 pl ls H locs hm22  hl hO hP hD hS
          refine lv_iload hx hb dMH_keys_138 (lv_at hl 0 rfl) ?_
          refine lv_aload_n hx hb dMH_keys_140 rfl (lv_at hl 1 rfl) ?_
          refine ty_get (ci := 12) (C := "LatticeKeysModel$Hands") (TT := T_MH) (N := 31) (kd := (46, 0)) hx hb hts (wg_ft i_MH) hown hK hO k_h0 (nxg clo_nil k_h0 rfl) hP (fun _ h9 => h9) rfl 24 (by decide) (hts _ (wg_t kw_1456)) (fun _ h9 => h9) (cd := (1, 0, 4)) rfl dMH_keys_141 (fun v93 hv93 => ?_)
          obtain rfl := (show v93 = .int (nI 4) from hv93)
          refine mi_ge (tgt := 280) hx hb dMH_keys_144 (by decide) (by omega) (by omega) (fun h41 => absurd h41 (by omega)) (fun h41 => ?_)
          refine lv_aload_n hx hb dMH_keys_147 rfl (lv_at hl 1 rfl) ?_
          refine lv_aload_n hx hb dMH_keys_148 rfl (lv_at hl 1 rfl) ?_
          refine ty_get (ci := 12) (C := "LatticeKeysModel$Hands") (TT := T_MH) (N := 31) (kd := (46, 0)) hx hb hts (wg_ft i_MH) hown hK hO k_h0 (nxg clo_nil k_h0 rfl) hP (fun _ h9 => h9) rfl 4 (by decide) (hts _ (wg_t kw_1436)) (fun _ h9 => h9) (cd := (3, 3, 8)) rfl dMH_keys_149 (fun v94 hv94 => ?_)
          obtain ⟨r68, rfl, kr67⟩ := (show ∃ r : Nat, v94 = .ref r ∧ T r = some (3, 8) from hv94)
          refine lv_iload hx hb dMH_keys_152 (lv_at hl 0 rfl) ?_
          refine ty_aald3 hx hb hK hO kr67 (nxg clo_nil kr67 rfl) hP (by omega) (by decide) dMH_keys_154 (fun r69 kr68 => ?_)
          refine lv_aload_n hx hb dMH_keys_155 rfl (lv_at hl 1 rfl) ?_
          refine ty_get (ci := 12) (C := "LatticeKeysModel$Hands") (TT := T_MH) (N := 31) (kd := (46, 0)) hx hb hts (wg_ft i_MH) hown hK hO k_h0 (nxg clo_nil k_h0 rfl) hP (fun _ h9 => h9) rfl 16 (by decide) (hts _ (wg_t kw_1448)) (fun _ h9 => h9) (cd := (3, 1, 128)) rfl dMH_keys_156 (fun v95 hv95 => ?_)
          obtain ⟨r70, rfl, kr69⟩ := (show ∃ r : Nat, v95 = .ref r ∧ T r = some (1, 128) from hv95)
          refine lv_bipush (v := nI 32) hx hb dMH_keys_159 (by decide) ?_
          refine lv_iload hx hb dMH_keys_161 (lv_at hl 0 rfl) ?_
          refine lv_aload_n hx hb dMH_keys_163 rfl (lv_at hl 1 rfl) ?_
          refine ty_get (ci := 12) (C := "LatticeKeysModel$Hands") (TT := T_MH) (N := 31) (kd := (46, 0)) hx hb hts (wg_ft i_MH) hown hK hO k_h0 (nxg clo_nil k_h0 rfl) hP (fun _ h9 => h9) rfl 25 (by decide) (hts _ (wg_t kw_1457)) (fun _ h9 => h9) (cd := (1, 0, 4)) rfl dMH_keys_164 (fun v96 hv96 => ?_)
          obtain rfl := (show v96 = .int (nI 4) from hv96)
          refine mi_iadd hx hb dMH_keys_167 ?_
          refine mp_v (cx := []) (wr := []) hP hD hS hA [] [] rfl rfl rfl (by decide) (va_runV (As := [.ref r69, .ref r70, .int (nI 32), .int (nI (i22 + 4))]) (rest := []) F (t_MH_small_0 l g _ T [] pl hO hU clo_nil clo_nil h0 r69 r70 128 32 (nI (i22 + 4)) k_h0 kr68 kr69 (by omega) (by omega)) (cwV 4 hts (wg_app (wg_c kw_1729 (wg_c kw_1731 (wg_c ks_62 (wg_c kw_13 wg_n)))) kw_1732) rfl rfl rfl (by decide +kernel) ⟨by decide, by decide⟩) (pp_VT (en_ok g) (ci := 12) (kd := (46, 0)) hK hO k_h0 (nxg clo_nil k_h0 rfl) (fun _ h9 => ko1 h9) hP hD hS hA hE [] rfl rfl rfl) rfl rfl hl.1 rfl (lv_room (Nat.le_of_ble_eq_true rfl)) dMH_keys_168 ⟨by omega, by omega⟩) (fun  pl H locs hu40 hP hD hS => ?_)
          obtain ⟨hq40, hO⟩ := hu40
          have hP : va_P g.1 vcl ([] ++ pl) _ := hP
          have hD : va_D _ ([] ++ pl) := hD
          refine W.widen (k := 0) (n := 0) (by omega) (by omega) ?_
          refine lv_aload_n hx hb dMH_keys_171 rfl (lv_at hl 1 rfl) ?_
          refine lv_iload hx hb dMH_keys_172 (lv_at hl 0 rfl) ?_
          refine lv_aload_n hx hb dMH_keys_174 rfl (lv_at hl 1 rfl) ?_
          refine ty_get (ci := 12) (C := "LatticeKeysModel$Hands") (TT := T_MH) (N := 31) (kd := (46, 0)) hx hb hts (wg_ft i_MH) hown hK hO k_h0 (nxg clo_nil k_h0 rfl) hP (fun _ h9 => h9) rfl 13 (by decide) (hts _ (wg_t kw_1445)) (fun _ h9 => h9) (cd := (3, 0, 256)) rfl dMH_keys_175 (fun v97 hv97 => ?_)
          obtain ⟨r71, rfl, kr70⟩ := (show ∃ r : Nat, v97 = .ref r ∧ T r = some (0, 256) from hv97)
          refine mp_v (cx := []) (wr := []) hP hD hS hA [] [] rfl rfl rfl (by decide) (va_runV (As := [.int (nI i22), .ref r71]) (rest := []) F (t_MH_rowBy_0 l g _ T [] pl hO hU clo_nil h0 r71 i22 k_h0 kr70 (by omega)) (cwV 2 hts (wg_app (wg_c kw_1734 (wg_c kw_1736 (wg_c ks_63 (wg_c kw_13 wg_n)))) kw_1737) rfl rfl rfl (by decide +kernel) ⟨by decide, by decide⟩) (pp_VT (en_ok g) (ci := 12) (kd := (46, 0)) hK hO k_h0 (nxg clo_nil k_h0 rfl) (fun _ h9 => ko1 h9) hP hD hS hA hE [] rfl rfl rfl) rfl rfl hl.1 rfl (lv_room (Nat.le_of_ble_eq_true rfl)) dMH_keys_178 ⟨by omega, by omega⟩) (fun  pl H locs hu41 hP hD hS => ?_)
          obtain ⟨hq41, hO⟩ := hu41
          have hP : va_P g.1 vcl ([] ++ pl) _ := hP
          have hD : va_D _ ([] ++ pl) := hD
          refine W.widen (k := 0) (n := 0) (by omega) (by omega) ?_
          refine lv_iconst (v := nI 0) hx hb dMH_keys_181 (by decide) ?_
          refine lv_istore (lv' := [(6, .int (nI 0)), (5, .int (nI i22)), (0, .ref h0), (3, .ref pk), (4, .ref sk)]) hx hb dMH_keys_182 hl (by decide) rfl (fun ls hl => ?_)
          have lp30 : ∀ (n30 : Nat) (i30 : Nat) (pl : va_W) (ls : Array Slot) (H : Heap) (locs : List Loc), n30 + i30 = 256 → lv_has ls 10 [(6, .int (nI i30)), (5, .int (nI i22)), (0, .ref h0), (3, .ref pk), (4, .ref sk)] → okx g T [] pl → va_P g.1 vcl ([] ++ pl) H → va_D A ([] ++ pl) → va_S A s.heap H locs → W p l e ({ frames := 4, cells := 0, slots := 0, locals := 98 } : Room) s m args below meth c H locs 0 0 (MQ below (va_Qv (fun (u : va_W) => (True) ∧ okx g T0 [] u) (po g.1 vcl A (fun (u : va_W) => [] ++ u)) A) args s 0 0 A) (F0 m 184 ls []) := by
            intro n30
            induction n30 with
            | zero =>
              intro i30 pl ls H locs hm30  hl hO hP hD hS
              refine lv_iload hx hb dMH_keys_184 (lv_at hl 0 rfl) ?_
              refine lv_sipush (v := nI 256) hx hb dMH_keys_186 (by decide) ?_
              refine mi_ge (tgt := 274) hx hb dMH_keys_189 (by decide) (by omega) (by omega) (fun h42 => ?_) (fun h42 => absurd h42 (by omega))
              refine mi_iinc (k := 1) (x := i22) (d := 1) (y := i22 + 1) (lv' := [(5, .int (nI (i22 + 1))), (6, .int (nI i30)), (0, .ref h0), (3, .ref pk), (4, .ref sk)]) hx hb dMH_keys_274 hl rfl (by decide) rfl (by decide) rfl (fun ls hl => ?_)
              refine lv_goto (tgt := 138) hx hb dMH_keys_277 (by decide) ?_
              exact ih22 (i22 + 1) pl ls H locs (by omega) (lv_sub hl [0, 2, 3, 4] rfl) hO hP hD hS
            | succ n30 ih30 =>
              intro i30 pl ls H locs hm30  hl hO hP hD hS
              refine lv_iload hx hb dMH_keys_184 (lv_at hl 0 rfl) ?_
              refine lv_sipush (v := nI 256) hx hb dMH_keys_186 (by decide) ?_
              refine mi_ge (tgt := 274) hx hb dMH_keys_189 (by decide) (by omega) (by omega) (fun h43 => absurd h43 (by omega)) (fun h43 => ?_)
              refine lv_aload_n hx hb dMH_keys_192 rfl (lv_at hl 2 rfl) ?_
              refine ty_get (ci := 12) (C := "LatticeKeysModel$Hands") (TT := T_MH) (N := 31) (kd := (46, 0)) hx hb hts (wg_ft i_MH) hown hK hO k_h0 (nxg clo_nil k_h0 rfl) hP (fun _ h9 => h9) rfl 13 (by decide) (hts _ (wg_t kw_1445)) (fun _ h9 => h9) (cd := (3, 0, 256)) rfl dMH_keys_193 (fun v98 hv98 => ?_)
              obtain ⟨r72, rfl, kr71⟩ := (show ∃ r : Nat, v98 = .ref r ∧ T r = some (0, 256) from hv98)
              refine lv_iload hx hb dMH_keys_196 (lv_at hl 0 rfl) ?_
              refine ty_iald hx hb hK hO kr71 (nxg clo_nil kr71 rfl) hP (vp_in_nI (by omega) (by decide)) dMH_keys_198 (fun z43 => ?_)
              refine lv_aload_n hx hb dMH_keys_199 rfl (lv_at hl 2 rfl) ?_
              refine ty_get (ci := 12) (C := "LatticeKeysModel$Hands") (TT := T_MH) (N := 31) (kd := (46, 0)) hx hb hts (wg_ft i_MH) hown hK hO k_h0 (nxg clo_nil k_h0 rfl) hP (fun _ h9 => h9) rfl 4 (by decide) (hts _ (wg_t kw_1436)) (fun _ h9 => h9) (cd := (3, 3, 8)) rfl dMH_keys_200 (fun v99 hv99 => ?_)
              obtain ⟨r73, rfl, kr72⟩ := (show ∃ r : Nat, v99 = .ref r ∧ T r = some (3, 8) from hv99)
              refine lv_iload hx hb dMH_keys_203 (lv_at hl 1 rfl) ?_
              refine ty_aald3 hx hb hK hO kr72 (nxg clo_nil kr72 rfl) hP (by omega) (by decide) dMH_keys_205 (fun r74 kr73 => ?_)
              refine lv_iload hx hb dMH_keys_206 (lv_at hl 0 rfl) ?_
              refine ty_iald hx hb hK hO kr73 (nxg clo_nil kr73 rfl) hP (vp_in_nI (by omega) (by decide)) dMH_keys_208 (fun z44 => ?_)
              refine lv_iadd hx hb dMH_keys_209 ?_
              refine mi_any (fun z45 => ?_)
              refine lv_ldc (v := 8380417) hx hb hown (hts _ (wg_t kw_1429)) dMH_keys_210 ?_
              refine mi_as (show (8380417 : Int32) = nI 8380417 by decide) ?_
              refine lv_irem hx hb dMH_keys_212 (nI_ne0 (by omega) (by omega)) ?_
              refine mi_any (fun z46 => ?_)
              refine lv_istore (lv' := [(7, .int z46), (6, .int (nI i30)), (5, .int (nI i22)), (0, .ref h0), (3, .ref pk), (4, .ref sk)]) hx hb dMH_keys_213 hl (by decide) rfl (fun ls hl => ?_)
              refine lv_iload hx hb dMH_keys_215 (lv_at hl 0 rfl) ?_
              refine lv_sipush (v := nI 8192) hx hb dMH_keys_217 (by decide) ?_
              refine lv_irem hx hb dMH_keys_220 (nI_ne0 (by omega) (by omega)) ?_
              refine mi_any (fun z47 => ?_)
              refine lv_istore (lv' := [(8, .int z47), (7, .int z46), (6, .int (nI i30)), (5, .int (nI i22)), (0, .ref h0), (3, .ref pk), (4, .ref sk)]) hx hb dMH_keys_221 hl (by decide) rfl (fun ls hl => ?_)
              refine lv_iload hx hb dMH_keys_223 (lv_at hl 0 rfl) ?_
              refine lv_sipush (v := nI 4096) hx hb dMH_keys_225 (by decide) ?_
              refine lv_icmp_le (tgt := 237) hx hb dMH_keys_228 (by decide) (fun h44 => ?_) (fun h44 => ?_)
              · refine lv_aload_n hx hb dMH_keys_237 rfl (lv_at hl 4 rfl) ?_
                refine ty_get (ci := 12) (C := "LatticeKeysModel$Hands") (TT := T_MH) (N := 31) (kd := (46, 0)) hx hb hts (wg_ft i_MH) hown hK hO k_h0 (nxg clo_nil k_h0 rfl) hP (fun _ h9 => h9) rfl 5 (by decide) (hts _ (wg_t kw_1437)) (fun _ h9 => h9) (cd := (3, 3, 8)) rfl dMH_keys_238 (fun v100 hv100 => ?_)
                obtain ⟨r75, rfl, kr74⟩ := (show ∃ r : Nat, v100 = .ref r ∧ T r = some (3, 8) from hv100)
                refine lv_iload hx hb dMH_keys_241 (lv_at hl 3 rfl) ?_
                refine ty_aald3 hx hb hK hO kr74 (nxg clo_nil kr74 rfl) hP (by omega) (by decide) dMH_keys_243 (fun r76 kr75 => ?_)
                refine lv_iload hx hb dMH_keys_244 (lv_at hl 2 rfl) ?_
                refine lv_iload hx hb dMH_keys_246 (lv_at hl 0 rfl) ?_
                refine ty_iast hx hb hK hO kr75 (nxg clo_nil kr75 rfl) hP hD hS (vp_in_nI (by omega) (by decide)) dMH_keys_248 (fun pl H locs hO hP hD hS => ?_)
                refine lv_aload_n hx hb dMH_keys_249 rfl (lv_at hl 4 rfl) ?_
                refine ty_get (ci := 12) (C := "LatticeKeysModel$Hands") (TT := T_MH) (N := 31) (kd := (46, 0)) hx hb hts (wg_ft i_MH) hown hK hO k_h0 (nxg clo_nil k_h0 rfl) hP (fun _ h9 => h9) rfl 6 (by decide) (hts _ (wg_t kw_1438)) (fun _ h9 => h9) (cd := (3, 3, 8)) rfl dMH_keys_250 (fun v101 hv101 => ?_)
                obtain ⟨r77, rfl, kr76⟩ := (show ∃ r : Nat, v101 = .ref r ∧ T r = some (3, 8) from hv101)
                refine lv_iload hx hb dMH_keys_253 (lv_at hl 3 rfl) ?_
                refine ty_aald3 hx hb hK hO kr76 (nxg clo_nil kr76 rfl) hP (by omega) (by decide) dMH_keys_255 (fun r78 kr77 => ?_)
                refine lv_iload hx hb dMH_keys_256 (lv_at hl 2 rfl) ?_
                refine lv_iload hx hb dMH_keys_258 (lv_at hl 1 rfl) ?_
                refine lv_iload hx hb dMH_keys_260 (lv_at hl 0 rfl) ?_
                refine lv_isub hx hb dMH_keys_262 ?_
                refine mi_any (fun z48 => ?_)
                refine lv_sipush (v := nI 8192) hx hb dMH_keys_263 (by decide) ?_
                refine lv_idiv hx hb dMH_keys_266 (nI_ne0 (by omega) (by omega)) ?_
                refine mi_any (fun z49 => ?_)
                refine ty_iast hx hb hK hO kr77 (nxg clo_nil kr77 rfl) hP hD hS (vp_in_nI (by omega) (by decide)) dMH_keys_267 (fun pl H locs hO hP hD hS => ?_)
                refine mi_iinc (k := 2) (x := i30) (d := 1) (y := i30 + 1) (lv' := [(6, .int (nI (i30 + 1))), (8, .int z47), (7, .int z46), (5, .int (nI i22)), (0, .ref h0), (3, .ref pk), (4, .ref sk)]) hx hb dMH_keys_268 hl rfl (by decide) rfl (by decide) rfl (fun ls hl => ?_)
                refine lv_goto (tgt := 184) hx hb dMH_keys_271 (by decide) ?_
                exact ih30 (i30 + 1) pl ls H locs (by omega) (lv_sub hl [0, 3, 4, 5, 6] rfl) hO hP hD hS
              · refine mi_iincR (k := 0) (lv' := fun z => [(8, .int z), (7, .int z46), (6, .int (nI i30)), (5, .int (nI i22)), (0, .ref h0), (3, .ref pk), (4, .ref sk)]) hx hb dMH_keys_231 hl rfl (by decide) (fun _ => rfl) (fun z50 ls hl => ?_)
                refine lv_aload_n hx hb dMH_keys_237 rfl (lv_at hl 4 rfl) ?_
                refine ty_get (ci := 12) (C := "LatticeKeysModel$Hands") (TT := T_MH) (N := 31) (kd := (46, 0)) hx hb hts (wg_ft i_MH) hown hK hO k_h0 (nxg clo_nil k_h0 rfl) hP (fun _ h9 => h9) rfl 5 (by decide) (hts _ (wg_t kw_1437)) (fun _ h9 => h9) (cd := (3, 3, 8)) rfl dMH_keys_238 (fun v102 hv102 => ?_)
                obtain ⟨r79, rfl, kr78⟩ := (show ∃ r : Nat, v102 = .ref r ∧ T r = some (3, 8) from hv102)
                refine lv_iload hx hb dMH_keys_241 (lv_at hl 3 rfl) ?_
                refine ty_aald3 hx hb hK hO kr78 (nxg clo_nil kr78 rfl) hP (by omega) (by decide) dMH_keys_243 (fun r80 kr79 => ?_)
                refine lv_iload hx hb dMH_keys_244 (lv_at hl 2 rfl) ?_
                refine lv_iload hx hb dMH_keys_246 (lv_at hl 0 rfl) ?_
                refine ty_iast hx hb hK hO kr79 (nxg clo_nil kr79 rfl) hP hD hS (vp_in_nI (by omega) (by decide)) dMH_keys_248 (fun pl H locs hO hP hD hS => ?_)
                refine lv_aload_n hx hb dMH_keys_249 rfl (lv_at hl 4 rfl) ?_
                refine ty_get (ci := 12) (C := "LatticeKeysModel$Hands") (TT := T_MH) (N := 31) (kd := (46, 0)) hx hb hts (wg_ft i_MH) hown hK hO k_h0 (nxg clo_nil k_h0 rfl) hP (fun _ h9 => h9) rfl 6 (by decide) (hts _ (wg_t kw_1438)) (fun _ h9 => h9) (cd := (3, 3, 8)) rfl dMH_keys_250 (fun v103 hv103 => ?_)
                obtain ⟨r81, rfl, kr80⟩ := (show ∃ r : Nat, v103 = .ref r ∧ T r = some (3, 8) from hv103)
                refine lv_iload hx hb dMH_keys_253 (lv_at hl 3 rfl) ?_
                refine ty_aald3 hx hb hK hO kr80 (nxg clo_nil kr80 rfl) hP (by omega) (by decide) dMH_keys_255 (fun r82 kr81 => ?_)
                refine lv_iload hx hb dMH_keys_256 (lv_at hl 2 rfl) ?_
                refine lv_iload hx hb dMH_keys_258 (lv_at hl 1 rfl) ?_
                refine lv_iload hx hb dMH_keys_260 (lv_at hl 0 rfl) ?_
                refine lv_isub hx hb dMH_keys_262 ?_
                refine mi_any (fun z51 => ?_)
                refine lv_sipush (v := nI 8192) hx hb dMH_keys_263 (by decide) ?_
                refine lv_idiv hx hb dMH_keys_266 (nI_ne0 (by omega) (by omega)) ?_
                refine mi_any (fun z52 => ?_)
                refine ty_iast hx hb hK hO kr81 (nxg clo_nil kr81 rfl) hP hD hS (vp_in_nI (by omega) (by decide)) dMH_keys_267 (fun pl H locs hO hP hD hS => ?_)
                refine mi_iinc (k := 2) (x := i30) (d := 1) (y := i30 + 1) (lv' := [(6, .int (nI (i30 + 1))), (8, .int z50), (7, .int z46), (5, .int (nI i22)), (0, .ref h0), (3, .ref pk), (4, .ref sk)]) hx hb dMH_keys_268 hl rfl (by decide) rfl (by decide) rfl (fun ls hl => ?_)
                refine lv_goto (tgt := 184) hx hb dMH_keys_271 (by decide) ?_
                exact ih30 (i30 + 1) pl ls H locs (by omega) (lv_sub hl [0, 3, 4, 5, 6] rfl) hO hP hD hS
          exact lp30 256 0 pl ls _ _ (by omega) (lv_sub hl [0, 1, 2, 3, 4] rfl) hO hP hD hS
      exact lp22 4 0 pl ls _ _ (by omega) (lv_sub hl [0, 1, 2, 3] rfl) hO hP hD hS
    | succ n21 ih21 =>
      intro i21 pl ls H locs hm21  hl hO hP hD hS
      refine lv_iload hx hb dMH_keys_78 (lv_at hl 0 rfl) ?_
      refine lv_aload_n hx hb dMH_keys_80 rfl (lv_at hl 1 rfl) ?_
      refine ty_get (ci := 12) (C := "LatticeKeysModel$Hands") (TT := T_MH) (N := 31) (kd := (46, 0)) hx hb hts (wg_ft i_MH) hown hK hO k_h0 (nxg clo_nil k_h0 rfl) hP (fun _ h9 => h9) rfl 25 (by decide) (hts _ (wg_t kw_1457)) (fun _ h9 => h9) (cd := (1, 0, 4)) rfl dMH_keys_81 (fun v104 hv104 => ?_)
      obtain rfl := (show v104 = .int (nI 4) from hv104)
      refine mi_ge (tgt := 135) hx hb dMH_keys_84 (by decide) (by omega) (by omega) (fun h45 => absurd h45 (by omega)) (fun h45 => ?_)
      refine lv_aload_n hx hb dMH_keys_87 rfl (lv_at hl 1 rfl) ?_
      refine lv_aload_n hx hb dMH_keys_88 rfl (lv_at hl 1 rfl) ?_
      refine ty_get (ci := 12) (C := "LatticeKeysModel$Hands") (TT := T_MH) (N := 31) (kd := (46, 0)) hx hb hts (wg_ft i_MH) hown hK hO k_h0 (nxg clo_nil k_h0 rfl) hP (fun _ h9 => h9) rfl 3 (by decide) (hts _ (wg_t kw_1435)) (fun _ h9 => h9) (cd := (3, 3, 7)) rfl dMH_keys_89 (fun v105 hv105 => ?_)
      obtain ⟨r83, rfl, kr82⟩ := (show ∃ r : Nat, v105 = .ref r ∧ T r = some (3, 7) from hv105)
      refine lv_iload hx hb dMH_keys_92 (lv_at hl 0 rfl) ?_
      refine ty_aald3 hx hb hK hO kr82 (nxg clo_nil kr82 rfl) hP (by omega) (by decide) dMH_keys_94 (fun r84 kr83 => ?_)
      refine lv_aload_n hx hb dMH_keys_95 rfl (lv_at hl 1 rfl) ?_
      refine ty_get (ci := 12) (C := "LatticeKeysModel$Hands") (TT := T_MH) (N := 31) (kd := (46, 0)) hx hb hts (wg_ft i_MH) hown hK hO k_h0 (nxg clo_nil k_h0 rfl) hP (fun _ h9 => h9) rfl 16 (by decide) (hts _ (wg_t kw_1448)) (fun _ h9 => h9) (cd := (3, 1, 128)) rfl dMH_keys_96 (fun v106 hv106 => ?_)
      obtain ⟨r85, rfl, kr84⟩ := (show ∃ r : Nat, v106 = .ref r ∧ T r = some (1, 128) from hv106)
      refine lv_bipush (v := nI 32) hx hb dMH_keys_99 (by decide) ?_
      refine lv_iload hx hb dMH_keys_101 (lv_at hl 0 rfl) ?_
      refine mp_v (cx := []) (wr := []) hP hD hS hA [] [] rfl rfl rfl (by decide) (va_runV (As := [.ref r84, .ref r85, .int (nI 32), .int (nI i21)]) (rest := []) F (t_MH_small_0 l g _ T [] pl hO hU clo_nil clo_nil h0 r84 r85 128 32 (nI i21) k_h0 kr83 kr84 (by omega) (by omega)) (cwV 4 hts (wg_app (wg_c kw_1729 (wg_c kw_1731 (wg_c ks_62 (wg_c kw_13 wg_n)))) kw_1732) rfl rfl rfl (by decide +kernel) ⟨by decide, by decide⟩) (pp_VT (en_ok g) (ci := 12) (kd := (46, 0)) hK hO k_h0 (nxg clo_nil k_h0 rfl) (fun _ h9 => ko1 h9) hP hD hS hA hE [] rfl rfl rfl) rfl rfl hl.1 rfl (lv_room (Nat.le_of_ble_eq_true rfl)) dMH_keys_103 ⟨by omega, by omega⟩) (fun  pl H locs hu42 hP hD hS => ?_)
      obtain ⟨hq42, hO⟩ := hu42
      have hP : va_P g.1 vcl ([] ++ pl) _ := hP
      have hD : va_D _ ([] ++ pl) := hD
      refine W.widen (k := 0) (n := 0) (by omega) (by omega) ?_
      refine lv_aload_n hx hb dMH_keys_106 rfl (lv_at hl 1 rfl) ?_
      refine ty_get (ci := 12) (C := "LatticeKeysModel$Hands") (TT := T_MH) (N := 31) (kd := (46, 0)) hx hb hts (wg_ft i_MH) hown hK hO k_h0 (nxg clo_nil k_h0 rfl) hP (fun _ h9 => h9) rfl 1 (by decide) (hts _ (wg_t kw_1433)) (fun _ h9 => h9) (cd := (3, 22, 0)) rfl dMH_keys_107 (fun v107 hv107 => ?_)
      obtain ⟨r86, rfl, kr85⟩ := (show ∃ r : Nat, v107 = .ref r ∧ T r = some (22, 0) from hv107)
      refine lv_aload_n hx hb dMH_keys_110 rfl (lv_at hl 1 rfl) ?_
      refine ty_get (ci := 12) (C := "LatticeKeysModel$Hands") (TT := T_MH) (N := 31) (kd := (46, 0)) hx hb hts (wg_ft i_MH) hown hK hO k_h0 (nxg clo_nil k_h0 rfl) hP (fun _ h9 => h9) rfl 3 (by decide) (hts _ (wg_t kw_1435)) (fun _ h9 => h9) (cd := (3, 3, 7)) rfl dMH_keys_111 (fun v108 hv108 => ?_)
      obtain ⟨r87, rfl, kr86⟩ := (show ∃ r : Nat, v108 = .ref r ∧ T r = some (3, 7) from hv108)
      refine lv_iload hx hb dMH_keys_114 (lv_at hl 0 rfl) ?_
      refine ty_aald3 hx hb hK hO kr86 (nxg clo_nil kr86 rfl) hP (by omega) (by decide) dMH_keys_116 (fun r88 kr87 => ?_)
      refine lv_aload_n hx hb dMH_keys_117 rfl (lv_at hl 1 rfl) ?_
      refine ty_get (ci := 12) (C := "LatticeKeysModel$Hands") (TT := T_MH) (N := 31) (kd := (46, 0)) hx hb hts (wg_ft i_MH) hown hK hO k_h0 (nxg clo_nil k_h0 rfl) hP (fun _ h9 => h9) rfl 9 (by decide) (hts _ (wg_t kw_1441)) (fun _ h9 => h9) (cd := (3, 3, 7)) rfl dMH_keys_118 (fun v109 hv109 => ?_)
      obtain ⟨r89, rfl, kr88⟩ := (show ∃ r : Nat, v109 = .ref r ∧ T r = some (3, 7) from hv109)
      refine lv_iload hx hb dMH_keys_121 (lv_at hl 0 rfl) ?_
      refine ty_aald3 hx hb hK hO kr88 (nxg clo_nil kr88 rfl) hP (by omega) (by decide) dMH_keys_123 (fun r90 kr89 => ?_)
      refine lv_iconst (v := nI 1) hx hb dMH_keys_124 (by decide) ?_
      refine lv_iconst (v := nI 0) hx hb dMH_keys_125 (by decide) ?_
      refine mp_v (cx := []) (wr := []) hP hD hS hA [] [] rfl rfl rfl (by decide) (va_runV (As := [.ref r88, .ref r90, .int (nI 1), .int (nI 0)]) (rest := []) F (t_MR_forth_22_0 l g _ T [] pl hO hU clo_nil r86 r88 r90 kr85 kr87 kr89) (cwV 4 hts (wg_app (wg_c kw_1733 (wg_c kw_1673 (wg_c kw_1674 (wg_c kw_12 wg_n)))) kw_1675) rfl rfl rfl (by decide +kernel) ⟨by decide, by decide⟩) (pp_VT (en_ok g) (ci := 10) (kd := (22, 0)) hK hO kr85 (nxg clo_nil kr85 rfl) (fun _ h9 => ko1 h9) hP hD hS hA hE [] rfl rfl rfl) rfl rfl hl.1 rfl (lv_room (Nat.le_of_ble_eq_true rfl)) dMH_keys_126 ⟨by omega, by omega⟩) (fun  pl H locs hu43 hP hD hS => ?_)
      obtain ⟨hq43, hO⟩ := hu43
      have hP : va_P g.1 vcl ([] ++ pl) _ := hP
      have hD : va_D _ ([] ++ pl) := hD
      refine W.widen (k := 0) (n := 0) (by omega) (by omega) ?_
      refine mi_iinc (k := 0) (x := i21) (d := 1) (y := i21 + 1) (lv' := [(5, .int (nI (i21 + 1))), (0, .ref h0), (3, .ref pk), (4, .ref sk)]) hx hb dMH_keys_129 hl rfl (by decide) rfl (by decide) rfl (fun ls hl => ?_)
      refine lv_goto (tgt := 78) hx hb dMH_keys_132 (by decide) ?_
      exact ih21 (i21 + 1) pl ls H locs (by omega) (lv_sub hl [0, 1, 2, 3] rfl) hO hP hD hS
  exact lp21 4 0 pl ls _ _ (by omega) (lv_sub hl [0, 1, 4, 5] rfl) hO hP hD hS
set_option maxHeartbeats 4000000 in
set_option maxRecDepth 100000 in
theorem t_MH_keys_1 (l : Launch) (g : Gd) (sz : Nat) (T0 : Ty) (pl : va_W) (hO : okx g T0 [] pl) (hU : uni T0) (h0 b pk sk n : Nat) (k_h0 : T0 h0 = some (49, 0)) (k_b : T0 b = some (1, n)) (k_pk : T0 pk = some (1, 2592)) (k_sk : T0 sk = some (1, 4896)) (h1 : 32 ≤ n) (h2 : n < 65536)  : Met l y_MH_keys w_MH_keys ({ frames := 4, cells := 0, slots := 0, locals := 98 } : Room) (va_Pc [.ref h0, .int (nI 1), .ref b, .ref pk, .ref sk] (pr (en g) g.1 vcl sz ([] ++ pl))) (va_Qv (fun (u : va_W) => (True) ∧ okx g T0 [] u) (po g.1 vcl (va_A ([] ++ pl) sz) (fun (u : va_W) => [] ++ u)) (va_A ([] ++ pl) sz)) 0 0 (va_A ([] ++ pl) sz) := by
  refine mc_entry (cc := c_MH_keys) (maxL := 10) (ret := none) (by decide) rfl (Nat.le_of_ble_eq_true rfl) ?_
  intro p e s m args below meth c ls F hr hlk hnm hsz hP hD hE hA hl
  obtain ⟨hx, hb, hml, hown, hts⟩ := id F
  have hK := hE.1
  generalize va_A ([] ++ pl) sz = A at hD hE hA ⊢
  have hS : va_S A s.heap s.heap [] := va_S.rf
  have hl : lv_has ls 10 [(0, .ref h0), (1, .int (nI 1)), (2, .ref b), (3, .ref pk), (4, .ref sk)] := hl
  refine lv_aload_n hx hb dMH_keys_0 rfl (lv_at hl 0 rfl) ?_
  refine lv_iload_n hx hb dMH_keys_1 rfl (lv_at hl 1 rfl) ?_
  obtain ⟨e21, pl, hP, hD, hk21, hO⟩ := open1 hP hD hO k_h0 (nxg clo_nil k_h0 (p := 11) rfl)
  obtain ⟨fs21, rfl, hf21⟩ := hk21
  obtain ⟨v21, vs21, rfl, hv21, hf22⟩ := fall_cons hf21
  obtain ⟨r21, rfl, kr21⟩ := (show ∃ r : Nat, v21 = .ref r ∧ T0 r = some (20, 0) from hv21)
  obtain ⟨v22, vs22, rfl, hv22, hf23⟩ := fall_cons hf22
  obtain ⟨r22, rfl, kr22⟩ := (show ∃ r : Nat, v22 = .ref r ∧ T0 r = some (22, 0) from hv22)
  obtain ⟨v23, vs23, rfl, hv23, hf24⟩ := fall_cons hf23
  obtain ⟨r23, rfl, kr23⟩ := (show ∃ r : Nat, v23 = .ref r ∧ T0 r = some (3, 64) from hv23)
  obtain ⟨v24, vs24, rfl, hv24, hf25⟩ := fall_cons hf24
  obtain ⟨r24, rfl, kr24⟩ := (show ∃ r : Nat, v24 = .ref r ∧ T0 r = some (3, 7) from hv24)
  obtain ⟨v25, vs25, rfl, hv25, hf26⟩ := fall_cons hf25
  obtain ⟨r25, rfl, kr25⟩ := (show ∃ r : Nat, v25 = .ref r ∧ T0 r = some (3, 8) from hv25)
  obtain ⟨v26, vs26, rfl, hv26, hf27⟩ := fall_cons hf26
  obtain ⟨r26, rfl, kr26⟩ := (show ∃ r : Nat, v26 = .ref r ∧ T0 r = some (3, 8) from hv26)
  obtain ⟨v27, vs27, rfl, hv27, hf28⟩ := fall_cons hf27
  obtain ⟨r27, rfl, kr27⟩ := (show ∃ r : Nat, v27 = .ref r ∧ T0 r = some (3, 8) from hv27)
  obtain ⟨v28, vs28, rfl, hv28, hf29⟩ := fall_cons hf28
  obtain ⟨r28, rfl, kr28⟩ := (show ∃ r : Nat, v28 = .ref r ∧ T0 r = some (3, 7) from hv28)
  obtain ⟨v29, vs29, rfl, hv29, hf30⟩ := fall_cons hf29
  obtain ⟨r29, rfl, kr29⟩ := (show ∃ r : Nat, v29 = .ref r ∧ T0 r = some (3, 7) from hv29)
  obtain ⟨v30, vs30, rfl, hv30, hf31⟩ := fall_cons hf30
  obtain ⟨r30, rfl, kr30⟩ := (show ∃ r : Nat, v30 = .ref r ∧ T0 r = some (3, 7) from hv30)
  obtain ⟨v31, vs31, rfl, hv31, hf32⟩ := fall_cons hf31
  obtain ⟨r31, rfl, kr31⟩ := (show ∃ r : Nat, v31 = .ref r ∧ T0 r = some (3, 8) from hv31)
  obtain ⟨v32, vs32, rfl, hv32, hf33⟩ := fall_cons hf32
  obtain ⟨r32, rfl, kr32⟩ := (show ∃ r : Nat, v32 = .ref r ∧ T0 r = some (3, 8) from hv32)
  obtain ⟨v33, vs33, rfl, hv33, hf34⟩ := fall_cons hf33
  obtain ⟨r33, rfl, kr33⟩ := (show ∃ r : Nat, v33 = .ref r ∧ T0 r = some (0, 256) from hv33)
  obtain ⟨v34, vs34, rfl, hv34, hf35⟩ := fall_cons hf34
  obtain ⟨r34, rfl, kr34⟩ := (show ∃ r : Nat, v34 = .ref r ∧ T0 r = some (0, 256) from hv34)
  obtain ⟨v35, vs35, rfl, hv35, hf36⟩ := fall_cons hf35
  obtain ⟨r35, rfl, kr35⟩ := (show ∃ r : Nat, v35 = .ref r ∧ T0 r = some (0, 256) from hv35)
  obtain ⟨v36, vs36, rfl, hv36, hf37⟩ := fall_cons hf36
  obtain ⟨r36, rfl, kr36⟩ := (show ∃ r : Nat, v36 = .ref r ∧ T0 r = some (2, 256) from hv36)
  obtain ⟨v37, vs37, rfl, hv37, hf38⟩ := fall_cons hf37
  obtain ⟨r37, rfl, kr37⟩ := (show ∃ r : Nat, v37 = .ref r ∧ T0 r = some (1, 128) from hv37)
  obtain ⟨v38, vs38, rfl, hv38, hf39⟩ := fall_cons hf38
  obtain ⟨r38, rfl, kr38⟩ := (show ∃ r : Nat, v38 = .ref r ∧ T0 r = some (1, 64) from hv38)
  obtain ⟨v39, vs39, rfl, hv39, hf40⟩ := fall_cons hf39
  obtain ⟨r39, rfl, kr39⟩ := (show ∃ r : Nat, v39 = .ref r ∧ T0 r = some (1, 64) from hv39)
  obtain ⟨v40, vs40, rfl, hv40, hf41⟩ := fall_cons hf40
  obtain ⟨r40, rfl, kr40⟩ := (show ∃ r : Nat, v40 = .ref r ∧ T0 r = some (1, 640) from hv40)
  obtain ⟨v41, vs41, rfl, hv41, hf42⟩ := fall_cons hf41
  obtain ⟨r41, rfl, kr41⟩ := (show ∃ r : Nat, v41 = .ref r ∧ T0 r = some (1, 64) from hv41)
  obtain ⟨v42, vs42, rfl, hv42, hf43⟩ := fall_cons hf42
  obtain ⟨r42, rfl, kr42⟩ := (show ∃ r : Nat, v42 = .ref r ∧ T0 r = some (1, 64) from hv42)
  obtain ⟨v43, vs43, rfl, hv43, hf44⟩ := fall_cons hf43
  obtain ⟨r43, rfl, kr43⟩ := (show ∃ r : Nat, v43 = .ref r ∧ T0 r = some (1, 64) from hv43)
  obtain ⟨v44, vs44, rfl, hv44, hf45⟩ := fall_cons hf44
  obtain ⟨z21, rfl⟩ := (show ∃ z : Int32, v44 = .int z from hv44)
  obtain ⟨v45, vs45, rfl, hv45, hf46⟩ := fall_cons hf45
  obtain ⟨z22, rfl⟩ := (show ∃ z : Int32, v45 = .int z from hv45)
  obtain ⟨v46, vs46, rfl, hv46, hf47⟩ := fall_cons hf46
  obtain ⟨z23, rfl⟩ := (show ∃ z : Int32, v46 = .int z from hv46)
  obtain ⟨v47, vs47, rfl, hv47, hf48⟩ := fall_cons hf47
  obtain ⟨z24, rfl⟩ := (show ∃ z : Int32, v47 = .int z from hv47)
  obtain ⟨v48, vs48, rfl, hv48, hf49⟩ := fall_cons hf48
  obtain ⟨z25, rfl⟩ := (show ∃ z : Int32, v48 = .int z from hv48)
  obtain ⟨v49, vs49, rfl, hv49, hf50⟩ := fall_cons hf49
  obtain ⟨z26, rfl⟩ := (show ∃ z : Int32, v49 = .int z from hv49)
  obtain ⟨v50, vs50, rfl, hv50, hf51⟩ := fall_cons hf50
  obtain ⟨z27, rfl⟩ := (show ∃ z : Int32, v50 = .int z from hv50)
  obtain ⟨v51, vs51, rfl, hv51, hf52⟩ := fall_cons hf51
  obtain ⟨z28, rfl⟩ := (show ∃ z : Int32, v51 = .int z from hv51)
  obtain rfl := fall_nil hf52
  have hP : va_P g.1 vcl ([(h0, .inr (12, [.ref r21, .ref r22, .ref r23, .ref r24, .ref r25, .ref r26, .ref r27, .ref r28, .ref r29, .ref r30, .ref r31, .ref r32, .ref r33, .ref r34, .ref r35, .ref r36, .ref r37, .ref r38, .ref r39, .ref r40, .ref r41, .ref r42, .ref r43, .int z21, .int z22, .int z23, .int z24, .int z25, .int z26, .int z27, .int z28]))] ++ pl) _ := hP
  have hD : va_D _ ([(h0, .inr (12, [.ref r21, .ref r22, .ref r23, .ref r24, .ref r25, .ref r26, .ref r27, .ref r28, .ref r29, .ref r30, .ref r31, .ref r32, .ref r33, .ref r34, .ref r35, .ref r36, .ref r37, .ref r38, .ref r39, .ref r40, .ref r41, .ref r42, .ref r43, .int z21, .int z22, .int z23, .int z24, .int z25, .int z26, .int z27, .int z28]))] ++ pl) := hD
  refine mp_v (cx := [(h0, .inr (12, [.ref r21, .ref r22, .ref r23, .ref r24, .ref r25, .ref r26, .ref r27, .ref r28, .ref r29, .ref r30, .ref r31, .ref r32, .ref r33, .ref r34, .ref r35, .ref r36, .ref r37, .ref r38, .ref r39, .ref r40, .ref r41, .ref r42, .ref r43, .int z21, .int z22, .int z23, .int z24, .int z25, .int z26, .int z27, .int z28]))]) (wr := []) hP hD hS hA [0] [] rfl rfl rfl (by decide) (va_runV (As := [.int (nI 1)]) (rest := []) F (t_MH_as_1 l g _ T0 (h0 :: []) pl hO hU  h0 r21 r22 r23 r24 r25 r26 r27 r28 r29 r30 r31 r32 r33 r34 r35 r36 r37 r38 r39 r40 r41 r42 r43 z21 z22 z23 z24 z25 z26 z27 z28) (cwV 1 hts (wg_app (wg_c kw_1702 (wg_c kw_1704 (wg_c ks_60 (wg_c kw_13 wg_n)))) kw_1705) rfl rfl rfl (by decide +kernel) ⟨by decide, by decide⟩) (pp_V (en_ok g) (q0 := 0) hK hP hD hS hA hE [0] rfl rfl rfl rfl) rfl rfl hl.1 rfl (lv_room (Nat.le_of_ble_eq_true rfl)) dMH_keys_2 ⟨by omega, by omega⟩) (fun  pl H locs hu21 hP hD hS => ?_)
  obtain ⟨hq21, hO⟩ := hu21
  have hP : va_P g.1 vcl ([(h0, .inr (12, [.ref r21, .ref r22, .ref r23, .ref r24, .ref r25, .ref r26, .ref r27, .ref r28, .ref r29, .ref r30, .ref r31, .ref r32, .ref r33, .ref r34, .ref r35, .ref r36, .ref r37, .ref r38, .ref r39, .ref r40, .ref r41, .ref r42, .ref r43, .int (nI 1), .int (nI 6), .int (nI 5), .int (nI 4), .int (nI 524288), .int (nI 261888), .int (nI 196), .int (nI 48)]))] ++ pl) _ := hP
  have hD : va_D _ ([(h0, .inr (12, [.ref r21, .ref r22, .ref r23, .ref r24, .ref r25, .ref r26, .ref r27, .ref r28, .ref r29, .ref r30, .ref r31, .ref r32, .ref r33, .ref r34, .ref r35, .ref r36, .ref r37, .ref r38, .ref r39, .ref r40, .ref r41, .ref r42, .ref r43, .int (nI 1), .int (nI 6), .int (nI 5), .int (nI 4), .int (nI 524288), .int (nI 261888), .int (nI 196), .int (nI 48)]))] ++ pl) := hD
  refine W.widen (k := 0) (n := 0) (by omega) (by omega) ?_
  have hO := hands_in (j := 1) (e := .inr (12, [.ref r21, .ref r22, .ref r23, .ref r24, .ref r25, .ref r26, .ref r27, .ref r28, .ref r29, .ref r30, .ref r31, .ref r32, .ref r33, .ref r34, .ref r35, .ref r36, .ref r37, .ref r38, .ref r39, .ref r40, .ref r41, .ref r42, .ref r43, .int (nI 1), .int (nI 6), .int (nI 5), .int (nI 4), .int (nI 524288), .int (nI 261888), .int (nI 196), .int (nI 48)])) hO k_h0 ⟨_, rfl, ⟨r21, rfl, kr21⟩, ⟨r22, rfl, kr22⟩, ⟨r23, rfl, kr23⟩, ⟨r24, rfl, kr24⟩, ⟨r25, rfl, kr25⟩, ⟨r26, rfl, kr26⟩, ⟨r27, rfl, kr27⟩, ⟨r28, rfl, kr28⟩, ⟨r29, rfl, kr29⟩, ⟨r30, rfl, kr30⟩, ⟨r31, rfl, kr31⟩, ⟨r32, rfl, kr32⟩, ⟨r33, rfl, kr33⟩, ⟨r34, rfl, kr34⟩, ⟨r35, rfl, kr35⟩, ⟨r36, rfl, kr36⟩, ⟨r37, rfl, kr37⟩, ⟨r38, rfl, kr38⟩, ⟨r39, rfl, kr39⟩, ⟨r40, rfl, kr40⟩, ⟨r41, rfl, kr41⟩, ⟨r42, rfl, kr42⟩, ⟨r43, rfl, kr43⟩, rfl, rfl, rfl, rfl, rfl, rfl, rfl, rfl, trivial⟩
  have hP : va_P g.1 vcl ([] ++ ((h0, .inr (12, [.ref r21, .ref r22, .ref r23, .ref r24, .ref r25, .ref r26, .ref r27, .ref r28, .ref r29, .ref r30, .ref r31, .ref r32, .ref r33, .ref r34, .ref r35, .ref r36, .ref r37, .ref r38, .ref r39, .ref r40, .ref r41, .ref r42, .ref r43, .int (nI 1), .int (nI 6), .int (nI 5), .int (nI 4), .int (nI 524288), .int (nI 261888), .int (nI 196), .int (nI 48)])) :: pl)) _ := hP
  have hD : va_D _ ([] ++ ((h0, .inr (12, [.ref r21, .ref r22, .ref r23, .ref r24, .ref r25, .ref r26, .ref r27, .ref r28, .ref r29, .ref r30, .ref r31, .ref r32, .ref r33, .ref r34, .ref r35, .ref r36, .ref r37, .ref r38, .ref r39, .ref r40, .ref r41, .ref r42, .ref r43, .int (nI 1), .int (nI 6), .int (nI 5), .int (nI 4), .int (nI 524288), .int (nI 261888), .int (nI 196), .int (nI 48)])) :: pl)) := hD
  generalize ((h0, .inr (12, [.ref r21, .ref r22, .ref r23, .ref r24, .ref r25, .ref r26, .ref r27, .ref r28, .ref r29, .ref r30, .ref r31, .ref r32, .ref r33, .ref r34, .ref r35, .ref r36, .ref r37, .ref r38, .ref r39, .ref r40, .ref r41, .ref r42, .ref r43, .int (nI 1), .int (nI 6), .int (nI 5), .int (nI 4), .int (nI 524288), .int (nI 261888), .int (nI 196), .int (nI 48)])) :: pl) = pl at hO hP hD
  have hback : ∀ pl, okx g (tyU T0 h0 (46 + 1, 0)) [] pl → okx g T0 [] pl := fun pl h9 => hands_out k_h0 (hands_wk 1 (by decide)) h9
  have hU := uni_U (a := h0) (k := (46 + 1, 0)) hU rfl
  have k_b := tyU_k (k := (46 + 1, 0)) k_h0 k_b (by intro h9; cases h9)
  have k_pk := tyU_k (k := (46 + 1, 0)) k_h0 k_pk (by intro h9; cases h9)
  have k_sk := tyU_k (k := (46 + 1, 0)) k_h0 k_sk (by intro h9; cases h9)
  have k_h0 : tyU T0 h0 (46 + 1, 0) h0 = some (46 + 1, 0) := tyU_at
  generalize tyU T0 h0 (46 + 1, 0) = T at hO hback hU k_b k_pk k_sk k_h0
  refine lv_aload_n hx hb dMH_keys_5 rfl (lv_at hl 0 rfl) ?_
  refine ty_get (ci := 12) (C := "LatticeKeysModel$Hands") (TT := T_MH) (N := 31) (kd := (47, 0)) hx hb hts (wg_ft i_MH) hown hK hO k_h0 (nxg clo_nil k_h0 rfl) hP (fun _ h9 => h9) rfl 0 (by decide) (hts _ (wg_t kw_1432)) (fun _ h9 => h9) (cd := (3, 20, 0)) rfl dMH_keys_6 (fun v52 hv52 => ?_)
  obtain ⟨r44, rfl, kr44⟩ := (show ∃ r : Nat, v52 = .ref r ∧ T r = some (20, 0) from hv52)
  obtain ⟨e22, pl, hP, hD, hk22, hO⟩ := open1 hP hD hO kr44 (nxg clo_nil kr44 rfl)
  obtain ⟨am21, am22, am23, am24, am25, rt21, ps21, x21, rfl, km21, km22, km23, km24, km25, hr21, hr22, hr23⟩ := hk22
  obtain ⟨e23, pl, hP, hD, hk23, hO⟩ := open1 hP hD hO km21 (nmc (knd_ne km21 kr44 (by decide)) (nxg clo_nil km21 rfl))
  obtain ⟨f21, rfl⟩ := hk23
  obtain ⟨e24, pl, hP, hD, hk24, hO⟩ := open1 hP hD hO km22 (nmc (knd_ne km22 km21 (by decide)) (nmc (knd_ne km22 kr44 (by decide)) (nxg clo_nil km22 rfl)))
  obtain ⟨f22, rfl⟩ := hk24
  obtain ⟨e25, pl, hP, hD, hk25, hO⟩ := open1 hP hD hO km23 (nmc (knd_ne km23 km22 (by decide)) (nmc (knd_ne km23 km21 (by decide)) (nmc (knd_ne km23 kr44 (by decide)) (nxg clo_nil km23 rfl))))
  obtain ⟨f23, rfl⟩ := hk25
  obtain ⟨e26, pl, hP, hD, hk26, hO⟩ := open1 hP hD hO km24 (nmc (knd_ne km24 km23 (by decide)) (nmc (knd_ne km24 km22 (by decide)) (nmc (knd_ne km24 km21 (by decide)) (nmc (knd_ne km24 kr44 (by decide)) (nxg clo_nil km24 rfl)))))
  obtain ⟨f24, rfl⟩ := hk26
  obtain ⟨e27, pl, hP, hD, hk27, hO⟩ := open1 hP hD hO km25 (nmc (knd_ne km25 km24 (by decide)) (nmc (knd_ne km25 km23 (by decide)) (nmc (knd_ne km25 km22 (by decide)) (nmc (knd_ne km25 km21 (by decide)) (nmc (knd_ne km25 kr44 (by decide)) (nxg clo_nil km25 rfl))))))
  obtain ⟨f25, rfl⟩ := hk27
  have hP : va_P g.1 vcl ([(r44, .inr (9, [.ref am21, .ref am22, .ref am23, .ref am24, .ref am25, .int (nI rt21), .int (nI ps21), .int x21])), (am21, .inl (g.2.1 2, 25, .inr (.inl f21))), (am22, .inl (g.2.1 2, 25, .inr (.inl f22))), (am23, .inl (g.2.1 2, 5, .inr (.inl f23))), (am24, .inl (g.2.1 2, 24, .inr (.inl f24))), (am25, .inl (g.2.1 0, 25, .inl f25))] ++ pl) _ := hP
  have hD : va_D _ ([(r44, .inr (9, [.ref am21, .ref am22, .ref am23, .ref am24, .ref am25, .int (nI rt21), .int (nI ps21), .int x21])), (am21, .inl (g.2.1 2, 25, .inr (.inl f21))), (am22, .inl (g.2.1 2, 25, .inr (.inl f22))), (am23, .inl (g.2.1 2, 5, .inr (.inl f23))), (am24, .inl (g.2.1 2, 24, .inr (.inl f24))), (am25, .inl (g.2.1 0, 25, .inl f25))] ++ pl) := hD
  refine mp_v (cx := [(r44, .inr (9, [.ref am21, .ref am22, .ref am23, .ref am24, .ref am25, .int (nI rt21), .int (nI ps21), .int x21])), (am21, .inl (g.2.1 2, 25, .inr (.inl f21))), (am22, .inl (g.2.1 2, 25, .inr (.inl f22))), (am23, .inl (g.2.1 2, 5, .inr (.inl f23))), (am24, .inl (g.2.1 2, 24, .inr (.inl f24))), (am25, .inl (g.2.1 0, 25, .inl f25))]) (wr := []) hP hD hS hA [0, 1, 2, 3, 4, 5] [] rfl rfl rfl (by decide) (va_runV (As := []) (rest := []) F (t_MS_shake l g _ T (am25 :: (am24 :: (am23 :: (am22 :: (am21 :: (r44 :: [])))))) pl hO hU  r44 am21 am22 am23 am24 am25 rt21 ps21 x21 f21 f22 f23 f24 f25) (cwV 0 hts (wg_app (wg_c kw_1718 (wg_c kw_1661 (wg_c kw_1662 (wg_c kw_10 wg_n)))) kw_1663) rfl rfl rfl (by decide +kernel) ⟨by decide, by decide⟩) (pp_V (en_ok g) (q0 := 0) hK hP hD hS hA hE [0, 1, 2, 3, 4, 5] rfl rfl rfl rfl) rfl rfl hl.1 rfl (lv_room (Nat.le_of_ble_eq_true rfl)) dMH_keys_9 ⟨by omega, by omega⟩) (fun  u21 H locs hu22 hP hD hS => ?_)
  obtain ⟨u22, pl⟩ := u21
  obtain ⟨hq22, hO⟩ := hu22
  obtain ⟨ps22, f26, f27, f28⟩ := u22
  have hP : va_P g.1 vcl ([(r44, .inr (9, [.ref am21, .ref am22, .ref am23, .ref am24, .ref am25, .int (nI 136), .int (nI ps22), .int (nI 31)])), (am21, .inl (g.2.1 2, 25, .inr (.inl f26))), (am22, .inl (g.2.1 2, 25, .inr (.inl f27))), (am23, .inl (g.2.1 2, 5, .inr (.inl f28))), (am24, .inl (g.2.1 2, 24, .inr (.inl f24))), (am25, .inl (g.2.1 0, 25, .inl f25))] ++ pl) _ := hP
  have hD : va_D _ ([(r44, .inr (9, [.ref am21, .ref am22, .ref am23, .ref am24, .ref am25, .int (nI 136), .int (nI ps22), .int (nI 31)])), (am21, .inl (g.2.1 2, 25, .inr (.inl f26))), (am22, .inl (g.2.1 2, 25, .inr (.inl f27))), (am23, .inl (g.2.1 2, 5, .inr (.inl f28))), (am24, .inl (g.2.1 2, 24, .inr (.inl f24))), (am25, .inl (g.2.1 0, 25, .inl f25))] ++ pl) := hD
  have hq22 : ps22 ≤ 136 := hq22
  refine W.widen (k := 0) (n := 0) (by omega) (by omega) ?_
  refine lv_aload_n hx hb dMH_keys_12 rfl (lv_at hl 0 rfl) ?_
  refine ty_get (ci := 12) (C := "LatticeKeysModel$Hands") (TT := T_MH) (N := 31) (kd := (47, 0)) hx hb hts (wg_ft i_MH) hown hK hO k_h0 (nxg (clo_cons (clo_cons (clo_cons (clo_cons (clo_cons (clo_cons clo_nil kr44 (by decide)) km21 (by decide)) km22 (by decide)) km23 (by decide)) km24 (by decide)) km25 (by decide)) k_h0 rfl) hP (fun _ h9 => h9) rfl 0 (by decide) (hts _ (wg_t kw_1432)) (fun _ h9 => h9) (cd := (3, 20, 0)) rfl dMH_keys_13 (fun v53 hv53 => ?_)
  obtain ⟨r45, rfl, kr45⟩ := (show ∃ r : Nat, v53 = .ref r ∧ T r = some (20, 0) from hv53)
  obtain rfl : r44 = r45 := hU _ _ _ (by decide) kr44 kr45
  refine lv_aload_n hx hb dMH_keys_16 rfl (lv_at hl 2 rfl) ?_
  refine lv_iconst (v := nI 0) hx hb dMH_keys_17 (by decide) ?_
  refine lv_bipush (v := nI 32) hx hb dMH_keys_18 (by decide) ?_
  refine mp_v (cx := [(r44, .inr (9, [.ref am21, .ref am22, .ref am23, .ref am24, .ref am25, .int (nI 136), .int (nI ps22), .int (nI 31)])), (am21, .inl (g.2.1 2, 25, .inr (.inl f26))), (am22, .inl (g.2.1 2, 25, .inr (.inl f27))), (am23, .inl (g.2.1 2, 5, .inr (.inl f28))), (am24, .inl (g.2.1 2, 24, .inr (.inl f24))), (am25, .inl (g.2.1 0, 25, .inl f25))]) (wr := []) hP hD hS hA [0, 1, 2, 3, 4, 5] [] rfl rfl rfl (by decide) (va_runV (As := [.ref b, .int (nI 0), .int (nI 32)]) (rest := []) F (t_MS_puts l g _ T (am25 :: (am24 :: (am23 :: (am22 :: (am21 :: (r44 :: [])))))) pl hO hU (clo_cons (clo_cons (clo_cons (clo_cons (clo_cons (clo_cons clo_nil kr44 (by decide)) km21 (by decide)) km22 (by decide)) km23 (by decide)) km24 (by decide)) km25 (by decide)) b n 0 32 r44 am21 am22 am23 am24 am25 136 ps22 (nI 31) f26 f27 f28 f24 f25 k_b (by omega) (by omega) (by omega) (by omega)) (cwV 3 hts (wg_app (wg_c kw_1719 (wg_c kw_1612 (wg_c kw_1613 (wg_c kw_10 wg_n)))) kw_1614) rfl rfl rfl (by decide +kernel) ⟨by decide, by decide⟩) (pp_V (en_ok g) (q0 := 0) hK hP hD hS hA hE [0, 1, 2, 3, 4, 5] rfl rfl rfl rfl) rfl rfl hl.1 rfl (lv_room (Nat.le_of_ble_eq_true rfl)) dMH_keys_20 ⟨by omega, by omega⟩) (fun  u23 H locs hu23 hP hD hS => ?_)
  obtain ⟨u24, pl⟩ := u23
  obtain ⟨hq23, hO⟩ := hu23
  obtain ⟨ps23, f29, f30, f31⟩ := u24
  have hP : va_P g.1 vcl ([(r44, .inr (9, [.ref am21, .ref am22, .ref am23, .ref am24, .ref am25, .int (nI 136), .int (nI ps23), .int (nI 31)])), (am21, .inl (g.2.1 2, 25, .inr (.inl f29))), (am22, .inl (g.2.1 2, 25, .inr (.inl f30))), (am23, .inl (g.2.1 2, 5, .inr (.inl f31))), (am24, .inl (g.2.1 2, 24, .inr (.inl f24))), (am25, .inl (g.2.1 0, 25, .inl f25))] ++ pl) _ := hP
  have hD : va_D _ ([(r44, .inr (9, [.ref am21, .ref am22, .ref am23, .ref am24, .ref am25, .int (nI 136), .int (nI ps23), .int (nI 31)])), (am21, .inl (g.2.1 2, 25, .inr (.inl f29))), (am22, .inl (g.2.1 2, 25, .inr (.inl f30))), (am23, .inl (g.2.1 2, 5, .inr (.inl f31))), (am24, .inl (g.2.1 2, 24, .inr (.inl f24))), (am25, .inl (g.2.1 0, 25, .inl f25))] ++ pl) := hD
  have hq23 : ps23 ≤ 136 := hq23
  refine W.widen (k := 0) (n := 0) (by omega) (by omega) ?_
  refine lv_aload_n hx hb dMH_keys_23 rfl (lv_at hl 0 rfl) ?_
  refine ty_get (ci := 12) (C := "LatticeKeysModel$Hands") (TT := T_MH) (N := 31) (kd := (47, 0)) hx hb hts (wg_ft i_MH) hown hK hO k_h0 (nxg (clo_cons (clo_cons (clo_cons (clo_cons (clo_cons (clo_cons clo_nil kr44 (by decide)) km21 (by decide)) km22 (by decide)) km23 (by decide)) km24 (by decide)) km25 (by decide)) k_h0 rfl) hP (fun _ h9 => h9) rfl 0 (by decide) (hts _ (wg_t kw_1432)) (fun _ h9 => h9) (cd := (3, 20, 0)) rfl dMH_keys_24 (fun v54 hv54 => ?_)
  obtain ⟨r46, rfl, kr46⟩ := (show ∃ r : Nat, v54 = .ref r ∧ T r = some (20, 0) from hv54)
  obtain rfl : r44 = r46 := hU _ _ _ (by decide) kr44 kr46
  refine lv_aload_n hx hb dMH_keys_27 rfl (lv_at hl 0 rfl) ?_
  refine ty_get (ci := 12) (C := "LatticeKeysModel$Hands") (TT := T_MH) (N := 31) (kd := (47, 0)) hx hb hts (wg_ft i_MH) hown hK hO k_h0 (nxg (clo_cons (clo_cons (clo_cons (clo_cons (clo_cons (clo_cons clo_nil kr44 (by decide)) km21 (by decide)) km22 (by decide)) km23 (by decide)) km24 (by decide)) km25 (by decide)) k_h0 rfl) hP (fun _ h9 => h9) rfl 24 (by decide) (hts _ (wg_t kw_1456)) (fun _ h9 => h9) (cd := (1, 0, 6)) rfl dMH_keys_28 (fun v55 hv55 => ?_)
  obtain rfl := (show v55 = .int (nI 6) from hv55)
  refine mp_v (cx := [(r44, .inr (9, [.ref am21, .ref am22, .ref am23, .ref am24, .ref am25, .int (nI 136), .int (nI ps23), .int (nI 31)])), (am21, .inl (g.2.1 2, 25, .inr (.inl f29))), (am22, .inl (g.2.1 2, 25, .inr (.inl f30))), (am23, .inl (g.2.1 2, 5, .inr (.inl f31))), (am24, .inl (g.2.1 2, 24, .inr (.inl f24))), (am25, .inl (g.2.1 0, 25, .inl f25))]) (wr := []) hP hD hS hA [0, 1, 2, 3, 4, 5] [] rfl rfl rfl (by decide) (va_runV (As := [.int (nI 6)]) (rest := []) F (t_MS_put l g _ T (am25 :: (am24 :: (am23 :: (am22 :: (am21 :: (r44 :: [])))))) pl hO hU  (nI 6) r44 am21 am22 am23 am24 am25 136 ps23 (nI 31) f29 f30 f31 f24 f25 (by omega) (by omega)) (cwV 1 hts (wg_app (wg_c kw_1720 (wg_c kw_1616 (wg_c kw_1617 (wg_c kw_10 wg_n)))) kw_1618) rfl rfl rfl (by decide +kernel) ⟨by decide, by decide⟩) (pp_V (en_ok g) (q0 := 0) hK hP hD hS hA hE [0, 1, 2, 3, 4, 5] rfl rfl rfl rfl) rfl rfl hl.1 rfl (lv_room (Nat.le_of_ble_eq_true rfl)) dMH_keys_31 ⟨by omega, by omega⟩) (fun  u25 H locs hu24 hP hD hS => ?_)
  obtain ⟨u26, pl⟩ := u25
  obtain ⟨hq24, hO⟩ := hu24
  obtain ⟨ps24, f32, f33, f34⟩ := u26
  have hP : va_P g.1 vcl ([(r44, .inr (9, [.ref am21, .ref am22, .ref am23, .ref am24, .ref am25, .int (nI 136), .int (nI ps24), .int (nI 31)])), (am21, .inl (g.2.1 2, 25, .inr (.inl f32))), (am22, .inl (g.2.1 2, 25, .inr (.inl f33))), (am23, .inl (g.2.1 2, 5, .inr (.inl f34))), (am24, .inl (g.2.1 2, 24, .inr (.inl f24))), (am25, .inl (g.2.1 0, 25, .inl f25))] ++ pl) _ := hP
  have hD : va_D _ ([(r44, .inr (9, [.ref am21, .ref am22, .ref am23, .ref am24, .ref am25, .int (nI 136), .int (nI ps24), .int (nI 31)])), (am21, .inl (g.2.1 2, 25, .inr (.inl f32))), (am22, .inl (g.2.1 2, 25, .inr (.inl f33))), (am23, .inl (g.2.1 2, 5, .inr (.inl f34))), (am24, .inl (g.2.1 2, 24, .inr (.inl f24))), (am25, .inl (g.2.1 0, 25, .inl f25))] ++ pl) := hD
  have hq24 : ps24 ≤ 136 := hq24
  refine W.widen (k := 0) (n := 0) (by omega) (by omega) ?_
  refine lv_aload_n hx hb dMH_keys_34 rfl (lv_at hl 0 rfl) ?_
  refine ty_get (ci := 12) (C := "LatticeKeysModel$Hands") (TT := T_MH) (N := 31) (kd := (47, 0)) hx hb hts (wg_ft i_MH) hown hK hO k_h0 (nxg (clo_cons (clo_cons (clo_cons (clo_cons (clo_cons (clo_cons clo_nil kr44 (by decide)) km21 (by decide)) km22 (by decide)) km23 (by decide)) km24 (by decide)) km25 (by decide)) k_h0 rfl) hP (fun _ h9 => h9) rfl 0 (by decide) (hts _ (wg_t kw_1432)) (fun _ h9 => h9) (cd := (3, 20, 0)) rfl dMH_keys_35 (fun v56 hv56 => ?_)
  obtain ⟨r47, rfl, kr47⟩ := (show ∃ r : Nat, v56 = .ref r ∧ T r = some (20, 0) from hv56)
  obtain rfl : r44 = r47 := hU _ _ _ (by decide) kr44 kr47
  refine lv_aload_n hx hb dMH_keys_38 rfl (lv_at hl 0 rfl) ?_
  refine ty_get (ci := 12) (C := "LatticeKeysModel$Hands") (TT := T_MH) (N := 31) (kd := (47, 0)) hx hb hts (wg_ft i_MH) hown hK hO k_h0 (nxg (clo_cons (clo_cons (clo_cons (clo_cons (clo_cons (clo_cons clo_nil kr44 (by decide)) km21 (by decide)) km22 (by decide)) km23 (by decide)) km24 (by decide)) km25 (by decide)) k_h0 rfl) hP (fun _ h9 => h9) rfl 25 (by decide) (hts _ (wg_t kw_1457)) (fun _ h9 => h9) (cd := (1, 0, 5)) rfl dMH_keys_39 (fun v57 hv57 => ?_)
  obtain rfl := (show v57 = .int (nI 5) from hv57)
  refine mp_v (cx := [(r44, .inr (9, [.ref am21, .ref am22, .ref am23, .ref am24, .ref am25, .int (nI 136), .int (nI ps24), .int (nI 31)])), (am21, .inl (g.2.1 2, 25, .inr (.inl f32))), (am22, .inl (g.2.1 2, 25, .inr (.inl f33))), (am23, .inl (g.2.1 2, 5, .inr (.inl f34))), (am24, .inl (g.2.1 2, 24, .inr (.inl f24))), (am25, .inl (g.2.1 0, 25, .inl f25))]) (wr := []) hP hD hS hA [0, 1, 2, 3, 4, 5] [] rfl rfl rfl (by decide) (va_runV (As := [.int (nI 5)]) (rest := []) F (t_MS_put l g _ T (am25 :: (am24 :: (am23 :: (am22 :: (am21 :: (r44 :: [])))))) pl hO hU  (nI 5) r44 am21 am22 am23 am24 am25 136 ps24 (nI 31) f32 f33 f34 f24 f25 (by omega) (by omega)) (cwV 1 hts (wg_app (wg_c kw_1720 (wg_c kw_1616 (wg_c kw_1617 (wg_c kw_10 wg_n)))) kw_1618) rfl rfl rfl (by decide +kernel) ⟨by decide, by decide⟩) (pp_V (en_ok g) (q0 := 0) hK hP hD hS hA hE [0, 1, 2, 3, 4, 5] rfl rfl rfl rfl) rfl rfl hl.1 rfl (lv_room (Nat.le_of_ble_eq_true rfl)) dMH_keys_42 ⟨by omega, by omega⟩) (fun  u27 H locs hu25 hP hD hS => ?_)
  obtain ⟨u28, pl⟩ := u27
  obtain ⟨hq25, hO⟩ := hu25
  obtain ⟨ps25, f35, f36, f37⟩ := u28
  have hP : va_P g.1 vcl ([(r44, .inr (9, [.ref am21, .ref am22, .ref am23, .ref am24, .ref am25, .int (nI 136), .int (nI ps25), .int (nI 31)])), (am21, .inl (g.2.1 2, 25, .inr (.inl f35))), (am22, .inl (g.2.1 2, 25, .inr (.inl f36))), (am23, .inl (g.2.1 2, 5, .inr (.inl f37))), (am24, .inl (g.2.1 2, 24, .inr (.inl f24))), (am25, .inl (g.2.1 0, 25, .inl f25))] ++ pl) _ := hP
  have hD : va_D _ ([(r44, .inr (9, [.ref am21, .ref am22, .ref am23, .ref am24, .ref am25, .int (nI 136), .int (nI ps25), .int (nI 31)])), (am21, .inl (g.2.1 2, 25, .inr (.inl f35))), (am22, .inl (g.2.1 2, 25, .inr (.inl f36))), (am23, .inl (g.2.1 2, 5, .inr (.inl f37))), (am24, .inl (g.2.1 2, 24, .inr (.inl f24))), (am25, .inl (g.2.1 0, 25, .inl f25))] ++ pl) := hD
  have hq25 : ps25 ≤ 136 := hq25
  refine W.widen (k := 0) (n := 0) (by omega) (by omega) ?_
  refine lv_aload_n hx hb dMH_keys_45 rfl (lv_at hl 0 rfl) ?_
  refine ty_get (ci := 12) (C := "LatticeKeysModel$Hands") (TT := T_MH) (N := 31) (kd := (47, 0)) hx hb hts (wg_ft i_MH) hown hK hO k_h0 (nxg (clo_cons (clo_cons (clo_cons (clo_cons (clo_cons (clo_cons clo_nil kr44 (by decide)) km21 (by decide)) km22 (by decide)) km23 (by decide)) km24 (by decide)) km25 (by decide)) k_h0 rfl) hP (fun _ h9 => h9) rfl 0 (by decide) (hts _ (wg_t kw_1432)) (fun _ h9 => h9) (cd := (3, 20, 0)) rfl dMH_keys_46 (fun v58 hv58 => ?_)
  obtain ⟨r48, rfl, kr48⟩ := (show ∃ r : Nat, v58 = .ref r ∧ T r = some (20, 0) from hv58)
  obtain rfl : r44 = r48 := hU _ _ _ (by decide) kr44 kr48
  refine mp_v (cx := [(r44, .inr (9, [.ref am21, .ref am22, .ref am23, .ref am24, .ref am25, .int (nI 136), .int (nI ps25), .int (nI 31)])), (am21, .inl (g.2.1 2, 25, .inr (.inl f35))), (am22, .inl (g.2.1 2, 25, .inr (.inl f36))), (am23, .inl (g.2.1 2, 5, .inr (.inl f37))), (am24, .inl (g.2.1 2, 24, .inr (.inl f24))), (am25, .inl (g.2.1 0, 25, .inl f25))]) (wr := []) hP hD hS hA [0, 1, 2, 3, 4, 5] [] rfl rfl rfl (by decide) (va_runV (As := []) (rest := []) F (t_MS_end l g _ T (am25 :: (am24 :: (am23 :: (am22 :: (am21 :: (r44 :: [])))))) pl hO hU  r44 am21 am22 am23 am24 am25 136 ps25 (nI 31) f35 f36 f37 f24 f25 (by omega) (by omega)) (cwV 0 hts (wg_app (wg_c kw_1721 (wg_c kw_1634 (wg_c kw_1635 (wg_c kw_10 wg_n)))) kw_1636) rfl rfl rfl (by decide +kernel) ⟨by decide, by decide⟩) (pp_V (en_ok g) (q0 := 0) hK hP hD hS hA hE [0, 1, 2, 3, 4, 5] rfl rfl rfl rfl) rfl rfl hl.1 rfl (lv_room (Nat.le_of_ble_eq_true rfl)) dMH_keys_49 ⟨by omega, by omega⟩) (fun  u29 H locs hu26 hP hD hS => ?_)
  obtain ⟨u30, pl⟩ := u29
  obtain ⟨hq26, hO⟩ := hu26
  obtain ⟨ps26, f38, f39, f40⟩ := u30
  have hP : va_P g.1 vcl ([(r44, .inr (9, [.ref am21, .ref am22, .ref am23, .ref am24, .ref am25, .int (nI 136), .int (nI ps26), .int (nI 31)])), (am21, .inl (g.2.1 2, 25, .inr (.inl f38))), (am22, .inl (g.2.1 2, 25, .inr (.inl f39))), (am23, .inl (g.2.1 2, 5, .inr (.inl f40))), (am24, .inl (g.2.1 2, 24, .inr (.inl f24))), (am25, .inl (g.2.1 0, 25, .inl f25))] ++ pl) _ := hP
  have hD : va_D _ ([(r44, .inr (9, [.ref am21, .ref am22, .ref am23, .ref am24, .ref am25, .int (nI 136), .int (nI ps26), .int (nI 31)])), (am21, .inl (g.2.1 2, 25, .inr (.inl f38))), (am22, .inl (g.2.1 2, 25, .inr (.inl f39))), (am23, .inl (g.2.1 2, 5, .inr (.inl f40))), (am24, .inl (g.2.1 2, 24, .inr (.inl f24))), (am25, .inl (g.2.1 0, 25, .inl f25))] ++ pl) := hD
  have hq26 : ps26 ≤ 136 := hq26
  refine W.widen (k := 0) (n := 0) (by omega) (by omega) ?_
  refine lv_aload_n hx hb dMH_keys_52 rfl (lv_at hl 0 rfl) ?_
  refine ty_get (ci := 12) (C := "LatticeKeysModel$Hands") (TT := T_MH) (N := 31) (kd := (47, 0)) hx hb hts (wg_ft i_MH) hown hK hO k_h0 (nxg (clo_cons (clo_cons (clo_cons (clo_cons (clo_cons (clo_cons clo_nil kr44 (by decide)) km21 (by decide)) km22 (by decide)) km23 (by decide)) km24 (by decide)) km25 (by decide)) k_h0 rfl) hP (fun _ h9 => h9) rfl 0 (by decide) (hts _ (wg_t kw_1432)) (fun _ h9 => h9) (cd := (3, 20, 0)) rfl dMH_keys_53 (fun v59 hv59 => ?_)
  obtain ⟨r49, rfl, kr49⟩ := (show ∃ r : Nat, v59 = .ref r ∧ T r = some (20, 0) from hv59)
  obtain rfl : r44 = r49 := hU _ _ _ (by decide) kr44 kr49
  refine lv_aload_n hx hb dMH_keys_56 rfl (lv_at hl 0 rfl) ?_
  refine ty_get (ci := 12) (C := "LatticeKeysModel$Hands") (TT := T_MH) (N := 31) (kd := (47, 0)) hx hb hts (wg_ft i_MH) hown hK hO k_h0 (nxg (clo_cons (clo_cons (clo_cons (clo_cons (clo_cons (clo_cons clo_nil kr44 (by decide)) km21 (by decide)) km22 (by decide)) km23 (by decide)) km24 (by decide)) km25 (by decide)) k_h0 rfl) hP (fun _ h9 => h9) rfl 16 (by decide) (hts _ (wg_t kw_1448)) (fun _ h9 => h9) (cd := (3, 1, 128)) rfl dMH_keys_57 (fun v60 hv60 => ?_)
  obtain ⟨r50, rfl, kr50⟩ := (show ∃ r : Nat, v60 = .ref r ∧ T r = some (1, 128) from hv60)
  refine lv_iconst (v := nI 0) hx hb dMH_keys_60 (by decide) ?_
  refine lv_sipush (v := nI 128) hx hb dMH_keys_61 (by decide) ?_
  refine mp_v (cx := [(r44, .inr (9, [.ref am21, .ref am22, .ref am23, .ref am24, .ref am25, .int (nI 136), .int (nI ps26), .int (nI 31)])), (am21, .inl (g.2.1 2, 25, .inr (.inl f38))), (am22, .inl (g.2.1 2, 25, .inr (.inl f39))), (am23, .inl (g.2.1 2, 5, .inr (.inl f40))), (am24, .inl (g.2.1 2, 24, .inr (.inl f24))), (am25, .inl (g.2.1 0, 25, .inl f25))]) (wr := []) hP hD hS hA [0, 1, 2, 3, 4, 5] [] rfl rfl rfl (by decide) (va_runV (As := [.ref r50, .int (nI 0), .int (nI 128)]) (rest := []) F (t_MS_take l g _ T (am25 :: (am24 :: (am23 :: (am22 :: (am21 :: (r44 :: [])))))) pl hO hU (clo_cons (clo_cons (clo_cons (clo_cons (clo_cons (clo_cons clo_nil kr44 (by decide)) km21 (by decide)) km22 (by decide)) km23 (by decide)) km24 (by decide)) km25 (by decide)) r50 128 0 128 r44 am21 am22 am23 am24 am25 136 ps26 (nI 31) f38 f39 f40 f24 f25 kr50 (by omega) (by omega) (by omega) (by omega)) (cwV 3 hts (wg_app (wg_c kw_1722 (wg_c kw_1638 (wg_c kw_1639 (wg_c kw_10 wg_n)))) kw_1640) rfl rfl rfl (by decide +kernel) ⟨by decide, by decide⟩) (pp_V (en_ok g) (q0 := 0) hK hP hD hS hA hE [0, 1, 2, 3, 4, 5] rfl rfl rfl rfl) rfl rfl hl.1 rfl (lv_room (Nat.le_of_ble_eq_true rfl)) dMH_keys_64 ⟨by omega, by omega⟩) (fun  u31 H locs hu27 hP hD hS => ?_)
  obtain ⟨u32, pl⟩ := u31
  obtain ⟨hq27, hO⟩ := hu27
  obtain ⟨ps27, f41, f42, f43⟩ := u32
  have hP : va_P g.1 vcl ([(r44, .inr (9, [.ref am21, .ref am22, .ref am23, .ref am24, .ref am25, .int (nI 136), .int (nI ps27), .int (nI 31)])), (am21, .inl (g.2.1 2, 25, .inr (.inl f41))), (am22, .inl (g.2.1 2, 25, .inr (.inl f42))), (am23, .inl (g.2.1 2, 5, .inr (.inl f43))), (am24, .inl (g.2.1 2, 24, .inr (.inl f24))), (am25, .inl (g.2.1 0, 25, .inl f25))] ++ pl) _ := hP
  have hD : va_D _ ([(r44, .inr (9, [.ref am21, .ref am22, .ref am23, .ref am24, .ref am25, .int (nI 136), .int (nI ps27), .int (nI 31)])), (am21, .inl (g.2.1 2, 25, .inr (.inl f41))), (am22, .inl (g.2.1 2, 25, .inr (.inl f42))), (am23, .inl (g.2.1 2, 5, .inr (.inl f43))), (am24, .inl (g.2.1 2, 24, .inr (.inl f24))), (am25, .inl (g.2.1 0, 25, .inl f25))] ++ pl) := hD
  have hq27 : ps27 ≤ 136 := hq27
  refine W.widen (k := 0) (n := 0) (by omega) (by omega) ?_
  refine lv_aload_n hx hb dMH_keys_67 rfl (lv_at hl 0 rfl) ?_
  refine lv_aload_n hx hb dMH_keys_68 rfl (lv_at hl 0 rfl) ?_
  refine ty_get (ci := 12) (C := "LatticeKeysModel$Hands") (TT := T_MH) (N := 31) (kd := (47, 0)) hx hb hts (wg_ft i_MH) hown hK hO k_h0 (nxg (clo_cons (clo_cons (clo_cons (clo_cons (clo_cons (clo_cons clo_nil kr44 (by decide)) km21 (by decide)) km22 (by decide)) km23 (by decide)) km24 (by decide)) km25 (by decide)) k_h0 rfl) hP (fun _ h9 => h9) rfl 16 (by decide) (hts _ (wg_t kw_1448)) (fun _ h9 => h9) (cd := (3, 1, 128)) rfl dMH_keys_69 (fun v61 hv61 => ?_)
  obtain ⟨r51, rfl, kr51⟩ := (show ∃ r : Nat, v61 = .ref r ∧ T r = some (1, 128) from hv61)
  have hO := close1 (e := .inl (g.2.1 0, 25, .inl f25)) hO km25 ⟨_, rfl⟩
  have hO := close1 (e := .inl (g.2.1 2, 24, .inr (.inl f24))) hO km24 ⟨_, rfl⟩
  have hO := close1 (e := .inl (g.2.1 2, 5, .inr (.inl f43))) hO km23 ⟨_, rfl⟩
  have hO := close1 (e := .inl (g.2.1 2, 25, .inr (.inl f42))) hO km22 ⟨_, rfl⟩
  have hO := close1 (e := .inl (g.2.1 2, 25, .inr (.inl f41))) hO km21 ⟨_, rfl⟩
  have hO := close1 (e := .inr (9, [.ref am21, .ref am22, .ref am23, .ref am24, .ref am25, .int (nI 136), .int (nI ps27), .int (nI 31)])) hO kr44 ⟨_, _, _, _, _, _, _, _, rfl, km21, km22, km23, km24, km25, by omega, by omega, by omega⟩
  have hO : okx g T [] ((r44, .inr (9, [.ref am21, .ref am22, .ref am23, .ref am24, .ref am25, .int (nI 136), .int (nI ps27), .int (nI 31)])) :: (am21, .inl (g.2.1 2, 25, .inr (.inl f41))) :: (am22, .inl (g.2.1 2, 25, .inr (.inl f42))) :: (am23, .inl (g.2.1 2, 5, .inr (.inl f43))) :: (am24, .inl (g.2.1 2, 24, .inr (.inl f24))) :: (am25, .inl (g.2.1 0, 25, .inl f25)) :: pl) := hO
  have hP : va_P g.1 vcl ([] ++ ((r44, .inr (9, [.ref am21, .ref am22, .ref am23, .ref am24, .ref am25, .int (nI 136), .int (nI ps27), .int (nI 31)])) :: (am21, .inl (g.2.1 2, 25, .inr (.inl f41))) :: (am22, .inl (g.2.1 2, 25, .inr (.inl f42))) :: (am23, .inl (g.2.1 2, 5, .inr (.inl f43))) :: (am24, .inl (g.2.1 2, 24, .inr (.inl f24))) :: (am25, .inl (g.2.1 0, 25, .inl f25)) :: pl)) _ := hP
  have hD : va_D _ ([] ++ ((r44, .inr (9, [.ref am21, .ref am22, .ref am23, .ref am24, .ref am25, .int (nI 136), .int (nI ps27), .int (nI 31)])) :: (am21, .inl (g.2.1 2, 25, .inr (.inl f41))) :: (am22, .inl (g.2.1 2, 25, .inr (.inl f42))) :: (am23, .inl (g.2.1 2, 5, .inr (.inl f43))) :: (am24, .inl (g.2.1 2, 24, .inr (.inl f24))) :: (am25, .inl (g.2.1 0, 25, .inl f25)) :: pl)) := hD
  generalize ((r44, .inr (9, [.ref am21, .ref am22, .ref am23, .ref am24, .ref am25, .int (nI 136), .int (nI ps27), .int (nI 31)])) :: (am21, .inl (g.2.1 2, 25, .inr (.inl f41))) :: (am22, .inl (g.2.1 2, 25, .inr (.inl f42))) :: (am23, .inl (g.2.1 2, 5, .inr (.inl f43))) :: (am24, .inl (g.2.1 2, 24, .inr (.inl f24))) :: (am25, .inl (g.2.1 0, 25, .inl f25)) :: pl) = pl at hO hP hD
  refine mp_v (cx := []) (wr := []) hP hD hS hA [] [] rfl rfl rfl (by decide) (va_runV (As := [.ref r51]) (rest := []) F (t_MH_expand_1 l g _ T [] pl hO hU clo_nil clo_nil h0 r51 128 k_h0 kr51 (by omega) (by omega)) (cwV 1 hts (wg_app (wg_c kw_1723 (wg_c kw_1725 (wg_c ks_61 (wg_c kw_13 wg_n)))) kw_1726) rfl rfl rfl (by decide +kernel) ⟨by decide, by decide⟩) (pp_VT (en_ok g) (ci := 12) (kd := (47, 0)) hK hO k_h0 (nxg clo_nil k_h0 rfl) (fun _ h9 => ko1 h9) hP hD hS hA hE [] rfl rfl rfl) rfl rfl hl.1 rfl (lv_room (Nat.le_of_ble_eq_true rfl)) dMH_keys_72 ⟨by omega, by omega⟩) (fun  pl H locs hu28 hP hD hS => ?_)
  obtain ⟨hq28, hO⟩ := hu28
  have hP : va_P g.1 vcl ([] ++ pl) _ := hP
  have hD : va_D _ ([] ++ pl) := hD
  refine W.widen (k := 0) (n := 0) (by omega) (by omega) ?_
  refine lv_iconst (v := nI 0) hx hb dMH_keys_75 (by decide) ?_
  refine lv_istore (lv' := [(5, .int (nI 0)), (0, .ref h0), (1, .int (nI 1)), (2, .ref b), (3, .ref pk), (4, .ref sk)]) hx hb dMH_keys_76 hl (by decide) rfl (fun ls hl => ?_)
  have lp21 : ∀ (n21 : Nat) (i21 : Nat) (pl : va_W) (ls : Array Slot) (H : Heap) (locs : List Loc), n21 + i21 = 5 → lv_has ls 10 [(5, .int (nI i21)), (0, .ref h0), (3, .ref pk), (4, .ref sk)] → okx g T [] pl → va_P g.1 vcl ([] ++ pl) H → va_D A ([] ++ pl) → va_S A s.heap H locs → W p l e ({ frames := 4, cells := 0, slots := 0, locals := 98 } : Room) s m args below meth c H locs 0 0 (MQ below (va_Qv (fun (u : va_W) => (True) ∧ okx g T0 [] u) (po g.1 vcl A (fun (u : va_W) => [] ++ u)) A) args s 0 0 A) (F0 m 78 ls []) := by
    intro n21
    induction n21 with
    | zero =>
      intro i21 pl ls H locs hm21  hl hO hP hD hS
      refine lv_iload hx hb dMH_keys_78 (lv_at hl 0 rfl) ?_
      refine lv_aload_n hx hb dMH_keys_80 rfl (lv_at hl 1 rfl) ?_
      refine ty_get (ci := 12) (C := "LatticeKeysModel$Hands") (TT := T_MH) (N := 31) (kd := (47, 0)) hx hb hts (wg_ft i_MH) hown hK hO k_h0 (nxg clo_nil k_h0 rfl) hP (fun _ h9 => h9) rfl 25 (by decide) (hts _ (wg_t kw_1457)) (fun _ h9 => h9) (cd := (1, 0, 5)) rfl dMH_keys_81 (fun v62 hv62 => ?_)
      obtain rfl := (show v62 = .int (nI 5) from hv62)
      refine mi_ge (tgt := 135) hx hb dMH_keys_84 (by decide) (by omega) (by omega) (fun h21 => ?_) (fun h21 => absurd h21 (by omega))
      refine lv_iconst (v := nI 0) hx hb dMH_keys_135 (by decide) ?_
      refine lv_istore (lv' := [(5, .int (nI 0)), (0, .ref h0), (3, .ref pk), (4, .ref sk)]) hx hb dMH_keys_136 hl (by decide) rfl (fun ls hl => ?_)
      have lp22 : ∀ (n22 : Nat) (i22 : Nat) (pl : va_W) (ls : Array Slot) (H : Heap) (locs : List Loc), n22 + i22 = 6 → lv_has ls 10 [(5, .int (nI i22)), (0, .ref h0), (3, .ref pk), (4, .ref sk)] → okx g T [] pl → va_P g.1 vcl ([] ++ pl) H → va_D A ([] ++ pl) → va_S A s.heap H locs → W p l e ({ frames := 4, cells := 0, slots := 0, locals := 98 } : Room) s m args below meth c H locs 0 0 (MQ below (va_Qv (fun (u : va_W) => (True) ∧ okx g T0 [] u) (po g.1 vcl A (fun (u : va_W) => [] ++ u)) A) args s 0 0 A) (F0 m 138 ls []) := by
        intro n22
        induction n22 with
        | zero =>
          intro i22 pl ls H locs hm22  hl hO hP hD hS
          refine lv_iload hx hb dMH_keys_138 (lv_at hl 0 rfl) ?_
          refine lv_aload_n hx hb dMH_keys_140 rfl (lv_at hl 1 rfl) ?_
          refine ty_get (ci := 12) (C := "LatticeKeysModel$Hands") (TT := T_MH) (N := 31) (kd := (47, 0)) hx hb hts (wg_ft i_MH) hown hK hO k_h0 (nxg clo_nil k_h0 rfl) hP (fun _ h9 => h9) rfl 24 (by decide) (hts _ (wg_t kw_1456)) (fun _ h9 => h9) (cd := (1, 0, 6)) rfl dMH_keys_141 (fun v63 hv63 => ?_)
          obtain rfl := (show v63 = .int (nI 6) from hv63)
          refine mi_ge (tgt := 280) hx hb dMH_keys_144 (by decide) (by omega) (by omega) (fun h22 => ?_) (fun h22 => absurd h22 (by omega))
          refine lv_iconst (v := nI 0) hx hb dMH_keys_280 (by decide) ?_
          refine lv_istore (lv' := [(5, .int (nI 0)), (0, .ref h0), (3, .ref pk), (4, .ref sk)]) hx hb dMH_keys_281 hl (by decide) rfl (fun ls hl => ?_)
          have lp23 : ∀ (n23 : Nat) (i23 : Nat) (pl : va_W) (ls : Array Slot) (H : Heap) (locs : List Loc), n23 + i23 = 32 → lv_has ls 10 [(5, .int (nI i23)), (0, .ref h0), (3, .ref pk), (4, .ref sk)] → okx g T [] pl → va_P g.1 vcl ([] ++ pl) H → va_D A ([] ++ pl) → va_S A s.heap H locs → W p l e ({ frames := 4, cells := 0, slots := 0, locals := 98 } : Room) s m args below meth c H locs 0 0 (MQ below (va_Qv (fun (u : va_W) => (True) ∧ okx g T0 [] u) (po g.1 vcl A (fun (u : va_W) => [] ++ u)) A) args s 0 0 A) (F0 m 283 ls []) := by
            intro n23
            induction n23 with
            | zero =>
              intro i23 pl ls H locs hm23  hl hO hP hD hS
              refine lv_iload hx hb dMH_keys_283 (lv_at hl 0 rfl) ?_
              refine lv_bipush (v := nI 32) hx hb dMH_keys_285 (by decide) ?_
              refine mi_ge (tgt := 337) hx hb dMH_keys_287 (by decide) (by omega) (by omega) (fun h23 => ?_) (fun h23 => absurd h23 (by omega))
              refine lv_iconst (v := nI 0) hx hb dMH_keys_337 (by decide) ?_
              refine lv_istore (lv' := [(5, .int (nI 0)), (0, .ref h0), (3, .ref pk), (4, .ref sk)]) hx hb dMH_keys_338 hl (by decide) rfl (fun ls hl => ?_)
              have lp24 : ∀ (n24 : Nat) (i24 : Nat) (pl : va_W) (ls : Array Slot) (H : Heap) (locs : List Loc), n24 + i24 = 6 → lv_has ls 10 [(5, .int (nI i24)), (0, .ref h0), (3, .ref pk), (4, .ref sk)] → okx g T [] pl → va_P g.1 vcl ([] ++ pl) H → va_D A ([] ++ pl) → va_S A s.heap H locs → W p l e ({ frames := 4, cells := 0, slots := 0, locals := 98 } : Room) s m args below meth c H locs 0 0 (MQ below (va_Qv (fun (u : va_W) => (True) ∧ okx g T0 [] u) (po g.1 vcl A (fun (u : va_W) => [] ++ u)) A) args s 0 0 A) (F0 m 340 ls []) := by
                intro n24
                induction n24 with
                | zero =>
                  intro i24 pl ls H locs hm24  hl hO hP hD hS
                  refine lv_iload hx hb dMH_keys_340 (lv_at hl 0 rfl) ?_
                  refine lv_aload_n hx hb dMH_keys_342 rfl (lv_at hl 1 rfl) ?_
                  refine ty_get (ci := 12) (C := "LatticeKeysModel$Hands") (TT := T_MH) (N := 31) (kd := (47, 0)) hx hb hts (wg_ft i_MH) hown hK hO k_h0 (nxg clo_nil k_h0 rfl) hP (fun _ h9 => h9) rfl 24 (by decide) (hts _ (wg_t kw_1456)) (fun _ h9 => h9) (cd := (1, 0, 6)) rfl dMH_keys_343 (fun v64 hv64 => ?_)
                  obtain rfl := (show v64 = .int (nI 6) from hv64)
                  refine mi_ge (tgt := 404) hx hb dMH_keys_346 (by decide) (by omega) (by omega) (fun h24 => ?_) (fun h24 => absurd h24 (by omega))
                  refine lv_aload_n hx hb dMH_keys_404 rfl (lv_at hl 1 rfl) ?_
                  refine ty_get (ci := 12) (C := "LatticeKeysModel$Hands") (TT := T_MH) (N := 31) (kd := (47, 0)) hx hb hts (wg_ft i_MH) hown hK hO k_h0 (nxg clo_nil k_h0 rfl) hP (fun _ h9 => h9) rfl 0 (by decide) (hts _ (wg_t kw_1432)) (fun _ h9 => h9) (cd := (3, 20, 0)) rfl dMH_keys_405 (fun v65 hv65 => ?_)
                  obtain ⟨r52, rfl, kr52⟩ := (show ∃ r : Nat, v65 = .ref r ∧ T r = some (20, 0) from hv65)
                  obtain rfl : r44 = r52 := hU _ _ _ (by decide) kr44 kr52
                  obtain ⟨e28, pl, hP, hD, hk28, hO⟩ := open1 hP hD hO kr44 (nxg clo_nil kr44 rfl)
                  obtain ⟨am26, am27, am28, am29, am30, rt22, ps28, x22, rfl, km26, km27, km28, km29, km30, hr24, hr25, hr26⟩ := hk28
                  obtain ⟨e29, pl, hP, hD, hk29, hO⟩ := open1 hP hD hO km26 (nmc (knd_ne km26 kr44 (by decide)) (nxg clo_nil km26 rfl))
                  obtain ⟨f44, rfl⟩ := hk29
                  obtain ⟨e30, pl, hP, hD, hk30, hO⟩ := open1 hP hD hO km27 (nmc (knd_ne km27 km26 (by decide)) (nmc (knd_ne km27 kr44 (by decide)) (nxg clo_nil km27 rfl)))
                  obtain ⟨f45, rfl⟩ := hk30
                  obtain ⟨e31, pl, hP, hD, hk31, hO⟩ := open1 hP hD hO km28 (nmc (knd_ne km28 km27 (by decide)) (nmc (knd_ne km28 km26 (by decide)) (nmc (knd_ne km28 kr44 (by decide)) (nxg clo_nil km28 rfl))))
                  obtain ⟨f46, rfl⟩ := hk31
                  obtain ⟨e32, pl, hP, hD, hk32, hO⟩ := open1 hP hD hO km29 (nmc (knd_ne km29 km28 (by decide)) (nmc (knd_ne km29 km27 (by decide)) (nmc (knd_ne km29 km26 (by decide)) (nmc (knd_ne km29 kr44 (by decide)) (nxg clo_nil km29 rfl)))))
                  obtain ⟨f47, rfl⟩ := hk32
                  obtain ⟨e33, pl, hP, hD, hk33, hO⟩ := open1 hP hD hO km30 (nmc (knd_ne km30 km29 (by decide)) (nmc (knd_ne km30 km28 (by decide)) (nmc (knd_ne km30 km27 (by decide)) (nmc (knd_ne km30 km26 (by decide)) (nmc (knd_ne km30 kr44 (by decide)) (nxg clo_nil km30 rfl))))))
                  obtain ⟨f48, rfl⟩ := hk33
                  have hP : va_P g.1 vcl ([(r44, .inr (9, [.ref am26, .ref am27, .ref am28, .ref am29, .ref am30, .int (nI rt22), .int (nI ps28), .int x22])), (am26, .inl (g.2.1 2, 25, .inr (.inl f44))), (am27, .inl (g.2.1 2, 25, .inr (.inl f45))), (am28, .inl (g.2.1 2, 5, .inr (.inl f46))), (am29, .inl (g.2.1 2, 24, .inr (.inl f47))), (am30, .inl (g.2.1 0, 25, .inl f48))] ++ pl) _ := hP
                  have hD : va_D _ ([(r44, .inr (9, [.ref am26, .ref am27, .ref am28, .ref am29, .ref am30, .int (nI rt22), .int (nI ps28), .int x22])), (am26, .inl (g.2.1 2, 25, .inr (.inl f44))), (am27, .inl (g.2.1 2, 25, .inr (.inl f45))), (am28, .inl (g.2.1 2, 5, .inr (.inl f46))), (am29, .inl (g.2.1 2, 24, .inr (.inl f47))), (am30, .inl (g.2.1 0, 25, .inl f48))] ++ pl) := hD
                  refine mp_v (cx := [(r44, .inr (9, [.ref am26, .ref am27, .ref am28, .ref am29, .ref am30, .int (nI rt22), .int (nI ps28), .int x22])), (am26, .inl (g.2.1 2, 25, .inr (.inl f44))), (am27, .inl (g.2.1 2, 25, .inr (.inl f45))), (am28, .inl (g.2.1 2, 5, .inr (.inl f46))), (am29, .inl (g.2.1 2, 24, .inr (.inl f47))), (am30, .inl (g.2.1 0, 25, .inl f48))]) (wr := []) hP hD hS hA [0, 1, 2, 3, 4, 5] [] rfl rfl rfl (by decide) (va_runV (As := []) (rest := []) F (t_MS_shake l g _ T (am30 :: (am29 :: (am28 :: (am27 :: (am26 :: (r44 :: [])))))) pl hO hU  r44 am26 am27 am28 am29 am30 rt22 ps28 x22 f44 f45 f46 f47 f48) (cwV 0 hts (wg_app (wg_c kw_1718 (wg_c kw_1661 (wg_c kw_1662 (wg_c kw_10 wg_n)))) kw_1663) rfl rfl rfl (by decide +kernel) ⟨by decide, by decide⟩) (pp_V (en_ok g) (q0 := 0) hK hP hD hS hA hE [0, 1, 2, 3, 4, 5] rfl rfl rfl rfl) rfl rfl hl.1 rfl (lv_room (Nat.le_of_ble_eq_true rfl)) dMH_keys_408 ⟨by omega, by omega⟩) (fun  u33 H locs hu29 hP hD hS => ?_)
                  obtain ⟨u34, pl⟩ := u33
                  obtain ⟨hq29, hO⟩ := hu29
                  obtain ⟨ps29, f49, f50, f51⟩ := u34
                  have hP : va_P g.1 vcl ([(r44, .inr (9, [.ref am26, .ref am27, .ref am28, .ref am29, .ref am30, .int (nI 136), .int (nI ps29), .int (nI 31)])), (am26, .inl (g.2.1 2, 25, .inr (.inl f49))), (am27, .inl (g.2.1 2, 25, .inr (.inl f50))), (am28, .inl (g.2.1 2, 5, .inr (.inl f51))), (am29, .inl (g.2.1 2, 24, .inr (.inl f47))), (am30, .inl (g.2.1 0, 25, .inl f48))] ++ pl) _ := hP
                  have hD : va_D _ ([(r44, .inr (9, [.ref am26, .ref am27, .ref am28, .ref am29, .ref am30, .int (nI 136), .int (nI ps29), .int (nI 31)])), (am26, .inl (g.2.1 2, 25, .inr (.inl f49))), (am27, .inl (g.2.1 2, 25, .inr (.inl f50))), (am28, .inl (g.2.1 2, 5, .inr (.inl f51))), (am29, .inl (g.2.1 2, 24, .inr (.inl f47))), (am30, .inl (g.2.1 0, 25, .inl f48))] ++ pl) := hD
                  have hq29 : ps29 ≤ 136 := hq29
                  refine W.widen (k := 0) (n := 0) (by omega) (by omega) ?_
                  refine lv_aload_n hx hb dMH_keys_411 rfl (lv_at hl 1 rfl) ?_
                  refine ty_get (ci := 12) (C := "LatticeKeysModel$Hands") (TT := T_MH) (N := 31) (kd := (47, 0)) hx hb hts (wg_ft i_MH) hown hK hO k_h0 (nxg (clo_cons (clo_cons (clo_cons (clo_cons (clo_cons (clo_cons clo_nil kr44 (by decide)) km26 (by decide)) km27 (by decide)) km28 (by decide)) km29 (by decide)) km30 (by decide)) k_h0 rfl) hP (fun _ h9 => h9) rfl 0 (by decide) (hts _ (wg_t kw_1432)) (fun _ h9 => h9) (cd := (3, 20, 0)) rfl dMH_keys_412 (fun v66 hv66 => ?_)
                  obtain ⟨r53, rfl, kr53⟩ := (show ∃ r : Nat, v66 = .ref r ∧ T r = some (20, 0) from hv66)
                  obtain rfl : r44 = r53 := hU _ _ _ (by decide) kr44 kr53
                  refine lv_aload_n hx hb dMH_keys_415 rfl (lv_at hl 2 rfl) ?_
                  refine lv_iconst (v := nI 0) hx hb dMH_keys_416 (by decide) ?_
                  refine lv_aload_n hx hb dMH_keys_417 rfl (lv_at hl 1 rfl) ?_
                  refine ty_get (ci := 12) (C := "LatticeKeysModel$Hands") (TT := T_MH) (N := 31) (kd := (47, 0)) hx hb hts (wg_ft i_MH) hown hK hO k_h0 (nxg (clo_cons (clo_cons (clo_cons (clo_cons (clo_cons (clo_cons clo_nil kr44 (by decide)) km26 (by decide)) km27 (by decide)) km28 (by decide)) km29 (by decide)) km30 (by decide)) k_h0 rfl) hP (fun _ h9 => h9) rfl 23 (by decide) (hts _ (wg_t kw_1455)) (fun _ h9 => h9) (cd := (1, 0, 1)) rfl dMH_keys_418 (fun v67 hv67 => ?_)
                  obtain rfl := (show v67 = .int (nI 1) from hv67)
                  refine mp_i (cx := []) (wr := [(r44, .inr (9, [.ref am26, .ref am27, .ref am28, .ref am29, .ref am30, .int (nI 136), .int (nI ps29), .int (nI 31)])), (am26, .inl (g.2.1 2, 25, .inr (.inl f49))), (am27, .inl (g.2.1 2, 25, .inr (.inl f50))), (am28, .inl (g.2.1 2, 5, .inr (.inl f51))), (am29, .inl (g.2.1 2, 24, .inr (.inl f47))), (am30, .inl (g.2.1 0, 25, .inl f48))]) hP hD hS hA [] [0, 1, 2, 3, 4, 5] rfl rfl rfl (by decide) (va_runS (As := [.int (nI 1)]) (rest := [.int (nI 0), .ref pk, .ref r44]) F (t_MH_openSize_1 l g _ T (am30 :: (am29 :: (am28 :: (am27 :: (am26 :: (r44 :: [])))))) pl hO hU  ) (va_cwS 1 hts (wg_app (wg_c kw_1744 (wg_c kw_1745 (wg_c kw_13 wg_n))) kw_1746) rfl rfl rfl (by decide +kernel) ⟨by decide, by decide⟩) (pp_S (en_ok g) hP hD hS hA hE [] rfl rfl) rfl rfl hl.1 rfl (lv_room (Nat.le_of_ble_eq_true rfl)) dMH_keys_421 ⟨by omega, by omega⟩) (fun r54 pl H locs hu30 hP hD hS => ?_)
                  obtain ⟨hq30, hO⟩ := hu30
                  have hP : va_P g.1 vcl ([(r44, .inr (9, [.ref am26, .ref am27, .ref am28, .ref am29, .ref am30, .int (nI 136), .int (nI ps29), .int (nI 31)])), (am26, .inl (g.2.1 2, 25, .inr (.inl f49))), (am27, .inl (g.2.1 2, 25, .inr (.inl f50))), (am28, .inl (g.2.1 2, 5, .inr (.inl f51))), (am29, .inl (g.2.1 2, 24, .inr (.inl f47))), (am30, .inl (g.2.1 0, 25, .inl f48))] ++ pl) _ := hP
                  have hD : va_D _ ([(r44, .inr (9, [.ref am26, .ref am27, .ref am28, .ref am29, .ref am30, .int (nI 136), .int (nI ps29), .int (nI 31)])), (am26, .inl (g.2.1 2, 25, .inr (.inl f49))), (am27, .inl (g.2.1 2, 25, .inr (.inl f50))), (am28, .inl (g.2.1 2, 5, .inr (.inl f51))), (am29, .inl (g.2.1 2, 24, .inr (.inl f47))), (am30, .inl (g.2.1 0, 25, .inl f48))] ++ pl) := hD
                  obtain rfl := hq30
                  refine W.widen (k := 0) (n := 0) (by omega) (by omega) ?_
                  refine mp_v (cx := [(r44, .inr (9, [.ref am26, .ref am27, .ref am28, .ref am29, .ref am30, .int (nI 136), .int (nI ps29), .int (nI 31)])), (am26, .inl (g.2.1 2, 25, .inr (.inl f49))), (am27, .inl (g.2.1 2, 25, .inr (.inl f50))), (am28, .inl (g.2.1 2, 5, .inr (.inl f51))), (am29, .inl (g.2.1 2, 24, .inr (.inl f47))), (am30, .inl (g.2.1 0, 25, .inl f48))]) (wr := []) hP hD hS hA [0, 1, 2, 3, 4, 5] [] rfl rfl rfl (by decide) (va_runV (As := [.ref pk, .int (nI 0), .int (nI 1952)]) (rest := []) F (t_MS_puts l g _ T (am30 :: (am29 :: (am28 :: (am27 :: (am26 :: (r44 :: [])))))) pl hO hU (clo_cons (clo_cons (clo_cons (clo_cons (clo_cons (clo_cons clo_nil kr44 (by decide)) km26 (by decide)) km27 (by decide)) km28 (by decide)) km29 (by decide)) km30 (by decide)) pk 2592 0 1952 r44 am26 am27 am28 am29 am30 136 ps29 (nI 31) f49 f50 f51 f47 f48 k_pk (by omega) (by omega) (by omega) (by omega)) (cwV 3 hts (wg_app (wg_c kw_1719 (wg_c kw_1612 (wg_c kw_1613 (wg_c kw_10 wg_n)))) kw_1614) rfl rfl rfl (by decide +kernel) ⟨by decide, by decide⟩) (pp_V (en_ok g) (q0 := 0) hK hP hD hS hA hE [0, 1, 2, 3, 4, 5] rfl rfl rfl rfl) rfl rfl hl.1 rfl (lv_room (Nat.le_of_ble_eq_true rfl)) dMH_keys_424 ⟨by omega, by omega⟩) (fun  u35 H locs hu31 hP hD hS => ?_)
                  obtain ⟨u36, pl⟩ := u35
                  obtain ⟨hq31, hO⟩ := hu31
                  obtain ⟨ps30, f52, f53, f54⟩ := u36
                  have hP : va_P g.1 vcl ([(r44, .inr (9, [.ref am26, .ref am27, .ref am28, .ref am29, .ref am30, .int (nI 136), .int (nI ps30), .int (nI 31)])), (am26, .inl (g.2.1 2, 25, .inr (.inl f52))), (am27, .inl (g.2.1 2, 25, .inr (.inl f53))), (am28, .inl (g.2.1 2, 5, .inr (.inl f54))), (am29, .inl (g.2.1 2, 24, .inr (.inl f47))), (am30, .inl (g.2.1 0, 25, .inl f48))] ++ pl) _ := hP
                  have hD : va_D _ ([(r44, .inr (9, [.ref am26, .ref am27, .ref am28, .ref am29, .ref am30, .int (nI 136), .int (nI ps30), .int (nI 31)])), (am26, .inl (g.2.1 2, 25, .inr (.inl f52))), (am27, .inl (g.2.1 2, 25, .inr (.inl f53))), (am28, .inl (g.2.1 2, 5, .inr (.inl f54))), (am29, .inl (g.2.1 2, 24, .inr (.inl f47))), (am30, .inl (g.2.1 0, 25, .inl f48))] ++ pl) := hD
                  have hq31 : ps30 ≤ 136 := hq31
                  refine W.widen (k := 0) (n := 0) (by omega) (by omega) ?_
                  refine lv_aload_n hx hb dMH_keys_427 rfl (lv_at hl 1 rfl) ?_
                  refine ty_get (ci := 12) (C := "LatticeKeysModel$Hands") (TT := T_MH) (N := 31) (kd := (47, 0)) hx hb hts (wg_ft i_MH) hown hK hO k_h0 (nxg (clo_cons (clo_cons (clo_cons (clo_cons (clo_cons (clo_cons clo_nil kr44 (by decide)) km26 (by decide)) km27 (by decide)) km28 (by decide)) km29 (by decide)) km30 (by decide)) k_h0 rfl) hP (fun _ h9 => h9) rfl 0 (by decide) (hts _ (wg_t kw_1432)) (fun _ h9 => h9) (cd := (3, 20, 0)) rfl dMH_keys_428 (fun v68 hv68 => ?_)
                  obtain ⟨r55, rfl, kr54⟩ := (show ∃ r : Nat, v68 = .ref r ∧ T r = some (20, 0) from hv68)
                  obtain rfl : r44 = r55 := hU _ _ _ (by decide) kr44 kr54
                  refine mp_v (cx := [(r44, .inr (9, [.ref am26, .ref am27, .ref am28, .ref am29, .ref am30, .int (nI 136), .int (nI ps30), .int (nI 31)])), (am26, .inl (g.2.1 2, 25, .inr (.inl f52))), (am27, .inl (g.2.1 2, 25, .inr (.inl f53))), (am28, .inl (g.2.1 2, 5, .inr (.inl f54))), (am29, .inl (g.2.1 2, 24, .inr (.inl f47))), (am30, .inl (g.2.1 0, 25, .inl f48))]) (wr := []) hP hD hS hA [0, 1, 2, 3, 4, 5] [] rfl rfl rfl (by decide) (va_runV (As := []) (rest := []) F (t_MS_end l g _ T (am30 :: (am29 :: (am28 :: (am27 :: (am26 :: (r44 :: [])))))) pl hO hU  r44 am26 am27 am28 am29 am30 136 ps30 (nI 31) f52 f53 f54 f47 f48 (by omega) (by omega)) (cwV 0 hts (wg_app (wg_c kw_1721 (wg_c kw_1634 (wg_c kw_1635 (wg_c kw_10 wg_n)))) kw_1636) rfl rfl rfl (by decide +kernel) ⟨by decide, by decide⟩) (pp_V (en_ok g) (q0 := 0) hK hP hD hS hA hE [0, 1, 2, 3, 4, 5] rfl rfl rfl rfl) rfl rfl hl.1 rfl (lv_room (Nat.le_of_ble_eq_true rfl)) dMH_keys_431 ⟨by omega, by omega⟩) (fun  u37 H locs hu32 hP hD hS => ?_)
                  obtain ⟨u38, pl⟩ := u37
                  obtain ⟨hq32, hO⟩ := hu32
                  obtain ⟨ps31, f55, f56, f57⟩ := u38
                  have hP : va_P g.1 vcl ([(r44, .inr (9, [.ref am26, .ref am27, .ref am28, .ref am29, .ref am30, .int (nI 136), .int (nI ps31), .int (nI 31)])), (am26, .inl (g.2.1 2, 25, .inr (.inl f55))), (am27, .inl (g.2.1 2, 25, .inr (.inl f56))), (am28, .inl (g.2.1 2, 5, .inr (.inl f57))), (am29, .inl (g.2.1 2, 24, .inr (.inl f47))), (am30, .inl (g.2.1 0, 25, .inl f48))] ++ pl) _ := hP
                  have hD : va_D _ ([(r44, .inr (9, [.ref am26, .ref am27, .ref am28, .ref am29, .ref am30, .int (nI 136), .int (nI ps31), .int (nI 31)])), (am26, .inl (g.2.1 2, 25, .inr (.inl f55))), (am27, .inl (g.2.1 2, 25, .inr (.inl f56))), (am28, .inl (g.2.1 2, 5, .inr (.inl f57))), (am29, .inl (g.2.1 2, 24, .inr (.inl f47))), (am30, .inl (g.2.1 0, 25, .inl f48))] ++ pl) := hD
                  have hq32 : ps31 ≤ 136 := hq32
                  refine W.widen (k := 0) (n := 0) (by omega) (by omega) ?_
                  refine lv_aload_n hx hb dMH_keys_434 rfl (lv_at hl 1 rfl) ?_
                  refine ty_get (ci := 12) (C := "LatticeKeysModel$Hands") (TT := T_MH) (N := 31) (kd := (47, 0)) hx hb hts (wg_ft i_MH) hown hK hO k_h0 (nxg (clo_cons (clo_cons (clo_cons (clo_cons (clo_cons (clo_cons clo_nil kr44 (by decide)) km26 (by decide)) km27 (by decide)) km28 (by decide)) km29 (by decide)) km30 (by decide)) k_h0 rfl) hP (fun _ h9 => h9) rfl 0 (by decide) (hts _ (wg_t kw_1432)) (fun _ h9 => h9) (cd := (3, 20, 0)) rfl dMH_keys_435 (fun v69 hv69 => ?_)
                  obtain ⟨r56, rfl, kr55⟩ := (show ∃ r : Nat, v69 = .ref r ∧ T r = some (20, 0) from hv69)
                  obtain rfl : r44 = r56 := hU _ _ _ (by decide) kr44 kr55
                  refine lv_aload hx hb dMH_keys_438 (lv_at hl 3 rfl) ?_
                  refine lv_bipush (v := nI 64) hx hb dMH_keys_440 (by decide) ?_
                  refine lv_bipush (v := nI 64) hx hb dMH_keys_442 (by decide) ?_
                  refine mp_v (cx := [(r44, .inr (9, [.ref am26, .ref am27, .ref am28, .ref am29, .ref am30, .int (nI 136), .int (nI ps31), .int (nI 31)])), (am26, .inl (g.2.1 2, 25, .inr (.inl f55))), (am27, .inl (g.2.1 2, 25, .inr (.inl f56))), (am28, .inl (g.2.1 2, 5, .inr (.inl f57))), (am29, .inl (g.2.1 2, 24, .inr (.inl f47))), (am30, .inl (g.2.1 0, 25, .inl f48))]) (wr := []) hP hD hS hA [0, 1, 2, 3, 4, 5] [] rfl rfl rfl (by decide) (va_runV (As := [.ref sk, .int (nI 64), .int (nI 64)]) (rest := []) F (t_MS_take l g _ T (am30 :: (am29 :: (am28 :: (am27 :: (am26 :: (r44 :: [])))))) pl hO hU (clo_cons (clo_cons (clo_cons (clo_cons (clo_cons (clo_cons clo_nil kr44 (by decide)) km26 (by decide)) km27 (by decide)) km28 (by decide)) km29 (by decide)) km30 (by decide)) sk 4896 64 64 r44 am26 am27 am28 am29 am30 136 ps31 (nI 31) f55 f56 f57 f47 f48 k_sk (by omega) (by omega) (by omega) (by omega)) (cwV 3 hts (wg_app (wg_c kw_1722 (wg_c kw_1638 (wg_c kw_1639 (wg_c kw_10 wg_n)))) kw_1640) rfl rfl rfl (by decide +kernel) ⟨by decide, by decide⟩) (pp_V (en_ok g) (q0 := 0) hK hP hD hS hA hE [0, 1, 2, 3, 4, 5] rfl rfl rfl rfl) rfl rfl hl.1 rfl (lv_room (Nat.le_of_ble_eq_true rfl)) dMH_keys_444 ⟨by omega, by omega⟩) (fun  u39 H locs hu33 hP hD hS => ?_)
                  obtain ⟨u40, pl⟩ := u39
                  obtain ⟨hq33, hO⟩ := hu33
                  obtain ⟨ps32, f58, f59, f60⟩ := u40
                  have hP : va_P g.1 vcl ([(r44, .inr (9, [.ref am26, .ref am27, .ref am28, .ref am29, .ref am30, .int (nI 136), .int (nI ps32), .int (nI 31)])), (am26, .inl (g.2.1 2, 25, .inr (.inl f58))), (am27, .inl (g.2.1 2, 25, .inr (.inl f59))), (am28, .inl (g.2.1 2, 5, .inr (.inl f60))), (am29, .inl (g.2.1 2, 24, .inr (.inl f47))), (am30, .inl (g.2.1 0, 25, .inl f48))] ++ pl) _ := hP
                  have hD : va_D _ ([(r44, .inr (9, [.ref am26, .ref am27, .ref am28, .ref am29, .ref am30, .int (nI 136), .int (nI ps32), .int (nI 31)])), (am26, .inl (g.2.1 2, 25, .inr (.inl f58))), (am27, .inl (g.2.1 2, 25, .inr (.inl f59))), (am28, .inl (g.2.1 2, 5, .inr (.inl f60))), (am29, .inl (g.2.1 2, 24, .inr (.inl f47))), (am30, .inl (g.2.1 0, 25, .inl f48))] ++ pl) := hD
                  have hq33 : ps32 ≤ 136 := hq33
                  refine W.widen (k := 0) (n := 0) (by omega) (by omega) ?_
                  refine lv_aload_n hx hb dMH_keys_447 rfl (lv_at hl 1 rfl) ?_
                  refine ty_get (ci := 12) (C := "LatticeKeysModel$Hands") (TT := T_MH) (N := 31) (kd := (47, 0)) hx hb hts (wg_ft i_MH) hown hK hO k_h0 (nxg (clo_cons (clo_cons (clo_cons (clo_cons (clo_cons (clo_cons clo_nil kr44 (by decide)) km26 (by decide)) km27 (by decide)) km28 (by decide)) km29 (by decide)) km30 (by decide)) k_h0 rfl) hP (fun _ h9 => h9) rfl 26 (by decide) (hts _ (wg_t kw_1458)) (fun _ h9 => h9) (cd := (1, 0, 4)) rfl dMH_keys_448 (fun v70 hv70 => ?_)
                  obtain rfl := (show v70 = .int (nI 4) from hv70)
                  refine lv_iconst (v := nI 2) hx hb dMH_keys_451 (by decide) ?_
                  refine mi_ne (tgt := 459) hx hb dMH_keys_452 (by decide) (by omega) (by omega) (fun h25 => ?_) (fun h25 => absurd h25 (by omega))
                  refine lv_iconst (v := nI 4) hx hb dMH_keys_459 (by decide) ?_
                  refine lv_istore (lv' := [(5, .int (nI 4)), (0, .ref h0), (3, .ref pk), (4, .ref sk)]) hx hb dMH_keys_460 hl (by decide) rfl (fun ls hl => ?_)
                  refine lv_sipush (v := nI 1024) hx hb dMH_keys_462 (by decide) ?_
                  refine lv_istore (lv' := [(6, .int (nI 1024)), (5, .int (nI 4)), (0, .ref h0), (3, .ref pk), (4, .ref sk)]) hx hb dMH_keys_465 hl (by decide) rfl (fun ls hl => ?_)
                  refine lv_iconst (v := nI 0) hx hb dMH_keys_467 (by decide) ?_
                  refine lv_istore (lv' := [(7, .int (nI 0)), (6, .int (nI 1024)), (5, .int (nI 4)), (0, .ref h0), (3, .ref pk), (4, .ref sk)]) hx hb dMH_keys_468 hl (by decide) rfl (fun ls hl => ?_)
                  have hO := close1 (e := .inl (g.2.1 0, 25, .inl f48)) hO km30 ⟨_, rfl⟩
                  have hO := close1 (e := .inl (g.2.1 2, 24, .inr (.inl f47))) hO km29 ⟨_, rfl⟩
                  have hO := close1 (e := .inl (g.2.1 2, 5, .inr (.inl f60))) hO km28 ⟨_, rfl⟩
                  have hO := close1 (e := .inl (g.2.1 2, 25, .inr (.inl f59))) hO km27 ⟨_, rfl⟩
                  have hO := close1 (e := .inl (g.2.1 2, 25, .inr (.inl f58))) hO km26 ⟨_, rfl⟩
                  have hO := close1 (e := .inr (9, [.ref am26, .ref am27, .ref am28, .ref am29, .ref am30, .int (nI 136), .int (nI ps32), .int (nI 31)])) hO kr44 ⟨_, _, _, _, _, _, _, _, rfl, km26, km27, km28, km29, km30, by omega, by omega, by omega⟩
                  have hO : okx g T [] ((r44, .inr (9, [.ref am26, .ref am27, .ref am28, .ref am29, .ref am30, .int (nI 136), .int (nI ps32), .int (nI 31)])) :: (am26, .inl (g.2.1 2, 25, .inr (.inl f58))) :: (am27, .inl (g.2.1 2, 25, .inr (.inl f59))) :: (am28, .inl (g.2.1 2, 5, .inr (.inl f60))) :: (am29, .inl (g.2.1 2, 24, .inr (.inl f47))) :: (am30, .inl (g.2.1 0, 25, .inl f48)) :: pl) := hO
                  have hP : va_P g.1 vcl ([] ++ ((r44, .inr (9, [.ref am26, .ref am27, .ref am28, .ref am29, .ref am30, .int (nI 136), .int (nI ps32), .int (nI 31)])) :: (am26, .inl (g.2.1 2, 25, .inr (.inl f58))) :: (am27, .inl (g.2.1 2, 25, .inr (.inl f59))) :: (am28, .inl (g.2.1 2, 5, .inr (.inl f60))) :: (am29, .inl (g.2.1 2, 24, .inr (.inl f47))) :: (am30, .inl (g.2.1 0, 25, .inl f48)) :: pl)) _ := hP
                  have hD : va_D _ ([] ++ ((r44, .inr (9, [.ref am26, .ref am27, .ref am28, .ref am29, .ref am30, .int (nI 136), .int (nI ps32), .int (nI 31)])) :: (am26, .inl (g.2.1 2, 25, .inr (.inl f58))) :: (am27, .inl (g.2.1 2, 25, .inr (.inl f59))) :: (am28, .inl (g.2.1 2, 5, .inr (.inl f60))) :: (am29, .inl (g.2.1 2, 24, .inr (.inl f47))) :: (am30, .inl (g.2.1 0, 25, .inl f48)) :: pl)) := hD
                  generalize ((r44, .inr (9, [.ref am26, .ref am27, .ref am28, .ref am29, .ref am30, .int (nI 136), .int (nI ps32), .int (nI 31)])) :: (am26, .inl (g.2.1 2, 25, .inr (.inl f58))) :: (am27, .inl (g.2.1 2, 25, .inr (.inl f59))) :: (am28, .inl (g.2.1 2, 5, .inr (.inl f60))) :: (am29, .inl (g.2.1 2, 24, .inr (.inl f47))) :: (am30, .inl (g.2.1 0, 25, .inl f48)) :: pl) = pl at hO hP hD
                  have lp25 : ∀ (n25 : Nat) (i25 : Nat) (az21 : Nat) (pl : va_W) (ls : Array Slot) (H : Heap) (locs : List Loc), n25 + i25 = 11 → (az21 = 1024 + 1024 * i25) → lv_has ls 10 [(7, .int (nI i25)), (6, .int (nI az21)), (5, .int (nI 4)), (0, .ref h0), (4, .ref sk)] → okx g T [] pl → va_P g.1 vcl ([] ++ pl) H → va_D A ([] ++ pl) → va_S A s.heap H locs → W p l e ({ frames := 4, cells := 0, slots := 0, locals := 98 } : Room) s m args below meth c H locs 0 0 (MQ below (va_Qv (fun (u : va_W) => (True) ∧ okx g T0 [] u) (po g.1 vcl A (fun (u : va_W) => [] ++ u)) A) args s 0 0 A) (F0 m 470 ls []) := by
                    intro n25
                    induction n25 with
                    | zero =>
                      intro i25 az21 pl ls H locs hm25 hi21 hl hO hP hD hS
                      refine lv_iload hx hb dMH_keys_470 (lv_at hl 0 rfl) ?_
                      refine lv_aload_n hx hb dMH_keys_472 rfl (lv_at hl 3 rfl) ?_
                      refine ty_get (ci := 12) (C := "LatticeKeysModel$Hands") (TT := T_MH) (N := 31) (kd := (47, 0)) hx hb hts (wg_ft i_MH) hown hK hO k_h0 (nxg clo_nil k_h0 rfl) hP (fun _ h9 => h9) rfl 24 (by decide) (hts _ (wg_t kw_1456)) (fun _ h9 => h9) (cd := (1, 0, 6)) rfl dMH_keys_473 (fun v71 hv71 => ?_)
                      obtain rfl := (show v71 = .int (nI 6) from hv71)
                      refine lv_aload_n hx hb dMH_keys_476 rfl (lv_at hl 3 rfl) ?_
                      refine ty_get (ci := 12) (C := "LatticeKeysModel$Hands") (TT := T_MH) (N := 31) (kd := (47, 0)) hx hb hts (wg_ft i_MH) hown hK hO k_h0 (nxg clo_nil k_h0 rfl) hP (fun _ h9 => h9) rfl 25 (by decide) (hts _ (wg_t kw_1457)) (fun _ h9 => h9) (cd := (1, 0, 5)) rfl dMH_keys_477 (fun v72 hv72 => ?_)
                      obtain rfl := (show v72 = .int (nI 5) from hv72)
                      refine mi_iadd hx hb dMH_keys_480 ?_
                      refine mi_as (show nI (6 + 5) = nI 11 from rfl) ?_
                      refine mi_ge (tgt := 591) hx hb dMH_keys_481 (by decide) (by omega) (by omega) (fun h26 => ?_) (fun h26 => absurd h26 (by omega))
                      refine lv_iconst (v := nI 0) hx hb dMH_keys_591 (by decide) ?_
                      refine lv_istore (lv' := [(7, .int (nI 0)), (6, .int (nI az21)), (5, .int (nI 4)), (0, .ref h0), (4, .ref sk)]) hx hb dMH_keys_592 hl (by decide) rfl (fun ls hl => ?_)
                      have lp26 : ∀ (n26 : Nat) (i26 : Nat) (az22 : Nat) (pl : va_W) (ls : Array Slot) (H : Heap) (locs : List Loc), n26 + i26 = 6 → (az22 = 12288 + 3328 * i26) → lv_has ls 10 [(7, .int (nI i26)), (6, .int (nI az22)), (0, .ref h0), (4, .ref sk)] → okx g T [] pl → va_P g.1 vcl ([] ++ pl) H → va_D A ([] ++ pl) → va_S A s.heap H locs → W p l e ({ frames := 4, cells := 0, slots := 0, locals := 98 } : Room) s m args below meth c H locs 0 0 (MQ below (va_Qv (fun (u : va_W) => (True) ∧ okx g T0 [] u) (po g.1 vcl A (fun (u : va_W) => [] ++ u)) A) args s 0 0 A) (F0 m 594 ls []) := by
                        intro n26
                        induction n26 with
                        | zero =>
                          intro i26 az22 pl ls H locs hm26 hi22 hl hO hP hD hS
                          refine lv_iload hx hb dMH_keys_594 (lv_at hl 0 rfl) ?_
                          refine lv_aload_n hx hb dMH_keys_596 rfl (lv_at hl 2 rfl) ?_
                          refine ty_get (ci := 12) (C := "LatticeKeysModel$Hands") (TT := T_MH) (N := 31) (kd := (47, 0)) hx hb hts (wg_ft i_MH) hown hK hO k_h0 (nxg clo_nil k_h0 rfl) hP (fun _ h9 => h9) rfl 24 (by decide) (hts _ (wg_t kw_1456)) (fun _ h9 => h9) (cd := (1, 0, 6)) rfl dMH_keys_597 (fun v73 hv73 => ?_)
                          obtain rfl := (show v73 = .int (nI 6) from hv73)
                          refine mi_ge (tgt := 652) hx hb dMH_keys_600 (by decide) (by omega) (by omega) (fun h27 => ?_) (fun h27 => absurd h27 (by omega))
                          exact mp_vret hx hb hr hlk hP hD hS pl ⟨trivial, (hback _ hO)⟩ [] rfl rfl rfl (by omega) (by omega) dMH_keys_652
                        | succ n26 ih26 =>
                          intro i26 az22 pl ls H locs hm26 hi22 hl hO hP hD hS
                          refine lv_iload hx hb dMH_keys_594 (lv_at hl 0 rfl) ?_
                          refine lv_aload_n hx hb dMH_keys_596 rfl (lv_at hl 2 rfl) ?_
                          refine ty_get (ci := 12) (C := "LatticeKeysModel$Hands") (TT := T_MH) (N := 31) (kd := (47, 0)) hx hb hts (wg_ft i_MH) hown hK hO k_h0 (nxg clo_nil k_h0 rfl) hP (fun _ h9 => h9) rfl 24 (by decide) (hts _ (wg_t kw_1456)) (fun _ h9 => h9) (cd := (1, 0, 6)) rfl dMH_keys_597 (fun v74 hv74 => ?_)
                          obtain rfl := (show v74 = .int (nI 6) from hv74)
                          refine mi_ge (tgt := 652) hx hb dMH_keys_600 (by decide) (by omega) (by omega) (fun h28 => absurd h28 (by omega)) (fun h28 => ?_)
                          refine lv_iconst (v := nI 0) hx hb dMH_keys_603 (by decide) ?_
                          refine lv_istore (lv' := [(8, .int (nI 0)), (7, .int (nI i26)), (6, .int (nI az22)), (0, .ref h0), (4, .ref sk)]) hx hb dMH_keys_604 hl (by decide) rfl (fun ls hl => ?_)
                          have lp27 : ∀ (n27 : Nat) (i27 : Nat) (az23 : Nat) (pl : va_W) (ls : Array Slot) (H : Heap) (locs : List Loc), n27 + i27 = 256 → (az23 = 12288 + 3328 * i26 + 13 * i27) → lv_has ls 10 [(8, .int (nI i27)), (7, .int (nI i26)), (6, .int (nI az23)), (0, .ref h0), (4, .ref sk)] → okx g T [] pl → va_P g.1 vcl ([] ++ pl) H → va_D A ([] ++ pl) → va_S A s.heap H locs → W p l e ({ frames := 4, cells := 0, slots := 0, locals := 98 } : Room) s m args below meth c H locs 0 0 (MQ below (va_Qv (fun (u : va_W) => (True) ∧ okx g T0 [] u) (po g.1 vcl A (fun (u : va_W) => [] ++ u)) A) args s 0 0 A) (F0 m 606 ls []) := by
                            intro n27
                            induction n27 with
                            | zero =>
                              intro i27 az23 pl ls H locs hm27 hi23 hl hO hP hD hS
                              refine lv_iload hx hb dMH_keys_606 (lv_at hl 0 rfl) ?_
                              refine lv_sipush (v := nI 256) hx hb dMH_keys_608 (by decide) ?_
                              refine mi_ge (tgt := 646) hx hb dMH_keys_611 (by decide) (by omega) (by omega) (fun h29 => ?_) (fun h29 => absurd h29 (by omega))
                              refine mi_iinc (k := 1) (x := i26) (d := 1) (y := i26 + 1) (lv' := [(7, .int (nI (i26 + 1))), (8, .int (nI i27)), (6, .int (nI az23)), (0, .ref h0), (4, .ref sk)]) hx hb dMH_keys_646 hl rfl (by decide) rfl (by decide) rfl (fun ls hl => ?_)
                              refine lv_goto (tgt := 594) hx hb dMH_keys_649 (by decide) ?_
                              exact ih26 (i26 + 1) az23 pl ls H locs (by omega) (by omega) (lv_sub hl [0, 2, 3, 4] rfl) hO hP hD hS
                            | succ n27 ih27 =>
                              intro i27 az23 pl ls H locs hm27 hi23 hl hO hP hD hS
                              refine lv_iload hx hb dMH_keys_606 (lv_at hl 0 rfl) ?_
                              refine lv_sipush (v := nI 256) hx hb dMH_keys_608 (by decide) ?_
                              refine mi_ge (tgt := 646) hx hb dMH_keys_611 (by decide) (by omega) (by omega) (fun h30 => absurd h30 (by omega)) (fun h30 => ?_)
                              refine lv_aload hx hb dMH_keys_614 (lv_at hl 4 rfl) ?_
                              refine lv_iload hx hb dMH_keys_616 (lv_at hl 2 rfl) ?_
                              refine lv_bipush (v := nI 13) hx hb dMH_keys_618 (by decide) ?_
                              refine lv_sipush (v := nI 4096) hx hb dMH_keys_620 (by decide) ?_
                              refine lv_aload_n hx hb dMH_keys_623 rfl (lv_at hl 3 rfl) ?_
                              refine ty_get (ci := 12) (C := "LatticeKeysModel$Hands") (TT := T_MH) (N := 31) (kd := (47, 0)) hx hb hts (wg_ft i_MH) hown hK hO k_h0 (nxg clo_nil k_h0 rfl) hP (fun _ h9 => h9) rfl 5 (by decide) (hts _ (wg_t kw_1437)) (fun _ h9 => h9) (cd := (3, 3, 8)) rfl dMH_keys_624 (fun v75 hv75 => ?_)
                              obtain ⟨r57, rfl, kr56⟩ := (show ∃ r : Nat, v75 = .ref r ∧ T r = some (3, 8) from hv75)
                              refine lv_iload hx hb dMH_keys_627 (lv_at hl 1 rfl) ?_
                              refine ty_aald3 hx hb hK hO kr56 (nxg clo_nil kr56 rfl) hP (by omega) (by decide) dMH_keys_629 (fun r58 kr57 => ?_)
                              refine lv_iload hx hb dMH_keys_630 (lv_at hl 0 rfl) ?_
                              refine ty_iald hx hb hK hO kr57 (nxg clo_nil kr57 rfl) hP (vp_in_nI (by omega) (by decide)) dMH_keys_632 (fun z29 => ?_)
                              refine lv_isub hx hb dMH_keys_633 ?_
                              refine mi_any (fun z30 => ?_)
                              refine mp_v (cx := []) (wr := []) hP hD hS hA [] [] rfl rfl rfl (by decide) (va_runSN (As := [.ref sk, .int (nI az23), .int (nI 13), .int z30]) (rest := []) F (t_M_pack l g _ T [] pl hO hU clo_nil sk 4896 az23 13 z30 k_sk (by omega) (by omega)) ⟨va_cnB 4 hts (wg_in kw_1690) rfl rfl rfl (hE.2.2.2.2.2.2.2.2.2.1) (hts _ (wg_t kw_9)) (by decide +kernel) ⟨by decide, by decide⟩, hts _ (wg_t kw_1689), trivial⟩ (pp_S (en_ok g) hP hD hS hA hE [] rfl rfl) rfl rfl hl.1 rfl (lv_room (Nat.le_of_ble_eq_true rfl)) dMH_keys_634 ⟨by omega, by omega⟩) (fun  pl H locs hu34 hP hD hS => ?_)
                              obtain ⟨hq34, hO⟩ := hu34
                              have hP : va_P g.1 vcl ([] ++ pl) _ := hP
                              have hD : va_D _ ([] ++ pl) := hD
                              refine W.widen (k := 0) (n := 0) (by omega) (by omega) ?_
                              refine mi_iinc (k := 2) (x := az23) (d := 13) (y := az23 + 13) (lv' := [(6, .int (nI (az23 + 13))), (8, .int (nI i27)), (7, .int (nI i26)), (0, .ref h0), (4, .ref sk)]) hx hb dMH_keys_637 hl rfl (by decide) rfl (by decide) rfl (fun ls hl => ?_)
                              refine mi_iinc (k := 1) (x := i27) (d := 1) (y := i27 + 1) (lv' := [(8, .int (nI (i27 + 1))), (6, .int (nI (az23 + 13))), (7, .int (nI i26)), (0, .ref h0), (4, .ref sk)]) hx hb dMH_keys_640 hl rfl (by decide) rfl (by decide) rfl (fun ls hl => ?_)
                              refine lv_goto (tgt := 606) hx hb dMH_keys_643 (by decide) ?_
                              exact ih27 (i27 + 1) (az23 + 13) pl ls H locs (by omega) (by omega) (lv_sub hl [0, 2, 1, 3, 4] rfl) hO hP hD hS
                          exact lp27 256 0 az22 pl ls _ _ (by omega) (by omega) (lv_sub hl [0, 1, 2, 3, 4] rfl) hO hP hD hS
                      exact lp26 6 0 az21 pl ls _ _ (by omega) (by omega) (lv_sub hl [0, 1, 3, 4] rfl) hO hP hD hS
                    | succ n25 ih25 =>
                      intro i25 az21 pl ls H locs hm25 hi21 hl hO hP hD hS
                      refine lv_iload hx hb dMH_keys_470 (lv_at hl 0 rfl) ?_
                      refine lv_aload_n hx hb dMH_keys_472 rfl (lv_at hl 3 rfl) ?_
                      refine ty_get (ci := 12) (C := "LatticeKeysModel$Hands") (TT := T_MH) (N := 31) (kd := (47, 0)) hx hb hts (wg_ft i_MH) hown hK hO k_h0 (nxg clo_nil k_h0 rfl) hP (fun _ h9 => h9) rfl 24 (by decide) (hts _ (wg_t kw_1456)) (fun _ h9 => h9) (cd := (1, 0, 6)) rfl dMH_keys_473 (fun v76 hv76 => ?_)
                      obtain rfl := (show v76 = .int (nI 6) from hv76)
                      refine lv_aload_n hx hb dMH_keys_476 rfl (lv_at hl 3 rfl) ?_
                      refine ty_get (ci := 12) (C := "LatticeKeysModel$Hands") (TT := T_MH) (N := 31) (kd := (47, 0)) hx hb hts (wg_ft i_MH) hown hK hO k_h0 (nxg clo_nil k_h0 rfl) hP (fun _ h9 => h9) rfl 25 (by decide) (hts _ (wg_t kw_1457)) (fun _ h9 => h9) (cd := (1, 0, 5)) rfl dMH_keys_477 (fun v77 hv77 => ?_)
                      obtain rfl := (show v77 = .int (nI 5) from hv77)
                      refine mi_iadd hx hb dMH_keys_480 ?_
                      refine mi_as (show nI (6 + 5) = nI 11 from rfl) ?_
                      refine mi_ge (tgt := 591) hx hb dMH_keys_481 (by decide) (by omega) (by omega) (fun h31 => absurd h31 (by omega)) (fun h31 => ?_)
                      refine lv_iconst (v := nI 0) hx hb dMH_keys_484 (by decide) ?_
                      refine lv_istore (lv' := [(8, .int (nI 0)), (7, .int (nI i25)), (6, .int (nI az21)), (5, .int (nI 4)), (0, .ref h0), (4, .ref sk)]) hx hb dMH_keys_485 hl (by decide) rfl (fun ls hl => ?_)
                      have lp28 : ∀ (n28 : Nat) (i28 : Nat) (az24 : Nat) (pl : va_W) (ls : Array Slot) (H : Heap) (locs : List Loc), n28 + i28 = 256 → (az24 = 1024 + 1024 * i25 + 4 * i28) → lv_has ls 10 [(8, .int (nI i28)), (7, .int (nI i25)), (6, .int (nI az24)), (5, .int (nI 4)), (0, .ref h0), (4, .ref sk)] → okx g T [] pl → va_P g.1 vcl ([] ++ pl) H → va_D A ([] ++ pl) → va_S A s.heap H locs → W p l e ({ frames := 4, cells := 0, slots := 0, locals := 98 } : Room) s m args below meth c H locs 0 0 (MQ below (va_Qv (fun (u : va_W) => (True) ∧ okx g T0 [] u) (po g.1 vcl A (fun (u : va_W) => [] ++ u)) A) args s 0 0 A) (F0 m 487 ls []) := by
                        intro n28
                        induction n28 with
                        | zero =>
                          intro i28 az24 pl ls H locs hm28 hi24 hl hO hP hD hS
                          refine lv_iload hx hb dMH_keys_487 (lv_at hl 0 rfl) ?_
                          refine lv_sipush (v := nI 256) hx hb dMH_keys_489 (by decide) ?_
                          refine mi_ge (tgt := 585) hx hb dMH_keys_492 (by decide) (by omega) (by omega) (fun h32 => ?_) (fun h32 => absurd h32 (by omega))
                          refine mi_iinc (k := 1) (x := i25) (d := 1) (y := i25 + 1) (lv' := [(7, .int (nI (i25 + 1))), (8, .int (nI i28)), (6, .int (nI az24)), (5, .int (nI 4)), (0, .ref h0), (4, .ref sk)]) hx hb dMH_keys_585 hl rfl (by decide) rfl (by decide) rfl (fun ls hl => ?_)
                          refine lv_goto (tgt := 470) hx hb dMH_keys_588 (by decide) ?_
                          exact ih25 (i25 + 1) az24 pl ls H locs (by omega) (by omega) (lv_sub hl [0, 2, 3, 4, 5] rfl) hO hP hD hS
                        | succ n28 ih28 =>
                          intro i28 az24 pl ls H locs hm28 hi24 hl hO hP hD hS
                          refine lv_iload hx hb dMH_keys_487 (lv_at hl 0 rfl) ?_
                          refine lv_sipush (v := nI 256) hx hb dMH_keys_489 (by decide) ?_
                          refine mi_ge (tgt := 585) hx hb dMH_keys_492 (by decide) (by omega) (by omega) (fun h33 => absurd h33 (by omega)) (fun h33 => ?_)
                          refine lv_iload hx hb dMH_keys_495 (lv_at hl 1 rfl) ?_
                          refine lv_aload_n hx hb dMH_keys_497 rfl (lv_at hl 4 rfl) ?_
                          refine ty_get (ci := 12) (C := "LatticeKeysModel$Hands") (TT := T_MH) (N := 31) (kd := (47, 0)) hx hb hts (wg_ft i_MH) hown hK hO k_h0 (nxg clo_nil k_h0 rfl) hP (fun _ h9 => h9) rfl 25 (by decide) (hts _ (wg_t kw_1457)) (fun _ h9 => h9) (cd := (1, 0, 5)) rfl dMH_keys_498 (fun v78 hv78 => ?_)
                          obtain rfl := (show v78 = .int (nI 5) from hv78)
                          refine mi_ge (tgt := 517) hx hb dMH_keys_501 (by decide) (by omega) (by omega) (fun h34 => ?_) (fun h34 => ?_)
                          · refine lv_aload_n hx hb dMH_keys_517 rfl (lv_at hl 4 rfl) ?_
                            refine ty_get (ci := 12) (C := "LatticeKeysModel$Hands") (TT := T_MH) (N := 31) (kd := (47, 0)) hx hb hts (wg_ft i_MH) hown hK hO k_h0 (nxg clo_nil k_h0 rfl) hP (fun _ h9 => h9) rfl 4 (by decide) (hts _ (wg_t kw_1436)) (fun _ h9 => h9) (cd := (3, 3, 8)) rfl dMH_keys_518 (fun v79 hv79 => ?_)
                            obtain ⟨r59, rfl, kr58⟩ := (show ∃ r : Nat, v79 = .ref r ∧ T r = some (3, 8) from hv79)
                            refine lv_iload hx hb dMH_keys_521 (lv_at hl 1 rfl) ?_
                            refine lv_aload_n hx hb dMH_keys_523 rfl (lv_at hl 4 rfl) ?_
                            refine ty_get (ci := 12) (C := "LatticeKeysModel$Hands") (TT := T_MH) (N := 31) (kd := (47, 0)) hx hb hts (wg_ft i_MH) hown hK hO k_h0 (nxg clo_nil k_h0 rfl) hP (fun _ h9 => h9) rfl 25 (by decide) (hts _ (wg_t kw_1457)) (fun _ h9 => h9) (cd := (1, 0, 5)) rfl dMH_keys_524 (fun v80 hv80 => ?_)
                            obtain rfl := (show v80 = .int (nI 5) from hv80)
                            refine mi_isub hx hb dMH_keys_527 (by omega) ?_
                            refine ty_aald3 hx hb hK hO kr58 (nxg clo_nil kr58 rfl) hP (by omega) (by decide) dMH_keys_528 (fun r60 kr59 => ?_)
                            refine lv_iload hx hb dMH_keys_529 (lv_at hl 0 rfl) ?_
                            refine ty_iald hx hb hK hO kr59 (nxg clo_nil kr59 rfl) hP (vp_in_nI (by omega) (by decide)) dMH_keys_531 (fun z31 => ?_)
                            refine lv_istore (lv' := [(9, .int z31), (8, .int (nI i28)), (7, .int (nI i25)), (6, .int (nI az24)), (5, .int (nI 4)), (0, .ref h0), (4, .ref sk)]) hx hb dMH_keys_532 hl (by decide) rfl (fun ls hl => ?_)
                            refine lv_aload hx hb dMH_keys_534 (lv_at hl 6 rfl) ?_
                            refine lv_iload hx hb dMH_keys_536 (lv_at hl 3 rfl) ?_
                            refine lv_iload hx hb dMH_keys_538 (lv_at hl 4 rfl) ?_
                            refine lv_iload hx hb dMH_keys_540 (lv_at hl 0 rfl) ?_
                            refine lv_aload_n hx hb dMH_keys_542 rfl (lv_at hl 5 rfl) ?_
                            refine ty_get (ci := 12) (C := "LatticeKeysModel$Hands") (TT := T_MH) (N := 31) (kd := (47, 0)) hx hb hts (wg_ft i_MH) hown hK hO k_h0 (nxg clo_nil k_h0 rfl) hP (fun _ h9 => h9) rfl 26 (by decide) (hts _ (wg_t kw_1458)) (fun _ h9 => h9) (cd := (1, 0, 4)) rfl dMH_keys_543 (fun v81 hv81 => ?_)
                            obtain rfl := (show v81 = .int (nI 4) from hv81)
                            refine lv_icmp_le (tgt := 562) hx hb dMH_keys_546 (by decide) (fun h35 => ?_) (fun h35 => ?_)
                            · refine lv_aload_n hx hb dMH_keys_562 rfl (lv_at hl 5 rfl) ?_
                              refine ty_get (ci := 12) (C := "LatticeKeysModel$Hands") (TT := T_MH) (N := 31) (kd := (47, 0)) hx hb hts (wg_ft i_MH) hown hK hO k_h0 (nxg clo_nil k_h0 rfl) hP (fun _ h9 => h9) rfl 26 (by decide) (hts _ (wg_t kw_1458)) (fun _ h9 => h9) (cd := (1, 0, 4)) rfl dMH_keys_563 (fun v82 hv82 => ?_)
                              obtain rfl := (show v82 = .int (nI 4) from hv82)
                              refine lv_iload hx hb dMH_keys_566 (lv_at hl 0 rfl) ?_
                              refine lv_isub hx hb dMH_keys_568 ?_
                              refine mi_any (fun z32 => ?_)
                              refine mp_v (cx := []) (wr := []) hP hD hS hA [] [] rfl rfl rfl (by decide) (va_runSN (As := [.ref sk, .int (nI az24), .int (nI 4), .int z32]) (rest := []) F (t_M_pack l g _ T [] pl hO hU clo_nil sk 4896 az24 4 z32 k_sk (by omega) (by omega)) ⟨va_cnB 4 hts (wg_in kw_1690) rfl rfl rfl (hE.2.2.2.2.2.2.2.2.2.1) (hts _ (wg_t kw_9)) (by decide +kernel) ⟨by decide, by decide⟩, hts _ (wg_t kw_1689), trivial⟩ (pp_S (en_ok g) hP hD hS hA hE [] rfl rfl) rfl rfl hl.1 rfl (lv_room (Nat.le_of_ble_eq_true rfl)) dMH_keys_569 ⟨by omega, by omega⟩) (fun  pl H locs hu35 hP hD hS => ?_)
                              obtain ⟨hq35, hO⟩ := hu35
                              have hP : va_P g.1 vcl ([] ++ pl) _ := hP
                              have hD : va_D _ ([] ++ pl) := hD
                              refine W.widen (k := 0) (n := 0) (by omega) (by omega) ?_
                              refine lv_iload hx hb dMH_keys_572 (lv_at hl 3 rfl) ?_
                              refine lv_iload hx hb dMH_keys_574 (lv_at hl 4 rfl) ?_
                              refine mi_iadd hx hb dMH_keys_576 ?_
                              refine lv_istore (lv' := [(6, .int (nI (az24 + 4))), (9, .int z31), (8, .int (nI i28)), (7, .int (nI i25)), (5, .int (nI 4)), (0, .ref h0), (4, .ref sk)]) hx hb dMH_keys_577 hl (by decide) rfl (fun ls hl => ?_)
                              refine mi_iinc (k := 2) (x := i28) (d := 1) (y := i28 + 1) (lv' := [(8, .int (nI (i28 + 1))), (6, .int (nI (az24 + 4))), (9, .int z31), (7, .int (nI i25)), (5, .int (nI 4)), (0, .ref h0), (4, .ref sk)]) hx hb dMH_keys_579 hl rfl (by decide) rfl (by decide) rfl (fun ls hl => ?_)
                              refine lv_goto (tgt := 487) hx hb dMH_keys_582 (by decide) ?_
                              exact ih28 (i28 + 1) (az24 + 4) pl ls H locs (by omega) (by omega) (lv_sub hl [0, 3, 1, 4, 5, 6] rfl) hO hP hD hS
                            · refine lv_aload_n hx hb dMH_keys_549 rfl (lv_at hl 5 rfl) ?_
                              refine ty_get (ci := 12) (C := "LatticeKeysModel$Hands") (TT := T_MH) (N := 31) (kd := (47, 0)) hx hb hts (wg_ft i_MH) hown hK hO k_h0 (nxg clo_nil k_h0 rfl) hP (fun _ h9 => h9) rfl 26 (by decide) (hts _ (wg_t kw_1458)) (fun _ h9 => h9) (cd := (1, 0, 4)) rfl dMH_keys_550 (fun v83 hv83 => ?_)
                              obtain rfl := (show v83 = .int (nI 4) from hv83)
                              refine lv_iload hx hb dMH_keys_553 (lv_at hl 0 rfl) ?_
                              refine lv_isub hx hb dMH_keys_555 ?_
                              refine mi_any (fun z33 => ?_)
                              refine lv_ldc (v := 8380417) hx hb hown (hts _ (wg_t kw_1429)) dMH_keys_556 ?_
                              refine mi_as (show (8380417 : Int32) = nI 8380417 by decide) ?_
                              refine lv_iadd hx hb dMH_keys_558 ?_
                              refine mi_any (fun z34 => ?_)
                              refine lv_goto (tgt := 569) hx hb dMH_keys_559 (by decide) ?_
                              refine mp_v (cx := []) (wr := []) hP hD hS hA [] [] rfl rfl rfl (by decide) (va_runSN (As := [.ref sk, .int (nI az24), .int (nI 4), .int z34]) (rest := []) F (t_M_pack l g _ T [] pl hO hU clo_nil sk 4896 az24 4 z34 k_sk (by omega) (by omega)) ⟨va_cnB 4 hts (wg_in kw_1690) rfl rfl rfl (hE.2.2.2.2.2.2.2.2.2.1) (hts _ (wg_t kw_9)) (by decide +kernel) ⟨by decide, by decide⟩, hts _ (wg_t kw_1689), trivial⟩ (pp_S (en_ok g) hP hD hS hA hE [] rfl rfl) rfl rfl hl.1 rfl (lv_room (Nat.le_of_ble_eq_true rfl)) dMH_keys_569 ⟨by omega, by omega⟩) (fun  pl H locs hu36 hP hD hS => ?_)
                              obtain ⟨hq36, hO⟩ := hu36
                              have hP : va_P g.1 vcl ([] ++ pl) _ := hP
                              have hD : va_D _ ([] ++ pl) := hD
                              refine W.widen (k := 0) (n := 0) (by omega) (by omega) ?_
                              refine lv_iload hx hb dMH_keys_572 (lv_at hl 3 rfl) ?_
                              refine lv_iload hx hb dMH_keys_574 (lv_at hl 4 rfl) ?_
                              refine mi_iadd hx hb dMH_keys_576 ?_
                              refine lv_istore (lv' := [(6, .int (nI (az24 + 4))), (9, .int z31), (8, .int (nI i28)), (7, .int (nI i25)), (5, .int (nI 4)), (0, .ref h0), (4, .ref sk)]) hx hb dMH_keys_577 hl (by decide) rfl (fun ls hl => ?_)
                              refine mi_iinc (k := 2) (x := i28) (d := 1) (y := i28 + 1) (lv' := [(8, .int (nI (i28 + 1))), (6, .int (nI (az24 + 4))), (9, .int z31), (7, .int (nI i25)), (5, .int (nI 4)), (0, .ref h0), (4, .ref sk)]) hx hb dMH_keys_579 hl rfl (by decide) rfl (by decide) rfl (fun ls hl => ?_)
                              refine lv_goto (tgt := 487) hx hb dMH_keys_582 (by decide) ?_
                              exact ih28 (i28 + 1) (az24 + 4) pl ls H locs (by omega) (by omega) (lv_sub hl [0, 3, 1, 4, 5, 6] rfl) hO hP hD hS
                          · refine lv_aload_n hx hb dMH_keys_504 rfl (lv_at hl 4 rfl) ?_
                            refine ty_get (ci := 12) (C := "LatticeKeysModel$Hands") (TT := T_MH) (N := 31) (kd := (47, 0)) hx hb hts (wg_ft i_MH) hown hK hO k_h0 (nxg clo_nil k_h0 rfl) hP (fun _ h9 => h9) rfl 3 (by decide) (hts _ (wg_t kw_1435)) (fun _ h9 => h9) (cd := (3, 3, 7)) rfl dMH_keys_505 (fun v84 hv84 => ?_)
                            obtain ⟨r61, rfl, kr60⟩ := (show ∃ r : Nat, v84 = .ref r ∧ T r = some (3, 7) from hv84)
                            refine lv_iload hx hb dMH_keys_508 (lv_at hl 1 rfl) ?_
                            refine ty_aald3 hx hb hK hO kr60 (nxg clo_nil kr60 rfl) hP (by omega) (by decide) dMH_keys_510 (fun r62 kr61 => ?_)
                            refine lv_iload hx hb dMH_keys_511 (lv_at hl 0 rfl) ?_
                            refine ty_iald hx hb hK hO kr61 (nxg clo_nil kr61 rfl) hP (vp_in_nI (by omega) (by decide)) dMH_keys_513 (fun z35 => ?_)
                            refine lv_goto (tgt := 532) hx hb dMH_keys_514 (by decide) ?_
                            refine lv_istore (lv' := [(9, .int z35), (8, .int (nI i28)), (7, .int (nI i25)), (6, .int (nI az24)), (5, .int (nI 4)), (0, .ref h0), (4, .ref sk)]) hx hb dMH_keys_532 hl (by decide) rfl (fun ls hl => ?_)
                            refine lv_aload hx hb dMH_keys_534 (lv_at hl 6 rfl) ?_
                            refine lv_iload hx hb dMH_keys_536 (lv_at hl 3 rfl) ?_
                            refine lv_iload hx hb dMH_keys_538 (lv_at hl 4 rfl) ?_
                            refine lv_iload hx hb dMH_keys_540 (lv_at hl 0 rfl) ?_
                            refine lv_aload_n hx hb dMH_keys_542 rfl (lv_at hl 5 rfl) ?_
                            refine ty_get (ci := 12) (C := "LatticeKeysModel$Hands") (TT := T_MH) (N := 31) (kd := (47, 0)) hx hb hts (wg_ft i_MH) hown hK hO k_h0 (nxg clo_nil k_h0 rfl) hP (fun _ h9 => h9) rfl 26 (by decide) (hts _ (wg_t kw_1458)) (fun _ h9 => h9) (cd := (1, 0, 4)) rfl dMH_keys_543 (fun v85 hv85 => ?_)
                            obtain rfl := (show v85 = .int (nI 4) from hv85)
                            refine lv_icmp_le (tgt := 562) hx hb dMH_keys_546 (by decide) (fun h36 => ?_) (fun h36 => ?_)
                            · refine lv_aload_n hx hb dMH_keys_562 rfl (lv_at hl 5 rfl) ?_
                              refine ty_get (ci := 12) (C := "LatticeKeysModel$Hands") (TT := T_MH) (N := 31) (kd := (47, 0)) hx hb hts (wg_ft i_MH) hown hK hO k_h0 (nxg clo_nil k_h0 rfl) hP (fun _ h9 => h9) rfl 26 (by decide) (hts _ (wg_t kw_1458)) (fun _ h9 => h9) (cd := (1, 0, 4)) rfl dMH_keys_563 (fun v86 hv86 => ?_)
                              obtain rfl := (show v86 = .int (nI 4) from hv86)
                              refine lv_iload hx hb dMH_keys_566 (lv_at hl 0 rfl) ?_
                              refine lv_isub hx hb dMH_keys_568 ?_
                              refine mi_any (fun z36 => ?_)
                              refine mp_v (cx := []) (wr := []) hP hD hS hA [] [] rfl rfl rfl (by decide) (va_runSN (As := [.ref sk, .int (nI az24), .int (nI 4), .int z36]) (rest := []) F (t_M_pack l g _ T [] pl hO hU clo_nil sk 4896 az24 4 z36 k_sk (by omega) (by omega)) ⟨va_cnB 4 hts (wg_in kw_1690) rfl rfl rfl (hE.2.2.2.2.2.2.2.2.2.1) (hts _ (wg_t kw_9)) (by decide +kernel) ⟨by decide, by decide⟩, hts _ (wg_t kw_1689), trivial⟩ (pp_S (en_ok g) hP hD hS hA hE [] rfl rfl) rfl rfl hl.1 rfl (lv_room (Nat.le_of_ble_eq_true rfl)) dMH_keys_569 ⟨by omega, by omega⟩) (fun  pl H locs hu37 hP hD hS => ?_)
                              obtain ⟨hq37, hO⟩ := hu37
                              have hP : va_P g.1 vcl ([] ++ pl) _ := hP
                              have hD : va_D _ ([] ++ pl) := hD
                              refine W.widen (k := 0) (n := 0) (by omega) (by omega) ?_
                              refine lv_iload hx hb dMH_keys_572 (lv_at hl 3 rfl) ?_
                              refine lv_iload hx hb dMH_keys_574 (lv_at hl 4 rfl) ?_
                              refine mi_iadd hx hb dMH_keys_576 ?_
                              refine lv_istore (lv' := [(6, .int (nI (az24 + 4))), (9, .int z35), (8, .int (nI i28)), (7, .int (nI i25)), (5, .int (nI 4)), (0, .ref h0), (4, .ref sk)]) hx hb dMH_keys_577 hl (by decide) rfl (fun ls hl => ?_)
                              refine mi_iinc (k := 2) (x := i28) (d := 1) (y := i28 + 1) (lv' := [(8, .int (nI (i28 + 1))), (6, .int (nI (az24 + 4))), (9, .int z35), (7, .int (nI i25)), (5, .int (nI 4)), (0, .ref h0), (4, .ref sk)]) hx hb dMH_keys_579 hl rfl (by decide) rfl (by decide) rfl (fun ls hl => ?_)
                              refine lv_goto (tgt := 487) hx hb dMH_keys_582 (by decide) ?_
                              exact ih28 (i28 + 1) (az24 + 4) pl ls H locs (by omega) (by omega) (lv_sub hl [0, 3, 1, 4, 5, 6] rfl) hO hP hD hS
                            · refine lv_aload_n hx hb dMH_keys_549 rfl (lv_at hl 5 rfl) ?_
                              refine ty_get (ci := 12) (C := "LatticeKeysModel$Hands") (TT := T_MH) (N := 31) (kd := (47, 0)) hx hb hts (wg_ft i_MH) hown hK hO k_h0 (nxg clo_nil k_h0 rfl) hP (fun _ h9 => h9) rfl 26 (by decide) (hts _ (wg_t kw_1458)) (fun _ h9 => h9) (cd := (1, 0, 4)) rfl dMH_keys_550 (fun v87 hv87 => ?_)
                              obtain rfl := (show v87 = .int (nI 4) from hv87)
                              refine lv_iload hx hb dMH_keys_553 (lv_at hl 0 rfl) ?_
                              refine lv_isub hx hb dMH_keys_555 ?_
                              refine mi_any (fun z37 => ?_)
                              refine lv_ldc (v := 8380417) hx hb hown (hts _ (wg_t kw_1429)) dMH_keys_556 ?_
                              refine mi_as (show (8380417 : Int32) = nI 8380417 by decide) ?_
                              refine lv_iadd hx hb dMH_keys_558 ?_
                              refine mi_any (fun z38 => ?_)
                              refine lv_goto (tgt := 569) hx hb dMH_keys_559 (by decide) ?_
                              refine mp_v (cx := []) (wr := []) hP hD hS hA [] [] rfl rfl rfl (by decide) (va_runSN (As := [.ref sk, .int (nI az24), .int (nI 4), .int z38]) (rest := []) F (t_M_pack l g _ T [] pl hO hU clo_nil sk 4896 az24 4 z38 k_sk (by omega) (by omega)) ⟨va_cnB 4 hts (wg_in kw_1690) rfl rfl rfl (hE.2.2.2.2.2.2.2.2.2.1) (hts _ (wg_t kw_9)) (by decide +kernel) ⟨by decide, by decide⟩, hts _ (wg_t kw_1689), trivial⟩ (pp_S (en_ok g) hP hD hS hA hE [] rfl rfl) rfl rfl hl.1 rfl (lv_room (Nat.le_of_ble_eq_true rfl)) dMH_keys_569 ⟨by omega, by omega⟩) (fun  pl H locs hu38 hP hD hS => ?_)
                              obtain ⟨hq38, hO⟩ := hu38
                              have hP : va_P g.1 vcl ([] ++ pl) _ := hP
                              have hD : va_D _ ([] ++ pl) := hD
                              refine W.widen (k := 0) (n := 0) (by omega) (by omega) ?_
                              refine lv_iload hx hb dMH_keys_572 (lv_at hl 3 rfl) ?_
                              refine lv_iload hx hb dMH_keys_574 (lv_at hl 4 rfl) ?_
                              refine mi_iadd hx hb dMH_keys_576 ?_
                              refine lv_istore (lv' := [(6, .int (nI (az24 + 4))), (9, .int z35), (8, .int (nI i28)), (7, .int (nI i25)), (5, .int (nI 4)), (0, .ref h0), (4, .ref sk)]) hx hb dMH_keys_577 hl (by decide) rfl (fun ls hl => ?_)
                              refine mi_iinc (k := 2) (x := i28) (d := 1) (y := i28 + 1) (lv' := [(8, .int (nI (i28 + 1))), (6, .int (nI (az24 + 4))), (9, .int z35), (7, .int (nI i25)), (5, .int (nI 4)), (0, .ref h0), (4, .ref sk)]) hx hb dMH_keys_579 hl rfl (by decide) rfl (by decide) rfl (fun ls hl => ?_)
                              refine lv_goto (tgt := 487) hx hb dMH_keys_582 (by decide) ?_
                              exact ih28 (i28 + 1) (az24 + 4) pl ls H locs (by omega) (by omega) (lv_sub hl [0, 3, 1, 4, 5, 6] rfl) hO hP hD hS
                      exact lp28 256 0 az21 pl ls _ _ (by omega) (by omega) (lv_sub hl [0, 1, 2, 3, 4, 5] rfl) hO hP hD hS
                  exact lp25 11 0 1024 pl ls _ _ (by omega) (by omega) (lv_sub hl [0, 1, 2, 3, 5] rfl) hO hP hD hS
                | succ n24 ih24 =>
                  intro i24 pl ls H locs hm24  hl hO hP hD hS
                  refine lv_iload hx hb dMH_keys_340 (lv_at hl 0 rfl) ?_
                  refine lv_aload_n hx hb dMH_keys_342 rfl (lv_at hl 1 rfl) ?_
                  refine ty_get (ci := 12) (C := "LatticeKeysModel$Hands") (TT := T_MH) (N := 31) (kd := (47, 0)) hx hb hts (wg_ft i_MH) hown hK hO k_h0 (nxg clo_nil k_h0 rfl) hP (fun _ h9 => h9) rfl 24 (by decide) (hts _ (wg_t kw_1456)) (fun _ h9 => h9) (cd := (1, 0, 6)) rfl dMH_keys_343 (fun v88 hv88 => ?_)
                  obtain rfl := (show v88 = .int (nI 6) from hv88)
                  refine mi_ge (tgt := 404) hx hb dMH_keys_346 (by decide) (by omega) (by omega) (fun h37 => absurd h37 (by omega)) (fun h37 => ?_)
                  refine lv_iconst (v := nI 0) hx hb dMH_keys_349 (by decide) ?_
                  refine lv_istore (lv' := [(6, .int (nI 0)), (5, .int (nI i24)), (0, .ref h0), (3, .ref pk), (4, .ref sk)]) hx hb dMH_keys_350 hl (by decide) rfl (fun ls hl => ?_)
                  have lp29 : ∀ (n29 : Nat) (i29 : Nat) (pl : va_W) (ls : Array Slot) (H : Heap) (locs : List Loc), n29 + i29 = 256 → lv_has ls 10 [(6, .int (nI i29)), (5, .int (nI i24)), (0, .ref h0), (3, .ref pk), (4, .ref sk)] → okx g T [] pl → va_P g.1 vcl ([] ++ pl) H → va_D A ([] ++ pl) → va_S A s.heap H locs → W p l e ({ frames := 4, cells := 0, slots := 0, locals := 98 } : Room) s m args below meth c H locs 0 0 (MQ below (va_Qv (fun (u : va_W) => (True) ∧ okx g T0 [] u) (po g.1 vcl A (fun (u : va_W) => [] ++ u)) A) args s 0 0 A) (F0 m 352 ls []) := by
                    intro n29
                    induction n29 with
                    | zero =>
                      intro i29 pl ls H locs hm29  hl hO hP hD hS
                      refine lv_iload hx hb dMH_keys_352 (lv_at hl 0 rfl) ?_
                      refine lv_sipush (v := nI 256) hx hb dMH_keys_354 (by decide) ?_
                      refine mi_ge (tgt := 398) hx hb dMH_keys_357 (by decide) (by omega) (by omega) (fun h38 => ?_) (fun h38 => absurd h38 (by omega))
                      refine mi_iinc (k := 1) (x := i24) (d := 1) (y := i24 + 1) (lv' := [(5, .int (nI (i24 + 1))), (6, .int (nI i29)), (0, .ref h0), (3, .ref pk), (4, .ref sk)]) hx hb dMH_keys_398 hl rfl (by decide) rfl (by decide) rfl (fun ls hl => ?_)
                      refine lv_goto (tgt := 340) hx hb dMH_keys_401 (by decide) ?_
                      exact ih24 (i24 + 1) pl ls H locs (by omega) (lv_sub hl [0, 2, 3, 4] rfl) hO hP hD hS
                    | succ n29 ih29 =>
                      intro i29 pl ls H locs hm29  hl hO hP hD hS
                      refine lv_iload hx hb dMH_keys_352 (lv_at hl 0 rfl) ?_
                      refine lv_sipush (v := nI 256) hx hb dMH_keys_354 (by decide) ?_
                      refine mi_ge (tgt := 398) hx hb dMH_keys_357 (by decide) (by omega) (by omega) (fun h39 => absurd h39 (by omega)) (fun h39 => ?_)
                      refine lv_aload_n hx hb dMH_keys_360 rfl (lv_at hl 3 rfl) ?_
                      refine lv_sipush (v := nI 256) hx hb dMH_keys_361 (by decide) ?_
                      refine lv_sipush (v := nI 2560) hx hb dMH_keys_364 (by decide) ?_
                      refine lv_iload hx hb dMH_keys_367 (lv_at hl 1 rfl) ?_
                      refine mi_imul hx hb dMH_keys_369 ?_
                      refine mi_iadd hx hb dMH_keys_370 ?_
                      refine lv_bipush (v := nI 10) hx hb dMH_keys_371 (by decide) ?_
                      refine lv_iload hx hb dMH_keys_373 (lv_at hl 0 rfl) ?_
                      refine mi_imul hx hb dMH_keys_375 ?_
                      refine mi_iadd hx hb dMH_keys_376 ?_
                      refine lv_bipush (v := nI 10) hx hb dMH_keys_377 (by decide) ?_
                      refine lv_aload_n hx hb dMH_keys_379 rfl (lv_at hl 2 rfl) ?_
                      refine ty_get (ci := 12) (C := "LatticeKeysModel$Hands") (TT := T_MH) (N := 31) (kd := (47, 0)) hx hb hts (wg_ft i_MH) hown hK hO k_h0 (nxg clo_nil k_h0 rfl) hP (fun _ h9 => h9) rfl 6 (by decide) (hts _ (wg_t kw_1438)) (fun _ h9 => h9) (cd := (3, 3, 8)) rfl dMH_keys_380 (fun v89 hv89 => ?_)
                      obtain ⟨r63, rfl, kr62⟩ := (show ∃ r : Nat, v89 = .ref r ∧ T r = some (3, 8) from hv89)
                      refine lv_iload hx hb dMH_keys_383 (lv_at hl 1 rfl) ?_
                      refine ty_aald3 hx hb hK hO kr62 (nxg clo_nil kr62 rfl) hP (by omega) (by decide) dMH_keys_385 (fun r64 kr63 => ?_)
                      refine lv_iload hx hb dMH_keys_386 (lv_at hl 0 rfl) ?_
                      refine ty_iald hx hb hK hO kr63 (nxg clo_nil kr63 rfl) hP (vp_in_nI (by omega) (by decide)) dMH_keys_388 (fun z39 => ?_)
                      refine mp_v (cx := []) (wr := []) hP hD hS hA [] [] rfl rfl rfl (by decide) (va_runSN (As := [.ref pk, .int (nI ((256 + (2560 * i24)) + (10 * i29))), .int (nI 10), .int z39]) (rest := []) F (t_M_pack l g _ T [] pl hO hU clo_nil pk 2592 ((256 + (2560 * i24)) + (10 * i29)) 10 z39 k_pk (by omega) (by omega)) ⟨va_cnB 4 hts (wg_in kw_1690) rfl rfl rfl (hE.2.2.2.2.2.2.2.2.2.1) (hts _ (wg_t kw_9)) (by decide +kernel) ⟨by decide, by decide⟩, hts _ (wg_t kw_1689), trivial⟩ (pp_S (en_ok g) hP hD hS hA hE [] rfl rfl) rfl rfl hl.1 rfl (lv_room (Nat.le_of_ble_eq_true rfl)) dMH_keys_389 ⟨by omega, by omega⟩) (fun  pl H locs hu39 hP hD hS => ?_)
                      obtain ⟨hq39, hO⟩ := hu39
                      have hP : va_P g.1 vcl ([] ++ pl) _ := hP
                      have hD : va_D _ ([] ++ pl) := hD
                      refine W.widen (k := 0) (n := 0) (by omega) (by omega) ?_
                      refine mi_iinc (k := 0) (x := i29) (d := 1) (y := i29 + 1) (lv' := [(6, .int (nI (i29 + 1))), (5, .int (nI i24)), (0, .ref h0), (3, .ref pk), (4, .ref sk)]) hx hb dMH_keys_392 hl rfl (by decide) rfl (by decide) rfl (fun ls hl => ?_)
                      refine lv_goto (tgt := 352) hx hb dMH_keys_395 (by decide) ?_
                      exact ih29 (i29 + 1) pl ls H locs (by omega) (lv_sub hl [0, 1, 2, 3, 4] rfl) hO hP hD hS
                  exact lp29 256 0 pl ls _ _ (by omega) (lv_sub hl [0, 1, 2, 3, 4] rfl) hO hP hD hS
              exact lp24 6 0 pl ls _ _ (by omega) (lv_sub hl [0, 1, 2, 3] rfl) hO hP hD hS
            | succ n23 ih23 =>
              intro i23 pl ls H locs hm23  hl hO hP hD hS
              refine lv_iload hx hb dMH_keys_283 (lv_at hl 0 rfl) ?_
              refine lv_bipush (v := nI 32) hx hb dMH_keys_285 (by decide) ?_
              refine mi_ge (tgt := 337) hx hb dMH_keys_287 (by decide) (by omega) (by omega) (fun h40 => absurd h40 (by omega)) (fun h40 => ?_)
              refine lv_aload_n hx hb dMH_keys_290 rfl (lv_at hl 2 rfl) ?_
              refine lv_iload hx hb dMH_keys_291 (lv_at hl 0 rfl) ?_
              refine lv_aload_n hx hb dMH_keys_293 rfl (lv_at hl 1 rfl) ?_
              refine ty_get (ci := 12) (C := "LatticeKeysModel$Hands") (TT := T_MH) (N := 31) (kd := (47, 0)) hx hb hts (wg_ft i_MH) hown hK hO k_h0 (nxg clo_nil k_h0 rfl) hP (fun _ h9 => h9) rfl 16 (by decide) (hts _ (wg_t kw_1448)) (fun _ h9 => h9) (cd := (3, 1, 128)) rfl dMH_keys_294 (fun v90 hv90 => ?_)
              obtain ⟨r65, rfl, kr64⟩ := (show ∃ r : Nat, v90 = .ref r ∧ T r = some (1, 128) from hv90)
              refine lv_iload hx hb dMH_keys_297 (lv_at hl 0 rfl) ?_
              refine ty_bald hx hb hK hO kr64 (nxg clo_nil kr64 rfl) hP (vp_in_nI (by omega) (by decide)) dMH_keys_299 (fun z40 => ?_)
              refine ty_bast hx hb hK hO k_pk (nxg clo_nil k_pk rfl) hP hD hS (vp_in_nI (by omega) (by decide)) dMH_keys_300 (fun pl H locs hO hP hD hS => ?_)
              refine lv_aload hx hb dMH_keys_301 (lv_at hl 3 rfl) ?_
              refine lv_iload hx hb dMH_keys_303 (lv_at hl 0 rfl) ?_
              refine lv_aload_n hx hb dMH_keys_305 rfl (lv_at hl 1 rfl) ?_
              refine ty_get (ci := 12) (C := "LatticeKeysModel$Hands") (TT := T_MH) (N := 31) (kd := (47, 0)) hx hb hts (wg_ft i_MH) hown hK hO k_h0 (nxg clo_nil k_h0 rfl) hP (fun _ h9 => h9) rfl 16 (by decide) (hts _ (wg_t kw_1448)) (fun _ h9 => h9) (cd := (3, 1, 128)) rfl dMH_keys_306 (fun v91 hv91 => ?_)
              obtain ⟨r66, rfl, kr65⟩ := (show ∃ r : Nat, v91 = .ref r ∧ T r = some (1, 128) from hv91)
              refine lv_iload hx hb dMH_keys_309 (lv_at hl 0 rfl) ?_
              refine ty_bald hx hb hK hO kr65 (nxg clo_nil kr65 rfl) hP (vp_in_nI (by omega) (by decide)) dMH_keys_311 (fun z41 => ?_)
              refine ty_bast hx hb hK hO k_sk (nxg clo_nil k_sk rfl) hP hD hS (vp_in_nI (by omega) (by decide)) dMH_keys_312 (fun pl H locs hO hP hD hS => ?_)
              refine lv_aload hx hb dMH_keys_313 (lv_at hl 3 rfl) ?_
              refine lv_bipush (v := nI 32) hx hb dMH_keys_315 (by decide) ?_
              refine lv_iload hx hb dMH_keys_317 (lv_at hl 0 rfl) ?_
              refine mi_iadd hx hb dMH_keys_319 ?_
              refine lv_aload_n hx hb dMH_keys_320 rfl (lv_at hl 1 rfl) ?_
              refine ty_get (ci := 12) (C := "LatticeKeysModel$Hands") (TT := T_MH) (N := 31) (kd := (47, 0)) hx hb hts (wg_ft i_MH) hown hK hO k_h0 (nxg clo_nil k_h0 rfl) hP (fun _ h9 => h9) rfl 16 (by decide) (hts _ (wg_t kw_1448)) (fun _ h9 => h9) (cd := (3, 1, 128)) rfl dMH_keys_321 (fun v92 hv92 => ?_)
              obtain ⟨r67, rfl, kr66⟩ := (show ∃ r : Nat, v92 = .ref r ∧ T r = some (1, 128) from hv92)
              refine lv_bipush (v := nI 96) hx hb dMH_keys_324 (by decide) ?_
              refine lv_iload hx hb dMH_keys_326 (lv_at hl 0 rfl) ?_
              refine mi_iadd hx hb dMH_keys_328 ?_
              refine ty_bald hx hb hK hO kr66 (nxg clo_nil kr66 rfl) hP (vp_in_nI (by omega) (by decide)) dMH_keys_329 (fun z42 => ?_)
              refine ty_bast hx hb hK hO k_sk (nxg clo_nil k_sk rfl) hP hD hS (vp_in_nI (by omega) (by decide)) dMH_keys_330 (fun pl H locs hO hP hD hS => ?_)
              refine mi_iinc (k := 0) (x := i23) (d := 1) (y := i23 + 1) (lv' := [(5, .int (nI (i23 + 1))), (0, .ref h0), (3, .ref pk), (4, .ref sk)]) hx hb dMH_keys_331 hl rfl (by decide) rfl (by decide) rfl (fun ls hl => ?_)
              refine lv_goto (tgt := 283) hx hb dMH_keys_334 (by decide) ?_
              exact ih23 (i23 + 1) pl ls H locs (by omega) (lv_sub hl [0, 1, 2, 3] rfl) hO hP hD hS
          exact lp23 32 0 pl ls _ _ (by omega) (lv_sub hl [0, 1, 2, 3] rfl) hO hP hD hS
        | succ n22 ih22 =>
          intro i22 pl ls H locs hm22  hl hO hP hD hS
          refine lv_iload hx hb dMH_keys_138 (lv_at hl 0 rfl) ?_
          refine lv_aload_n hx hb dMH_keys_140 rfl (lv_at hl 1 rfl) ?_
          refine ty_get (ci := 12) (C := "LatticeKeysModel$Hands") (TT := T_MH) (N := 31) (kd := (47, 0)) hx hb hts (wg_ft i_MH) hown hK hO k_h0 (nxg clo_nil k_h0 rfl) hP (fun _ h9 => h9) rfl 24 (by decide) (hts _ (wg_t kw_1456)) (fun _ h9 => h9) (cd := (1, 0, 6)) rfl dMH_keys_141 (fun v93 hv93 => ?_)
          obtain rfl := (show v93 = .int (nI 6) from hv93)
          refine mi_ge (tgt := 280) hx hb dMH_keys_144 (by decide) (by omega) (by omega) (fun h41 => absurd h41 (by omega)) (fun h41 => ?_)
          refine lv_aload_n hx hb dMH_keys_147 rfl (lv_at hl 1 rfl) ?_
          refine lv_aload_n hx hb dMH_keys_148 rfl (lv_at hl 1 rfl) ?_
          refine ty_get (ci := 12) (C := "LatticeKeysModel$Hands") (TT := T_MH) (N := 31) (kd := (47, 0)) hx hb hts (wg_ft i_MH) hown hK hO k_h0 (nxg clo_nil k_h0 rfl) hP (fun _ h9 => h9) rfl 4 (by decide) (hts _ (wg_t kw_1436)) (fun _ h9 => h9) (cd := (3, 3, 8)) rfl dMH_keys_149 (fun v94 hv94 => ?_)
          obtain ⟨r68, rfl, kr67⟩ := (show ∃ r : Nat, v94 = .ref r ∧ T r = some (3, 8) from hv94)
          refine lv_iload hx hb dMH_keys_152 (lv_at hl 0 rfl) ?_
          refine ty_aald3 hx hb hK hO kr67 (nxg clo_nil kr67 rfl) hP (by omega) (by decide) dMH_keys_154 (fun r69 kr68 => ?_)
          refine lv_aload_n hx hb dMH_keys_155 rfl (lv_at hl 1 rfl) ?_
          refine ty_get (ci := 12) (C := "LatticeKeysModel$Hands") (TT := T_MH) (N := 31) (kd := (47, 0)) hx hb hts (wg_ft i_MH) hown hK hO k_h0 (nxg clo_nil k_h0 rfl) hP (fun _ h9 => h9) rfl 16 (by decide) (hts _ (wg_t kw_1448)) (fun _ h9 => h9) (cd := (3, 1, 128)) rfl dMH_keys_156 (fun v95 hv95 => ?_)
          obtain ⟨r70, rfl, kr69⟩ := (show ∃ r : Nat, v95 = .ref r ∧ T r = some (1, 128) from hv95)
          refine lv_bipush (v := nI 32) hx hb dMH_keys_159 (by decide) ?_
          refine lv_iload hx hb dMH_keys_161 (lv_at hl 0 rfl) ?_
          refine lv_aload_n hx hb dMH_keys_163 rfl (lv_at hl 1 rfl) ?_
          refine ty_get (ci := 12) (C := "LatticeKeysModel$Hands") (TT := T_MH) (N := 31) (kd := (47, 0)) hx hb hts (wg_ft i_MH) hown hK hO k_h0 (nxg clo_nil k_h0 rfl) hP (fun _ h9 => h9) rfl 25 (by decide) (hts _ (wg_t kw_1457)) (fun _ h9 => h9) (cd := (1, 0, 5)) rfl dMH_keys_164 (fun v96 hv96 => ?_)
          obtain rfl := (show v96 = .int (nI 5) from hv96)
          refine mi_iadd hx hb dMH_keys_167 ?_
          refine mp_v (cx := []) (wr := []) hP hD hS hA [] [] rfl rfl rfl (by decide) (va_runV (As := [.ref r69, .ref r70, .int (nI 32), .int (nI (i22 + 5))]) (rest := []) F (t_MH_small_1 l g _ T [] pl hO hU clo_nil clo_nil h0 r69 r70 128 32 (nI (i22 + 5)) k_h0 kr68 kr69 (by omega) (by omega)) (cwV 4 hts (wg_app (wg_c kw_1729 (wg_c kw_1731 (wg_c ks_62 (wg_c kw_13 wg_n)))) kw_1732) rfl rfl rfl (by decide +kernel) ⟨by decide, by decide⟩) (pp_VT (en_ok g) (ci := 12) (kd := (47, 0)) hK hO k_h0 (nxg clo_nil k_h0 rfl) (fun _ h9 => ko1 h9) hP hD hS hA hE [] rfl rfl rfl) rfl rfl hl.1 rfl (lv_room (Nat.le_of_ble_eq_true rfl)) dMH_keys_168 ⟨by omega, by omega⟩) (fun  pl H locs hu40 hP hD hS => ?_)
          obtain ⟨hq40, hO⟩ := hu40
          have hP : va_P g.1 vcl ([] ++ pl) _ := hP
          have hD : va_D _ ([] ++ pl) := hD
          refine W.widen (k := 0) (n := 0) (by omega) (by omega) ?_
          refine lv_aload_n hx hb dMH_keys_171 rfl (lv_at hl 1 rfl) ?_
          refine lv_iload hx hb dMH_keys_172 (lv_at hl 0 rfl) ?_
          refine lv_aload_n hx hb dMH_keys_174 rfl (lv_at hl 1 rfl) ?_
          refine ty_get (ci := 12) (C := "LatticeKeysModel$Hands") (TT := T_MH) (N := 31) (kd := (47, 0)) hx hb hts (wg_ft i_MH) hown hK hO k_h0 (nxg clo_nil k_h0 rfl) hP (fun _ h9 => h9) rfl 13 (by decide) (hts _ (wg_t kw_1445)) (fun _ h9 => h9) (cd := (3, 0, 256)) rfl dMH_keys_175 (fun v97 hv97 => ?_)
          obtain ⟨r71, rfl, kr70⟩ := (show ∃ r : Nat, v97 = .ref r ∧ T r = some (0, 256) from hv97)
          refine mp_v (cx := []) (wr := []) hP hD hS hA [] [] rfl rfl rfl (by decide) (va_runV (As := [.int (nI i22), .ref r71]) (rest := []) F (t_MH_rowBy_1 l g _ T [] pl hO hU clo_nil h0 r71 i22 k_h0 kr70 (by omega)) (cwV 2 hts (wg_app (wg_c kw_1734 (wg_c kw_1736 (wg_c ks_63 (wg_c kw_13 wg_n)))) kw_1737) rfl rfl rfl (by decide +kernel) ⟨by decide, by decide⟩) (pp_VT (en_ok g) (ci := 12) (kd := (47, 0)) hK hO k_h0 (nxg clo_nil k_h0 rfl) (fun _ h9 => ko1 h9) hP hD hS hA hE [] rfl rfl rfl) rfl rfl hl.1 rfl (lv_room (Nat.le_of_ble_eq_true rfl)) dMH_keys_178 ⟨by omega, by omega⟩) (fun  pl H locs hu41 hP hD hS => ?_)
          obtain ⟨hq41, hO⟩ := hu41
          have hP : va_P g.1 vcl ([] ++ pl) _ := hP
          have hD : va_D _ ([] ++ pl) := hD
          refine W.widen (k := 0) (n := 0) (by omega) (by omega) ?_
          refine lv_iconst (v := nI 0) hx hb dMH_keys_181 (by decide) ?_
          refine lv_istore (lv' := [(6, .int (nI 0)), (5, .int (nI i22)), (0, .ref h0), (3, .ref pk), (4, .ref sk)]) hx hb dMH_keys_182 hl (by decide) rfl (fun ls hl => ?_)
          have lp30 : ∀ (n30 : Nat) (i30 : Nat) (pl : va_W) (ls : Array Slot) (H : Heap) (locs : List Loc), n30 + i30 = 256 → lv_has ls 10 [(6, .int (nI i30)), (5, .int (nI i22)), (0, .ref h0), (3, .ref pk), (4, .ref sk)] → okx g T [] pl → va_P g.1 vcl ([] ++ pl) H → va_D A ([] ++ pl) → va_S A s.heap H locs → W p l e ({ frames := 4, cells := 0, slots := 0, locals := 98 } : Room) s m args below meth c H locs 0 0 (MQ below (va_Qv (fun (u : va_W) => (True) ∧ okx g T0 [] u) (po g.1 vcl A (fun (u : va_W) => [] ++ u)) A) args s 0 0 A) (F0 m 184 ls []) := by
            intro n30
            induction n30 with
            | zero =>
              intro i30 pl ls H locs hm30  hl hO hP hD hS
              refine lv_iload hx hb dMH_keys_184 (lv_at hl 0 rfl) ?_
              refine lv_sipush (v := nI 256) hx hb dMH_keys_186 (by decide) ?_
              refine mi_ge (tgt := 274) hx hb dMH_keys_189 (by decide) (by omega) (by omega) (fun h42 => ?_) (fun h42 => absurd h42 (by omega))
              refine mi_iinc (k := 1) (x := i22) (d := 1) (y := i22 + 1) (lv' := [(5, .int (nI (i22 + 1))), (6, .int (nI i30)), (0, .ref h0), (3, .ref pk), (4, .ref sk)]) hx hb dMH_keys_274 hl rfl (by decide) rfl (by decide) rfl (fun ls hl => ?_)
              refine lv_goto (tgt := 138) hx hb dMH_keys_277 (by decide) ?_
              exact ih22 (i22 + 1) pl ls H locs (by omega) (lv_sub hl [0, 2, 3, 4] rfl) hO hP hD hS
            | succ n30 ih30 =>
              intro i30 pl ls H locs hm30  hl hO hP hD hS
              refine lv_iload hx hb dMH_keys_184 (lv_at hl 0 rfl) ?_
              refine lv_sipush (v := nI 256) hx hb dMH_keys_186 (by decide) ?_
              refine mi_ge (tgt := 274) hx hb dMH_keys_189 (by decide) (by omega) (by omega) (fun h43 => absurd h43 (by omega)) (fun h43 => ?_)
              refine lv_aload_n hx hb dMH_keys_192 rfl (lv_at hl 2 rfl) ?_
              refine ty_get (ci := 12) (C := "LatticeKeysModel$Hands") (TT := T_MH) (N := 31) (kd := (47, 0)) hx hb hts (wg_ft i_MH) hown hK hO k_h0 (nxg clo_nil k_h0 rfl) hP (fun _ h9 => h9) rfl 13 (by decide) (hts _ (wg_t kw_1445)) (fun _ h9 => h9) (cd := (3, 0, 256)) rfl dMH_keys_193 (fun v98 hv98 => ?_)
              obtain ⟨r72, rfl, kr71⟩ := (show ∃ r : Nat, v98 = .ref r ∧ T r = some (0, 256) from hv98)
              refine lv_iload hx hb dMH_keys_196 (lv_at hl 0 rfl) ?_
              refine ty_iald hx hb hK hO kr71 (nxg clo_nil kr71 rfl) hP (vp_in_nI (by omega) (by decide)) dMH_keys_198 (fun z43 => ?_)
              refine lv_aload_n hx hb dMH_keys_199 rfl (lv_at hl 2 rfl) ?_
              refine ty_get (ci := 12) (C := "LatticeKeysModel$Hands") (TT := T_MH) (N := 31) (kd := (47, 0)) hx hb hts (wg_ft i_MH) hown hK hO k_h0 (nxg clo_nil k_h0 rfl) hP (fun _ h9 => h9) rfl 4 (by decide) (hts _ (wg_t kw_1436)) (fun _ h9 => h9) (cd := (3, 3, 8)) rfl dMH_keys_200 (fun v99 hv99 => ?_)
              obtain ⟨r73, rfl, kr72⟩ := (show ∃ r : Nat, v99 = .ref r ∧ T r = some (3, 8) from hv99)
              refine lv_iload hx hb dMH_keys_203 (lv_at hl 1 rfl) ?_
              refine ty_aald3 hx hb hK hO kr72 (nxg clo_nil kr72 rfl) hP (by omega) (by decide) dMH_keys_205 (fun r74 kr73 => ?_)
              refine lv_iload hx hb dMH_keys_206 (lv_at hl 0 rfl) ?_
              refine ty_iald hx hb hK hO kr73 (nxg clo_nil kr73 rfl) hP (vp_in_nI (by omega) (by decide)) dMH_keys_208 (fun z44 => ?_)
              refine lv_iadd hx hb dMH_keys_209 ?_
              refine mi_any (fun z45 => ?_)
              refine lv_ldc (v := 8380417) hx hb hown (hts _ (wg_t kw_1429)) dMH_keys_210 ?_
              refine mi_as (show (8380417 : Int32) = nI 8380417 by decide) ?_
              refine lv_irem hx hb dMH_keys_212 (nI_ne0 (by omega) (by omega)) ?_
              refine mi_any (fun z46 => ?_)
              refine lv_istore (lv' := [(7, .int z46), (6, .int (nI i30)), (5, .int (nI i22)), (0, .ref h0), (3, .ref pk), (4, .ref sk)]) hx hb dMH_keys_213 hl (by decide) rfl (fun ls hl => ?_)
              refine lv_iload hx hb dMH_keys_215 (lv_at hl 0 rfl) ?_
              refine lv_sipush (v := nI 8192) hx hb dMH_keys_217 (by decide) ?_
              refine lv_irem hx hb dMH_keys_220 (nI_ne0 (by omega) (by omega)) ?_
              refine mi_any (fun z47 => ?_)
              refine lv_istore (lv' := [(8, .int z47), (7, .int z46), (6, .int (nI i30)), (5, .int (nI i22)), (0, .ref h0), (3, .ref pk), (4, .ref sk)]) hx hb dMH_keys_221 hl (by decide) rfl (fun ls hl => ?_)
              refine lv_iload hx hb dMH_keys_223 (lv_at hl 0 rfl) ?_
              refine lv_sipush (v := nI 4096) hx hb dMH_keys_225 (by decide) ?_
              refine lv_icmp_le (tgt := 237) hx hb dMH_keys_228 (by decide) (fun h44 => ?_) (fun h44 => ?_)
              · refine lv_aload_n hx hb dMH_keys_237 rfl (lv_at hl 4 rfl) ?_
                refine ty_get (ci := 12) (C := "LatticeKeysModel$Hands") (TT := T_MH) (N := 31) (kd := (47, 0)) hx hb hts (wg_ft i_MH) hown hK hO k_h0 (nxg clo_nil k_h0 rfl) hP (fun _ h9 => h9) rfl 5 (by decide) (hts _ (wg_t kw_1437)) (fun _ h9 => h9) (cd := (3, 3, 8)) rfl dMH_keys_238 (fun v100 hv100 => ?_)
                obtain ⟨r75, rfl, kr74⟩ := (show ∃ r : Nat, v100 = .ref r ∧ T r = some (3, 8) from hv100)
                refine lv_iload hx hb dMH_keys_241 (lv_at hl 3 rfl) ?_
                refine ty_aald3 hx hb hK hO kr74 (nxg clo_nil kr74 rfl) hP (by omega) (by decide) dMH_keys_243 (fun r76 kr75 => ?_)
                refine lv_iload hx hb dMH_keys_244 (lv_at hl 2 rfl) ?_
                refine lv_iload hx hb dMH_keys_246 (lv_at hl 0 rfl) ?_
                refine ty_iast hx hb hK hO kr75 (nxg clo_nil kr75 rfl) hP hD hS (vp_in_nI (by omega) (by decide)) dMH_keys_248 (fun pl H locs hO hP hD hS => ?_)
                refine lv_aload_n hx hb dMH_keys_249 rfl (lv_at hl 4 rfl) ?_
                refine ty_get (ci := 12) (C := "LatticeKeysModel$Hands") (TT := T_MH) (N := 31) (kd := (47, 0)) hx hb hts (wg_ft i_MH) hown hK hO k_h0 (nxg clo_nil k_h0 rfl) hP (fun _ h9 => h9) rfl 6 (by decide) (hts _ (wg_t kw_1438)) (fun _ h9 => h9) (cd := (3, 3, 8)) rfl dMH_keys_250 (fun v101 hv101 => ?_)
                obtain ⟨r77, rfl, kr76⟩ := (show ∃ r : Nat, v101 = .ref r ∧ T r = some (3, 8) from hv101)
                refine lv_iload hx hb dMH_keys_253 (lv_at hl 3 rfl) ?_
                refine ty_aald3 hx hb hK hO kr76 (nxg clo_nil kr76 rfl) hP (by omega) (by decide) dMH_keys_255 (fun r78 kr77 => ?_)
                refine lv_iload hx hb dMH_keys_256 (lv_at hl 2 rfl) ?_
                refine lv_iload hx hb dMH_keys_258 (lv_at hl 1 rfl) ?_
                refine lv_iload hx hb dMH_keys_260 (lv_at hl 0 rfl) ?_
                refine lv_isub hx hb dMH_keys_262 ?_
                refine mi_any (fun z48 => ?_)
                refine lv_sipush (v := nI 8192) hx hb dMH_keys_263 (by decide) ?_
                refine lv_idiv hx hb dMH_keys_266 (nI_ne0 (by omega) (by omega)) ?_
                refine mi_any (fun z49 => ?_)
                refine ty_iast hx hb hK hO kr77 (nxg clo_nil kr77 rfl) hP hD hS (vp_in_nI (by omega) (by decide)) dMH_keys_267 (fun pl H locs hO hP hD hS => ?_)
                refine mi_iinc (k := 2) (x := i30) (d := 1) (y := i30 + 1) (lv' := [(6, .int (nI (i30 + 1))), (8, .int z47), (7, .int z46), (5, .int (nI i22)), (0, .ref h0), (3, .ref pk), (4, .ref sk)]) hx hb dMH_keys_268 hl rfl (by decide) rfl (by decide) rfl (fun ls hl => ?_)
                refine lv_goto (tgt := 184) hx hb dMH_keys_271 (by decide) ?_
                exact ih30 (i30 + 1) pl ls H locs (by omega) (lv_sub hl [0, 3, 4, 5, 6] rfl) hO hP hD hS
              · refine mi_iincR (k := 0) (lv' := fun z => [(8, .int z), (7, .int z46), (6, .int (nI i30)), (5, .int (nI i22)), (0, .ref h0), (3, .ref pk), (4, .ref sk)]) hx hb dMH_keys_231 hl rfl (by decide) (fun _ => rfl) (fun z50 ls hl => ?_)
                refine lv_aload_n hx hb dMH_keys_237 rfl (lv_at hl 4 rfl) ?_
                refine ty_get (ci := 12) (C := "LatticeKeysModel$Hands") (TT := T_MH) (N := 31) (kd := (47, 0)) hx hb hts (wg_ft i_MH) hown hK hO k_h0 (nxg clo_nil k_h0 rfl) hP (fun _ h9 => h9) rfl 5 (by decide) (hts _ (wg_t kw_1437)) (fun _ h9 => h9) (cd := (3, 3, 8)) rfl dMH_keys_238 (fun v102 hv102 => ?_)
                obtain ⟨r79, rfl, kr78⟩ := (show ∃ r : Nat, v102 = .ref r ∧ T r = some (3, 8) from hv102)
                refine lv_iload hx hb dMH_keys_241 (lv_at hl 3 rfl) ?_
                refine ty_aald3 hx hb hK hO kr78 (nxg clo_nil kr78 rfl) hP (by omega) (by decide) dMH_keys_243 (fun r80 kr79 => ?_)
                refine lv_iload hx hb dMH_keys_244 (lv_at hl 2 rfl) ?_
                refine lv_iload hx hb dMH_keys_246 (lv_at hl 0 rfl) ?_
                refine ty_iast hx hb hK hO kr79 (nxg clo_nil kr79 rfl) hP hD hS (vp_in_nI (by omega) (by decide)) dMH_keys_248 (fun pl H locs hO hP hD hS => ?_)
                refine lv_aload_n hx hb dMH_keys_249 rfl (lv_at hl 4 rfl) ?_
                refine ty_get (ci := 12) (C := "LatticeKeysModel$Hands") (TT := T_MH) (N := 31) (kd := (47, 0)) hx hb hts (wg_ft i_MH) hown hK hO k_h0 (nxg clo_nil k_h0 rfl) hP (fun _ h9 => h9) rfl 6 (by decide) (hts _ (wg_t kw_1438)) (fun _ h9 => h9) (cd := (3, 3, 8)) rfl dMH_keys_250 (fun v103 hv103 => ?_)
                obtain ⟨r81, rfl, kr80⟩ := (show ∃ r : Nat, v103 = .ref r ∧ T r = some (3, 8) from hv103)
                refine lv_iload hx hb dMH_keys_253 (lv_at hl 3 rfl) ?_
                refine ty_aald3 hx hb hK hO kr80 (nxg clo_nil kr80 rfl) hP (by omega) (by decide) dMH_keys_255 (fun r82 kr81 => ?_)
                refine lv_iload hx hb dMH_keys_256 (lv_at hl 2 rfl) ?_
                refine lv_iload hx hb dMH_keys_258 (lv_at hl 1 rfl) ?_
                refine lv_iload hx hb dMH_keys_260 (lv_at hl 0 rfl) ?_
                refine lv_isub hx hb dMH_keys_262 ?_
                refine mi_any (fun z51 => ?_)
                refine lv_sipush (v := nI 8192) hx hb dMH_keys_263 (by decide) ?_
                refine lv_idiv hx hb dMH_keys_266 (nI_ne0 (by omega) (by omega)) ?_
                refine mi_any (fun z52 => ?_)
                refine ty_iast hx hb hK hO kr81 (nxg clo_nil kr81 rfl) hP hD hS (vp_in_nI (by omega) (by decide)) dMH_keys_267 (fun pl H locs hO hP hD hS => ?_)
                refine mi_iinc (k := 2) (x := i30) (d := 1) (y := i30 + 1) (lv' := [(6, .int (nI (i30 + 1))), (8, .int z50), (7, .int z46), (5, .int (nI i22)), (0, .ref h0), (3, .ref pk), (4, .ref sk)]) hx hb dMH_keys_268 hl rfl (by decide) rfl (by decide) rfl (fun ls hl => ?_)
                refine lv_goto (tgt := 184) hx hb dMH_keys_271 (by decide) ?_
                exact ih30 (i30 + 1) pl ls H locs (by omega) (lv_sub hl [0, 3, 4, 5, 6] rfl) hO hP hD hS
          exact lp30 256 0 pl ls _ _ (by omega) (lv_sub hl [0, 1, 2, 3, 4] rfl) hO hP hD hS
      exact lp22 6 0 pl ls _ _ (by omega) (lv_sub hl [0, 1, 2, 3] rfl) hO hP hD hS
    | succ n21 ih21 =>
      intro i21 pl ls H locs hm21  hl hO hP hD hS
      refine lv_iload hx hb dMH_keys_78 (lv_at hl 0 rfl) ?_
      refine lv_aload_n hx hb dMH_keys_80 rfl (lv_at hl 1 rfl) ?_
      refine ty_get (ci := 12) (C := "LatticeKeysModel$Hands") (TT := T_MH) (N := 31) (kd := (47, 0)) hx hb hts (wg_ft i_MH) hown hK hO k_h0 (nxg clo_nil k_h0 rfl) hP (fun _ h9 => h9) rfl 25 (by decide) (hts _ (wg_t kw_1457)) (fun _ h9 => h9) (cd := (1, 0, 5)) rfl dMH_keys_81 (fun v104 hv104 => ?_)
      obtain rfl := (show v104 = .int (nI 5) from hv104)
      refine mi_ge (tgt := 135) hx hb dMH_keys_84 (by decide) (by omega) (by omega) (fun h45 => absurd h45 (by omega)) (fun h45 => ?_)
      refine lv_aload_n hx hb dMH_keys_87 rfl (lv_at hl 1 rfl) ?_
      refine lv_aload_n hx hb dMH_keys_88 rfl (lv_at hl 1 rfl) ?_
      refine ty_get (ci := 12) (C := "LatticeKeysModel$Hands") (TT := T_MH) (N := 31) (kd := (47, 0)) hx hb hts (wg_ft i_MH) hown hK hO k_h0 (nxg clo_nil k_h0 rfl) hP (fun _ h9 => h9) rfl 3 (by decide) (hts _ (wg_t kw_1435)) (fun _ h9 => h9) (cd := (3, 3, 7)) rfl dMH_keys_89 (fun v105 hv105 => ?_)
      obtain ⟨r83, rfl, kr82⟩ := (show ∃ r : Nat, v105 = .ref r ∧ T r = some (3, 7) from hv105)
      refine lv_iload hx hb dMH_keys_92 (lv_at hl 0 rfl) ?_
      refine ty_aald3 hx hb hK hO kr82 (nxg clo_nil kr82 rfl) hP (by omega) (by decide) dMH_keys_94 (fun r84 kr83 => ?_)
      refine lv_aload_n hx hb dMH_keys_95 rfl (lv_at hl 1 rfl) ?_
      refine ty_get (ci := 12) (C := "LatticeKeysModel$Hands") (TT := T_MH) (N := 31) (kd := (47, 0)) hx hb hts (wg_ft i_MH) hown hK hO k_h0 (nxg clo_nil k_h0 rfl) hP (fun _ h9 => h9) rfl 16 (by decide) (hts _ (wg_t kw_1448)) (fun _ h9 => h9) (cd := (3, 1, 128)) rfl dMH_keys_96 (fun v106 hv106 => ?_)
      obtain ⟨r85, rfl, kr84⟩ := (show ∃ r : Nat, v106 = .ref r ∧ T r = some (1, 128) from hv106)
      refine lv_bipush (v := nI 32) hx hb dMH_keys_99 (by decide) ?_
      refine lv_iload hx hb dMH_keys_101 (lv_at hl 0 rfl) ?_
      refine mp_v (cx := []) (wr := []) hP hD hS hA [] [] rfl rfl rfl (by decide) (va_runV (As := [.ref r84, .ref r85, .int (nI 32), .int (nI i21)]) (rest := []) F (t_MH_small_1 l g _ T [] pl hO hU clo_nil clo_nil h0 r84 r85 128 32 (nI i21) k_h0 kr83 kr84 (by omega) (by omega)) (cwV 4 hts (wg_app (wg_c kw_1729 (wg_c kw_1731 (wg_c ks_62 (wg_c kw_13 wg_n)))) kw_1732) rfl rfl rfl (by decide +kernel) ⟨by decide, by decide⟩) (pp_VT (en_ok g) (ci := 12) (kd := (47, 0)) hK hO k_h0 (nxg clo_nil k_h0 rfl) (fun _ h9 => ko1 h9) hP hD hS hA hE [] rfl rfl rfl) rfl rfl hl.1 rfl (lv_room (Nat.le_of_ble_eq_true rfl)) dMH_keys_103 ⟨by omega, by omega⟩) (fun  pl H locs hu42 hP hD hS => ?_)
      obtain ⟨hq42, hO⟩ := hu42
      have hP : va_P g.1 vcl ([] ++ pl) _ := hP
      have hD : va_D _ ([] ++ pl) := hD
      refine W.widen (k := 0) (n := 0) (by omega) (by omega) ?_
      refine lv_aload_n hx hb dMH_keys_106 rfl (lv_at hl 1 rfl) ?_
      refine ty_get (ci := 12) (C := "LatticeKeysModel$Hands") (TT := T_MH) (N := 31) (kd := (47, 0)) hx hb hts (wg_ft i_MH) hown hK hO k_h0 (nxg clo_nil k_h0 rfl) hP (fun _ h9 => h9) rfl 1 (by decide) (hts _ (wg_t kw_1433)) (fun _ h9 => h9) (cd := (3, 22, 0)) rfl dMH_keys_107 (fun v107 hv107 => ?_)
      obtain ⟨r86, rfl, kr85⟩ := (show ∃ r : Nat, v107 = .ref r ∧ T r = some (22, 0) from hv107)
      refine lv_aload_n hx hb dMH_keys_110 rfl (lv_at hl 1 rfl) ?_
      refine ty_get (ci := 12) (C := "LatticeKeysModel$Hands") (TT := T_MH) (N := 31) (kd := (47, 0)) hx hb hts (wg_ft i_MH) hown hK hO k_h0 (nxg clo_nil k_h0 rfl) hP (fun _ h9 => h9) rfl 3 (by decide) (hts _ (wg_t kw_1435)) (fun _ h9 => h9) (cd := (3, 3, 7)) rfl dMH_keys_111 (fun v108 hv108 => ?_)
      obtain ⟨r87, rfl, kr86⟩ := (show ∃ r : Nat, v108 = .ref r ∧ T r = some (3, 7) from hv108)
      refine lv_iload hx hb dMH_keys_114 (lv_at hl 0 rfl) ?_
      refine ty_aald3 hx hb hK hO kr86 (nxg clo_nil kr86 rfl) hP (by omega) (by decide) dMH_keys_116 (fun r88 kr87 => ?_)
      refine lv_aload_n hx hb dMH_keys_117 rfl (lv_at hl 1 rfl) ?_
      refine ty_get (ci := 12) (C := "LatticeKeysModel$Hands") (TT := T_MH) (N := 31) (kd := (47, 0)) hx hb hts (wg_ft i_MH) hown hK hO k_h0 (nxg clo_nil k_h0 rfl) hP (fun _ h9 => h9) rfl 9 (by decide) (hts _ (wg_t kw_1441)) (fun _ h9 => h9) (cd := (3, 3, 7)) rfl dMH_keys_118 (fun v109 hv109 => ?_)
      obtain ⟨r89, rfl, kr88⟩ := (show ∃ r : Nat, v109 = .ref r ∧ T r = some (3, 7) from hv109)
      refine lv_iload hx hb dMH_keys_121 (lv_at hl 0 rfl) ?_
      refine ty_aald3 hx hb hK hO kr88 (nxg clo_nil kr88 rfl) hP (by omega) (by decide) dMH_keys_123 (fun r90 kr89 => ?_)
      refine lv_iconst (v := nI 1) hx hb dMH_keys_124 (by decide) ?_
      refine lv_iconst (v := nI 0) hx hb dMH_keys_125 (by decide) ?_
      refine mp_v (cx := []) (wr := []) hP hD hS hA [] [] rfl rfl rfl (by decide) (va_runV (As := [.ref r88, .ref r90, .int (nI 1), .int (nI 0)]) (rest := []) F (t_MR_forth_22_0 l g _ T [] pl hO hU clo_nil r86 r88 r90 kr85 kr87 kr89) (cwV 4 hts (wg_app (wg_c kw_1733 (wg_c kw_1673 (wg_c kw_1674 (wg_c kw_12 wg_n)))) kw_1675) rfl rfl rfl (by decide +kernel) ⟨by decide, by decide⟩) (pp_VT (en_ok g) (ci := 10) (kd := (22, 0)) hK hO kr85 (nxg clo_nil kr85 rfl) (fun _ h9 => ko1 h9) hP hD hS hA hE [] rfl rfl rfl) rfl rfl hl.1 rfl (lv_room (Nat.le_of_ble_eq_true rfl)) dMH_keys_126 ⟨by omega, by omega⟩) (fun  pl H locs hu43 hP hD hS => ?_)
      obtain ⟨hq43, hO⟩ := hu43
      have hP : va_P g.1 vcl ([] ++ pl) _ := hP
      have hD : va_D _ ([] ++ pl) := hD
      refine W.widen (k := 0) (n := 0) (by omega) (by omega) ?_
      refine mi_iinc (k := 0) (x := i21) (d := 1) (y := i21 + 1) (lv' := [(5, .int (nI (i21 + 1))), (0, .ref h0), (3, .ref pk), (4, .ref sk)]) hx hb dMH_keys_129 hl rfl (by decide) rfl (by decide) rfl (fun ls hl => ?_)
      refine lv_goto (tgt := 78) hx hb dMH_keys_132 (by decide) ?_
      exact ih21 (i21 + 1) pl ls H locs (by omega) (lv_sub hl [0, 1, 2, 3] rfl) hO hP hD hS
  exact lp21 5 0 pl ls _ _ (by omega) (lv_sub hl [0, 1, 4, 5] rfl) hO hP hD hS
set_option maxHeartbeats 4000000 in
set_option maxRecDepth 100000 in
theorem t_MH_keys_2 (l : Launch) (g : Gd) (sz : Nat) (T0 : Ty) (pl : va_W) (hO : okx g T0 [] pl) (hU : uni T0) (h0 b pk sk n : Nat) (k_h0 : T0 h0 = some (49, 0)) (k_b : T0 b = some (1, n)) (k_pk : T0 pk = some (1, 2592)) (k_sk : T0 sk = some (1, 4896)) (h1 : 32 ≤ n) (h2 : n < 65536)  : Met l y_MH_keys w_MH_keys ({ frames := 4, cells := 0, slots := 0, locals := 98 } : Room) (va_Pc [.ref h0, .int (nI 2), .ref b, .ref pk, .ref sk] (pr (en g) g.1 vcl sz ([] ++ pl))) (va_Qv (fun (u : va_W) => (True) ∧ okx g T0 [] u) (po g.1 vcl (va_A ([] ++ pl) sz) (fun (u : va_W) => [] ++ u)) (va_A ([] ++ pl) sz)) 0 0 (va_A ([] ++ pl) sz) := by
  refine mc_entry (cc := c_MH_keys) (maxL := 10) (ret := none) (by decide) rfl (Nat.le_of_ble_eq_true rfl) ?_
  intro p e s m args below meth c ls F hr hlk hnm hsz hP hD hE hA hl
  obtain ⟨hx, hb, hml, hown, hts⟩ := id F
  have hK := hE.1
  generalize va_A ([] ++ pl) sz = A at hD hE hA ⊢
  have hS : va_S A s.heap s.heap [] := va_S.rf
  have hl : lv_has ls 10 [(0, .ref h0), (1, .int (nI 2)), (2, .ref b), (3, .ref pk), (4, .ref sk)] := hl
  refine lv_aload_n hx hb dMH_keys_0 rfl (lv_at hl 0 rfl) ?_
  refine lv_iload_n hx hb dMH_keys_1 rfl (lv_at hl 1 rfl) ?_
  obtain ⟨e21, pl, hP, hD, hk21, hO⟩ := open1 hP hD hO k_h0 (nxg clo_nil k_h0 (p := 11) rfl)
  obtain ⟨fs21, rfl, hf21⟩ := hk21
  obtain ⟨v21, vs21, rfl, hv21, hf22⟩ := fall_cons hf21
  obtain ⟨r21, rfl, kr21⟩ := (show ∃ r : Nat, v21 = .ref r ∧ T0 r = some (20, 0) from hv21)
  obtain ⟨v22, vs22, rfl, hv22, hf23⟩ := fall_cons hf22
  obtain ⟨r22, rfl, kr22⟩ := (show ∃ r : Nat, v22 = .ref r ∧ T0 r = some (22, 0) from hv22)
  obtain ⟨v23, vs23, rfl, hv23, hf24⟩ := fall_cons hf23
  obtain ⟨r23, rfl, kr23⟩ := (show ∃ r : Nat, v23 = .ref r ∧ T0 r = some (3, 64) from hv23)
  obtain ⟨v24, vs24, rfl, hv24, hf25⟩ := fall_cons hf24
  obtain ⟨r24, rfl, kr24⟩ := (show ∃ r : Nat, v24 = .ref r ∧ T0 r = some (3, 7) from hv24)
  obtain ⟨v25, vs25, rfl, hv25, hf26⟩ := fall_cons hf25
  obtain ⟨r25, rfl, kr25⟩ := (show ∃ r : Nat, v25 = .ref r ∧ T0 r = some (3, 8) from hv25)
  obtain ⟨v26, vs26, rfl, hv26, hf27⟩ := fall_cons hf26
  obtain ⟨r26, rfl, kr26⟩ := (show ∃ r : Nat, v26 = .ref r ∧ T0 r = some (3, 8) from hv26)
  obtain ⟨v27, vs27, rfl, hv27, hf28⟩ := fall_cons hf27
  obtain ⟨r27, rfl, kr27⟩ := (show ∃ r : Nat, v27 = .ref r ∧ T0 r = some (3, 8) from hv27)
  obtain ⟨v28, vs28, rfl, hv28, hf29⟩ := fall_cons hf28
  obtain ⟨r28, rfl, kr28⟩ := (show ∃ r : Nat, v28 = .ref r ∧ T0 r = some (3, 7) from hv28)
  obtain ⟨v29, vs29, rfl, hv29, hf30⟩ := fall_cons hf29
  obtain ⟨r29, rfl, kr29⟩ := (show ∃ r : Nat, v29 = .ref r ∧ T0 r = some (3, 7) from hv29)
  obtain ⟨v30, vs30, rfl, hv30, hf31⟩ := fall_cons hf30
  obtain ⟨r30, rfl, kr30⟩ := (show ∃ r : Nat, v30 = .ref r ∧ T0 r = some (3, 7) from hv30)
  obtain ⟨v31, vs31, rfl, hv31, hf32⟩ := fall_cons hf31
  obtain ⟨r31, rfl, kr31⟩ := (show ∃ r : Nat, v31 = .ref r ∧ T0 r = some (3, 8) from hv31)
  obtain ⟨v32, vs32, rfl, hv32, hf33⟩ := fall_cons hf32
  obtain ⟨r32, rfl, kr32⟩ := (show ∃ r : Nat, v32 = .ref r ∧ T0 r = some (3, 8) from hv32)
  obtain ⟨v33, vs33, rfl, hv33, hf34⟩ := fall_cons hf33
  obtain ⟨r33, rfl, kr33⟩ := (show ∃ r : Nat, v33 = .ref r ∧ T0 r = some (0, 256) from hv33)
  obtain ⟨v34, vs34, rfl, hv34, hf35⟩ := fall_cons hf34
  obtain ⟨r34, rfl, kr34⟩ := (show ∃ r : Nat, v34 = .ref r ∧ T0 r = some (0, 256) from hv34)
  obtain ⟨v35, vs35, rfl, hv35, hf36⟩ := fall_cons hf35
  obtain ⟨r35, rfl, kr35⟩ := (show ∃ r : Nat, v35 = .ref r ∧ T0 r = some (0, 256) from hv35)
  obtain ⟨v36, vs36, rfl, hv36, hf37⟩ := fall_cons hf36
  obtain ⟨r36, rfl, kr36⟩ := (show ∃ r : Nat, v36 = .ref r ∧ T0 r = some (2, 256) from hv36)
  obtain ⟨v37, vs37, rfl, hv37, hf38⟩ := fall_cons hf37
  obtain ⟨r37, rfl, kr37⟩ := (show ∃ r : Nat, v37 = .ref r ∧ T0 r = some (1, 128) from hv37)
  obtain ⟨v38, vs38, rfl, hv38, hf39⟩ := fall_cons hf38
  obtain ⟨r38, rfl, kr38⟩ := (show ∃ r : Nat, v38 = .ref r ∧ T0 r = some (1, 64) from hv38)
  obtain ⟨v39, vs39, rfl, hv39, hf40⟩ := fall_cons hf39
  obtain ⟨r39, rfl, kr39⟩ := (show ∃ r : Nat, v39 = .ref r ∧ T0 r = some (1, 64) from hv39)
  obtain ⟨v40, vs40, rfl, hv40, hf41⟩ := fall_cons hf40
  obtain ⟨r40, rfl, kr40⟩ := (show ∃ r : Nat, v40 = .ref r ∧ T0 r = some (1, 640) from hv40)
  obtain ⟨v41, vs41, rfl, hv41, hf42⟩ := fall_cons hf41
  obtain ⟨r41, rfl, kr41⟩ := (show ∃ r : Nat, v41 = .ref r ∧ T0 r = some (1, 64) from hv41)
  obtain ⟨v42, vs42, rfl, hv42, hf43⟩ := fall_cons hf42
  obtain ⟨r42, rfl, kr42⟩ := (show ∃ r : Nat, v42 = .ref r ∧ T0 r = some (1, 64) from hv42)
  obtain ⟨v43, vs43, rfl, hv43, hf44⟩ := fall_cons hf43
  obtain ⟨r43, rfl, kr43⟩ := (show ∃ r : Nat, v43 = .ref r ∧ T0 r = some (1, 64) from hv43)
  obtain ⟨v44, vs44, rfl, hv44, hf45⟩ := fall_cons hf44
  obtain ⟨z21, rfl⟩ := (show ∃ z : Int32, v44 = .int z from hv44)
  obtain ⟨v45, vs45, rfl, hv45, hf46⟩ := fall_cons hf45
  obtain ⟨z22, rfl⟩ := (show ∃ z : Int32, v45 = .int z from hv45)
  obtain ⟨v46, vs46, rfl, hv46, hf47⟩ := fall_cons hf46
  obtain ⟨z23, rfl⟩ := (show ∃ z : Int32, v46 = .int z from hv46)
  obtain ⟨v47, vs47, rfl, hv47, hf48⟩ := fall_cons hf47
  obtain ⟨z24, rfl⟩ := (show ∃ z : Int32, v47 = .int z from hv47)
  obtain ⟨v48, vs48, rfl, hv48, hf49⟩ := fall_cons hf48
  obtain ⟨z25, rfl⟩ := (show ∃ z : Int32, v48 = .int z from hv48)
  obtain ⟨v49, vs49, rfl, hv49, hf50⟩ := fall_cons hf49
  obtain ⟨z26, rfl⟩ := (show ∃ z : Int32, v49 = .int z from hv49)
  obtain ⟨v50, vs50, rfl, hv50, hf51⟩ := fall_cons hf50
  obtain ⟨z27, rfl⟩ := (show ∃ z : Int32, v50 = .int z from hv50)
  obtain ⟨v51, vs51, rfl, hv51, hf52⟩ := fall_cons hf51
  obtain ⟨z28, rfl⟩ := (show ∃ z : Int32, v51 = .int z from hv51)
  obtain rfl := fall_nil hf52
  have hP : va_P g.1 vcl ([(h0, .inr (12, [.ref r21, .ref r22, .ref r23, .ref r24, .ref r25, .ref r26, .ref r27, .ref r28, .ref r29, .ref r30, .ref r31, .ref r32, .ref r33, .ref r34, .ref r35, .ref r36, .ref r37, .ref r38, .ref r39, .ref r40, .ref r41, .ref r42, .ref r43, .int z21, .int z22, .int z23, .int z24, .int z25, .int z26, .int z27, .int z28]))] ++ pl) _ := hP
  have hD : va_D _ ([(h0, .inr (12, [.ref r21, .ref r22, .ref r23, .ref r24, .ref r25, .ref r26, .ref r27, .ref r28, .ref r29, .ref r30, .ref r31, .ref r32, .ref r33, .ref r34, .ref r35, .ref r36, .ref r37, .ref r38, .ref r39, .ref r40, .ref r41, .ref r42, .ref r43, .int z21, .int z22, .int z23, .int z24, .int z25, .int z26, .int z27, .int z28]))] ++ pl) := hD
  refine mp_v (cx := [(h0, .inr (12, [.ref r21, .ref r22, .ref r23, .ref r24, .ref r25, .ref r26, .ref r27, .ref r28, .ref r29, .ref r30, .ref r31, .ref r32, .ref r33, .ref r34, .ref r35, .ref r36, .ref r37, .ref r38, .ref r39, .ref r40, .ref r41, .ref r42, .ref r43, .int z21, .int z22, .int z23, .int z24, .int z25, .int z26, .int z27, .int z28]))]) (wr := []) hP hD hS hA [0] [] rfl rfl rfl (by decide) (va_runV (As := [.int (nI 2)]) (rest := []) F (t_MH_as_2 l g _ T0 (h0 :: []) pl hO hU  h0 r21 r22 r23 r24 r25 r26 r27 r28 r29 r30 r31 r32 r33 r34 r35 r36 r37 r38 r39 r40 r41 r42 r43 z21 z22 z23 z24 z25 z26 z27 z28) (cwV 1 hts (wg_app (wg_c kw_1702 (wg_c kw_1704 (wg_c ks_60 (wg_c kw_13 wg_n)))) kw_1705) rfl rfl rfl (by decide +kernel) ⟨by decide, by decide⟩) (pp_V (en_ok g) (q0 := 0) hK hP hD hS hA hE [0] rfl rfl rfl rfl) rfl rfl hl.1 rfl (lv_room (Nat.le_of_ble_eq_true rfl)) dMH_keys_2 ⟨by omega, by omega⟩) (fun  pl H locs hu21 hP hD hS => ?_)
  obtain ⟨hq21, hO⟩ := hu21
  have hP : va_P g.1 vcl ([(h0, .inr (12, [.ref r21, .ref r22, .ref r23, .ref r24, .ref r25, .ref r26, .ref r27, .ref r28, .ref r29, .ref r30, .ref r31, .ref r32, .ref r33, .ref r34, .ref r35, .ref r36, .ref r37, .ref r38, .ref r39, .ref r40, .ref r41, .ref r42, .ref r43, .int (nI 2), .int (nI 8), .int (nI 7), .int (nI 2), .int (nI 524288), .int (nI 261888), .int (nI 120), .int (nI 64)]))] ++ pl) _ := hP
  have hD : va_D _ ([(h0, .inr (12, [.ref r21, .ref r22, .ref r23, .ref r24, .ref r25, .ref r26, .ref r27, .ref r28, .ref r29, .ref r30, .ref r31, .ref r32, .ref r33, .ref r34, .ref r35, .ref r36, .ref r37, .ref r38, .ref r39, .ref r40, .ref r41, .ref r42, .ref r43, .int (nI 2), .int (nI 8), .int (nI 7), .int (nI 2), .int (nI 524288), .int (nI 261888), .int (nI 120), .int (nI 64)]))] ++ pl) := hD
  refine W.widen (k := 0) (n := 0) (by omega) (by omega) ?_
  have hO := hands_in (j := 2) (e := .inr (12, [.ref r21, .ref r22, .ref r23, .ref r24, .ref r25, .ref r26, .ref r27, .ref r28, .ref r29, .ref r30, .ref r31, .ref r32, .ref r33, .ref r34, .ref r35, .ref r36, .ref r37, .ref r38, .ref r39, .ref r40, .ref r41, .ref r42, .ref r43, .int (nI 2), .int (nI 8), .int (nI 7), .int (nI 2), .int (nI 524288), .int (nI 261888), .int (nI 120), .int (nI 64)])) hO k_h0 ⟨_, rfl, ⟨r21, rfl, kr21⟩, ⟨r22, rfl, kr22⟩, ⟨r23, rfl, kr23⟩, ⟨r24, rfl, kr24⟩, ⟨r25, rfl, kr25⟩, ⟨r26, rfl, kr26⟩, ⟨r27, rfl, kr27⟩, ⟨r28, rfl, kr28⟩, ⟨r29, rfl, kr29⟩, ⟨r30, rfl, kr30⟩, ⟨r31, rfl, kr31⟩, ⟨r32, rfl, kr32⟩, ⟨r33, rfl, kr33⟩, ⟨r34, rfl, kr34⟩, ⟨r35, rfl, kr35⟩, ⟨r36, rfl, kr36⟩, ⟨r37, rfl, kr37⟩, ⟨r38, rfl, kr38⟩, ⟨r39, rfl, kr39⟩, ⟨r40, rfl, kr40⟩, ⟨r41, rfl, kr41⟩, ⟨r42, rfl, kr42⟩, ⟨r43, rfl, kr43⟩, rfl, rfl, rfl, rfl, rfl, rfl, rfl, rfl, trivial⟩
  have hP : va_P g.1 vcl ([] ++ ((h0, .inr (12, [.ref r21, .ref r22, .ref r23, .ref r24, .ref r25, .ref r26, .ref r27, .ref r28, .ref r29, .ref r30, .ref r31, .ref r32, .ref r33, .ref r34, .ref r35, .ref r36, .ref r37, .ref r38, .ref r39, .ref r40, .ref r41, .ref r42, .ref r43, .int (nI 2), .int (nI 8), .int (nI 7), .int (nI 2), .int (nI 524288), .int (nI 261888), .int (nI 120), .int (nI 64)])) :: pl)) _ := hP
  have hD : va_D _ ([] ++ ((h0, .inr (12, [.ref r21, .ref r22, .ref r23, .ref r24, .ref r25, .ref r26, .ref r27, .ref r28, .ref r29, .ref r30, .ref r31, .ref r32, .ref r33, .ref r34, .ref r35, .ref r36, .ref r37, .ref r38, .ref r39, .ref r40, .ref r41, .ref r42, .ref r43, .int (nI 2), .int (nI 8), .int (nI 7), .int (nI 2), .int (nI 524288), .int (nI 261888), .int (nI 120), .int (nI 64)])) :: pl)) := hD
  generalize ((h0, .inr (12, [.ref r21, .ref r22, .ref r23, .ref r24, .ref r25, .ref r26, .ref r27, .ref r28, .ref r29, .ref r30, .ref r31, .ref r32, .ref r33, .ref r34, .ref r35, .ref r36, .ref r37, .ref r38, .ref r39, .ref r40, .ref r41, .ref r42, .ref r43, .int (nI 2), .int (nI 8), .int (nI 7), .int (nI 2), .int (nI 524288), .int (nI 261888), .int (nI 120), .int (nI 64)])) :: pl) = pl at hO hP hD
  have hback : ∀ pl, okx g (tyU T0 h0 (46 + 2, 0)) [] pl → okx g T0 [] pl := fun pl h9 => hands_out k_h0 (hands_wk 2 (by decide)) h9
  have hU := uni_U (a := h0) (k := (46 + 2, 0)) hU rfl
  have k_b := tyU_k (k := (46 + 2, 0)) k_h0 k_b (by intro h9; cases h9)
  have k_pk := tyU_k (k := (46 + 2, 0)) k_h0 k_pk (by intro h9; cases h9)
  have k_sk := tyU_k (k := (46 + 2, 0)) k_h0 k_sk (by intro h9; cases h9)
  have k_h0 : tyU T0 h0 (46 + 2, 0) h0 = some (46 + 2, 0) := tyU_at
  generalize tyU T0 h0 (46 + 2, 0) = T at hO hback hU k_b k_pk k_sk k_h0
  refine lv_aload_n hx hb dMH_keys_5 rfl (lv_at hl 0 rfl) ?_
  refine ty_get (ci := 12) (C := "LatticeKeysModel$Hands") (TT := T_MH) (N := 31) (kd := (48, 0)) hx hb hts (wg_ft i_MH) hown hK hO k_h0 (nxg clo_nil k_h0 rfl) hP (fun _ h9 => h9) rfl 0 (by decide) (hts _ (wg_t kw_1432)) (fun _ h9 => h9) (cd := (3, 20, 0)) rfl dMH_keys_6 (fun v52 hv52 => ?_)
  obtain ⟨r44, rfl, kr44⟩ := (show ∃ r : Nat, v52 = .ref r ∧ T r = some (20, 0) from hv52)
  obtain ⟨e22, pl, hP, hD, hk22, hO⟩ := open1 hP hD hO kr44 (nxg clo_nil kr44 rfl)
  obtain ⟨am21, am22, am23, am24, am25, rt21, ps21, x21, rfl, km21, km22, km23, km24, km25, hr21, hr22, hr23⟩ := hk22
  obtain ⟨e23, pl, hP, hD, hk23, hO⟩ := open1 hP hD hO km21 (nmc (knd_ne km21 kr44 (by decide)) (nxg clo_nil km21 rfl))
  obtain ⟨f21, rfl⟩ := hk23
  obtain ⟨e24, pl, hP, hD, hk24, hO⟩ := open1 hP hD hO km22 (nmc (knd_ne km22 km21 (by decide)) (nmc (knd_ne km22 kr44 (by decide)) (nxg clo_nil km22 rfl)))
  obtain ⟨f22, rfl⟩ := hk24
  obtain ⟨e25, pl, hP, hD, hk25, hO⟩ := open1 hP hD hO km23 (nmc (knd_ne km23 km22 (by decide)) (nmc (knd_ne km23 km21 (by decide)) (nmc (knd_ne km23 kr44 (by decide)) (nxg clo_nil km23 rfl))))
  obtain ⟨f23, rfl⟩ := hk25
  obtain ⟨e26, pl, hP, hD, hk26, hO⟩ := open1 hP hD hO km24 (nmc (knd_ne km24 km23 (by decide)) (nmc (knd_ne km24 km22 (by decide)) (nmc (knd_ne km24 km21 (by decide)) (nmc (knd_ne km24 kr44 (by decide)) (nxg clo_nil km24 rfl)))))
  obtain ⟨f24, rfl⟩ := hk26
  obtain ⟨e27, pl, hP, hD, hk27, hO⟩ := open1 hP hD hO km25 (nmc (knd_ne km25 km24 (by decide)) (nmc (knd_ne km25 km23 (by decide)) (nmc (knd_ne km25 km22 (by decide)) (nmc (knd_ne km25 km21 (by decide)) (nmc (knd_ne km25 kr44 (by decide)) (nxg clo_nil km25 rfl))))))
  obtain ⟨f25, rfl⟩ := hk27
  have hP : va_P g.1 vcl ([(r44, .inr (9, [.ref am21, .ref am22, .ref am23, .ref am24, .ref am25, .int (nI rt21), .int (nI ps21), .int x21])), (am21, .inl (g.2.1 2, 25, .inr (.inl f21))), (am22, .inl (g.2.1 2, 25, .inr (.inl f22))), (am23, .inl (g.2.1 2, 5, .inr (.inl f23))), (am24, .inl (g.2.1 2, 24, .inr (.inl f24))), (am25, .inl (g.2.1 0, 25, .inl f25))] ++ pl) _ := hP
  have hD : va_D _ ([(r44, .inr (9, [.ref am21, .ref am22, .ref am23, .ref am24, .ref am25, .int (nI rt21), .int (nI ps21), .int x21])), (am21, .inl (g.2.1 2, 25, .inr (.inl f21))), (am22, .inl (g.2.1 2, 25, .inr (.inl f22))), (am23, .inl (g.2.1 2, 5, .inr (.inl f23))), (am24, .inl (g.2.1 2, 24, .inr (.inl f24))), (am25, .inl (g.2.1 0, 25, .inl f25))] ++ pl) := hD
  refine mp_v (cx := [(r44, .inr (9, [.ref am21, .ref am22, .ref am23, .ref am24, .ref am25, .int (nI rt21), .int (nI ps21), .int x21])), (am21, .inl (g.2.1 2, 25, .inr (.inl f21))), (am22, .inl (g.2.1 2, 25, .inr (.inl f22))), (am23, .inl (g.2.1 2, 5, .inr (.inl f23))), (am24, .inl (g.2.1 2, 24, .inr (.inl f24))), (am25, .inl (g.2.1 0, 25, .inl f25))]) (wr := []) hP hD hS hA [0, 1, 2, 3, 4, 5] [] rfl rfl rfl (by decide) (va_runV (As := []) (rest := []) F (t_MS_shake l g _ T (am25 :: (am24 :: (am23 :: (am22 :: (am21 :: (r44 :: [])))))) pl hO hU  r44 am21 am22 am23 am24 am25 rt21 ps21 x21 f21 f22 f23 f24 f25) (cwV 0 hts (wg_app (wg_c kw_1718 (wg_c kw_1661 (wg_c kw_1662 (wg_c kw_10 wg_n)))) kw_1663) rfl rfl rfl (by decide +kernel) ⟨by decide, by decide⟩) (pp_V (en_ok g) (q0 := 0) hK hP hD hS hA hE [0, 1, 2, 3, 4, 5] rfl rfl rfl rfl) rfl rfl hl.1 rfl (lv_room (Nat.le_of_ble_eq_true rfl)) dMH_keys_9 ⟨by omega, by omega⟩) (fun  u21 H locs hu22 hP hD hS => ?_)
  obtain ⟨u22, pl⟩ := u21
  obtain ⟨hq22, hO⟩ := hu22
  obtain ⟨ps22, f26, f27, f28⟩ := u22
  have hP : va_P g.1 vcl ([(r44, .inr (9, [.ref am21, .ref am22, .ref am23, .ref am24, .ref am25, .int (nI 136), .int (nI ps22), .int (nI 31)])), (am21, .inl (g.2.1 2, 25, .inr (.inl f26))), (am22, .inl (g.2.1 2, 25, .inr (.inl f27))), (am23, .inl (g.2.1 2, 5, .inr (.inl f28))), (am24, .inl (g.2.1 2, 24, .inr (.inl f24))), (am25, .inl (g.2.1 0, 25, .inl f25))] ++ pl) _ := hP
  have hD : va_D _ ([(r44, .inr (9, [.ref am21, .ref am22, .ref am23, .ref am24, .ref am25, .int (nI 136), .int (nI ps22), .int (nI 31)])), (am21, .inl (g.2.1 2, 25, .inr (.inl f26))), (am22, .inl (g.2.1 2, 25, .inr (.inl f27))), (am23, .inl (g.2.1 2, 5, .inr (.inl f28))), (am24, .inl (g.2.1 2, 24, .inr (.inl f24))), (am25, .inl (g.2.1 0, 25, .inl f25))] ++ pl) := hD
  have hq22 : ps22 ≤ 136 := hq22
  refine W.widen (k := 0) (n := 0) (by omega) (by omega) ?_
  refine lv_aload_n hx hb dMH_keys_12 rfl (lv_at hl 0 rfl) ?_
  refine ty_get (ci := 12) (C := "LatticeKeysModel$Hands") (TT := T_MH) (N := 31) (kd := (48, 0)) hx hb hts (wg_ft i_MH) hown hK hO k_h0 (nxg (clo_cons (clo_cons (clo_cons (clo_cons (clo_cons (clo_cons clo_nil kr44 (by decide)) km21 (by decide)) km22 (by decide)) km23 (by decide)) km24 (by decide)) km25 (by decide)) k_h0 rfl) hP (fun _ h9 => h9) rfl 0 (by decide) (hts _ (wg_t kw_1432)) (fun _ h9 => h9) (cd := (3, 20, 0)) rfl dMH_keys_13 (fun v53 hv53 => ?_)
  obtain ⟨r45, rfl, kr45⟩ := (show ∃ r : Nat, v53 = .ref r ∧ T r = some (20, 0) from hv53)
  obtain rfl : r44 = r45 := hU _ _ _ (by decide) kr44 kr45
  refine lv_aload_n hx hb dMH_keys_16 rfl (lv_at hl 2 rfl) ?_
  refine lv_iconst (v := nI 0) hx hb dMH_keys_17 (by decide) ?_
  refine lv_bipush (v := nI 32) hx hb dMH_keys_18 (by decide) ?_
  refine mp_v (cx := [(r44, .inr (9, [.ref am21, .ref am22, .ref am23, .ref am24, .ref am25, .int (nI 136), .int (nI ps22), .int (nI 31)])), (am21, .inl (g.2.1 2, 25, .inr (.inl f26))), (am22, .inl (g.2.1 2, 25, .inr (.inl f27))), (am23, .inl (g.2.1 2, 5, .inr (.inl f28))), (am24, .inl (g.2.1 2, 24, .inr (.inl f24))), (am25, .inl (g.2.1 0, 25, .inl f25))]) (wr := []) hP hD hS hA [0, 1, 2, 3, 4, 5] [] rfl rfl rfl (by decide) (va_runV (As := [.ref b, .int (nI 0), .int (nI 32)]) (rest := []) F (t_MS_puts l g _ T (am25 :: (am24 :: (am23 :: (am22 :: (am21 :: (r44 :: [])))))) pl hO hU (clo_cons (clo_cons (clo_cons (clo_cons (clo_cons (clo_cons clo_nil kr44 (by decide)) km21 (by decide)) km22 (by decide)) km23 (by decide)) km24 (by decide)) km25 (by decide)) b n 0 32 r44 am21 am22 am23 am24 am25 136 ps22 (nI 31) f26 f27 f28 f24 f25 k_b (by omega) (by omega) (by omega) (by omega)) (cwV 3 hts (wg_app (wg_c kw_1719 (wg_c kw_1612 (wg_c kw_1613 (wg_c kw_10 wg_n)))) kw_1614) rfl rfl rfl (by decide +kernel) ⟨by decide, by decide⟩) (pp_V (en_ok g) (q0 := 0) hK hP hD hS hA hE [0, 1, 2, 3, 4, 5] rfl rfl rfl rfl) rfl rfl hl.1 rfl (lv_room (Nat.le_of_ble_eq_true rfl)) dMH_keys_20 ⟨by omega, by omega⟩) (fun  u23 H locs hu23 hP hD hS => ?_)
  obtain ⟨u24, pl⟩ := u23
  obtain ⟨hq23, hO⟩ := hu23
  obtain ⟨ps23, f29, f30, f31⟩ := u24
  have hP : va_P g.1 vcl ([(r44, .inr (9, [.ref am21, .ref am22, .ref am23, .ref am24, .ref am25, .int (nI 136), .int (nI ps23), .int (nI 31)])), (am21, .inl (g.2.1 2, 25, .inr (.inl f29))), (am22, .inl (g.2.1 2, 25, .inr (.inl f30))), (am23, .inl (g.2.1 2, 5, .inr (.inl f31))), (am24, .inl (g.2.1 2, 24, .inr (.inl f24))), (am25, .inl (g.2.1 0, 25, .inl f25))] ++ pl) _ := hP
  have hD : va_D _ ([(r44, .inr (9, [.ref am21, .ref am22, .ref am23, .ref am24, .ref am25, .int (nI 136), .int (nI ps23), .int (nI 31)])), (am21, .inl (g.2.1 2, 25, .inr (.inl f29))), (am22, .inl (g.2.1 2, 25, .inr (.inl f30))), (am23, .inl (g.2.1 2, 5, .inr (.inl f31))), (am24, .inl (g.2.1 2, 24, .inr (.inl f24))), (am25, .inl (g.2.1 0, 25, .inl f25))] ++ pl) := hD
  have hq23 : ps23 ≤ 136 := hq23
  refine W.widen (k := 0) (n := 0) (by omega) (by omega) ?_
  refine lv_aload_n hx hb dMH_keys_23 rfl (lv_at hl 0 rfl) ?_
  refine ty_get (ci := 12) (C := "LatticeKeysModel$Hands") (TT := T_MH) (N := 31) (kd := (48, 0)) hx hb hts (wg_ft i_MH) hown hK hO k_h0 (nxg (clo_cons (clo_cons (clo_cons (clo_cons (clo_cons (clo_cons clo_nil kr44 (by decide)) km21 (by decide)) km22 (by decide)) km23 (by decide)) km24 (by decide)) km25 (by decide)) k_h0 rfl) hP (fun _ h9 => h9) rfl 0 (by decide) (hts _ (wg_t kw_1432)) (fun _ h9 => h9) (cd := (3, 20, 0)) rfl dMH_keys_24 (fun v54 hv54 => ?_)
  obtain ⟨r46, rfl, kr46⟩ := (show ∃ r : Nat, v54 = .ref r ∧ T r = some (20, 0) from hv54)
  obtain rfl : r44 = r46 := hU _ _ _ (by decide) kr44 kr46
  refine lv_aload_n hx hb dMH_keys_27 rfl (lv_at hl 0 rfl) ?_
  refine ty_get (ci := 12) (C := "LatticeKeysModel$Hands") (TT := T_MH) (N := 31) (kd := (48, 0)) hx hb hts (wg_ft i_MH) hown hK hO k_h0 (nxg (clo_cons (clo_cons (clo_cons (clo_cons (clo_cons (clo_cons clo_nil kr44 (by decide)) km21 (by decide)) km22 (by decide)) km23 (by decide)) km24 (by decide)) km25 (by decide)) k_h0 rfl) hP (fun _ h9 => h9) rfl 24 (by decide) (hts _ (wg_t kw_1456)) (fun _ h9 => h9) (cd := (1, 0, 8)) rfl dMH_keys_28 (fun v55 hv55 => ?_)
  obtain rfl := (show v55 = .int (nI 8) from hv55)
  refine mp_v (cx := [(r44, .inr (9, [.ref am21, .ref am22, .ref am23, .ref am24, .ref am25, .int (nI 136), .int (nI ps23), .int (nI 31)])), (am21, .inl (g.2.1 2, 25, .inr (.inl f29))), (am22, .inl (g.2.1 2, 25, .inr (.inl f30))), (am23, .inl (g.2.1 2, 5, .inr (.inl f31))), (am24, .inl (g.2.1 2, 24, .inr (.inl f24))), (am25, .inl (g.2.1 0, 25, .inl f25))]) (wr := []) hP hD hS hA [0, 1, 2, 3, 4, 5] [] rfl rfl rfl (by decide) (va_runV (As := [.int (nI 8)]) (rest := []) F (t_MS_put l g _ T (am25 :: (am24 :: (am23 :: (am22 :: (am21 :: (r44 :: [])))))) pl hO hU  (nI 8) r44 am21 am22 am23 am24 am25 136 ps23 (nI 31) f29 f30 f31 f24 f25 (by omega) (by omega)) (cwV 1 hts (wg_app (wg_c kw_1720 (wg_c kw_1616 (wg_c kw_1617 (wg_c kw_10 wg_n)))) kw_1618) rfl rfl rfl (by decide +kernel) ⟨by decide, by decide⟩) (pp_V (en_ok g) (q0 := 0) hK hP hD hS hA hE [0, 1, 2, 3, 4, 5] rfl rfl rfl rfl) rfl rfl hl.1 rfl (lv_room (Nat.le_of_ble_eq_true rfl)) dMH_keys_31 ⟨by omega, by omega⟩) (fun  u25 H locs hu24 hP hD hS => ?_)
  obtain ⟨u26, pl⟩ := u25
  obtain ⟨hq24, hO⟩ := hu24
  obtain ⟨ps24, f32, f33, f34⟩ := u26
  have hP : va_P g.1 vcl ([(r44, .inr (9, [.ref am21, .ref am22, .ref am23, .ref am24, .ref am25, .int (nI 136), .int (nI ps24), .int (nI 31)])), (am21, .inl (g.2.1 2, 25, .inr (.inl f32))), (am22, .inl (g.2.1 2, 25, .inr (.inl f33))), (am23, .inl (g.2.1 2, 5, .inr (.inl f34))), (am24, .inl (g.2.1 2, 24, .inr (.inl f24))), (am25, .inl (g.2.1 0, 25, .inl f25))] ++ pl) _ := hP
  have hD : va_D _ ([(r44, .inr (9, [.ref am21, .ref am22, .ref am23, .ref am24, .ref am25, .int (nI 136), .int (nI ps24), .int (nI 31)])), (am21, .inl (g.2.1 2, 25, .inr (.inl f32))), (am22, .inl (g.2.1 2, 25, .inr (.inl f33))), (am23, .inl (g.2.1 2, 5, .inr (.inl f34))), (am24, .inl (g.2.1 2, 24, .inr (.inl f24))), (am25, .inl (g.2.1 0, 25, .inl f25))] ++ pl) := hD
  have hq24 : ps24 ≤ 136 := hq24
  refine W.widen (k := 0) (n := 0) (by omega) (by omega) ?_
  refine lv_aload_n hx hb dMH_keys_34 rfl (lv_at hl 0 rfl) ?_
  refine ty_get (ci := 12) (C := "LatticeKeysModel$Hands") (TT := T_MH) (N := 31) (kd := (48, 0)) hx hb hts (wg_ft i_MH) hown hK hO k_h0 (nxg (clo_cons (clo_cons (clo_cons (clo_cons (clo_cons (clo_cons clo_nil kr44 (by decide)) km21 (by decide)) km22 (by decide)) km23 (by decide)) km24 (by decide)) km25 (by decide)) k_h0 rfl) hP (fun _ h9 => h9) rfl 0 (by decide) (hts _ (wg_t kw_1432)) (fun _ h9 => h9) (cd := (3, 20, 0)) rfl dMH_keys_35 (fun v56 hv56 => ?_)
  obtain ⟨r47, rfl, kr47⟩ := (show ∃ r : Nat, v56 = .ref r ∧ T r = some (20, 0) from hv56)
  obtain rfl : r44 = r47 := hU _ _ _ (by decide) kr44 kr47
  refine lv_aload_n hx hb dMH_keys_38 rfl (lv_at hl 0 rfl) ?_
  refine ty_get (ci := 12) (C := "LatticeKeysModel$Hands") (TT := T_MH) (N := 31) (kd := (48, 0)) hx hb hts (wg_ft i_MH) hown hK hO k_h0 (nxg (clo_cons (clo_cons (clo_cons (clo_cons (clo_cons (clo_cons clo_nil kr44 (by decide)) km21 (by decide)) km22 (by decide)) km23 (by decide)) km24 (by decide)) km25 (by decide)) k_h0 rfl) hP (fun _ h9 => h9) rfl 25 (by decide) (hts _ (wg_t kw_1457)) (fun _ h9 => h9) (cd := (1, 0, 7)) rfl dMH_keys_39 (fun v57 hv57 => ?_)
  obtain rfl := (show v57 = .int (nI 7) from hv57)
  refine mp_v (cx := [(r44, .inr (9, [.ref am21, .ref am22, .ref am23, .ref am24, .ref am25, .int (nI 136), .int (nI ps24), .int (nI 31)])), (am21, .inl (g.2.1 2, 25, .inr (.inl f32))), (am22, .inl (g.2.1 2, 25, .inr (.inl f33))), (am23, .inl (g.2.1 2, 5, .inr (.inl f34))), (am24, .inl (g.2.1 2, 24, .inr (.inl f24))), (am25, .inl (g.2.1 0, 25, .inl f25))]) (wr := []) hP hD hS hA [0, 1, 2, 3, 4, 5] [] rfl rfl rfl (by decide) (va_runV (As := [.int (nI 7)]) (rest := []) F (t_MS_put l g _ T (am25 :: (am24 :: (am23 :: (am22 :: (am21 :: (r44 :: [])))))) pl hO hU  (nI 7) r44 am21 am22 am23 am24 am25 136 ps24 (nI 31) f32 f33 f34 f24 f25 (by omega) (by omega)) (cwV 1 hts (wg_app (wg_c kw_1720 (wg_c kw_1616 (wg_c kw_1617 (wg_c kw_10 wg_n)))) kw_1618) rfl rfl rfl (by decide +kernel) ⟨by decide, by decide⟩) (pp_V (en_ok g) (q0 := 0) hK hP hD hS hA hE [0, 1, 2, 3, 4, 5] rfl rfl rfl rfl) rfl rfl hl.1 rfl (lv_room (Nat.le_of_ble_eq_true rfl)) dMH_keys_42 ⟨by omega, by omega⟩) (fun  u27 H locs hu25 hP hD hS => ?_)
  obtain ⟨u28, pl⟩ := u27
  obtain ⟨hq25, hO⟩ := hu25
  obtain ⟨ps25, f35, f36, f37⟩ := u28
  have hP : va_P g.1 vcl ([(r44, .inr (9, [.ref am21, .ref am22, .ref am23, .ref am24, .ref am25, .int (nI 136), .int (nI ps25), .int (nI 31)])), (am21, .inl (g.2.1 2, 25, .inr (.inl f35))), (am22, .inl (g.2.1 2, 25, .inr (.inl f36))), (am23, .inl (g.2.1 2, 5, .inr (.inl f37))), (am24, .inl (g.2.1 2, 24, .inr (.inl f24))), (am25, .inl (g.2.1 0, 25, .inl f25))] ++ pl) _ := hP
  have hD : va_D _ ([(r44, .inr (9, [.ref am21, .ref am22, .ref am23, .ref am24, .ref am25, .int (nI 136), .int (nI ps25), .int (nI 31)])), (am21, .inl (g.2.1 2, 25, .inr (.inl f35))), (am22, .inl (g.2.1 2, 25, .inr (.inl f36))), (am23, .inl (g.2.1 2, 5, .inr (.inl f37))), (am24, .inl (g.2.1 2, 24, .inr (.inl f24))), (am25, .inl (g.2.1 0, 25, .inl f25))] ++ pl) := hD
  have hq25 : ps25 ≤ 136 := hq25
  refine W.widen (k := 0) (n := 0) (by omega) (by omega) ?_
  refine lv_aload_n hx hb dMH_keys_45 rfl (lv_at hl 0 rfl) ?_
  refine ty_get (ci := 12) (C := "LatticeKeysModel$Hands") (TT := T_MH) (N := 31) (kd := (48, 0)) hx hb hts (wg_ft i_MH) hown hK hO k_h0 (nxg (clo_cons (clo_cons (clo_cons (clo_cons (clo_cons (clo_cons clo_nil kr44 (by decide)) km21 (by decide)) km22 (by decide)) km23 (by decide)) km24 (by decide)) km25 (by decide)) k_h0 rfl) hP (fun _ h9 => h9) rfl 0 (by decide) (hts _ (wg_t kw_1432)) (fun _ h9 => h9) (cd := (3, 20, 0)) rfl dMH_keys_46 (fun v58 hv58 => ?_)
  obtain ⟨r48, rfl, kr48⟩ := (show ∃ r : Nat, v58 = .ref r ∧ T r = some (20, 0) from hv58)
  obtain rfl : r44 = r48 := hU _ _ _ (by decide) kr44 kr48
  refine mp_v (cx := [(r44, .inr (9, [.ref am21, .ref am22, .ref am23, .ref am24, .ref am25, .int (nI 136), .int (nI ps25), .int (nI 31)])), (am21, .inl (g.2.1 2, 25, .inr (.inl f35))), (am22, .inl (g.2.1 2, 25, .inr (.inl f36))), (am23, .inl (g.2.1 2, 5, .inr (.inl f37))), (am24, .inl (g.2.1 2, 24, .inr (.inl f24))), (am25, .inl (g.2.1 0, 25, .inl f25))]) (wr := []) hP hD hS hA [0, 1, 2, 3, 4, 5] [] rfl rfl rfl (by decide) (va_runV (As := []) (rest := []) F (t_MS_end l g _ T (am25 :: (am24 :: (am23 :: (am22 :: (am21 :: (r44 :: [])))))) pl hO hU  r44 am21 am22 am23 am24 am25 136 ps25 (nI 31) f35 f36 f37 f24 f25 (by omega) (by omega)) (cwV 0 hts (wg_app (wg_c kw_1721 (wg_c kw_1634 (wg_c kw_1635 (wg_c kw_10 wg_n)))) kw_1636) rfl rfl rfl (by decide +kernel) ⟨by decide, by decide⟩) (pp_V (en_ok g) (q0 := 0) hK hP hD hS hA hE [0, 1, 2, 3, 4, 5] rfl rfl rfl rfl) rfl rfl hl.1 rfl (lv_room (Nat.le_of_ble_eq_true rfl)) dMH_keys_49 ⟨by omega, by omega⟩) (fun  u29 H locs hu26 hP hD hS => ?_)
  obtain ⟨u30, pl⟩ := u29
  obtain ⟨hq26, hO⟩ := hu26
  obtain ⟨ps26, f38, f39, f40⟩ := u30
  have hP : va_P g.1 vcl ([(r44, .inr (9, [.ref am21, .ref am22, .ref am23, .ref am24, .ref am25, .int (nI 136), .int (nI ps26), .int (nI 31)])), (am21, .inl (g.2.1 2, 25, .inr (.inl f38))), (am22, .inl (g.2.1 2, 25, .inr (.inl f39))), (am23, .inl (g.2.1 2, 5, .inr (.inl f40))), (am24, .inl (g.2.1 2, 24, .inr (.inl f24))), (am25, .inl (g.2.1 0, 25, .inl f25))] ++ pl) _ := hP
  have hD : va_D _ ([(r44, .inr (9, [.ref am21, .ref am22, .ref am23, .ref am24, .ref am25, .int (nI 136), .int (nI ps26), .int (nI 31)])), (am21, .inl (g.2.1 2, 25, .inr (.inl f38))), (am22, .inl (g.2.1 2, 25, .inr (.inl f39))), (am23, .inl (g.2.1 2, 5, .inr (.inl f40))), (am24, .inl (g.2.1 2, 24, .inr (.inl f24))), (am25, .inl (g.2.1 0, 25, .inl f25))] ++ pl) := hD
  have hq26 : ps26 ≤ 136 := hq26
  refine W.widen (k := 0) (n := 0) (by omega) (by omega) ?_
  refine lv_aload_n hx hb dMH_keys_52 rfl (lv_at hl 0 rfl) ?_
  refine ty_get (ci := 12) (C := "LatticeKeysModel$Hands") (TT := T_MH) (N := 31) (kd := (48, 0)) hx hb hts (wg_ft i_MH) hown hK hO k_h0 (nxg (clo_cons (clo_cons (clo_cons (clo_cons (clo_cons (clo_cons clo_nil kr44 (by decide)) km21 (by decide)) km22 (by decide)) km23 (by decide)) km24 (by decide)) km25 (by decide)) k_h0 rfl) hP (fun _ h9 => h9) rfl 0 (by decide) (hts _ (wg_t kw_1432)) (fun _ h9 => h9) (cd := (3, 20, 0)) rfl dMH_keys_53 (fun v59 hv59 => ?_)
  obtain ⟨r49, rfl, kr49⟩ := (show ∃ r : Nat, v59 = .ref r ∧ T r = some (20, 0) from hv59)
  obtain rfl : r44 = r49 := hU _ _ _ (by decide) kr44 kr49
  refine lv_aload_n hx hb dMH_keys_56 rfl (lv_at hl 0 rfl) ?_
  refine ty_get (ci := 12) (C := "LatticeKeysModel$Hands") (TT := T_MH) (N := 31) (kd := (48, 0)) hx hb hts (wg_ft i_MH) hown hK hO k_h0 (nxg (clo_cons (clo_cons (clo_cons (clo_cons (clo_cons (clo_cons clo_nil kr44 (by decide)) km21 (by decide)) km22 (by decide)) km23 (by decide)) km24 (by decide)) km25 (by decide)) k_h0 rfl) hP (fun _ h9 => h9) rfl 16 (by decide) (hts _ (wg_t kw_1448)) (fun _ h9 => h9) (cd := (3, 1, 128)) rfl dMH_keys_57 (fun v60 hv60 => ?_)
  obtain ⟨r50, rfl, kr50⟩ := (show ∃ r : Nat, v60 = .ref r ∧ T r = some (1, 128) from hv60)
  refine lv_iconst (v := nI 0) hx hb dMH_keys_60 (by decide) ?_
  refine lv_sipush (v := nI 128) hx hb dMH_keys_61 (by decide) ?_
  refine mp_v (cx := [(r44, .inr (9, [.ref am21, .ref am22, .ref am23, .ref am24, .ref am25, .int (nI 136), .int (nI ps26), .int (nI 31)])), (am21, .inl (g.2.1 2, 25, .inr (.inl f38))), (am22, .inl (g.2.1 2, 25, .inr (.inl f39))), (am23, .inl (g.2.1 2, 5, .inr (.inl f40))), (am24, .inl (g.2.1 2, 24, .inr (.inl f24))), (am25, .inl (g.2.1 0, 25, .inl f25))]) (wr := []) hP hD hS hA [0, 1, 2, 3, 4, 5] [] rfl rfl rfl (by decide) (va_runV (As := [.ref r50, .int (nI 0), .int (nI 128)]) (rest := []) F (t_MS_take l g _ T (am25 :: (am24 :: (am23 :: (am22 :: (am21 :: (r44 :: [])))))) pl hO hU (clo_cons (clo_cons (clo_cons (clo_cons (clo_cons (clo_cons clo_nil kr44 (by decide)) km21 (by decide)) km22 (by decide)) km23 (by decide)) km24 (by decide)) km25 (by decide)) r50 128 0 128 r44 am21 am22 am23 am24 am25 136 ps26 (nI 31) f38 f39 f40 f24 f25 kr50 (by omega) (by omega) (by omega) (by omega)) (cwV 3 hts (wg_app (wg_c kw_1722 (wg_c kw_1638 (wg_c kw_1639 (wg_c kw_10 wg_n)))) kw_1640) rfl rfl rfl (by decide +kernel) ⟨by decide, by decide⟩) (pp_V (en_ok g) (q0 := 0) hK hP hD hS hA hE [0, 1, 2, 3, 4, 5] rfl rfl rfl rfl) rfl rfl hl.1 rfl (lv_room (Nat.le_of_ble_eq_true rfl)) dMH_keys_64 ⟨by omega, by omega⟩) (fun  u31 H locs hu27 hP hD hS => ?_)
  obtain ⟨u32, pl⟩ := u31
  obtain ⟨hq27, hO⟩ := hu27
  obtain ⟨ps27, f41, f42, f43⟩ := u32
  have hP : va_P g.1 vcl ([(r44, .inr (9, [.ref am21, .ref am22, .ref am23, .ref am24, .ref am25, .int (nI 136), .int (nI ps27), .int (nI 31)])), (am21, .inl (g.2.1 2, 25, .inr (.inl f41))), (am22, .inl (g.2.1 2, 25, .inr (.inl f42))), (am23, .inl (g.2.1 2, 5, .inr (.inl f43))), (am24, .inl (g.2.1 2, 24, .inr (.inl f24))), (am25, .inl (g.2.1 0, 25, .inl f25))] ++ pl) _ := hP
  have hD : va_D _ ([(r44, .inr (9, [.ref am21, .ref am22, .ref am23, .ref am24, .ref am25, .int (nI 136), .int (nI ps27), .int (nI 31)])), (am21, .inl (g.2.1 2, 25, .inr (.inl f41))), (am22, .inl (g.2.1 2, 25, .inr (.inl f42))), (am23, .inl (g.2.1 2, 5, .inr (.inl f43))), (am24, .inl (g.2.1 2, 24, .inr (.inl f24))), (am25, .inl (g.2.1 0, 25, .inl f25))] ++ pl) := hD
  have hq27 : ps27 ≤ 136 := hq27
  refine W.widen (k := 0) (n := 0) (by omega) (by omega) ?_
  refine lv_aload_n hx hb dMH_keys_67 rfl (lv_at hl 0 rfl) ?_
  refine lv_aload_n hx hb dMH_keys_68 rfl (lv_at hl 0 rfl) ?_
  refine ty_get (ci := 12) (C := "LatticeKeysModel$Hands") (TT := T_MH) (N := 31) (kd := (48, 0)) hx hb hts (wg_ft i_MH) hown hK hO k_h0 (nxg (clo_cons (clo_cons (clo_cons (clo_cons (clo_cons (clo_cons clo_nil kr44 (by decide)) km21 (by decide)) km22 (by decide)) km23 (by decide)) km24 (by decide)) km25 (by decide)) k_h0 rfl) hP (fun _ h9 => h9) rfl 16 (by decide) (hts _ (wg_t kw_1448)) (fun _ h9 => h9) (cd := (3, 1, 128)) rfl dMH_keys_69 (fun v61 hv61 => ?_)
  obtain ⟨r51, rfl, kr51⟩ := (show ∃ r : Nat, v61 = .ref r ∧ T r = some (1, 128) from hv61)
  have hO := close1 (e := .inl (g.2.1 0, 25, .inl f25)) hO km25 ⟨_, rfl⟩
  have hO := close1 (e := .inl (g.2.1 2, 24, .inr (.inl f24))) hO km24 ⟨_, rfl⟩
  have hO := close1 (e := .inl (g.2.1 2, 5, .inr (.inl f43))) hO km23 ⟨_, rfl⟩
  have hO := close1 (e := .inl (g.2.1 2, 25, .inr (.inl f42))) hO km22 ⟨_, rfl⟩
  have hO := close1 (e := .inl (g.2.1 2, 25, .inr (.inl f41))) hO km21 ⟨_, rfl⟩
  have hO := close1 (e := .inr (9, [.ref am21, .ref am22, .ref am23, .ref am24, .ref am25, .int (nI 136), .int (nI ps27), .int (nI 31)])) hO kr44 ⟨_, _, _, _, _, _, _, _, rfl, km21, km22, km23, km24, km25, by omega, by omega, by omega⟩
  have hO : okx g T [] ((r44, .inr (9, [.ref am21, .ref am22, .ref am23, .ref am24, .ref am25, .int (nI 136), .int (nI ps27), .int (nI 31)])) :: (am21, .inl (g.2.1 2, 25, .inr (.inl f41))) :: (am22, .inl (g.2.1 2, 25, .inr (.inl f42))) :: (am23, .inl (g.2.1 2, 5, .inr (.inl f43))) :: (am24, .inl (g.2.1 2, 24, .inr (.inl f24))) :: (am25, .inl (g.2.1 0, 25, .inl f25)) :: pl) := hO
  have hP : va_P g.1 vcl ([] ++ ((r44, .inr (9, [.ref am21, .ref am22, .ref am23, .ref am24, .ref am25, .int (nI 136), .int (nI ps27), .int (nI 31)])) :: (am21, .inl (g.2.1 2, 25, .inr (.inl f41))) :: (am22, .inl (g.2.1 2, 25, .inr (.inl f42))) :: (am23, .inl (g.2.1 2, 5, .inr (.inl f43))) :: (am24, .inl (g.2.1 2, 24, .inr (.inl f24))) :: (am25, .inl (g.2.1 0, 25, .inl f25)) :: pl)) _ := hP
  have hD : va_D _ ([] ++ ((r44, .inr (9, [.ref am21, .ref am22, .ref am23, .ref am24, .ref am25, .int (nI 136), .int (nI ps27), .int (nI 31)])) :: (am21, .inl (g.2.1 2, 25, .inr (.inl f41))) :: (am22, .inl (g.2.1 2, 25, .inr (.inl f42))) :: (am23, .inl (g.2.1 2, 5, .inr (.inl f43))) :: (am24, .inl (g.2.1 2, 24, .inr (.inl f24))) :: (am25, .inl (g.2.1 0, 25, .inl f25)) :: pl)) := hD
  generalize ((r44, .inr (9, [.ref am21, .ref am22, .ref am23, .ref am24, .ref am25, .int (nI 136), .int (nI ps27), .int (nI 31)])) :: (am21, .inl (g.2.1 2, 25, .inr (.inl f41))) :: (am22, .inl (g.2.1 2, 25, .inr (.inl f42))) :: (am23, .inl (g.2.1 2, 5, .inr (.inl f43))) :: (am24, .inl (g.2.1 2, 24, .inr (.inl f24))) :: (am25, .inl (g.2.1 0, 25, .inl f25)) :: pl) = pl at hO hP hD
  refine mp_v (cx := []) (wr := []) hP hD hS hA [] [] rfl rfl rfl (by decide) (va_runV (As := [.ref r51]) (rest := []) F (t_MH_expand_2 l g _ T [] pl hO hU clo_nil clo_nil h0 r51 128 k_h0 kr51 (by omega) (by omega)) (cwV 1 hts (wg_app (wg_c kw_1723 (wg_c kw_1725 (wg_c ks_61 (wg_c kw_13 wg_n)))) kw_1726) rfl rfl rfl (by decide +kernel) ⟨by decide, by decide⟩) (pp_VT (en_ok g) (ci := 12) (kd := (48, 0)) hK hO k_h0 (nxg clo_nil k_h0 rfl) (fun _ h9 => ko1 h9) hP hD hS hA hE [] rfl rfl rfl) rfl rfl hl.1 rfl (lv_room (Nat.le_of_ble_eq_true rfl)) dMH_keys_72 ⟨by omega, by omega⟩) (fun  pl H locs hu28 hP hD hS => ?_)
  obtain ⟨hq28, hO⟩ := hu28
  have hP : va_P g.1 vcl ([] ++ pl) _ := hP
  have hD : va_D _ ([] ++ pl) := hD
  refine W.widen (k := 0) (n := 0) (by omega) (by omega) ?_
  refine lv_iconst (v := nI 0) hx hb dMH_keys_75 (by decide) ?_
  refine lv_istore (lv' := [(5, .int (nI 0)), (0, .ref h0), (1, .int (nI 2)), (2, .ref b), (3, .ref pk), (4, .ref sk)]) hx hb dMH_keys_76 hl (by decide) rfl (fun ls hl => ?_)
  have lp21 : ∀ (n21 : Nat) (i21 : Nat) (pl : va_W) (ls : Array Slot) (H : Heap) (locs : List Loc), n21 + i21 = 7 → lv_has ls 10 [(5, .int (nI i21)), (0, .ref h0), (3, .ref pk), (4, .ref sk)] → okx g T [] pl → va_P g.1 vcl ([] ++ pl) H → va_D A ([] ++ pl) → va_S A s.heap H locs → W p l e ({ frames := 4, cells := 0, slots := 0, locals := 98 } : Room) s m args below meth c H locs 0 0 (MQ below (va_Qv (fun (u : va_W) => (True) ∧ okx g T0 [] u) (po g.1 vcl A (fun (u : va_W) => [] ++ u)) A) args s 0 0 A) (F0 m 78 ls []) := by
    intro n21
    induction n21 with
    | zero =>
      intro i21 pl ls H locs hm21  hl hO hP hD hS
      refine lv_iload hx hb dMH_keys_78 (lv_at hl 0 rfl) ?_
      refine lv_aload_n hx hb dMH_keys_80 rfl (lv_at hl 1 rfl) ?_
      refine ty_get (ci := 12) (C := "LatticeKeysModel$Hands") (TT := T_MH) (N := 31) (kd := (48, 0)) hx hb hts (wg_ft i_MH) hown hK hO k_h0 (nxg clo_nil k_h0 rfl) hP (fun _ h9 => h9) rfl 25 (by decide) (hts _ (wg_t kw_1457)) (fun _ h9 => h9) (cd := (1, 0, 7)) rfl dMH_keys_81 (fun v62 hv62 => ?_)
      obtain rfl := (show v62 = .int (nI 7) from hv62)
      refine mi_ge (tgt := 135) hx hb dMH_keys_84 (by decide) (by omega) (by omega) (fun h21 => ?_) (fun h21 => absurd h21 (by omega))
      refine lv_iconst (v := nI 0) hx hb dMH_keys_135 (by decide) ?_
      refine lv_istore (lv' := [(5, .int (nI 0)), (0, .ref h0), (3, .ref pk), (4, .ref sk)]) hx hb dMH_keys_136 hl (by decide) rfl (fun ls hl => ?_)
      have lp22 : ∀ (n22 : Nat) (i22 : Nat) (pl : va_W) (ls : Array Slot) (H : Heap) (locs : List Loc), n22 + i22 = 8 → lv_has ls 10 [(5, .int (nI i22)), (0, .ref h0), (3, .ref pk), (4, .ref sk)] → okx g T [] pl → va_P g.1 vcl ([] ++ pl) H → va_D A ([] ++ pl) → va_S A s.heap H locs → W p l e ({ frames := 4, cells := 0, slots := 0, locals := 98 } : Room) s m args below meth c H locs 0 0 (MQ below (va_Qv (fun (u : va_W) => (True) ∧ okx g T0 [] u) (po g.1 vcl A (fun (u : va_W) => [] ++ u)) A) args s 0 0 A) (F0 m 138 ls []) := by
        intro n22
        induction n22 with
        | zero =>
          intro i22 pl ls H locs hm22  hl hO hP hD hS
          refine lv_iload hx hb dMH_keys_138 (lv_at hl 0 rfl) ?_
          refine lv_aload_n hx hb dMH_keys_140 rfl (lv_at hl 1 rfl) ?_
          refine ty_get (ci := 12) (C := "LatticeKeysModel$Hands") (TT := T_MH) (N := 31) (kd := (48, 0)) hx hb hts (wg_ft i_MH) hown hK hO k_h0 (nxg clo_nil k_h0 rfl) hP (fun _ h9 => h9) rfl 24 (by decide) (hts _ (wg_t kw_1456)) (fun _ h9 => h9) (cd := (1, 0, 8)) rfl dMH_keys_141 (fun v63 hv63 => ?_)
          obtain rfl := (show v63 = .int (nI 8) from hv63)
          refine mi_ge (tgt := 280) hx hb dMH_keys_144 (by decide) (by omega) (by omega) (fun h22 => ?_) (fun h22 => absurd h22 (by omega))
          refine lv_iconst (v := nI 0) hx hb dMH_keys_280 (by decide) ?_
          refine lv_istore (lv' := [(5, .int (nI 0)), (0, .ref h0), (3, .ref pk), (4, .ref sk)]) hx hb dMH_keys_281 hl (by decide) rfl (fun ls hl => ?_)
          have lp23 : ∀ (n23 : Nat) (i23 : Nat) (pl : va_W) (ls : Array Slot) (H : Heap) (locs : List Loc), n23 + i23 = 32 → lv_has ls 10 [(5, .int (nI i23)), (0, .ref h0), (3, .ref pk), (4, .ref sk)] → okx g T [] pl → va_P g.1 vcl ([] ++ pl) H → va_D A ([] ++ pl) → va_S A s.heap H locs → W p l e ({ frames := 4, cells := 0, slots := 0, locals := 98 } : Room) s m args below meth c H locs 0 0 (MQ below (va_Qv (fun (u : va_W) => (True) ∧ okx g T0 [] u) (po g.1 vcl A (fun (u : va_W) => [] ++ u)) A) args s 0 0 A) (F0 m 283 ls []) := by
            intro n23
            induction n23 with
            | zero =>
              intro i23 pl ls H locs hm23  hl hO hP hD hS
              refine lv_iload hx hb dMH_keys_283 (lv_at hl 0 rfl) ?_
              refine lv_bipush (v := nI 32) hx hb dMH_keys_285 (by decide) ?_
              refine mi_ge (tgt := 337) hx hb dMH_keys_287 (by decide) (by omega) (by omega) (fun h23 => ?_) (fun h23 => absurd h23 (by omega))
              refine lv_iconst (v := nI 0) hx hb dMH_keys_337 (by decide) ?_
              refine lv_istore (lv' := [(5, .int (nI 0)), (0, .ref h0), (3, .ref pk), (4, .ref sk)]) hx hb dMH_keys_338 hl (by decide) rfl (fun ls hl => ?_)
              have lp24 : ∀ (n24 : Nat) (i24 : Nat) (pl : va_W) (ls : Array Slot) (H : Heap) (locs : List Loc), n24 + i24 = 8 → lv_has ls 10 [(5, .int (nI i24)), (0, .ref h0), (3, .ref pk), (4, .ref sk)] → okx g T [] pl → va_P g.1 vcl ([] ++ pl) H → va_D A ([] ++ pl) → va_S A s.heap H locs → W p l e ({ frames := 4, cells := 0, slots := 0, locals := 98 } : Room) s m args below meth c H locs 0 0 (MQ below (va_Qv (fun (u : va_W) => (True) ∧ okx g T0 [] u) (po g.1 vcl A (fun (u : va_W) => [] ++ u)) A) args s 0 0 A) (F0 m 340 ls []) := by
                intro n24
                induction n24 with
                | zero =>
                  intro i24 pl ls H locs hm24  hl hO hP hD hS
                  refine lv_iload hx hb dMH_keys_340 (lv_at hl 0 rfl) ?_
                  refine lv_aload_n hx hb dMH_keys_342 rfl (lv_at hl 1 rfl) ?_
                  refine ty_get (ci := 12) (C := "LatticeKeysModel$Hands") (TT := T_MH) (N := 31) (kd := (48, 0)) hx hb hts (wg_ft i_MH) hown hK hO k_h0 (nxg clo_nil k_h0 rfl) hP (fun _ h9 => h9) rfl 24 (by decide) (hts _ (wg_t kw_1456)) (fun _ h9 => h9) (cd := (1, 0, 8)) rfl dMH_keys_343 (fun v64 hv64 => ?_)
                  obtain rfl := (show v64 = .int (nI 8) from hv64)
                  refine mi_ge (tgt := 404) hx hb dMH_keys_346 (by decide) (by omega) (by omega) (fun h24 => ?_) (fun h24 => absurd h24 (by omega))
                  refine lv_aload_n hx hb dMH_keys_404 rfl (lv_at hl 1 rfl) ?_
                  refine ty_get (ci := 12) (C := "LatticeKeysModel$Hands") (TT := T_MH) (N := 31) (kd := (48, 0)) hx hb hts (wg_ft i_MH) hown hK hO k_h0 (nxg clo_nil k_h0 rfl) hP (fun _ h9 => h9) rfl 0 (by decide) (hts _ (wg_t kw_1432)) (fun _ h9 => h9) (cd := (3, 20, 0)) rfl dMH_keys_405 (fun v65 hv65 => ?_)
                  obtain ⟨r52, rfl, kr52⟩ := (show ∃ r : Nat, v65 = .ref r ∧ T r = some (20, 0) from hv65)
                  obtain rfl : r44 = r52 := hU _ _ _ (by decide) kr44 kr52
                  obtain ⟨e28, pl, hP, hD, hk28, hO⟩ := open1 hP hD hO kr44 (nxg clo_nil kr44 rfl)
                  obtain ⟨am26, am27, am28, am29, am30, rt22, ps28, x22, rfl, km26, km27, km28, km29, km30, hr24, hr25, hr26⟩ := hk28
                  obtain ⟨e29, pl, hP, hD, hk29, hO⟩ := open1 hP hD hO km26 (nmc (knd_ne km26 kr44 (by decide)) (nxg clo_nil km26 rfl))
                  obtain ⟨f44, rfl⟩ := hk29
                  obtain ⟨e30, pl, hP, hD, hk30, hO⟩ := open1 hP hD hO km27 (nmc (knd_ne km27 km26 (by decide)) (nmc (knd_ne km27 kr44 (by decide)) (nxg clo_nil km27 rfl)))
                  obtain ⟨f45, rfl⟩ := hk30
                  obtain ⟨e31, pl, hP, hD, hk31, hO⟩ := open1 hP hD hO km28 (nmc (knd_ne km28 km27 (by decide)) (nmc (knd_ne km28 km26 (by decide)) (nmc (knd_ne km28 kr44 (by decide)) (nxg clo_nil km28 rfl))))
                  obtain ⟨f46, rfl⟩ := hk31
                  obtain ⟨e32, pl, hP, hD, hk32, hO⟩ := open1 hP hD hO km29 (nmc (knd_ne km29 km28 (by decide)) (nmc (knd_ne km29 km27 (by decide)) (nmc (knd_ne km29 km26 (by decide)) (nmc (knd_ne km29 kr44 (by decide)) (nxg clo_nil km29 rfl)))))
                  obtain ⟨f47, rfl⟩ := hk32
                  obtain ⟨e33, pl, hP, hD, hk33, hO⟩ := open1 hP hD hO km30 (nmc (knd_ne km30 km29 (by decide)) (nmc (knd_ne km30 km28 (by decide)) (nmc (knd_ne km30 km27 (by decide)) (nmc (knd_ne km30 km26 (by decide)) (nmc (knd_ne km30 kr44 (by decide)) (nxg clo_nil km30 rfl))))))
                  obtain ⟨f48, rfl⟩ := hk33
                  have hP : va_P g.1 vcl ([(r44, .inr (9, [.ref am26, .ref am27, .ref am28, .ref am29, .ref am30, .int (nI rt22), .int (nI ps28), .int x22])), (am26, .inl (g.2.1 2, 25, .inr (.inl f44))), (am27, .inl (g.2.1 2, 25, .inr (.inl f45))), (am28, .inl (g.2.1 2, 5, .inr (.inl f46))), (am29, .inl (g.2.1 2, 24, .inr (.inl f47))), (am30, .inl (g.2.1 0, 25, .inl f48))] ++ pl) _ := hP
                  have hD : va_D _ ([(r44, .inr (9, [.ref am26, .ref am27, .ref am28, .ref am29, .ref am30, .int (nI rt22), .int (nI ps28), .int x22])), (am26, .inl (g.2.1 2, 25, .inr (.inl f44))), (am27, .inl (g.2.1 2, 25, .inr (.inl f45))), (am28, .inl (g.2.1 2, 5, .inr (.inl f46))), (am29, .inl (g.2.1 2, 24, .inr (.inl f47))), (am30, .inl (g.2.1 0, 25, .inl f48))] ++ pl) := hD
                  refine mp_v (cx := [(r44, .inr (9, [.ref am26, .ref am27, .ref am28, .ref am29, .ref am30, .int (nI rt22), .int (nI ps28), .int x22])), (am26, .inl (g.2.1 2, 25, .inr (.inl f44))), (am27, .inl (g.2.1 2, 25, .inr (.inl f45))), (am28, .inl (g.2.1 2, 5, .inr (.inl f46))), (am29, .inl (g.2.1 2, 24, .inr (.inl f47))), (am30, .inl (g.2.1 0, 25, .inl f48))]) (wr := []) hP hD hS hA [0, 1, 2, 3, 4, 5] [] rfl rfl rfl (by decide) (va_runV (As := []) (rest := []) F (t_MS_shake l g _ T (am30 :: (am29 :: (am28 :: (am27 :: (am26 :: (r44 :: [])))))) pl hO hU  r44 am26 am27 am28 am29 am30 rt22 ps28 x22 f44 f45 f46 f47 f48) (cwV 0 hts (wg_app (wg_c kw_1718 (wg_c kw_1661 (wg_c kw_1662 (wg_c kw_10 wg_n)))) kw_1663) rfl rfl rfl (by decide +kernel) ⟨by decide, by decide⟩) (pp_V (en_ok g) (q0 := 0) hK hP hD hS hA hE [0, 1, 2, 3, 4, 5] rfl rfl rfl rfl) rfl rfl hl.1 rfl (lv_room (Nat.le_of_ble_eq_true rfl)) dMH_keys_408 ⟨by omega, by omega⟩) (fun  u33 H locs hu29 hP hD hS => ?_)
                  obtain ⟨u34, pl⟩ := u33
                  obtain ⟨hq29, hO⟩ := hu29
                  obtain ⟨ps29, f49, f50, f51⟩ := u34
                  have hP : va_P g.1 vcl ([(r44, .inr (9, [.ref am26, .ref am27, .ref am28, .ref am29, .ref am30, .int (nI 136), .int (nI ps29), .int (nI 31)])), (am26, .inl (g.2.1 2, 25, .inr (.inl f49))), (am27, .inl (g.2.1 2, 25, .inr (.inl f50))), (am28, .inl (g.2.1 2, 5, .inr (.inl f51))), (am29, .inl (g.2.1 2, 24, .inr (.inl f47))), (am30, .inl (g.2.1 0, 25, .inl f48))] ++ pl) _ := hP
                  have hD : va_D _ ([(r44, .inr (9, [.ref am26, .ref am27, .ref am28, .ref am29, .ref am30, .int (nI 136), .int (nI ps29), .int (nI 31)])), (am26, .inl (g.2.1 2, 25, .inr (.inl f49))), (am27, .inl (g.2.1 2, 25, .inr (.inl f50))), (am28, .inl (g.2.1 2, 5, .inr (.inl f51))), (am29, .inl (g.2.1 2, 24, .inr (.inl f47))), (am30, .inl (g.2.1 0, 25, .inl f48))] ++ pl) := hD
                  have hq29 : ps29 ≤ 136 := hq29
                  refine W.widen (k := 0) (n := 0) (by omega) (by omega) ?_
                  refine lv_aload_n hx hb dMH_keys_411 rfl (lv_at hl 1 rfl) ?_
                  refine ty_get (ci := 12) (C := "LatticeKeysModel$Hands") (TT := T_MH) (N := 31) (kd := (48, 0)) hx hb hts (wg_ft i_MH) hown hK hO k_h0 (nxg (clo_cons (clo_cons (clo_cons (clo_cons (clo_cons (clo_cons clo_nil kr44 (by decide)) km26 (by decide)) km27 (by decide)) km28 (by decide)) km29 (by decide)) km30 (by decide)) k_h0 rfl) hP (fun _ h9 => h9) rfl 0 (by decide) (hts _ (wg_t kw_1432)) (fun _ h9 => h9) (cd := (3, 20, 0)) rfl dMH_keys_412 (fun v66 hv66 => ?_)
                  obtain ⟨r53, rfl, kr53⟩ := (show ∃ r : Nat, v66 = .ref r ∧ T r = some (20, 0) from hv66)
                  obtain rfl : r44 = r53 := hU _ _ _ (by decide) kr44 kr53
                  refine lv_aload_n hx hb dMH_keys_415 rfl (lv_at hl 2 rfl) ?_
                  refine lv_iconst (v := nI 0) hx hb dMH_keys_416 (by decide) ?_
                  refine lv_aload_n hx hb dMH_keys_417 rfl (lv_at hl 1 rfl) ?_
                  refine ty_get (ci := 12) (C := "LatticeKeysModel$Hands") (TT := T_MH) (N := 31) (kd := (48, 0)) hx hb hts (wg_ft i_MH) hown hK hO k_h0 (nxg (clo_cons (clo_cons (clo_cons (clo_cons (clo_cons (clo_cons clo_nil kr44 (by decide)) km26 (by decide)) km27 (by decide)) km28 (by decide)) km29 (by decide)) km30 (by decide)) k_h0 rfl) hP (fun _ h9 => h9) rfl 23 (by decide) (hts _ (wg_t kw_1455)) (fun _ h9 => h9) (cd := (1, 0, 2)) rfl dMH_keys_418 (fun v67 hv67 => ?_)
                  obtain rfl := (show v67 = .int (nI 2) from hv67)
                  refine mp_i (cx := []) (wr := [(r44, .inr (9, [.ref am26, .ref am27, .ref am28, .ref am29, .ref am30, .int (nI 136), .int (nI ps29), .int (nI 31)])), (am26, .inl (g.2.1 2, 25, .inr (.inl f49))), (am27, .inl (g.2.1 2, 25, .inr (.inl f50))), (am28, .inl (g.2.1 2, 5, .inr (.inl f51))), (am29, .inl (g.2.1 2, 24, .inr (.inl f47))), (am30, .inl (g.2.1 0, 25, .inl f48))]) hP hD hS hA [] [0, 1, 2, 3, 4, 5] rfl rfl rfl (by decide) (va_runS (As := [.int (nI 2)]) (rest := [.int (nI 0), .ref pk, .ref r44]) F (t_MH_openSize_2 l g _ T (am30 :: (am29 :: (am28 :: (am27 :: (am26 :: (r44 :: [])))))) pl hO hU  ) (va_cwS 1 hts (wg_app (wg_c kw_1744 (wg_c kw_1745 (wg_c kw_13 wg_n))) kw_1746) rfl rfl rfl (by decide +kernel) ⟨by decide, by decide⟩) (pp_S (en_ok g) hP hD hS hA hE [] rfl rfl) rfl rfl hl.1 rfl (lv_room (Nat.le_of_ble_eq_true rfl)) dMH_keys_421 ⟨by omega, by omega⟩) (fun r54 pl H locs hu30 hP hD hS => ?_)
                  obtain ⟨hq30, hO⟩ := hu30
                  have hP : va_P g.1 vcl ([(r44, .inr (9, [.ref am26, .ref am27, .ref am28, .ref am29, .ref am30, .int (nI 136), .int (nI ps29), .int (nI 31)])), (am26, .inl (g.2.1 2, 25, .inr (.inl f49))), (am27, .inl (g.2.1 2, 25, .inr (.inl f50))), (am28, .inl (g.2.1 2, 5, .inr (.inl f51))), (am29, .inl (g.2.1 2, 24, .inr (.inl f47))), (am30, .inl (g.2.1 0, 25, .inl f48))] ++ pl) _ := hP
                  have hD : va_D _ ([(r44, .inr (9, [.ref am26, .ref am27, .ref am28, .ref am29, .ref am30, .int (nI 136), .int (nI ps29), .int (nI 31)])), (am26, .inl (g.2.1 2, 25, .inr (.inl f49))), (am27, .inl (g.2.1 2, 25, .inr (.inl f50))), (am28, .inl (g.2.1 2, 5, .inr (.inl f51))), (am29, .inl (g.2.1 2, 24, .inr (.inl f47))), (am30, .inl (g.2.1 0, 25, .inl f48))] ++ pl) := hD
                  obtain rfl := hq30
                  refine W.widen (k := 0) (n := 0) (by omega) (by omega) ?_
                  refine mp_v (cx := [(r44, .inr (9, [.ref am26, .ref am27, .ref am28, .ref am29, .ref am30, .int (nI 136), .int (nI ps29), .int (nI 31)])), (am26, .inl (g.2.1 2, 25, .inr (.inl f49))), (am27, .inl (g.2.1 2, 25, .inr (.inl f50))), (am28, .inl (g.2.1 2, 5, .inr (.inl f51))), (am29, .inl (g.2.1 2, 24, .inr (.inl f47))), (am30, .inl (g.2.1 0, 25, .inl f48))]) (wr := []) hP hD hS hA [0, 1, 2, 3, 4, 5] [] rfl rfl rfl (by decide) (va_runV (As := [.ref pk, .int (nI 0), .int (nI 2592)]) (rest := []) F (t_MS_puts l g _ T (am30 :: (am29 :: (am28 :: (am27 :: (am26 :: (r44 :: [])))))) pl hO hU (clo_cons (clo_cons (clo_cons (clo_cons (clo_cons (clo_cons clo_nil kr44 (by decide)) km26 (by decide)) km27 (by decide)) km28 (by decide)) km29 (by decide)) km30 (by decide)) pk 2592 0 2592 r44 am26 am27 am28 am29 am30 136 ps29 (nI 31) f49 f50 f51 f47 f48 k_pk (by omega) (by omega) (by omega) (by omega)) (cwV 3 hts (wg_app (wg_c kw_1719 (wg_c kw_1612 (wg_c kw_1613 (wg_c kw_10 wg_n)))) kw_1614) rfl rfl rfl (by decide +kernel) ⟨by decide, by decide⟩) (pp_V (en_ok g) (q0 := 0) hK hP hD hS hA hE [0, 1, 2, 3, 4, 5] rfl rfl rfl rfl) rfl rfl hl.1 rfl (lv_room (Nat.le_of_ble_eq_true rfl)) dMH_keys_424 ⟨by omega, by omega⟩) (fun  u35 H locs hu31 hP hD hS => ?_)
                  obtain ⟨u36, pl⟩ := u35
                  obtain ⟨hq31, hO⟩ := hu31
                  obtain ⟨ps30, f52, f53, f54⟩ := u36
                  have hP : va_P g.1 vcl ([(r44, .inr (9, [.ref am26, .ref am27, .ref am28, .ref am29, .ref am30, .int (nI 136), .int (nI ps30), .int (nI 31)])), (am26, .inl (g.2.1 2, 25, .inr (.inl f52))), (am27, .inl (g.2.1 2, 25, .inr (.inl f53))), (am28, .inl (g.2.1 2, 5, .inr (.inl f54))), (am29, .inl (g.2.1 2, 24, .inr (.inl f47))), (am30, .inl (g.2.1 0, 25, .inl f48))] ++ pl) _ := hP
                  have hD : va_D _ ([(r44, .inr (9, [.ref am26, .ref am27, .ref am28, .ref am29, .ref am30, .int (nI 136), .int (nI ps30), .int (nI 31)])), (am26, .inl (g.2.1 2, 25, .inr (.inl f52))), (am27, .inl (g.2.1 2, 25, .inr (.inl f53))), (am28, .inl (g.2.1 2, 5, .inr (.inl f54))), (am29, .inl (g.2.1 2, 24, .inr (.inl f47))), (am30, .inl (g.2.1 0, 25, .inl f48))] ++ pl) := hD
                  have hq31 : ps30 ≤ 136 := hq31
                  refine W.widen (k := 0) (n := 0) (by omega) (by omega) ?_
                  refine lv_aload_n hx hb dMH_keys_427 rfl (lv_at hl 1 rfl) ?_
                  refine ty_get (ci := 12) (C := "LatticeKeysModel$Hands") (TT := T_MH) (N := 31) (kd := (48, 0)) hx hb hts (wg_ft i_MH) hown hK hO k_h0 (nxg (clo_cons (clo_cons (clo_cons (clo_cons (clo_cons (clo_cons clo_nil kr44 (by decide)) km26 (by decide)) km27 (by decide)) km28 (by decide)) km29 (by decide)) km30 (by decide)) k_h0 rfl) hP (fun _ h9 => h9) rfl 0 (by decide) (hts _ (wg_t kw_1432)) (fun _ h9 => h9) (cd := (3, 20, 0)) rfl dMH_keys_428 (fun v68 hv68 => ?_)
                  obtain ⟨r55, rfl, kr54⟩ := (show ∃ r : Nat, v68 = .ref r ∧ T r = some (20, 0) from hv68)
                  obtain rfl : r44 = r55 := hU _ _ _ (by decide) kr44 kr54
                  refine mp_v (cx := [(r44, .inr (9, [.ref am26, .ref am27, .ref am28, .ref am29, .ref am30, .int (nI 136), .int (nI ps30), .int (nI 31)])), (am26, .inl (g.2.1 2, 25, .inr (.inl f52))), (am27, .inl (g.2.1 2, 25, .inr (.inl f53))), (am28, .inl (g.2.1 2, 5, .inr (.inl f54))), (am29, .inl (g.2.1 2, 24, .inr (.inl f47))), (am30, .inl (g.2.1 0, 25, .inl f48))]) (wr := []) hP hD hS hA [0, 1, 2, 3, 4, 5] [] rfl rfl rfl (by decide) (va_runV (As := []) (rest := []) F (t_MS_end l g _ T (am30 :: (am29 :: (am28 :: (am27 :: (am26 :: (r44 :: [])))))) pl hO hU  r44 am26 am27 am28 am29 am30 136 ps30 (nI 31) f52 f53 f54 f47 f48 (by omega) (by omega)) (cwV 0 hts (wg_app (wg_c kw_1721 (wg_c kw_1634 (wg_c kw_1635 (wg_c kw_10 wg_n)))) kw_1636) rfl rfl rfl (by decide +kernel) ⟨by decide, by decide⟩) (pp_V (en_ok g) (q0 := 0) hK hP hD hS hA hE [0, 1, 2, 3, 4, 5] rfl rfl rfl rfl) rfl rfl hl.1 rfl (lv_room (Nat.le_of_ble_eq_true rfl)) dMH_keys_431 ⟨by omega, by omega⟩) (fun  u37 H locs hu32 hP hD hS => ?_)
                  obtain ⟨u38, pl⟩ := u37
                  obtain ⟨hq32, hO⟩ := hu32
                  obtain ⟨ps31, f55, f56, f57⟩ := u38
                  have hP : va_P g.1 vcl ([(r44, .inr (9, [.ref am26, .ref am27, .ref am28, .ref am29, .ref am30, .int (nI 136), .int (nI ps31), .int (nI 31)])), (am26, .inl (g.2.1 2, 25, .inr (.inl f55))), (am27, .inl (g.2.1 2, 25, .inr (.inl f56))), (am28, .inl (g.2.1 2, 5, .inr (.inl f57))), (am29, .inl (g.2.1 2, 24, .inr (.inl f47))), (am30, .inl (g.2.1 0, 25, .inl f48))] ++ pl) _ := hP
                  have hD : va_D _ ([(r44, .inr (9, [.ref am26, .ref am27, .ref am28, .ref am29, .ref am30, .int (nI 136), .int (nI ps31), .int (nI 31)])), (am26, .inl (g.2.1 2, 25, .inr (.inl f55))), (am27, .inl (g.2.1 2, 25, .inr (.inl f56))), (am28, .inl (g.2.1 2, 5, .inr (.inl f57))), (am29, .inl (g.2.1 2, 24, .inr (.inl f47))), (am30, .inl (g.2.1 0, 25, .inl f48))] ++ pl) := hD
                  have hq32 : ps31 ≤ 136 := hq32
                  refine W.widen (k := 0) (n := 0) (by omega) (by omega) ?_
                  refine lv_aload_n hx hb dMH_keys_434 rfl (lv_at hl 1 rfl) ?_
                  refine ty_get (ci := 12) (C := "LatticeKeysModel$Hands") (TT := T_MH) (N := 31) (kd := (48, 0)) hx hb hts (wg_ft i_MH) hown hK hO k_h0 (nxg (clo_cons (clo_cons (clo_cons (clo_cons (clo_cons (clo_cons clo_nil kr44 (by decide)) km26 (by decide)) km27 (by decide)) km28 (by decide)) km29 (by decide)) km30 (by decide)) k_h0 rfl) hP (fun _ h9 => h9) rfl 0 (by decide) (hts _ (wg_t kw_1432)) (fun _ h9 => h9) (cd := (3, 20, 0)) rfl dMH_keys_435 (fun v69 hv69 => ?_)
                  obtain ⟨r56, rfl, kr55⟩ := (show ∃ r : Nat, v69 = .ref r ∧ T r = some (20, 0) from hv69)
                  obtain rfl : r44 = r56 := hU _ _ _ (by decide) kr44 kr55
                  refine lv_aload hx hb dMH_keys_438 (lv_at hl 3 rfl) ?_
                  refine lv_bipush (v := nI 64) hx hb dMH_keys_440 (by decide) ?_
                  refine lv_bipush (v := nI 64) hx hb dMH_keys_442 (by decide) ?_
                  refine mp_v (cx := [(r44, .inr (9, [.ref am26, .ref am27, .ref am28, .ref am29, .ref am30, .int (nI 136), .int (nI ps31), .int (nI 31)])), (am26, .inl (g.2.1 2, 25, .inr (.inl f55))), (am27, .inl (g.2.1 2, 25, .inr (.inl f56))), (am28, .inl (g.2.1 2, 5, .inr (.inl f57))), (am29, .inl (g.2.1 2, 24, .inr (.inl f47))), (am30, .inl (g.2.1 0, 25, .inl f48))]) (wr := []) hP hD hS hA [0, 1, 2, 3, 4, 5] [] rfl rfl rfl (by decide) (va_runV (As := [.ref sk, .int (nI 64), .int (nI 64)]) (rest := []) F (t_MS_take l g _ T (am30 :: (am29 :: (am28 :: (am27 :: (am26 :: (r44 :: [])))))) pl hO hU (clo_cons (clo_cons (clo_cons (clo_cons (clo_cons (clo_cons clo_nil kr44 (by decide)) km26 (by decide)) km27 (by decide)) km28 (by decide)) km29 (by decide)) km30 (by decide)) sk 4896 64 64 r44 am26 am27 am28 am29 am30 136 ps31 (nI 31) f55 f56 f57 f47 f48 k_sk (by omega) (by omega) (by omega) (by omega)) (cwV 3 hts (wg_app (wg_c kw_1722 (wg_c kw_1638 (wg_c kw_1639 (wg_c kw_10 wg_n)))) kw_1640) rfl rfl rfl (by decide +kernel) ⟨by decide, by decide⟩) (pp_V (en_ok g) (q0 := 0) hK hP hD hS hA hE [0, 1, 2, 3, 4, 5] rfl rfl rfl rfl) rfl rfl hl.1 rfl (lv_room (Nat.le_of_ble_eq_true rfl)) dMH_keys_444 ⟨by omega, by omega⟩) (fun  u39 H locs hu33 hP hD hS => ?_)
                  obtain ⟨u40, pl⟩ := u39
                  obtain ⟨hq33, hO⟩ := hu33
                  obtain ⟨ps32, f58, f59, f60⟩ := u40
                  have hP : va_P g.1 vcl ([(r44, .inr (9, [.ref am26, .ref am27, .ref am28, .ref am29, .ref am30, .int (nI 136), .int (nI ps32), .int (nI 31)])), (am26, .inl (g.2.1 2, 25, .inr (.inl f58))), (am27, .inl (g.2.1 2, 25, .inr (.inl f59))), (am28, .inl (g.2.1 2, 5, .inr (.inl f60))), (am29, .inl (g.2.1 2, 24, .inr (.inl f47))), (am30, .inl (g.2.1 0, 25, .inl f48))] ++ pl) _ := hP
                  have hD : va_D _ ([(r44, .inr (9, [.ref am26, .ref am27, .ref am28, .ref am29, .ref am30, .int (nI 136), .int (nI ps32), .int (nI 31)])), (am26, .inl (g.2.1 2, 25, .inr (.inl f58))), (am27, .inl (g.2.1 2, 25, .inr (.inl f59))), (am28, .inl (g.2.1 2, 5, .inr (.inl f60))), (am29, .inl (g.2.1 2, 24, .inr (.inl f47))), (am30, .inl (g.2.1 0, 25, .inl f48))] ++ pl) := hD
                  have hq33 : ps32 ≤ 136 := hq33
                  refine W.widen (k := 0) (n := 0) (by omega) (by omega) ?_
                  refine lv_aload_n hx hb dMH_keys_447 rfl (lv_at hl 1 rfl) ?_
                  refine ty_get (ci := 12) (C := "LatticeKeysModel$Hands") (TT := T_MH) (N := 31) (kd := (48, 0)) hx hb hts (wg_ft i_MH) hown hK hO k_h0 (nxg (clo_cons (clo_cons (clo_cons (clo_cons (clo_cons (clo_cons clo_nil kr44 (by decide)) km26 (by decide)) km27 (by decide)) km28 (by decide)) km29 (by decide)) km30 (by decide)) k_h0 rfl) hP (fun _ h9 => h9) rfl 26 (by decide) (hts _ (wg_t kw_1458)) (fun _ h9 => h9) (cd := (1, 0, 2)) rfl dMH_keys_448 (fun v70 hv70 => ?_)
                  obtain rfl := (show v70 = .int (nI 2) from hv70)
                  refine lv_iconst (v := nI 2) hx hb dMH_keys_451 (by decide) ?_
                  refine mi_ne (tgt := 459) hx hb dMH_keys_452 (by decide) (by omega) (by omega) (fun h25 => absurd h25 (by omega)) (fun h25 => ?_)
                  refine lv_iconst (v := nI 3) hx hb dMH_keys_455 (by decide) ?_
                  refine lv_goto (tgt := 460) hx hb dMH_keys_456 (by decide) ?_
                  refine lv_istore (lv' := [(5, .int (nI 3)), (0, .ref h0), (3, .ref pk), (4, .ref sk)]) hx hb dMH_keys_460 hl (by decide) rfl (fun ls hl => ?_)
                  refine lv_sipush (v := nI 1024) hx hb dMH_keys_462 (by decide) ?_
                  refine lv_istore (lv' := [(6, .int (nI 1024)), (5, .int (nI 3)), (0, .ref h0), (3, .ref pk), (4, .ref sk)]) hx hb dMH_keys_465 hl (by decide) rfl (fun ls hl => ?_)
                  refine lv_iconst (v := nI 0) hx hb dMH_keys_467 (by decide) ?_
                  refine lv_istore (lv' := [(7, .int (nI 0)), (6, .int (nI 1024)), (5, .int (nI 3)), (0, .ref h0), (3, .ref pk), (4, .ref sk)]) hx hb dMH_keys_468 hl (by decide) rfl (fun ls hl => ?_)
                  have hO := close1 (e := .inl (g.2.1 0, 25, .inl f48)) hO km30 ⟨_, rfl⟩
                  have hO := close1 (e := .inl (g.2.1 2, 24, .inr (.inl f47))) hO km29 ⟨_, rfl⟩
                  have hO := close1 (e := .inl (g.2.1 2, 5, .inr (.inl f60))) hO km28 ⟨_, rfl⟩
                  have hO := close1 (e := .inl (g.2.1 2, 25, .inr (.inl f59))) hO km27 ⟨_, rfl⟩
                  have hO := close1 (e := .inl (g.2.1 2, 25, .inr (.inl f58))) hO km26 ⟨_, rfl⟩
                  have hO := close1 (e := .inr (9, [.ref am26, .ref am27, .ref am28, .ref am29, .ref am30, .int (nI 136), .int (nI ps32), .int (nI 31)])) hO kr44 ⟨_, _, _, _, _, _, _, _, rfl, km26, km27, km28, km29, km30, by omega, by omega, by omega⟩
                  have hO : okx g T [] ((r44, .inr (9, [.ref am26, .ref am27, .ref am28, .ref am29, .ref am30, .int (nI 136), .int (nI ps32), .int (nI 31)])) :: (am26, .inl (g.2.1 2, 25, .inr (.inl f58))) :: (am27, .inl (g.2.1 2, 25, .inr (.inl f59))) :: (am28, .inl (g.2.1 2, 5, .inr (.inl f60))) :: (am29, .inl (g.2.1 2, 24, .inr (.inl f47))) :: (am30, .inl (g.2.1 0, 25, .inl f48)) :: pl) := hO
                  have hP : va_P g.1 vcl ([] ++ ((r44, .inr (9, [.ref am26, .ref am27, .ref am28, .ref am29, .ref am30, .int (nI 136), .int (nI ps32), .int (nI 31)])) :: (am26, .inl (g.2.1 2, 25, .inr (.inl f58))) :: (am27, .inl (g.2.1 2, 25, .inr (.inl f59))) :: (am28, .inl (g.2.1 2, 5, .inr (.inl f60))) :: (am29, .inl (g.2.1 2, 24, .inr (.inl f47))) :: (am30, .inl (g.2.1 0, 25, .inl f48)) :: pl)) _ := hP
                  have hD : va_D _ ([] ++ ((r44, .inr (9, [.ref am26, .ref am27, .ref am28, .ref am29, .ref am30, .int (nI 136), .int (nI ps32), .int (nI 31)])) :: (am26, .inl (g.2.1 2, 25, .inr (.inl f58))) :: (am27, .inl (g.2.1 2, 25, .inr (.inl f59))) :: (am28, .inl (g.2.1 2, 5, .inr (.inl f60))) :: (am29, .inl (g.2.1 2, 24, .inr (.inl f47))) :: (am30, .inl (g.2.1 0, 25, .inl f48)) :: pl)) := hD
                  generalize ((r44, .inr (9, [.ref am26, .ref am27, .ref am28, .ref am29, .ref am30, .int (nI 136), .int (nI ps32), .int (nI 31)])) :: (am26, .inl (g.2.1 2, 25, .inr (.inl f58))) :: (am27, .inl (g.2.1 2, 25, .inr (.inl f59))) :: (am28, .inl (g.2.1 2, 5, .inr (.inl f60))) :: (am29, .inl (g.2.1 2, 24, .inr (.inl f47))) :: (am30, .inl (g.2.1 0, 25, .inl f48)) :: pl) = pl at hO hP hD
                  have lp25 : ∀ (n25 : Nat) (i25 : Nat) (az21 : Nat) (pl : va_W) (ls : Array Slot) (H : Heap) (locs : List Loc), n25 + i25 = 15 → (az21 = 1024 + 768 * i25) → lv_has ls 10 [(7, .int (nI i25)), (6, .int (nI az21)), (5, .int (nI 3)), (0, .ref h0), (4, .ref sk)] → okx g T [] pl → va_P g.1 vcl ([] ++ pl) H → va_D A ([] ++ pl) → va_S A s.heap H locs → W p l e ({ frames := 4, cells := 0, slots := 0, locals := 98 } : Room) s m args below meth c H locs 0 0 (MQ below (va_Qv (fun (u : va_W) => (True) ∧ okx g T0 [] u) (po g.1 vcl A (fun (u : va_W) => [] ++ u)) A) args s 0 0 A) (F0 m 470 ls []) := by
                    intro n25
                    induction n25 with
                    | zero =>
                      intro i25 az21 pl ls H locs hm25 hi21 hl hO hP hD hS
                      refine lv_iload hx hb dMH_keys_470 (lv_at hl 0 rfl) ?_
                      refine lv_aload_n hx hb dMH_keys_472 rfl (lv_at hl 3 rfl) ?_
                      refine ty_get (ci := 12) (C := "LatticeKeysModel$Hands") (TT := T_MH) (N := 31) (kd := (48, 0)) hx hb hts (wg_ft i_MH) hown hK hO k_h0 (nxg clo_nil k_h0 rfl) hP (fun _ h9 => h9) rfl 24 (by decide) (hts _ (wg_t kw_1456)) (fun _ h9 => h9) (cd := (1, 0, 8)) rfl dMH_keys_473 (fun v71 hv71 => ?_)
                      obtain rfl := (show v71 = .int (nI 8) from hv71)
                      refine lv_aload_n hx hb dMH_keys_476 rfl (lv_at hl 3 rfl) ?_
                      refine ty_get (ci := 12) (C := "LatticeKeysModel$Hands") (TT := T_MH) (N := 31) (kd := (48, 0)) hx hb hts (wg_ft i_MH) hown hK hO k_h0 (nxg clo_nil k_h0 rfl) hP (fun _ h9 => h9) rfl 25 (by decide) (hts _ (wg_t kw_1457)) (fun _ h9 => h9) (cd := (1, 0, 7)) rfl dMH_keys_477 (fun v72 hv72 => ?_)
                      obtain rfl := (show v72 = .int (nI 7) from hv72)
                      refine mi_iadd hx hb dMH_keys_480 ?_
                      refine mi_as (show nI (8 + 7) = nI 15 from rfl) ?_
                      refine mi_ge (tgt := 591) hx hb dMH_keys_481 (by decide) (by omega) (by omega) (fun h26 => ?_) (fun h26 => absurd h26 (by omega))
                      refine lv_iconst (v := nI 0) hx hb dMH_keys_591 (by decide) ?_
                      refine lv_istore (lv' := [(7, .int (nI 0)), (6, .int (nI az21)), (5, .int (nI 3)), (0, .ref h0), (4, .ref sk)]) hx hb dMH_keys_592 hl (by decide) rfl (fun ls hl => ?_)
                      have lp26 : ∀ (n26 : Nat) (i26 : Nat) (az22 : Nat) (pl : va_W) (ls : Array Slot) (H : Heap) (locs : List Loc), n26 + i26 = 8 → (az22 = 12544 + 3328 * i26) → lv_has ls 10 [(7, .int (nI i26)), (6, .int (nI az22)), (0, .ref h0), (4, .ref sk)] → okx g T [] pl → va_P g.1 vcl ([] ++ pl) H → va_D A ([] ++ pl) → va_S A s.heap H locs → W p l e ({ frames := 4, cells := 0, slots := 0, locals := 98 } : Room) s m args below meth c H locs 0 0 (MQ below (va_Qv (fun (u : va_W) => (True) ∧ okx g T0 [] u) (po g.1 vcl A (fun (u : va_W) => [] ++ u)) A) args s 0 0 A) (F0 m 594 ls []) := by
                        intro n26
                        induction n26 with
                        | zero =>
                          intro i26 az22 pl ls H locs hm26 hi22 hl hO hP hD hS
                          refine lv_iload hx hb dMH_keys_594 (lv_at hl 0 rfl) ?_
                          refine lv_aload_n hx hb dMH_keys_596 rfl (lv_at hl 2 rfl) ?_
                          refine ty_get (ci := 12) (C := "LatticeKeysModel$Hands") (TT := T_MH) (N := 31) (kd := (48, 0)) hx hb hts (wg_ft i_MH) hown hK hO k_h0 (nxg clo_nil k_h0 rfl) hP (fun _ h9 => h9) rfl 24 (by decide) (hts _ (wg_t kw_1456)) (fun _ h9 => h9) (cd := (1, 0, 8)) rfl dMH_keys_597 (fun v73 hv73 => ?_)
                          obtain rfl := (show v73 = .int (nI 8) from hv73)
                          refine mi_ge (tgt := 652) hx hb dMH_keys_600 (by decide) (by omega) (by omega) (fun h27 => ?_) (fun h27 => absurd h27 (by omega))
                          exact mp_vret hx hb hr hlk hP hD hS pl ⟨trivial, (hback _ hO)⟩ [] rfl rfl rfl (by omega) (by omega) dMH_keys_652
                        | succ n26 ih26 =>
                          intro i26 az22 pl ls H locs hm26 hi22 hl hO hP hD hS
                          refine lv_iload hx hb dMH_keys_594 (lv_at hl 0 rfl) ?_
                          refine lv_aload_n hx hb dMH_keys_596 rfl (lv_at hl 2 rfl) ?_
                          refine ty_get (ci := 12) (C := "LatticeKeysModel$Hands") (TT := T_MH) (N := 31) (kd := (48, 0)) hx hb hts (wg_ft i_MH) hown hK hO k_h0 (nxg clo_nil k_h0 rfl) hP (fun _ h9 => h9) rfl 24 (by decide) (hts _ (wg_t kw_1456)) (fun _ h9 => h9) (cd := (1, 0, 8)) rfl dMH_keys_597 (fun v74 hv74 => ?_)
                          obtain rfl := (show v74 = .int (nI 8) from hv74)
                          refine mi_ge (tgt := 652) hx hb dMH_keys_600 (by decide) (by omega) (by omega) (fun h28 => absurd h28 (by omega)) (fun h28 => ?_)
                          refine lv_iconst (v := nI 0) hx hb dMH_keys_603 (by decide) ?_
                          refine lv_istore (lv' := [(8, .int (nI 0)), (7, .int (nI i26)), (6, .int (nI az22)), (0, .ref h0), (4, .ref sk)]) hx hb dMH_keys_604 hl (by decide) rfl (fun ls hl => ?_)
                          have lp27 : ∀ (n27 : Nat) (i27 : Nat) (az23 : Nat) (pl : va_W) (ls : Array Slot) (H : Heap) (locs : List Loc), n27 + i27 = 256 → (az23 = 12544 + 3328 * i26 + 13 * i27) → lv_has ls 10 [(8, .int (nI i27)), (7, .int (nI i26)), (6, .int (nI az23)), (0, .ref h0), (4, .ref sk)] → okx g T [] pl → va_P g.1 vcl ([] ++ pl) H → va_D A ([] ++ pl) → va_S A s.heap H locs → W p l e ({ frames := 4, cells := 0, slots := 0, locals := 98 } : Room) s m args below meth c H locs 0 0 (MQ below (va_Qv (fun (u : va_W) => (True) ∧ okx g T0 [] u) (po g.1 vcl A (fun (u : va_W) => [] ++ u)) A) args s 0 0 A) (F0 m 606 ls []) := by
                            intro n27
                            induction n27 with
                            | zero =>
                              intro i27 az23 pl ls H locs hm27 hi23 hl hO hP hD hS
                              refine lv_iload hx hb dMH_keys_606 (lv_at hl 0 rfl) ?_
                              refine lv_sipush (v := nI 256) hx hb dMH_keys_608 (by decide) ?_
                              refine mi_ge (tgt := 646) hx hb dMH_keys_611 (by decide) (by omega) (by omega) (fun h29 => ?_) (fun h29 => absurd h29 (by omega))
                              refine mi_iinc (k := 1) (x := i26) (d := 1) (y := i26 + 1) (lv' := [(7, .int (nI (i26 + 1))), (8, .int (nI i27)), (6, .int (nI az23)), (0, .ref h0), (4, .ref sk)]) hx hb dMH_keys_646 hl rfl (by decide) rfl (by decide) rfl (fun ls hl => ?_)
                              refine lv_goto (tgt := 594) hx hb dMH_keys_649 (by decide) ?_
                              exact ih26 (i26 + 1) az23 pl ls H locs (by omega) (by omega) (lv_sub hl [0, 2, 3, 4] rfl) hO hP hD hS
                            | succ n27 ih27 =>
                              intro i27 az23 pl ls H locs hm27 hi23 hl hO hP hD hS
                              refine lv_iload hx hb dMH_keys_606 (lv_at hl 0 rfl) ?_
                              refine lv_sipush (v := nI 256) hx hb dMH_keys_608 (by decide) ?_
                              refine mi_ge (tgt := 646) hx hb dMH_keys_611 (by decide) (by omega) (by omega) (fun h30 => absurd h30 (by omega)) (fun h30 => ?_)
                              refine lv_aload hx hb dMH_keys_614 (lv_at hl 4 rfl) ?_
                              refine lv_iload hx hb dMH_keys_616 (lv_at hl 2 rfl) ?_
                              refine lv_bipush (v := nI 13) hx hb dMH_keys_618 (by decide) ?_
                              refine lv_sipush (v := nI 4096) hx hb dMH_keys_620 (by decide) ?_
                              refine lv_aload_n hx hb dMH_keys_623 rfl (lv_at hl 3 rfl) ?_
                              refine ty_get (ci := 12) (C := "LatticeKeysModel$Hands") (TT := T_MH) (N := 31) (kd := (48, 0)) hx hb hts (wg_ft i_MH) hown hK hO k_h0 (nxg clo_nil k_h0 rfl) hP (fun _ h9 => h9) rfl 5 (by decide) (hts _ (wg_t kw_1437)) (fun _ h9 => h9) (cd := (3, 3, 8)) rfl dMH_keys_624 (fun v75 hv75 => ?_)
                              obtain ⟨r57, rfl, kr56⟩ := (show ∃ r : Nat, v75 = .ref r ∧ T r = some (3, 8) from hv75)
                              refine lv_iload hx hb dMH_keys_627 (lv_at hl 1 rfl) ?_
                              refine ty_aald3 hx hb hK hO kr56 (nxg clo_nil kr56 rfl) hP (by omega) (by decide) dMH_keys_629 (fun r58 kr57 => ?_)
                              refine lv_iload hx hb dMH_keys_630 (lv_at hl 0 rfl) ?_
                              refine ty_iald hx hb hK hO kr57 (nxg clo_nil kr57 rfl) hP (vp_in_nI (by omega) (by decide)) dMH_keys_632 (fun z29 => ?_)
                              refine lv_isub hx hb dMH_keys_633 ?_
                              refine mi_any (fun z30 => ?_)
                              refine mp_v (cx := []) (wr := []) hP hD hS hA [] [] rfl rfl rfl (by decide) (va_runSN (As := [.ref sk, .int (nI az23), .int (nI 13), .int z30]) (rest := []) F (t_M_pack l g _ T [] pl hO hU clo_nil sk 4896 az23 13 z30 k_sk (by omega) (by omega)) ⟨va_cnB 4 hts (wg_in kw_1690) rfl rfl rfl (hE.2.2.2.2.2.2.2.2.2.1) (hts _ (wg_t kw_9)) (by decide +kernel) ⟨by decide, by decide⟩, hts _ (wg_t kw_1689), trivial⟩ (pp_S (en_ok g) hP hD hS hA hE [] rfl rfl) rfl rfl hl.1 rfl (lv_room (Nat.le_of_ble_eq_true rfl)) dMH_keys_634 ⟨by omega, by omega⟩) (fun  pl H locs hu34 hP hD hS => ?_)
                              obtain ⟨hq34, hO⟩ := hu34
                              have hP : va_P g.1 vcl ([] ++ pl) _ := hP
                              have hD : va_D _ ([] ++ pl) := hD
                              refine W.widen (k := 0) (n := 0) (by omega) (by omega) ?_
                              refine mi_iinc (k := 2) (x := az23) (d := 13) (y := az23 + 13) (lv' := [(6, .int (nI (az23 + 13))), (8, .int (nI i27)), (7, .int (nI i26)), (0, .ref h0), (4, .ref sk)]) hx hb dMH_keys_637 hl rfl (by decide) rfl (by decide) rfl (fun ls hl => ?_)
                              refine mi_iinc (k := 1) (x := i27) (d := 1) (y := i27 + 1) (lv' := [(8, .int (nI (i27 + 1))), (6, .int (nI (az23 + 13))), (7, .int (nI i26)), (0, .ref h0), (4, .ref sk)]) hx hb dMH_keys_640 hl rfl (by decide) rfl (by decide) rfl (fun ls hl => ?_)
                              refine lv_goto (tgt := 606) hx hb dMH_keys_643 (by decide) ?_
                              exact ih27 (i27 + 1) (az23 + 13) pl ls H locs (by omega) (by omega) (lv_sub hl [0, 2, 1, 3, 4] rfl) hO hP hD hS
                          exact lp27 256 0 az22 pl ls _ _ (by omega) (by omega) (lv_sub hl [0, 1, 2, 3, 4] rfl) hO hP hD hS
                      exact lp26 8 0 az21 pl ls _ _ (by omega) (by omega) (lv_sub hl [0, 1, 3, 4] rfl) hO hP hD hS
                    | succ n25 ih25 =>
                      intro i25 az21 pl ls H locs hm25 hi21 hl hO hP hD hS
                      refine lv_iload hx hb dMH_keys_470 (lv_at hl 0 rfl) ?_
                      refine lv_aload_n hx hb dMH_keys_472 rfl (lv_at hl 3 rfl) ?_
                      refine ty_get (ci := 12) (C := "LatticeKeysModel$Hands") (TT := T_MH) (N := 31) (kd := (48, 0)) hx hb hts (wg_ft i_MH) hown hK hO k_h0 (nxg clo_nil k_h0 rfl) hP (fun _ h9 => h9) rfl 24 (by decide) (hts _ (wg_t kw_1456)) (fun _ h9 => h9) (cd := (1, 0, 8)) rfl dMH_keys_473 (fun v76 hv76 => ?_)
                      obtain rfl := (show v76 = .int (nI 8) from hv76)
                      refine lv_aload_n hx hb dMH_keys_476 rfl (lv_at hl 3 rfl) ?_
                      refine ty_get (ci := 12) (C := "LatticeKeysModel$Hands") (TT := T_MH) (N := 31) (kd := (48, 0)) hx hb hts (wg_ft i_MH) hown hK hO k_h0 (nxg clo_nil k_h0 rfl) hP (fun _ h9 => h9) rfl 25 (by decide) (hts _ (wg_t kw_1457)) (fun _ h9 => h9) (cd := (1, 0, 7)) rfl dMH_keys_477 (fun v77 hv77 => ?_)
                      obtain rfl := (show v77 = .int (nI 7) from hv77)
                      refine mi_iadd hx hb dMH_keys_480 ?_
                      refine mi_as (show nI (8 + 7) = nI 15 from rfl) ?_
                      refine mi_ge (tgt := 591) hx hb dMH_keys_481 (by decide) (by omega) (by omega) (fun h31 => absurd h31 (by omega)) (fun h31 => ?_)
                      refine lv_iconst (v := nI 0) hx hb dMH_keys_484 (by decide) ?_
                      refine lv_istore (lv' := [(8, .int (nI 0)), (7, .int (nI i25)), (6, .int (nI az21)), (5, .int (nI 3)), (0, .ref h0), (4, .ref sk)]) hx hb dMH_keys_485 hl (by decide) rfl (fun ls hl => ?_)
                      have lp28 : ∀ (n28 : Nat) (i28 : Nat) (az24 : Nat) (pl : va_W) (ls : Array Slot) (H : Heap) (locs : List Loc), n28 + i28 = 256 → (az24 = 1024 + 768 * i25 + 3 * i28) → lv_has ls 10 [(8, .int (nI i28)), (7, .int (nI i25)), (6, .int (nI az24)), (5, .int (nI 3)), (0, .ref h0), (4, .ref sk)] → okx g T [] pl → va_P g.1 vcl ([] ++ pl) H → va_D A ([] ++ pl) → va_S A s.heap H locs → W p l e ({ frames := 4, cells := 0, slots := 0, locals := 98 } : Room) s m args below meth c H locs 0 0 (MQ below (va_Qv (fun (u : va_W) => (True) ∧ okx g T0 [] u) (po g.1 vcl A (fun (u : va_W) => [] ++ u)) A) args s 0 0 A) (F0 m 487 ls []) := by
                        intro n28
                        induction n28 with
                        | zero =>
                          intro i28 az24 pl ls H locs hm28 hi24 hl hO hP hD hS
                          refine lv_iload hx hb dMH_keys_487 (lv_at hl 0 rfl) ?_
                          refine lv_sipush (v := nI 256) hx hb dMH_keys_489 (by decide) ?_
                          refine mi_ge (tgt := 585) hx hb dMH_keys_492 (by decide) (by omega) (by omega) (fun h32 => ?_) (fun h32 => absurd h32 (by omega))
                          refine mi_iinc (k := 1) (x := i25) (d := 1) (y := i25 + 1) (lv' := [(7, .int (nI (i25 + 1))), (8, .int (nI i28)), (6, .int (nI az24)), (5, .int (nI 3)), (0, .ref h0), (4, .ref sk)]) hx hb dMH_keys_585 hl rfl (by decide) rfl (by decide) rfl (fun ls hl => ?_)
                          refine lv_goto (tgt := 470) hx hb dMH_keys_588 (by decide) ?_
                          exact ih25 (i25 + 1) az24 pl ls H locs (by omega) (by omega) (lv_sub hl [0, 2, 3, 4, 5] rfl) hO hP hD hS
                        | succ n28 ih28 =>
                          intro i28 az24 pl ls H locs hm28 hi24 hl hO hP hD hS
                          refine lv_iload hx hb dMH_keys_487 (lv_at hl 0 rfl) ?_
                          refine lv_sipush (v := nI 256) hx hb dMH_keys_489 (by decide) ?_
                          refine mi_ge (tgt := 585) hx hb dMH_keys_492 (by decide) (by omega) (by omega) (fun h33 => absurd h33 (by omega)) (fun h33 => ?_)
                          refine lv_iload hx hb dMH_keys_495 (lv_at hl 1 rfl) ?_
                          refine lv_aload_n hx hb dMH_keys_497 rfl (lv_at hl 4 rfl) ?_
                          refine ty_get (ci := 12) (C := "LatticeKeysModel$Hands") (TT := T_MH) (N := 31) (kd := (48, 0)) hx hb hts (wg_ft i_MH) hown hK hO k_h0 (nxg clo_nil k_h0 rfl) hP (fun _ h9 => h9) rfl 25 (by decide) (hts _ (wg_t kw_1457)) (fun _ h9 => h9) (cd := (1, 0, 7)) rfl dMH_keys_498 (fun v78 hv78 => ?_)
                          obtain rfl := (show v78 = .int (nI 7) from hv78)
                          refine mi_ge (tgt := 517) hx hb dMH_keys_501 (by decide) (by omega) (by omega) (fun h34 => ?_) (fun h34 => ?_)
                          · refine lv_aload_n hx hb dMH_keys_517 rfl (lv_at hl 4 rfl) ?_
                            refine ty_get (ci := 12) (C := "LatticeKeysModel$Hands") (TT := T_MH) (N := 31) (kd := (48, 0)) hx hb hts (wg_ft i_MH) hown hK hO k_h0 (nxg clo_nil k_h0 rfl) hP (fun _ h9 => h9) rfl 4 (by decide) (hts _ (wg_t kw_1436)) (fun _ h9 => h9) (cd := (3, 3, 8)) rfl dMH_keys_518 (fun v79 hv79 => ?_)
                            obtain ⟨r59, rfl, kr58⟩ := (show ∃ r : Nat, v79 = .ref r ∧ T r = some (3, 8) from hv79)
                            refine lv_iload hx hb dMH_keys_521 (lv_at hl 1 rfl) ?_
                            refine lv_aload_n hx hb dMH_keys_523 rfl (lv_at hl 4 rfl) ?_
                            refine ty_get (ci := 12) (C := "LatticeKeysModel$Hands") (TT := T_MH) (N := 31) (kd := (48, 0)) hx hb hts (wg_ft i_MH) hown hK hO k_h0 (nxg clo_nil k_h0 rfl) hP (fun _ h9 => h9) rfl 25 (by decide) (hts _ (wg_t kw_1457)) (fun _ h9 => h9) (cd := (1, 0, 7)) rfl dMH_keys_524 (fun v80 hv80 => ?_)
                            obtain rfl := (show v80 = .int (nI 7) from hv80)
                            refine mi_isub hx hb dMH_keys_527 (by omega) ?_
                            refine ty_aald3 hx hb hK hO kr58 (nxg clo_nil kr58 rfl) hP (by omega) (by decide) dMH_keys_528 (fun r60 kr59 => ?_)
                            refine lv_iload hx hb dMH_keys_529 (lv_at hl 0 rfl) ?_
                            refine ty_iald hx hb hK hO kr59 (nxg clo_nil kr59 rfl) hP (vp_in_nI (by omega) (by decide)) dMH_keys_531 (fun z31 => ?_)
                            refine lv_istore (lv' := [(9, .int z31), (8, .int (nI i28)), (7, .int (nI i25)), (6, .int (nI az24)), (5, .int (nI 3)), (0, .ref h0), (4, .ref sk)]) hx hb dMH_keys_532 hl (by decide) rfl (fun ls hl => ?_)
                            refine lv_aload hx hb dMH_keys_534 (lv_at hl 6 rfl) ?_
                            refine lv_iload hx hb dMH_keys_536 (lv_at hl 3 rfl) ?_
                            refine lv_iload hx hb dMH_keys_538 (lv_at hl 4 rfl) ?_
                            refine lv_iload hx hb dMH_keys_540 (lv_at hl 0 rfl) ?_
                            refine lv_aload_n hx hb dMH_keys_542 rfl (lv_at hl 5 rfl) ?_
                            refine ty_get (ci := 12) (C := "LatticeKeysModel$Hands") (TT := T_MH) (N := 31) (kd := (48, 0)) hx hb hts (wg_ft i_MH) hown hK hO k_h0 (nxg clo_nil k_h0 rfl) hP (fun _ h9 => h9) rfl 26 (by decide) (hts _ (wg_t kw_1458)) (fun _ h9 => h9) (cd := (1, 0, 2)) rfl dMH_keys_543 (fun v81 hv81 => ?_)
                            obtain rfl := (show v81 = .int (nI 2) from hv81)
                            refine lv_icmp_le (tgt := 562) hx hb dMH_keys_546 (by decide) (fun h35 => ?_) (fun h35 => ?_)
                            · refine lv_aload_n hx hb dMH_keys_562 rfl (lv_at hl 5 rfl) ?_
                              refine ty_get (ci := 12) (C := "LatticeKeysModel$Hands") (TT := T_MH) (N := 31) (kd := (48, 0)) hx hb hts (wg_ft i_MH) hown hK hO k_h0 (nxg clo_nil k_h0 rfl) hP (fun _ h9 => h9) rfl 26 (by decide) (hts _ (wg_t kw_1458)) (fun _ h9 => h9) (cd := (1, 0, 2)) rfl dMH_keys_563 (fun v82 hv82 => ?_)
                              obtain rfl := (show v82 = .int (nI 2) from hv82)
                              refine lv_iload hx hb dMH_keys_566 (lv_at hl 0 rfl) ?_
                              refine lv_isub hx hb dMH_keys_568 ?_
                              refine mi_any (fun z32 => ?_)
                              refine mp_v (cx := []) (wr := []) hP hD hS hA [] [] rfl rfl rfl (by decide) (va_runSN (As := [.ref sk, .int (nI az24), .int (nI 3), .int z32]) (rest := []) F (t_M_pack l g _ T [] pl hO hU clo_nil sk 4896 az24 3 z32 k_sk (by omega) (by omega)) ⟨va_cnB 4 hts (wg_in kw_1690) rfl rfl rfl (hE.2.2.2.2.2.2.2.2.2.1) (hts _ (wg_t kw_9)) (by decide +kernel) ⟨by decide, by decide⟩, hts _ (wg_t kw_1689), trivial⟩ (pp_S (en_ok g) hP hD hS hA hE [] rfl rfl) rfl rfl hl.1 rfl (lv_room (Nat.le_of_ble_eq_true rfl)) dMH_keys_569 ⟨by omega, by omega⟩) (fun  pl H locs hu35 hP hD hS => ?_)
                              obtain ⟨hq35, hO⟩ := hu35
                              have hP : va_P g.1 vcl ([] ++ pl) _ := hP
                              have hD : va_D _ ([] ++ pl) := hD
                              refine W.widen (k := 0) (n := 0) (by omega) (by omega) ?_
                              refine lv_iload hx hb dMH_keys_572 (lv_at hl 3 rfl) ?_
                              refine lv_iload hx hb dMH_keys_574 (lv_at hl 4 rfl) ?_
                              refine mi_iadd hx hb dMH_keys_576 ?_
                              refine lv_istore (lv' := [(6, .int (nI (az24 + 3))), (9, .int z31), (8, .int (nI i28)), (7, .int (nI i25)), (5, .int (nI 3)), (0, .ref h0), (4, .ref sk)]) hx hb dMH_keys_577 hl (by decide) rfl (fun ls hl => ?_)
                              refine mi_iinc (k := 2) (x := i28) (d := 1) (y := i28 + 1) (lv' := [(8, .int (nI (i28 + 1))), (6, .int (nI (az24 + 3))), (9, .int z31), (7, .int (nI i25)), (5, .int (nI 3)), (0, .ref h0), (4, .ref sk)]) hx hb dMH_keys_579 hl rfl (by decide) rfl (by decide) rfl (fun ls hl => ?_)
                              refine lv_goto (tgt := 487) hx hb dMH_keys_582 (by decide) ?_
                              exact ih28 (i28 + 1) (az24 + 3) pl ls H locs (by omega) (by omega) (lv_sub hl [0, 3, 1, 4, 5, 6] rfl) hO hP hD hS
                            · refine lv_aload_n hx hb dMH_keys_549 rfl (lv_at hl 5 rfl) ?_
                              refine ty_get (ci := 12) (C := "LatticeKeysModel$Hands") (TT := T_MH) (N := 31) (kd := (48, 0)) hx hb hts (wg_ft i_MH) hown hK hO k_h0 (nxg clo_nil k_h0 rfl) hP (fun _ h9 => h9) rfl 26 (by decide) (hts _ (wg_t kw_1458)) (fun _ h9 => h9) (cd := (1, 0, 2)) rfl dMH_keys_550 (fun v83 hv83 => ?_)
                              obtain rfl := (show v83 = .int (nI 2) from hv83)
                              refine lv_iload hx hb dMH_keys_553 (lv_at hl 0 rfl) ?_
                              refine lv_isub hx hb dMH_keys_555 ?_
                              refine mi_any (fun z33 => ?_)
                              refine lv_ldc (v := 8380417) hx hb hown (hts _ (wg_t kw_1429)) dMH_keys_556 ?_
                              refine mi_as (show (8380417 : Int32) = nI 8380417 by decide) ?_
                              refine lv_iadd hx hb dMH_keys_558 ?_
                              refine mi_any (fun z34 => ?_)
                              refine lv_goto (tgt := 569) hx hb dMH_keys_559 (by decide) ?_
                              refine mp_v (cx := []) (wr := []) hP hD hS hA [] [] rfl rfl rfl (by decide) (va_runSN (As := [.ref sk, .int (nI az24), .int (nI 3), .int z34]) (rest := []) F (t_M_pack l g _ T [] pl hO hU clo_nil sk 4896 az24 3 z34 k_sk (by omega) (by omega)) ⟨va_cnB 4 hts (wg_in kw_1690) rfl rfl rfl (hE.2.2.2.2.2.2.2.2.2.1) (hts _ (wg_t kw_9)) (by decide +kernel) ⟨by decide, by decide⟩, hts _ (wg_t kw_1689), trivial⟩ (pp_S (en_ok g) hP hD hS hA hE [] rfl rfl) rfl rfl hl.1 rfl (lv_room (Nat.le_of_ble_eq_true rfl)) dMH_keys_569 ⟨by omega, by omega⟩) (fun  pl H locs hu36 hP hD hS => ?_)
                              obtain ⟨hq36, hO⟩ := hu36
                              have hP : va_P g.1 vcl ([] ++ pl) _ := hP
                              have hD : va_D _ ([] ++ pl) := hD
                              refine W.widen (k := 0) (n := 0) (by omega) (by omega) ?_
                              refine lv_iload hx hb dMH_keys_572 (lv_at hl 3 rfl) ?_
                              refine lv_iload hx hb dMH_keys_574 (lv_at hl 4 rfl) ?_
                              refine mi_iadd hx hb dMH_keys_576 ?_
                              refine lv_istore (lv' := [(6, .int (nI (az24 + 3))), (9, .int z31), (8, .int (nI i28)), (7, .int (nI i25)), (5, .int (nI 3)), (0, .ref h0), (4, .ref sk)]) hx hb dMH_keys_577 hl (by decide) rfl (fun ls hl => ?_)
                              refine mi_iinc (k := 2) (x := i28) (d := 1) (y := i28 + 1) (lv' := [(8, .int (nI (i28 + 1))), (6, .int (nI (az24 + 3))), (9, .int z31), (7, .int (nI i25)), (5, .int (nI 3)), (0, .ref h0), (4, .ref sk)]) hx hb dMH_keys_579 hl rfl (by decide) rfl (by decide) rfl (fun ls hl => ?_)
                              refine lv_goto (tgt := 487) hx hb dMH_keys_582 (by decide) ?_
                              exact ih28 (i28 + 1) (az24 + 3) pl ls H locs (by omega) (by omega) (lv_sub hl [0, 3, 1, 4, 5, 6] rfl) hO hP hD hS
                          · refine lv_aload_n hx hb dMH_keys_504 rfl (lv_at hl 4 rfl) ?_
                            refine ty_get (ci := 12) (C := "LatticeKeysModel$Hands") (TT := T_MH) (N := 31) (kd := (48, 0)) hx hb hts (wg_ft i_MH) hown hK hO k_h0 (nxg clo_nil k_h0 rfl) hP (fun _ h9 => h9) rfl 3 (by decide) (hts _ (wg_t kw_1435)) (fun _ h9 => h9) (cd := (3, 3, 7)) rfl dMH_keys_505 (fun v84 hv84 => ?_)
                            obtain ⟨r61, rfl, kr60⟩ := (show ∃ r : Nat, v84 = .ref r ∧ T r = some (3, 7) from hv84)
                            refine lv_iload hx hb dMH_keys_508 (lv_at hl 1 rfl) ?_
                            refine ty_aald3 hx hb hK hO kr60 (nxg clo_nil kr60 rfl) hP (by omega) (by decide) dMH_keys_510 (fun r62 kr61 => ?_)
                            refine lv_iload hx hb dMH_keys_511 (lv_at hl 0 rfl) ?_
                            refine ty_iald hx hb hK hO kr61 (nxg clo_nil kr61 rfl) hP (vp_in_nI (by omega) (by decide)) dMH_keys_513 (fun z35 => ?_)
                            refine lv_goto (tgt := 532) hx hb dMH_keys_514 (by decide) ?_
                            refine lv_istore (lv' := [(9, .int z35), (8, .int (nI i28)), (7, .int (nI i25)), (6, .int (nI az24)), (5, .int (nI 3)), (0, .ref h0), (4, .ref sk)]) hx hb dMH_keys_532 hl (by decide) rfl (fun ls hl => ?_)
                            refine lv_aload hx hb dMH_keys_534 (lv_at hl 6 rfl) ?_
                            refine lv_iload hx hb dMH_keys_536 (lv_at hl 3 rfl) ?_
                            refine lv_iload hx hb dMH_keys_538 (lv_at hl 4 rfl) ?_
                            refine lv_iload hx hb dMH_keys_540 (lv_at hl 0 rfl) ?_
                            refine lv_aload_n hx hb dMH_keys_542 rfl (lv_at hl 5 rfl) ?_
                            refine ty_get (ci := 12) (C := "LatticeKeysModel$Hands") (TT := T_MH) (N := 31) (kd := (48, 0)) hx hb hts (wg_ft i_MH) hown hK hO k_h0 (nxg clo_nil k_h0 rfl) hP (fun _ h9 => h9) rfl 26 (by decide) (hts _ (wg_t kw_1458)) (fun _ h9 => h9) (cd := (1, 0, 2)) rfl dMH_keys_543 (fun v85 hv85 => ?_)
                            obtain rfl := (show v85 = .int (nI 2) from hv85)
                            refine lv_icmp_le (tgt := 562) hx hb dMH_keys_546 (by decide) (fun h36 => ?_) (fun h36 => ?_)
                            · refine lv_aload_n hx hb dMH_keys_562 rfl (lv_at hl 5 rfl) ?_
                              refine ty_get (ci := 12) (C := "LatticeKeysModel$Hands") (TT := T_MH) (N := 31) (kd := (48, 0)) hx hb hts (wg_ft i_MH) hown hK hO k_h0 (nxg clo_nil k_h0 rfl) hP (fun _ h9 => h9) rfl 26 (by decide) (hts _ (wg_t kw_1458)) (fun _ h9 => h9) (cd := (1, 0, 2)) rfl dMH_keys_563 (fun v86 hv86 => ?_)
                              obtain rfl := (show v86 = .int (nI 2) from hv86)
                              refine lv_iload hx hb dMH_keys_566 (lv_at hl 0 rfl) ?_
                              refine lv_isub hx hb dMH_keys_568 ?_
                              refine mi_any (fun z36 => ?_)
                              refine mp_v (cx := []) (wr := []) hP hD hS hA [] [] rfl rfl rfl (by decide) (va_runSN (As := [.ref sk, .int (nI az24), .int (nI 3), .int z36]) (rest := []) F (t_M_pack l g _ T [] pl hO hU clo_nil sk 4896 az24 3 z36 k_sk (by omega) (by omega)) ⟨va_cnB 4 hts (wg_in kw_1690) rfl rfl rfl (hE.2.2.2.2.2.2.2.2.2.1) (hts _ (wg_t kw_9)) (by decide +kernel) ⟨by decide, by decide⟩, hts _ (wg_t kw_1689), trivial⟩ (pp_S (en_ok g) hP hD hS hA hE [] rfl rfl) rfl rfl hl.1 rfl (lv_room (Nat.le_of_ble_eq_true rfl)) dMH_keys_569 ⟨by omega, by omega⟩) (fun  pl H locs hu37 hP hD hS => ?_)
                              obtain ⟨hq37, hO⟩ := hu37
                              have hP : va_P g.1 vcl ([] ++ pl) _ := hP
                              have hD : va_D _ ([] ++ pl) := hD
                              refine W.widen (k := 0) (n := 0) (by omega) (by omega) ?_
                              refine lv_iload hx hb dMH_keys_572 (lv_at hl 3 rfl) ?_
                              refine lv_iload hx hb dMH_keys_574 (lv_at hl 4 rfl) ?_
                              refine mi_iadd hx hb dMH_keys_576 ?_
                              refine lv_istore (lv' := [(6, .int (nI (az24 + 3))), (9, .int z35), (8, .int (nI i28)), (7, .int (nI i25)), (5, .int (nI 3)), (0, .ref h0), (4, .ref sk)]) hx hb dMH_keys_577 hl (by decide) rfl (fun ls hl => ?_)
                              refine mi_iinc (k := 2) (x := i28) (d := 1) (y := i28 + 1) (lv' := [(8, .int (nI (i28 + 1))), (6, .int (nI (az24 + 3))), (9, .int z35), (7, .int (nI i25)), (5, .int (nI 3)), (0, .ref h0), (4, .ref sk)]) hx hb dMH_keys_579 hl rfl (by decide) rfl (by decide) rfl (fun ls hl => ?_)
                              refine lv_goto (tgt := 487) hx hb dMH_keys_582 (by decide) ?_
                              exact ih28 (i28 + 1) (az24 + 3) pl ls H locs (by omega) (by omega) (lv_sub hl [0, 3, 1, 4, 5, 6] rfl) hO hP hD hS
                            · refine lv_aload_n hx hb dMH_keys_549 rfl (lv_at hl 5 rfl) ?_
                              refine ty_get (ci := 12) (C := "LatticeKeysModel$Hands") (TT := T_MH) (N := 31) (kd := (48, 0)) hx hb hts (wg_ft i_MH) hown hK hO k_h0 (nxg clo_nil k_h0 rfl) hP (fun _ h9 => h9) rfl 26 (by decide) (hts _ (wg_t kw_1458)) (fun _ h9 => h9) (cd := (1, 0, 2)) rfl dMH_keys_550 (fun v87 hv87 => ?_)
                              obtain rfl := (show v87 = .int (nI 2) from hv87)
                              refine lv_iload hx hb dMH_keys_553 (lv_at hl 0 rfl) ?_
                              refine lv_isub hx hb dMH_keys_555 ?_
                              refine mi_any (fun z37 => ?_)
                              refine lv_ldc (v := 8380417) hx hb hown (hts _ (wg_t kw_1429)) dMH_keys_556 ?_
                              refine mi_as (show (8380417 : Int32) = nI 8380417 by decide) ?_
                              refine lv_iadd hx hb dMH_keys_558 ?_
                              refine mi_any (fun z38 => ?_)
                              refine lv_goto (tgt := 569) hx hb dMH_keys_559 (by decide) ?_
                              refine mp_v (cx := []) (wr := []) hP hD hS hA [] [] rfl rfl rfl (by decide) (va_runSN (As := [.ref sk, .int (nI az24), .int (nI 3), .int z38]) (rest := []) F (t_M_pack l g _ T [] pl hO hU clo_nil sk 4896 az24 3 z38 k_sk (by omega) (by omega)) ⟨va_cnB 4 hts (wg_in kw_1690) rfl rfl rfl (hE.2.2.2.2.2.2.2.2.2.1) (hts _ (wg_t kw_9)) (by decide +kernel) ⟨by decide, by decide⟩, hts _ (wg_t kw_1689), trivial⟩ (pp_S (en_ok g) hP hD hS hA hE [] rfl rfl) rfl rfl hl.1 rfl (lv_room (Nat.le_of_ble_eq_true rfl)) dMH_keys_569 ⟨by omega, by omega⟩) (fun  pl H locs hu38 hP hD hS => ?_)
                              obtain ⟨hq38, hO⟩ := hu38
                              have hP : va_P g.1 vcl ([] ++ pl) _ := hP
                              have hD : va_D _ ([] ++ pl) := hD
                              refine W.widen (k := 0) (n := 0) (by omega) (by omega) ?_
                              refine lv_iload hx hb dMH_keys_572 (lv_at hl 3 rfl) ?_
                              refine lv_iload hx hb dMH_keys_574 (lv_at hl 4 rfl) ?_
                              refine mi_iadd hx hb dMH_keys_576 ?_
                              refine lv_istore (lv' := [(6, .int (nI (az24 + 3))), (9, .int z35), (8, .int (nI i28)), (7, .int (nI i25)), (5, .int (nI 3)), (0, .ref h0), (4, .ref sk)]) hx hb dMH_keys_577 hl (by decide) rfl (fun ls hl => ?_)
                              refine mi_iinc (k := 2) (x := i28) (d := 1) (y := i28 + 1) (lv' := [(8, .int (nI (i28 + 1))), (6, .int (nI (az24 + 3))), (9, .int z35), (7, .int (nI i25)), (5, .int (nI 3)), (0, .ref h0), (4, .ref sk)]) hx hb dMH_keys_579 hl rfl (by decide) rfl (by decide) rfl (fun ls hl => ?_)
                              refine lv_goto (tgt := 487) hx hb dMH_keys_582 (by decide) ?_
                              exact ih28 (i28 + 1) (az24 + 3) pl ls H locs (by omega) (by omega) (lv_sub hl [0, 3, 1, 4, 5, 6] rfl) hO hP hD hS
                      exact lp28 256 0 az21 pl ls _ _ (by omega) (by omega) (lv_sub hl [0, 1, 2, 3, 4, 5] rfl) hO hP hD hS
                  exact lp25 15 0 1024 pl ls _ _ (by omega) (by omega) (lv_sub hl [0, 1, 2, 3, 5] rfl) hO hP hD hS
                | succ n24 ih24 =>
                  intro i24 pl ls H locs hm24  hl hO hP hD hS
                  refine lv_iload hx hb dMH_keys_340 (lv_at hl 0 rfl) ?_
                  refine lv_aload_n hx hb dMH_keys_342 rfl (lv_at hl 1 rfl) ?_
                  refine ty_get (ci := 12) (C := "LatticeKeysModel$Hands") (TT := T_MH) (N := 31) (kd := (48, 0)) hx hb hts (wg_ft i_MH) hown hK hO k_h0 (nxg clo_nil k_h0 rfl) hP (fun _ h9 => h9) rfl 24 (by decide) (hts _ (wg_t kw_1456)) (fun _ h9 => h9) (cd := (1, 0, 8)) rfl dMH_keys_343 (fun v88 hv88 => ?_)
                  obtain rfl := (show v88 = .int (nI 8) from hv88)
                  refine mi_ge (tgt := 404) hx hb dMH_keys_346 (by decide) (by omega) (by omega) (fun h37 => absurd h37 (by omega)) (fun h37 => ?_)
                  refine lv_iconst (v := nI 0) hx hb dMH_keys_349 (by decide) ?_
                  refine lv_istore (lv' := [(6, .int (nI 0)), (5, .int (nI i24)), (0, .ref h0), (3, .ref pk), (4, .ref sk)]) hx hb dMH_keys_350 hl (by decide) rfl (fun ls hl => ?_)
                  have lp29 : ∀ (n29 : Nat) (i29 : Nat) (pl : va_W) (ls : Array Slot) (H : Heap) (locs : List Loc), n29 + i29 = 256 → lv_has ls 10 [(6, .int (nI i29)), (5, .int (nI i24)), (0, .ref h0), (3, .ref pk), (4, .ref sk)] → okx g T [] pl → va_P g.1 vcl ([] ++ pl) H → va_D A ([] ++ pl) → va_S A s.heap H locs → W p l e ({ frames := 4, cells := 0, slots := 0, locals := 98 } : Room) s m args below meth c H locs 0 0 (MQ below (va_Qv (fun (u : va_W) => (True) ∧ okx g T0 [] u) (po g.1 vcl A (fun (u : va_W) => [] ++ u)) A) args s 0 0 A) (F0 m 352 ls []) := by
                    intro n29
                    induction n29 with
                    | zero =>
                      intro i29 pl ls H locs hm29  hl hO hP hD hS
                      refine lv_iload hx hb dMH_keys_352 (lv_at hl 0 rfl) ?_
                      refine lv_sipush (v := nI 256) hx hb dMH_keys_354 (by decide) ?_
                      refine mi_ge (tgt := 398) hx hb dMH_keys_357 (by decide) (by omega) (by omega) (fun h38 => ?_) (fun h38 => absurd h38 (by omega))
                      refine mi_iinc (k := 1) (x := i24) (d := 1) (y := i24 + 1) (lv' := [(5, .int (nI (i24 + 1))), (6, .int (nI i29)), (0, .ref h0), (3, .ref pk), (4, .ref sk)]) hx hb dMH_keys_398 hl rfl (by decide) rfl (by decide) rfl (fun ls hl => ?_)
                      refine lv_goto (tgt := 340) hx hb dMH_keys_401 (by decide) ?_
                      exact ih24 (i24 + 1) pl ls H locs (by omega) (lv_sub hl [0, 2, 3, 4] rfl) hO hP hD hS
                    | succ n29 ih29 =>
                      intro i29 pl ls H locs hm29  hl hO hP hD hS
                      refine lv_iload hx hb dMH_keys_352 (lv_at hl 0 rfl) ?_
                      refine lv_sipush (v := nI 256) hx hb dMH_keys_354 (by decide) ?_
                      refine mi_ge (tgt := 398) hx hb dMH_keys_357 (by decide) (by omega) (by omega) (fun h39 => absurd h39 (by omega)) (fun h39 => ?_)
                      refine lv_aload_n hx hb dMH_keys_360 rfl (lv_at hl 3 rfl) ?_
                      refine lv_sipush (v := nI 256) hx hb dMH_keys_361 (by decide) ?_
                      refine lv_sipush (v := nI 2560) hx hb dMH_keys_364 (by decide) ?_
                      refine lv_iload hx hb dMH_keys_367 (lv_at hl 1 rfl) ?_
                      refine mi_imul hx hb dMH_keys_369 ?_
                      refine mi_iadd hx hb dMH_keys_370 ?_
                      refine lv_bipush (v := nI 10) hx hb dMH_keys_371 (by decide) ?_
                      refine lv_iload hx hb dMH_keys_373 (lv_at hl 0 rfl) ?_
                      refine mi_imul hx hb dMH_keys_375 ?_
                      refine mi_iadd hx hb dMH_keys_376 ?_
                      refine lv_bipush (v := nI 10) hx hb dMH_keys_377 (by decide) ?_
                      refine lv_aload_n hx hb dMH_keys_379 rfl (lv_at hl 2 rfl) ?_
                      refine ty_get (ci := 12) (C := "LatticeKeysModel$Hands") (TT := T_MH) (N := 31) (kd := (48, 0)) hx hb hts (wg_ft i_MH) hown hK hO k_h0 (nxg clo_nil k_h0 rfl) hP (fun _ h9 => h9) rfl 6 (by decide) (hts _ (wg_t kw_1438)) (fun _ h9 => h9) (cd := (3, 3, 8)) rfl dMH_keys_380 (fun v89 hv89 => ?_)
                      obtain ⟨r63, rfl, kr62⟩ := (show ∃ r : Nat, v89 = .ref r ∧ T r = some (3, 8) from hv89)
                      refine lv_iload hx hb dMH_keys_383 (lv_at hl 1 rfl) ?_
                      refine ty_aald3 hx hb hK hO kr62 (nxg clo_nil kr62 rfl) hP (by omega) (by decide) dMH_keys_385 (fun r64 kr63 => ?_)
                      refine lv_iload hx hb dMH_keys_386 (lv_at hl 0 rfl) ?_
                      refine ty_iald hx hb hK hO kr63 (nxg clo_nil kr63 rfl) hP (vp_in_nI (by omega) (by decide)) dMH_keys_388 (fun z39 => ?_)
                      refine mp_v (cx := []) (wr := []) hP hD hS hA [] [] rfl rfl rfl (by decide) (va_runSN (As := [.ref pk, .int (nI ((256 + (2560 * i24)) + (10 * i29))), .int (nI 10), .int z39]) (rest := []) F (t_M_pack l g _ T [] pl hO hU clo_nil pk 2592 ((256 + (2560 * i24)) + (10 * i29)) 10 z39 k_pk (by omega) (by omega)) ⟨va_cnB 4 hts (wg_in kw_1690) rfl rfl rfl (hE.2.2.2.2.2.2.2.2.2.1) (hts _ (wg_t kw_9)) (by decide +kernel) ⟨by decide, by decide⟩, hts _ (wg_t kw_1689), trivial⟩ (pp_S (en_ok g) hP hD hS hA hE [] rfl rfl) rfl rfl hl.1 rfl (lv_room (Nat.le_of_ble_eq_true rfl)) dMH_keys_389 ⟨by omega, by omega⟩) (fun  pl H locs hu39 hP hD hS => ?_)
                      obtain ⟨hq39, hO⟩ := hu39
                      have hP : va_P g.1 vcl ([] ++ pl) _ := hP
                      have hD : va_D _ ([] ++ pl) := hD
                      refine W.widen (k := 0) (n := 0) (by omega) (by omega) ?_
                      refine mi_iinc (k := 0) (x := i29) (d := 1) (y := i29 + 1) (lv' := [(6, .int (nI (i29 + 1))), (5, .int (nI i24)), (0, .ref h0), (3, .ref pk), (4, .ref sk)]) hx hb dMH_keys_392 hl rfl (by decide) rfl (by decide) rfl (fun ls hl => ?_)
                      refine lv_goto (tgt := 352) hx hb dMH_keys_395 (by decide) ?_
                      exact ih29 (i29 + 1) pl ls H locs (by omega) (lv_sub hl [0, 1, 2, 3, 4] rfl) hO hP hD hS
                  exact lp29 256 0 pl ls _ _ (by omega) (lv_sub hl [0, 1, 2, 3, 4] rfl) hO hP hD hS
              exact lp24 8 0 pl ls _ _ (by omega) (lv_sub hl [0, 1, 2, 3] rfl) hO hP hD hS
            | succ n23 ih23 =>
              intro i23 pl ls H locs hm23  hl hO hP hD hS
              refine lv_iload hx hb dMH_keys_283 (lv_at hl 0 rfl) ?_
              refine lv_bipush (v := nI 32) hx hb dMH_keys_285 (by decide) ?_
              refine mi_ge (tgt := 337) hx hb dMH_keys_287 (by decide) (by omega) (by omega) (fun h40 => absurd h40 (by omega)) (fun h40 => ?_)
              refine lv_aload_n hx hb dMH_keys_290 rfl (lv_at hl 2 rfl) ?_
              refine lv_iload hx hb dMH_keys_291 (lv_at hl 0 rfl) ?_
              refine lv_aload_n hx hb dMH_keys_293 rfl (lv_at hl 1 rfl) ?_
              refine ty_get (ci := 12) (C := "LatticeKeysModel$Hands") (TT := T_MH) (N := 31) (kd := (48, 0)) hx hb hts (wg_ft i_MH) hown hK hO k_h0 (nxg clo_nil k_h0 rfl) hP (fun _ h9 => h9) rfl 16 (by decide) (hts _ (wg_t kw_1448)) (fun _ h9 => h9) (cd := (3, 1, 128)) rfl dMH_keys_294 (fun v90 hv90 => ?_)
              obtain ⟨r65, rfl, kr64⟩ := (show ∃ r : Nat, v90 = .ref r ∧ T r = some (1, 128) from hv90)
              refine lv_iload hx hb dMH_keys_297 (lv_at hl 0 rfl) ?_
              refine ty_bald hx hb hK hO kr64 (nxg clo_nil kr64 rfl) hP (vp_in_nI (by omega) (by decide)) dMH_keys_299 (fun z40 => ?_)
              refine ty_bast hx hb hK hO k_pk (nxg clo_nil k_pk rfl) hP hD hS (vp_in_nI (by omega) (by decide)) dMH_keys_300 (fun pl H locs hO hP hD hS => ?_)
              refine lv_aload hx hb dMH_keys_301 (lv_at hl 3 rfl) ?_
              refine lv_iload hx hb dMH_keys_303 (lv_at hl 0 rfl) ?_
              refine lv_aload_n hx hb dMH_keys_305 rfl (lv_at hl 1 rfl) ?_
              refine ty_get (ci := 12) (C := "LatticeKeysModel$Hands") (TT := T_MH) (N := 31) (kd := (48, 0)) hx hb hts (wg_ft i_MH) hown hK hO k_h0 (nxg clo_nil k_h0 rfl) hP (fun _ h9 => h9) rfl 16 (by decide) (hts _ (wg_t kw_1448)) (fun _ h9 => h9) (cd := (3, 1, 128)) rfl dMH_keys_306 (fun v91 hv91 => ?_)
              obtain ⟨r66, rfl, kr65⟩ := (show ∃ r : Nat, v91 = .ref r ∧ T r = some (1, 128) from hv91)
              refine lv_iload hx hb dMH_keys_309 (lv_at hl 0 rfl) ?_
              refine ty_bald hx hb hK hO kr65 (nxg clo_nil kr65 rfl) hP (vp_in_nI (by omega) (by decide)) dMH_keys_311 (fun z41 => ?_)
              refine ty_bast hx hb hK hO k_sk (nxg clo_nil k_sk rfl) hP hD hS (vp_in_nI (by omega) (by decide)) dMH_keys_312 (fun pl H locs hO hP hD hS => ?_)
              refine lv_aload hx hb dMH_keys_313 (lv_at hl 3 rfl) ?_
              refine lv_bipush (v := nI 32) hx hb dMH_keys_315 (by decide) ?_
              refine lv_iload hx hb dMH_keys_317 (lv_at hl 0 rfl) ?_
              refine mi_iadd hx hb dMH_keys_319 ?_
              refine lv_aload_n hx hb dMH_keys_320 rfl (lv_at hl 1 rfl) ?_
              refine ty_get (ci := 12) (C := "LatticeKeysModel$Hands") (TT := T_MH) (N := 31) (kd := (48, 0)) hx hb hts (wg_ft i_MH) hown hK hO k_h0 (nxg clo_nil k_h0 rfl) hP (fun _ h9 => h9) rfl 16 (by decide) (hts _ (wg_t kw_1448)) (fun _ h9 => h9) (cd := (3, 1, 128)) rfl dMH_keys_321 (fun v92 hv92 => ?_)
              obtain ⟨r67, rfl, kr66⟩ := (show ∃ r : Nat, v92 = .ref r ∧ T r = some (1, 128) from hv92)
              refine lv_bipush (v := nI 96) hx hb dMH_keys_324 (by decide) ?_
              refine lv_iload hx hb dMH_keys_326 (lv_at hl 0 rfl) ?_
              refine mi_iadd hx hb dMH_keys_328 ?_
              refine ty_bald hx hb hK hO kr66 (nxg clo_nil kr66 rfl) hP (vp_in_nI (by omega) (by decide)) dMH_keys_329 (fun z42 => ?_)
              refine ty_bast hx hb hK hO k_sk (nxg clo_nil k_sk rfl) hP hD hS (vp_in_nI (by omega) (by decide)) dMH_keys_330 (fun pl H locs hO hP hD hS => ?_)
              refine mi_iinc (k := 0) (x := i23) (d := 1) (y := i23 + 1) (lv' := [(5, .int (nI (i23 + 1))), (0, .ref h0), (3, .ref pk), (4, .ref sk)]) hx hb dMH_keys_331 hl rfl (by decide) rfl (by decide) rfl (fun ls hl => ?_)
              refine lv_goto (tgt := 283) hx hb dMH_keys_334 (by decide) ?_
              exact ih23 (i23 + 1) pl ls H locs (by omega) (lv_sub hl [0, 1, 2, 3] rfl) hO hP hD hS
          exact lp23 32 0 pl ls _ _ (by omega) (lv_sub hl [0, 1, 2, 3] rfl) hO hP hD hS
        | succ n22 ih22 =>
          intro i22 pl ls H locs hm22  hl hO hP hD hS
          refine lv_iload hx hb dMH_keys_138 (lv_at hl 0 rfl) ?_
          refine lv_aload_n hx hb dMH_keys_140 rfl (lv_at hl 1 rfl) ?_
          refine ty_get (ci := 12) (C := "LatticeKeysModel$Hands") (TT := T_MH) (N := 31) (kd := (48, 0)) hx hb hts (wg_ft i_MH) hown hK hO k_h0 (nxg clo_nil k_h0 rfl) hP (fun _ h9 => h9) rfl 24 (by decide) (hts _ (wg_t kw_1456)) (fun _ h9 => h9) (cd := (1, 0, 8)) rfl dMH_keys_141 (fun v93 hv93 => ?_)
          obtain rfl := (show v93 = .int (nI 8) from hv93)
          refine mi_ge (tgt := 280) hx hb dMH_keys_144 (by decide) (by omega) (by omega) (fun h41 => absurd h41 (by omega)) (fun h41 => ?_)
          refine lv_aload_n hx hb dMH_keys_147 rfl (lv_at hl 1 rfl) ?_
          refine lv_aload_n hx hb dMH_keys_148 rfl (lv_at hl 1 rfl) ?_
          refine ty_get (ci := 12) (C := "LatticeKeysModel$Hands") (TT := T_MH) (N := 31) (kd := (48, 0)) hx hb hts (wg_ft i_MH) hown hK hO k_h0 (nxg clo_nil k_h0 rfl) hP (fun _ h9 => h9) rfl 4 (by decide) (hts _ (wg_t kw_1436)) (fun _ h9 => h9) (cd := (3, 3, 8)) rfl dMH_keys_149 (fun v94 hv94 => ?_)
          obtain ⟨r68, rfl, kr67⟩ := (show ∃ r : Nat, v94 = .ref r ∧ T r = some (3, 8) from hv94)
          refine lv_iload hx hb dMH_keys_152 (lv_at hl 0 rfl) ?_
          refine ty_aald3 hx hb hK hO kr67 (nxg clo_nil kr67 rfl) hP (by omega) (by decide) dMH_keys_154 (fun r69 kr68 => ?_)
          refine lv_aload_n hx hb dMH_keys_155 rfl (lv_at hl 1 rfl) ?_
          refine ty_get (ci := 12) (C := "LatticeKeysModel$Hands") (TT := T_MH) (N := 31) (kd := (48, 0)) hx hb hts (wg_ft i_MH) hown hK hO k_h0 (nxg clo_nil k_h0 rfl) hP (fun _ h9 => h9) rfl 16 (by decide) (hts _ (wg_t kw_1448)) (fun _ h9 => h9) (cd := (3, 1, 128)) rfl dMH_keys_156 (fun v95 hv95 => ?_)
          obtain ⟨r70, rfl, kr69⟩ := (show ∃ r : Nat, v95 = .ref r ∧ T r = some (1, 128) from hv95)
          refine lv_bipush (v := nI 32) hx hb dMH_keys_159 (by decide) ?_
          refine lv_iload hx hb dMH_keys_161 (lv_at hl 0 rfl) ?_
          refine lv_aload_n hx hb dMH_keys_163 rfl (lv_at hl 1 rfl) ?_
          refine ty_get (ci := 12) (C := "LatticeKeysModel$Hands") (TT := T_MH) (N := 31) (kd := (48, 0)) hx hb hts (wg_ft i_MH) hown hK hO k_h0 (nxg clo_nil k_h0 rfl) hP (fun _ h9 => h9) rfl 25 (by decide) (hts _ (wg_t kw_1457)) (fun _ h9 => h9) (cd := (1, 0, 7)) rfl dMH_keys_164 (fun v96 hv96 => ?_)
          obtain rfl := (show v96 = .int (nI 7) from hv96)
          refine mi_iadd hx hb dMH_keys_167 ?_
          refine mp_v (cx := []) (wr := []) hP hD hS hA [] [] rfl rfl rfl (by decide) (va_runV (As := [.ref r69, .ref r70, .int (nI 32), .int (nI (i22 + 7))]) (rest := []) F (t_MH_small_2 l g _ T [] pl hO hU clo_nil clo_nil h0 r69 r70 128 32 (nI (i22 + 7)) k_h0 kr68 kr69 (by omega) (by omega)) (cwV 4 hts (wg_app (wg_c kw_1729 (wg_c kw_1731 (wg_c ks_62 (wg_c kw_13 wg_n)))) kw_1732) rfl rfl rfl (by decide +kernel) ⟨by decide, by decide⟩) (pp_VT (en_ok g) (ci := 12) (kd := (48, 0)) hK hO k_h0 (nxg clo_nil k_h0 rfl) (fun _ h9 => ko1 h9) hP hD hS hA hE [] rfl rfl rfl) rfl rfl hl.1 rfl (lv_room (Nat.le_of_ble_eq_true rfl)) dMH_keys_168 ⟨by omega, by omega⟩) (fun  pl H locs hu40 hP hD hS => ?_)
          obtain ⟨hq40, hO⟩ := hu40
          have hP : va_P g.1 vcl ([] ++ pl) _ := hP
          have hD : va_D _ ([] ++ pl) := hD
          refine W.widen (k := 0) (n := 0) (by omega) (by omega) ?_
          refine lv_aload_n hx hb dMH_keys_171 rfl (lv_at hl 1 rfl) ?_
          refine lv_iload hx hb dMH_keys_172 (lv_at hl 0 rfl) ?_
          refine lv_aload_n hx hb dMH_keys_174 rfl (lv_at hl 1 rfl) ?_
          refine ty_get (ci := 12) (C := "LatticeKeysModel$Hands") (TT := T_MH) (N := 31) (kd := (48, 0)) hx hb hts (wg_ft i_MH) hown hK hO k_h0 (nxg clo_nil k_h0 rfl) hP (fun _ h9 => h9) rfl 13 (by decide) (hts _ (wg_t kw_1445)) (fun _ h9 => h9) (cd := (3, 0, 256)) rfl dMH_keys_175 (fun v97 hv97 => ?_)
          obtain ⟨r71, rfl, kr70⟩ := (show ∃ r : Nat, v97 = .ref r ∧ T r = some (0, 256) from hv97)
          refine mp_v (cx := []) (wr := []) hP hD hS hA [] [] rfl rfl rfl (by decide) (va_runV (As := [.int (nI i22), .ref r71]) (rest := []) F (t_MH_rowBy_2 l g _ T [] pl hO hU clo_nil h0 r71 i22 k_h0 kr70 (by omega)) (cwV 2 hts (wg_app (wg_c kw_1734 (wg_c kw_1736 (wg_c ks_63 (wg_c kw_13 wg_n)))) kw_1737) rfl rfl rfl (by decide +kernel) ⟨by decide, by decide⟩) (pp_VT (en_ok g) (ci := 12) (kd := (48, 0)) hK hO k_h0 (nxg clo_nil k_h0 rfl) (fun _ h9 => ko1 h9) hP hD hS hA hE [] rfl rfl rfl) rfl rfl hl.1 rfl (lv_room (Nat.le_of_ble_eq_true rfl)) dMH_keys_178 ⟨by omega, by omega⟩) (fun  pl H locs hu41 hP hD hS => ?_)
          obtain ⟨hq41, hO⟩ := hu41
          have hP : va_P g.1 vcl ([] ++ pl) _ := hP
          have hD : va_D _ ([] ++ pl) := hD
          refine W.widen (k := 0) (n := 0) (by omega) (by omega) ?_
          refine lv_iconst (v := nI 0) hx hb dMH_keys_181 (by decide) ?_
          refine lv_istore (lv' := [(6, .int (nI 0)), (5, .int (nI i22)), (0, .ref h0), (3, .ref pk), (4, .ref sk)]) hx hb dMH_keys_182 hl (by decide) rfl (fun ls hl => ?_)
          have lp30 : ∀ (n30 : Nat) (i30 : Nat) (pl : va_W) (ls : Array Slot) (H : Heap) (locs : List Loc), n30 + i30 = 256 → lv_has ls 10 [(6, .int (nI i30)), (5, .int (nI i22)), (0, .ref h0), (3, .ref pk), (4, .ref sk)] → okx g T [] pl → va_P g.1 vcl ([] ++ pl) H → va_D A ([] ++ pl) → va_S A s.heap H locs → W p l e ({ frames := 4, cells := 0, slots := 0, locals := 98 } : Room) s m args below meth c H locs 0 0 (MQ below (va_Qv (fun (u : va_W) => (True) ∧ okx g T0 [] u) (po g.1 vcl A (fun (u : va_W) => [] ++ u)) A) args s 0 0 A) (F0 m 184 ls []) := by
            intro n30
            induction n30 with
            | zero =>
              intro i30 pl ls H locs hm30  hl hO hP hD hS
              refine lv_iload hx hb dMH_keys_184 (lv_at hl 0 rfl) ?_
              refine lv_sipush (v := nI 256) hx hb dMH_keys_186 (by decide) ?_
              refine mi_ge (tgt := 274) hx hb dMH_keys_189 (by decide) (by omega) (by omega) (fun h42 => ?_) (fun h42 => absurd h42 (by omega))
              refine mi_iinc (k := 1) (x := i22) (d := 1) (y := i22 + 1) (lv' := [(5, .int (nI (i22 + 1))), (6, .int (nI i30)), (0, .ref h0), (3, .ref pk), (4, .ref sk)]) hx hb dMH_keys_274 hl rfl (by decide) rfl (by decide) rfl (fun ls hl => ?_)
              refine lv_goto (tgt := 138) hx hb dMH_keys_277 (by decide) ?_
              exact ih22 (i22 + 1) pl ls H locs (by omega) (lv_sub hl [0, 2, 3, 4] rfl) hO hP hD hS
            | succ n30 ih30 =>
              intro i30 pl ls H locs hm30  hl hO hP hD hS
              refine lv_iload hx hb dMH_keys_184 (lv_at hl 0 rfl) ?_
              refine lv_sipush (v := nI 256) hx hb dMH_keys_186 (by decide) ?_
              refine mi_ge (tgt := 274) hx hb dMH_keys_189 (by decide) (by omega) (by omega) (fun h43 => absurd h43 (by omega)) (fun h43 => ?_)
              refine lv_aload_n hx hb dMH_keys_192 rfl (lv_at hl 2 rfl) ?_
              refine ty_get (ci := 12) (C := "LatticeKeysModel$Hands") (TT := T_MH) (N := 31) (kd := (48, 0)) hx hb hts (wg_ft i_MH) hown hK hO k_h0 (nxg clo_nil k_h0 rfl) hP (fun _ h9 => h9) rfl 13 (by decide) (hts _ (wg_t kw_1445)) (fun _ h9 => h9) (cd := (3, 0, 256)) rfl dMH_keys_193 (fun v98 hv98 => ?_)
              obtain ⟨r72, rfl, kr71⟩ := (show ∃ r : Nat, v98 = .ref r ∧ T r = some (0, 256) from hv98)
              refine lv_iload hx hb dMH_keys_196 (lv_at hl 0 rfl) ?_
              refine ty_iald hx hb hK hO kr71 (nxg clo_nil kr71 rfl) hP (vp_in_nI (by omega) (by decide)) dMH_keys_198 (fun z43 => ?_)
              refine lv_aload_n hx hb dMH_keys_199 rfl (lv_at hl 2 rfl) ?_
              refine ty_get (ci := 12) (C := "LatticeKeysModel$Hands") (TT := T_MH) (N := 31) (kd := (48, 0)) hx hb hts (wg_ft i_MH) hown hK hO k_h0 (nxg clo_nil k_h0 rfl) hP (fun _ h9 => h9) rfl 4 (by decide) (hts _ (wg_t kw_1436)) (fun _ h9 => h9) (cd := (3, 3, 8)) rfl dMH_keys_200 (fun v99 hv99 => ?_)
              obtain ⟨r73, rfl, kr72⟩ := (show ∃ r : Nat, v99 = .ref r ∧ T r = some (3, 8) from hv99)
              refine lv_iload hx hb dMH_keys_203 (lv_at hl 1 rfl) ?_
              refine ty_aald3 hx hb hK hO kr72 (nxg clo_nil kr72 rfl) hP (by omega) (by decide) dMH_keys_205 (fun r74 kr73 => ?_)
              refine lv_iload hx hb dMH_keys_206 (lv_at hl 0 rfl) ?_
              refine ty_iald hx hb hK hO kr73 (nxg clo_nil kr73 rfl) hP (vp_in_nI (by omega) (by decide)) dMH_keys_208 (fun z44 => ?_)
              refine lv_iadd hx hb dMH_keys_209 ?_
              refine mi_any (fun z45 => ?_)
              refine lv_ldc (v := 8380417) hx hb hown (hts _ (wg_t kw_1429)) dMH_keys_210 ?_
              refine mi_as (show (8380417 : Int32) = nI 8380417 by decide) ?_
              refine lv_irem hx hb dMH_keys_212 (nI_ne0 (by omega) (by omega)) ?_
              refine mi_any (fun z46 => ?_)
              refine lv_istore (lv' := [(7, .int z46), (6, .int (nI i30)), (5, .int (nI i22)), (0, .ref h0), (3, .ref pk), (4, .ref sk)]) hx hb dMH_keys_213 hl (by decide) rfl (fun ls hl => ?_)
              refine lv_iload hx hb dMH_keys_215 (lv_at hl 0 rfl) ?_
              refine lv_sipush (v := nI 8192) hx hb dMH_keys_217 (by decide) ?_
              refine lv_irem hx hb dMH_keys_220 (nI_ne0 (by omega) (by omega)) ?_
              refine mi_any (fun z47 => ?_)
              refine lv_istore (lv' := [(8, .int z47), (7, .int z46), (6, .int (nI i30)), (5, .int (nI i22)), (0, .ref h0), (3, .ref pk), (4, .ref sk)]) hx hb dMH_keys_221 hl (by decide) rfl (fun ls hl => ?_)
              refine lv_iload hx hb dMH_keys_223 (lv_at hl 0 rfl) ?_
              refine lv_sipush (v := nI 4096) hx hb dMH_keys_225 (by decide) ?_
              refine lv_icmp_le (tgt := 237) hx hb dMH_keys_228 (by decide) (fun h44 => ?_) (fun h44 => ?_)
              · refine lv_aload_n hx hb dMH_keys_237 rfl (lv_at hl 4 rfl) ?_
                refine ty_get (ci := 12) (C := "LatticeKeysModel$Hands") (TT := T_MH) (N := 31) (kd := (48, 0)) hx hb hts (wg_ft i_MH) hown hK hO k_h0 (nxg clo_nil k_h0 rfl) hP (fun _ h9 => h9) rfl 5 (by decide) (hts _ (wg_t kw_1437)) (fun _ h9 => h9) (cd := (3, 3, 8)) rfl dMH_keys_238 (fun v100 hv100 => ?_)
                obtain ⟨r75, rfl, kr74⟩ := (show ∃ r : Nat, v100 = .ref r ∧ T r = some (3, 8) from hv100)
                refine lv_iload hx hb dMH_keys_241 (lv_at hl 3 rfl) ?_
                refine ty_aald3 hx hb hK hO kr74 (nxg clo_nil kr74 rfl) hP (by omega) (by decide) dMH_keys_243 (fun r76 kr75 => ?_)
                refine lv_iload hx hb dMH_keys_244 (lv_at hl 2 rfl) ?_
                refine lv_iload hx hb dMH_keys_246 (lv_at hl 0 rfl) ?_
                refine ty_iast hx hb hK hO kr75 (nxg clo_nil kr75 rfl) hP hD hS (vp_in_nI (by omega) (by decide)) dMH_keys_248 (fun pl H locs hO hP hD hS => ?_)
                refine lv_aload_n hx hb dMH_keys_249 rfl (lv_at hl 4 rfl) ?_
                refine ty_get (ci := 12) (C := "LatticeKeysModel$Hands") (TT := T_MH) (N := 31) (kd := (48, 0)) hx hb hts (wg_ft i_MH) hown hK hO k_h0 (nxg clo_nil k_h0 rfl) hP (fun _ h9 => h9) rfl 6 (by decide) (hts _ (wg_t kw_1438)) (fun _ h9 => h9) (cd := (3, 3, 8)) rfl dMH_keys_250 (fun v101 hv101 => ?_)
                obtain ⟨r77, rfl, kr76⟩ := (show ∃ r : Nat, v101 = .ref r ∧ T r = some (3, 8) from hv101)
                refine lv_iload hx hb dMH_keys_253 (lv_at hl 3 rfl) ?_
                refine ty_aald3 hx hb hK hO kr76 (nxg clo_nil kr76 rfl) hP (by omega) (by decide) dMH_keys_255 (fun r78 kr77 => ?_)
                refine lv_iload hx hb dMH_keys_256 (lv_at hl 2 rfl) ?_
                refine lv_iload hx hb dMH_keys_258 (lv_at hl 1 rfl) ?_
                refine lv_iload hx hb dMH_keys_260 (lv_at hl 0 rfl) ?_
                refine lv_isub hx hb dMH_keys_262 ?_
                refine mi_any (fun z48 => ?_)
                refine lv_sipush (v := nI 8192) hx hb dMH_keys_263 (by decide) ?_
                refine lv_idiv hx hb dMH_keys_266 (nI_ne0 (by omega) (by omega)) ?_
                refine mi_any (fun z49 => ?_)
                refine ty_iast hx hb hK hO kr77 (nxg clo_nil kr77 rfl) hP hD hS (vp_in_nI (by omega) (by decide)) dMH_keys_267 (fun pl H locs hO hP hD hS => ?_)
                refine mi_iinc (k := 2) (x := i30) (d := 1) (y := i30 + 1) (lv' := [(6, .int (nI (i30 + 1))), (8, .int z47), (7, .int z46), (5, .int (nI i22)), (0, .ref h0), (3, .ref pk), (4, .ref sk)]) hx hb dMH_keys_268 hl rfl (by decide) rfl (by decide) rfl (fun ls hl => ?_)
                refine lv_goto (tgt := 184) hx hb dMH_keys_271 (by decide) ?_
                exact ih30 (i30 + 1) pl ls H locs (by omega) (lv_sub hl [0, 3, 4, 5, 6] rfl) hO hP hD hS
              · refine mi_iincR (k := 0) (lv' := fun z => [(8, .int z), (7, .int z46), (6, .int (nI i30)), (5, .int (nI i22)), (0, .ref h0), (3, .ref pk), (4, .ref sk)]) hx hb dMH_keys_231 hl rfl (by decide) (fun _ => rfl) (fun z50 ls hl => ?_)
                refine lv_aload_n hx hb dMH_keys_237 rfl (lv_at hl 4 rfl) ?_
                refine ty_get (ci := 12) (C := "LatticeKeysModel$Hands") (TT := T_MH) (N := 31) (kd := (48, 0)) hx hb hts (wg_ft i_MH) hown hK hO k_h0 (nxg clo_nil k_h0 rfl) hP (fun _ h9 => h9) rfl 5 (by decide) (hts _ (wg_t kw_1437)) (fun _ h9 => h9) (cd := (3, 3, 8)) rfl dMH_keys_238 (fun v102 hv102 => ?_)
                obtain ⟨r79, rfl, kr78⟩ := (show ∃ r : Nat, v102 = .ref r ∧ T r = some (3, 8) from hv102)
                refine lv_iload hx hb dMH_keys_241 (lv_at hl 3 rfl) ?_
                refine ty_aald3 hx hb hK hO kr78 (nxg clo_nil kr78 rfl) hP (by omega) (by decide) dMH_keys_243 (fun r80 kr79 => ?_)
                refine lv_iload hx hb dMH_keys_244 (lv_at hl 2 rfl) ?_
                refine lv_iload hx hb dMH_keys_246 (lv_at hl 0 rfl) ?_
                refine ty_iast hx hb hK hO kr79 (nxg clo_nil kr79 rfl) hP hD hS (vp_in_nI (by omega) (by decide)) dMH_keys_248 (fun pl H locs hO hP hD hS => ?_)
                refine lv_aload_n hx hb dMH_keys_249 rfl (lv_at hl 4 rfl) ?_
                refine ty_get (ci := 12) (C := "LatticeKeysModel$Hands") (TT := T_MH) (N := 31) (kd := (48, 0)) hx hb hts (wg_ft i_MH) hown hK hO k_h0 (nxg clo_nil k_h0 rfl) hP (fun _ h9 => h9) rfl 6 (by decide) (hts _ (wg_t kw_1438)) (fun _ h9 => h9) (cd := (3, 3, 8)) rfl dMH_keys_250 (fun v103 hv103 => ?_)
                obtain ⟨r81, rfl, kr80⟩ := (show ∃ r : Nat, v103 = .ref r ∧ T r = some (3, 8) from hv103)
                refine lv_iload hx hb dMH_keys_253 (lv_at hl 3 rfl) ?_
                refine ty_aald3 hx hb hK hO kr80 (nxg clo_nil kr80 rfl) hP (by omega) (by decide) dMH_keys_255 (fun r82 kr81 => ?_)
                refine lv_iload hx hb dMH_keys_256 (lv_at hl 2 rfl) ?_
                refine lv_iload hx hb dMH_keys_258 (lv_at hl 1 rfl) ?_
                refine lv_iload hx hb dMH_keys_260 (lv_at hl 0 rfl) ?_
                refine lv_isub hx hb dMH_keys_262 ?_
                refine mi_any (fun z51 => ?_)
                refine lv_sipush (v := nI 8192) hx hb dMH_keys_263 (by decide) ?_
                refine lv_idiv hx hb dMH_keys_266 (nI_ne0 (by omega) (by omega)) ?_
                refine mi_any (fun z52 => ?_)
                refine ty_iast hx hb hK hO kr81 (nxg clo_nil kr81 rfl) hP hD hS (vp_in_nI (by omega) (by decide)) dMH_keys_267 (fun pl H locs hO hP hD hS => ?_)
                refine mi_iinc (k := 2) (x := i30) (d := 1) (y := i30 + 1) (lv' := [(6, .int (nI (i30 + 1))), (8, .int z50), (7, .int z46), (5, .int (nI i22)), (0, .ref h0), (3, .ref pk), (4, .ref sk)]) hx hb dMH_keys_268 hl rfl (by decide) rfl (by decide) rfl (fun ls hl => ?_)
                refine lv_goto (tgt := 184) hx hb dMH_keys_271 (by decide) ?_
                exact ih30 (i30 + 1) pl ls H locs (by omega) (lv_sub hl [0, 3, 4, 5, 6] rfl) hO hP hD hS
          exact lp30 256 0 pl ls _ _ (by omega) (lv_sub hl [0, 1, 2, 3, 4] rfl) hO hP hD hS
      exact lp22 8 0 pl ls _ _ (by omega) (lv_sub hl [0, 1, 2, 3] rfl) hO hP hD hS
    | succ n21 ih21 =>
      intro i21 pl ls H locs hm21  hl hO hP hD hS
      refine lv_iload hx hb dMH_keys_78 (lv_at hl 0 rfl) ?_
      refine lv_aload_n hx hb dMH_keys_80 rfl (lv_at hl 1 rfl) ?_
      refine ty_get (ci := 12) (C := "LatticeKeysModel$Hands") (TT := T_MH) (N := 31) (kd := (48, 0)) hx hb hts (wg_ft i_MH) hown hK hO k_h0 (nxg clo_nil k_h0 rfl) hP (fun _ h9 => h9) rfl 25 (by decide) (hts _ (wg_t kw_1457)) (fun _ h9 => h9) (cd := (1, 0, 7)) rfl dMH_keys_81 (fun v104 hv104 => ?_)
      obtain rfl := (show v104 = .int (nI 7) from hv104)
      refine mi_ge (tgt := 135) hx hb dMH_keys_84 (by decide) (by omega) (by omega) (fun h45 => absurd h45 (by omega)) (fun h45 => ?_)
      refine lv_aload_n hx hb dMH_keys_87 rfl (lv_at hl 1 rfl) ?_
      refine lv_aload_n hx hb dMH_keys_88 rfl (lv_at hl 1 rfl) ?_
      refine ty_get (ci := 12) (C := "LatticeKeysModel$Hands") (TT := T_MH) (N := 31) (kd := (48, 0)) hx hb hts (wg_ft i_MH) hown hK hO k_h0 (nxg clo_nil k_h0 rfl) hP (fun _ h9 => h9) rfl 3 (by decide) (hts _ (wg_t kw_1435)) (fun _ h9 => h9) (cd := (3, 3, 7)) rfl dMH_keys_89 (fun v105 hv105 => ?_)
      obtain ⟨r83, rfl, kr82⟩ := (show ∃ r : Nat, v105 = .ref r ∧ T r = some (3, 7) from hv105)
      refine lv_iload hx hb dMH_keys_92 (lv_at hl 0 rfl) ?_
      refine ty_aald3 hx hb hK hO kr82 (nxg clo_nil kr82 rfl) hP (by omega) (by decide) dMH_keys_94 (fun r84 kr83 => ?_)
      refine lv_aload_n hx hb dMH_keys_95 rfl (lv_at hl 1 rfl) ?_
      refine ty_get (ci := 12) (C := "LatticeKeysModel$Hands") (TT := T_MH) (N := 31) (kd := (48, 0)) hx hb hts (wg_ft i_MH) hown hK hO k_h0 (nxg clo_nil k_h0 rfl) hP (fun _ h9 => h9) rfl 16 (by decide) (hts _ (wg_t kw_1448)) (fun _ h9 => h9) (cd := (3, 1, 128)) rfl dMH_keys_96 (fun v106 hv106 => ?_)
      obtain ⟨r85, rfl, kr84⟩ := (show ∃ r : Nat, v106 = .ref r ∧ T r = some (1, 128) from hv106)
      refine lv_bipush (v := nI 32) hx hb dMH_keys_99 (by decide) ?_
      refine lv_iload hx hb dMH_keys_101 (lv_at hl 0 rfl) ?_
      refine mp_v (cx := []) (wr := []) hP hD hS hA [] [] rfl rfl rfl (by decide) (va_runV (As := [.ref r84, .ref r85, .int (nI 32), .int (nI i21)]) (rest := []) F (t_MH_small_2 l g _ T [] pl hO hU clo_nil clo_nil h0 r84 r85 128 32 (nI i21) k_h0 kr83 kr84 (by omega) (by omega)) (cwV 4 hts (wg_app (wg_c kw_1729 (wg_c kw_1731 (wg_c ks_62 (wg_c kw_13 wg_n)))) kw_1732) rfl rfl rfl (by decide +kernel) ⟨by decide, by decide⟩) (pp_VT (en_ok g) (ci := 12) (kd := (48, 0)) hK hO k_h0 (nxg clo_nil k_h0 rfl) (fun _ h9 => ko1 h9) hP hD hS hA hE [] rfl rfl rfl) rfl rfl hl.1 rfl (lv_room (Nat.le_of_ble_eq_true rfl)) dMH_keys_103 ⟨by omega, by omega⟩) (fun  pl H locs hu42 hP hD hS => ?_)
      obtain ⟨hq42, hO⟩ := hu42
      have hP : va_P g.1 vcl ([] ++ pl) _ := hP
      have hD : va_D _ ([] ++ pl) := hD
      refine W.widen (k := 0) (n := 0) (by omega) (by omega) ?_
      refine lv_aload_n hx hb dMH_keys_106 rfl (lv_at hl 1 rfl) ?_
      refine ty_get (ci := 12) (C := "LatticeKeysModel$Hands") (TT := T_MH) (N := 31) (kd := (48, 0)) hx hb hts (wg_ft i_MH) hown hK hO k_h0 (nxg clo_nil k_h0 rfl) hP (fun _ h9 => h9) rfl 1 (by decide) (hts _ (wg_t kw_1433)) (fun _ h9 => h9) (cd := (3, 22, 0)) rfl dMH_keys_107 (fun v107 hv107 => ?_)
      obtain ⟨r86, rfl, kr85⟩ := (show ∃ r : Nat, v107 = .ref r ∧ T r = some (22, 0) from hv107)
      refine lv_aload_n hx hb dMH_keys_110 rfl (lv_at hl 1 rfl) ?_
      refine ty_get (ci := 12) (C := "LatticeKeysModel$Hands") (TT := T_MH) (N := 31) (kd := (48, 0)) hx hb hts (wg_ft i_MH) hown hK hO k_h0 (nxg clo_nil k_h0 rfl) hP (fun _ h9 => h9) rfl 3 (by decide) (hts _ (wg_t kw_1435)) (fun _ h9 => h9) (cd := (3, 3, 7)) rfl dMH_keys_111 (fun v108 hv108 => ?_)
      obtain ⟨r87, rfl, kr86⟩ := (show ∃ r : Nat, v108 = .ref r ∧ T r = some (3, 7) from hv108)
      refine lv_iload hx hb dMH_keys_114 (lv_at hl 0 rfl) ?_
      refine ty_aald3 hx hb hK hO kr86 (nxg clo_nil kr86 rfl) hP (by omega) (by decide) dMH_keys_116 (fun r88 kr87 => ?_)
      refine lv_aload_n hx hb dMH_keys_117 rfl (lv_at hl 1 rfl) ?_
      refine ty_get (ci := 12) (C := "LatticeKeysModel$Hands") (TT := T_MH) (N := 31) (kd := (48, 0)) hx hb hts (wg_ft i_MH) hown hK hO k_h0 (nxg clo_nil k_h0 rfl) hP (fun _ h9 => h9) rfl 9 (by decide) (hts _ (wg_t kw_1441)) (fun _ h9 => h9) (cd := (3, 3, 7)) rfl dMH_keys_118 (fun v109 hv109 => ?_)
      obtain ⟨r89, rfl, kr88⟩ := (show ∃ r : Nat, v109 = .ref r ∧ T r = some (3, 7) from hv109)
      refine lv_iload hx hb dMH_keys_121 (lv_at hl 0 rfl) ?_
      refine ty_aald3 hx hb hK hO kr88 (nxg clo_nil kr88 rfl) hP (by omega) (by decide) dMH_keys_123 (fun r90 kr89 => ?_)
      refine lv_iconst (v := nI 1) hx hb dMH_keys_124 (by decide) ?_
      refine lv_iconst (v := nI 0) hx hb dMH_keys_125 (by decide) ?_
      refine mp_v (cx := []) (wr := []) hP hD hS hA [] [] rfl rfl rfl (by decide) (va_runV (As := [.ref r88, .ref r90, .int (nI 1), .int (nI 0)]) (rest := []) F (t_MR_forth_22_0 l g _ T [] pl hO hU clo_nil r86 r88 r90 kr85 kr87 kr89) (cwV 4 hts (wg_app (wg_c kw_1733 (wg_c kw_1673 (wg_c kw_1674 (wg_c kw_12 wg_n)))) kw_1675) rfl rfl rfl (by decide +kernel) ⟨by decide, by decide⟩) (pp_VT (en_ok g) (ci := 10) (kd := (22, 0)) hK hO kr85 (nxg clo_nil kr85 rfl) (fun _ h9 => ko1 h9) hP hD hS hA hE [] rfl rfl rfl) rfl rfl hl.1 rfl (lv_room (Nat.le_of_ble_eq_true rfl)) dMH_keys_126 ⟨by omega, by omega⟩) (fun  pl H locs hu43 hP hD hS => ?_)
      obtain ⟨hq43, hO⟩ := hu43
      have hP : va_P g.1 vcl ([] ++ pl) _ := hP
      have hD : va_D _ ([] ++ pl) := hD
      refine W.widen (k := 0) (n := 0) (by omega) (by omega) ?_
      refine mi_iinc (k := 0) (x := i21) (d := 1) (y := i21 + 1) (lv' := [(5, .int (nI (i21 + 1))), (0, .ref h0), (3, .ref pk), (4, .ref sk)]) hx hb dMH_keys_129 hl rfl (by decide) rfl (by decide) rfl (fun ls hl => ?_)
      refine lv_goto (tgt := 78) hx hb dMH_keys_132 (by decide) ?_
      exact ih21 (i21 + 1) pl ls H locs (by omega) (lv_sub hl [0, 1, 2, 3] rfl) hO hP hD hS
  exact lp21 7 0 pl ls _ _ (by omega) (lv_sub hl [0, 1, 4, 5] rfl) hO hP hD hS
set_option maxHeartbeats 4000000 in
set_option maxRecDepth 100000 in
theorem t_MH_sign_0 (l : Launch) (g : Gd) (sz : Nat) (T0 : Ty) (pl : va_W) (hO : okx g T0 [] pl) (hU : uni T0) (h0 sk b to n ed : Nat) (cl : Int32) (k_h0 : T0 h0 = some (49, 0)) (k_sk : T0 sk = some (1, 4896)) (k_b : T0 b = some (1, n)) (k_to : T0 to = some (1, 8192)) (h1 : 32 ≤ ed) (h3 : ed ≤ n) (h2 : n < 65536)  : Met l y_MH_sign w_MH_sign ({ frames := 5, cells := 0, slots := 0, locals := 124 } : Room) (va_Pc [.ref h0, .int (nI 0), .ref sk, .ref b, .int cl, .int (nI ed), .ref to] (pr (en g) g.1 vcl sz ([] ++ pl))) (va_Qi (fun (r : Int32) (u : va_W) => (True) ∧ okx g T0 [] u) (po g.1 vcl (va_A ([] ++ pl) sz) (fun (u : va_W) => [] ++ u)) (va_A ([] ++ pl) sz)) 0 0 (va_A ([] ++ pl) sz) := by
  refine mc_entry (cc := c_MH_sign) (maxL := 9) (ret := (some .int)) (by decide) rfl (Nat.le_of_ble_eq_true rfl) ?_
  intro p e s m args below meth c ls F hr hlk hnm hsz hP hD hE hA hl
  obtain ⟨hx, hb, hml, hown, hts⟩ := id F
  have hK := hE.1
  generalize va_A ([] ++ pl) sz = A at hD hE hA ⊢
  have hS : va_S A s.heap s.heap [] := va_S.rf
  have hl : lv_has ls 9 [(0, .ref h0), (1, .int (nI 0)), (2, .ref sk), (3, .ref b), (4, .int cl), (5, .int (nI ed)), (6, .ref to)] := hl
  refine lv_aload_n hx hb dMH_sign_0 rfl (lv_at hl 0 rfl) ?_
  refine lv_iload_n hx hb dMH_sign_1 rfl (lv_at hl 1 rfl) ?_
  obtain ⟨e21, pl, hP, hD, hk21, hO⟩ := open1 hP hD hO k_h0 (nxg clo_nil k_h0 (p := 11) rfl)
  obtain ⟨fs21, rfl, hf21⟩ := hk21
  obtain ⟨v21, vs21, rfl, hv21, hf22⟩ := fall_cons hf21
  obtain ⟨r21, rfl, kr21⟩ := (show ∃ r : Nat, v21 = .ref r ∧ T0 r = some (20, 0) from hv21)
  obtain ⟨v22, vs22, rfl, hv22, hf23⟩ := fall_cons hf22
  obtain ⟨r22, rfl, kr22⟩ := (show ∃ r : Nat, v22 = .ref r ∧ T0 r = some (22, 0) from hv22)
  obtain ⟨v23, vs23, rfl, hv23, hf24⟩ := fall_cons hf23
  obtain ⟨r23, rfl, kr23⟩ := (show ∃ r : Nat, v23 = .ref r ∧ T0 r = some (3, 64) from hv23)
  obtain ⟨v24, vs24, rfl, hv24, hf25⟩ := fall_cons hf24
  obtain ⟨r24, rfl, kr24⟩ := (show ∃ r : Nat, v24 = .ref r ∧ T0 r = some (3, 7) from hv24)
  obtain ⟨v25, vs25, rfl, hv25, hf26⟩ := fall_cons hf25
  obtain ⟨r25, rfl, kr25⟩ := (show ∃ r : Nat, v25 = .ref r ∧ T0 r = some (3, 8) from hv25)
  obtain ⟨v26, vs26, rfl, hv26, hf27⟩ := fall_cons hf26
  obtain ⟨r26, rfl, kr26⟩ := (show ∃ r : Nat, v26 = .ref r ∧ T0 r = some (3, 8) from hv26)
  obtain ⟨v27, vs27, rfl, hv27, hf28⟩ := fall_cons hf27
  obtain ⟨r27, rfl, kr27⟩ := (show ∃ r : Nat, v27 = .ref r ∧ T0 r = some (3, 8) from hv27)
  obtain ⟨v28, vs28, rfl, hv28, hf29⟩ := fall_cons hf28
  obtain ⟨r28, rfl, kr28⟩ := (show ∃ r : Nat, v28 = .ref r ∧ T0 r = some (3, 7) from hv28)
  obtain ⟨v29, vs29, rfl, hv29, hf30⟩ := fall_cons hf29
  obtain ⟨r29, rfl, kr29⟩ := (show ∃ r : Nat, v29 = .ref r ∧ T0 r = some (3, 7) from hv29)
  obtain ⟨v30, vs30, rfl, hv30, hf31⟩ := fall_cons hf30
  obtain ⟨r30, rfl, kr30⟩ := (show ∃ r : Nat, v30 = .ref r ∧ T0 r = some (3, 7) from hv30)
  obtain ⟨v31, vs31, rfl, hv31, hf32⟩ := fall_cons hf31
  obtain ⟨r31, rfl, kr31⟩ := (show ∃ r : Nat, v31 = .ref r ∧ T0 r = some (3, 8) from hv31)
  obtain ⟨v32, vs32, rfl, hv32, hf33⟩ := fall_cons hf32
  obtain ⟨r32, rfl, kr32⟩ := (show ∃ r : Nat, v32 = .ref r ∧ T0 r = some (3, 8) from hv32)
  obtain ⟨v33, vs33, rfl, hv33, hf34⟩ := fall_cons hf33
  obtain ⟨r33, rfl, kr33⟩ := (show ∃ r : Nat, v33 = .ref r ∧ T0 r = some (0, 256) from hv33)
  obtain ⟨v34, vs34, rfl, hv34, hf35⟩ := fall_cons hf34
  obtain ⟨r34, rfl, kr34⟩ := (show ∃ r : Nat, v34 = .ref r ∧ T0 r = some (0, 256) from hv34)
  obtain ⟨v35, vs35, rfl, hv35, hf36⟩ := fall_cons hf35
  obtain ⟨r35, rfl, kr35⟩ := (show ∃ r : Nat, v35 = .ref r ∧ T0 r = some (0, 256) from hv35)
  obtain ⟨v36, vs36, rfl, hv36, hf37⟩ := fall_cons hf36
  obtain ⟨r36, rfl, kr36⟩ := (show ∃ r : Nat, v36 = .ref r ∧ T0 r = some (2, 256) from hv36)
  obtain ⟨v37, vs37, rfl, hv37, hf38⟩ := fall_cons hf37
  obtain ⟨r37, rfl, kr37⟩ := (show ∃ r : Nat, v37 = .ref r ∧ T0 r = some (1, 128) from hv37)
  obtain ⟨v38, vs38, rfl, hv38, hf39⟩ := fall_cons hf38
  obtain ⟨r38, rfl, kr38⟩ := (show ∃ r : Nat, v38 = .ref r ∧ T0 r = some (1, 64) from hv38)
  obtain ⟨v39, vs39, rfl, hv39, hf40⟩ := fall_cons hf39
  obtain ⟨r39, rfl, kr39⟩ := (show ∃ r : Nat, v39 = .ref r ∧ T0 r = some (1, 64) from hv39)
  obtain ⟨v40, vs40, rfl, hv40, hf41⟩ := fall_cons hf40
  obtain ⟨r40, rfl, kr40⟩ := (show ∃ r : Nat, v40 = .ref r ∧ T0 r = some (1, 640) from hv40)
  obtain ⟨v41, vs41, rfl, hv41, hf42⟩ := fall_cons hf41
  obtain ⟨r41, rfl, kr41⟩ := (show ∃ r : Nat, v41 = .ref r ∧ T0 r = some (1, 64) from hv41)
  obtain ⟨v42, vs42, rfl, hv42, hf43⟩ := fall_cons hf42
  obtain ⟨r42, rfl, kr42⟩ := (show ∃ r : Nat, v42 = .ref r ∧ T0 r = some (1, 64) from hv42)
  obtain ⟨v43, vs43, rfl, hv43, hf44⟩ := fall_cons hf43
  obtain ⟨r43, rfl, kr43⟩ := (show ∃ r : Nat, v43 = .ref r ∧ T0 r = some (1, 64) from hv43)
  obtain ⟨v44, vs44, rfl, hv44, hf45⟩ := fall_cons hf44
  obtain ⟨z21, rfl⟩ := (show ∃ z : Int32, v44 = .int z from hv44)
  obtain ⟨v45, vs45, rfl, hv45, hf46⟩ := fall_cons hf45
  obtain ⟨z22, rfl⟩ := (show ∃ z : Int32, v45 = .int z from hv45)
  obtain ⟨v46, vs46, rfl, hv46, hf47⟩ := fall_cons hf46
  obtain ⟨z23, rfl⟩ := (show ∃ z : Int32, v46 = .int z from hv46)
  obtain ⟨v47, vs47, rfl, hv47, hf48⟩ := fall_cons hf47
  obtain ⟨z24, rfl⟩ := (show ∃ z : Int32, v47 = .int z from hv47)
  obtain ⟨v48, vs48, rfl, hv48, hf49⟩ := fall_cons hf48
  obtain ⟨z25, rfl⟩ := (show ∃ z : Int32, v48 = .int z from hv48)
  obtain ⟨v49, vs49, rfl, hv49, hf50⟩ := fall_cons hf49
  obtain ⟨z26, rfl⟩ := (show ∃ z : Int32, v49 = .int z from hv49)
  obtain ⟨v50, vs50, rfl, hv50, hf51⟩ := fall_cons hf50
  obtain ⟨z27, rfl⟩ := (show ∃ z : Int32, v50 = .int z from hv50)
  obtain ⟨v51, vs51, rfl, hv51, hf52⟩ := fall_cons hf51
  obtain ⟨z28, rfl⟩ := (show ∃ z : Int32, v51 = .int z from hv51)
  obtain rfl := fall_nil hf52
  have hP : va_P g.1 vcl ([(h0, .inr (12, [.ref r21, .ref r22, .ref r23, .ref r24, .ref r25, .ref r26, .ref r27, .ref r28, .ref r29, .ref r30, .ref r31, .ref r32, .ref r33, .ref r34, .ref r35, .ref r36, .ref r37, .ref r38, .ref r39, .ref r40, .ref r41, .ref r42, .ref r43, .int z21, .int z22, .int z23, .int z24, .int z25, .int z26, .int z27, .int z28]))] ++ pl) _ := hP
  have hD : va_D _ ([(h0, .inr (12, [.ref r21, .ref r22, .ref r23, .ref r24, .ref r25, .ref r26, .ref r27, .ref r28, .ref r29, .ref r30, .ref r31, .ref r32, .ref r33, .ref r34, .ref r35, .ref r36, .ref r37, .ref r38, .ref r39, .ref r40, .ref r41, .ref r42, .ref r43, .int z21, .int z22, .int z23, .int z24, .int z25, .int z26, .int z27, .int z28]))] ++ pl) := hD
  refine mp_v (cx := [(h0, .inr (12, [.ref r21, .ref r22, .ref r23, .ref r24, .ref r25, .ref r26, .ref r27, .ref r28, .ref r29, .ref r30, .ref r31, .ref r32, .ref r33, .ref r34, .ref r35, .ref r36, .ref r37, .ref r38, .ref r39, .ref r40, .ref r41, .ref r42, .ref r43, .int z21, .int z22, .int z23, .int z24, .int z25, .int z26, .int z27, .int z28]))]) (wr := []) hP hD hS hA [0] [] rfl rfl rfl (by decide) (va_runV (As := [.int (nI 0)]) (rest := []) F (t_MH_as_0 l g _ T0 (h0 :: []) pl hO hU  h0 r21 r22 r23 r24 r25 r26 r27 r28 r29 r30 r31 r32 r33 r34 r35 r36 r37 r38 r39 r40 r41 r42 r43 z21 z22 z23 z24 z25 z26 z27 z28) (cwV 1 hts (wg_app (wg_c kw_1702 (wg_c kw_1704 (wg_c ks_60 (wg_c kw_13 wg_n)))) kw_1705) rfl rfl rfl (by decide +kernel) ⟨by decide, by decide⟩) (pp_V (en_ok g) (q0 := 0) hK hP hD hS hA hE [0] rfl rfl rfl rfl) rfl rfl hl.1 rfl (lv_room (Nat.le_of_ble_eq_true rfl)) dMH_sign_2 ⟨by omega, by omega⟩) (fun  pl H locs hu21 hP hD hS => ?_)
  obtain ⟨hq21, hO⟩ := hu21
  have hP : va_P g.1 vcl ([(h0, .inr (12, [.ref r21, .ref r22, .ref r23, .ref r24, .ref r25, .ref r26, .ref r27, .ref r28, .ref r29, .ref r30, .ref r31, .ref r32, .ref r33, .ref r34, .ref r35, .ref r36, .ref r37, .ref r38, .ref r39, .ref r40, .ref r41, .ref r42, .ref r43, .int (nI 0), .int (nI 4), .int (nI 4), .int (nI 2), .int (nI 131072), .int (nI 95232), .int (nI 78), .int (nI 32)]))] ++ pl) _ := hP
  have hD : va_D _ ([(h0, .inr (12, [.ref r21, .ref r22, .ref r23, .ref r24, .ref r25, .ref r26, .ref r27, .ref r28, .ref r29, .ref r30, .ref r31, .ref r32, .ref r33, .ref r34, .ref r35, .ref r36, .ref r37, .ref r38, .ref r39, .ref r40, .ref r41, .ref r42, .ref r43, .int (nI 0), .int (nI 4), .int (nI 4), .int (nI 2), .int (nI 131072), .int (nI 95232), .int (nI 78), .int (nI 32)]))] ++ pl) := hD
  refine W.widen (k := 0) (n := 0) (by omega) (by omega) ?_
  have hO := hands_in (j := 0) (e := .inr (12, [.ref r21, .ref r22, .ref r23, .ref r24, .ref r25, .ref r26, .ref r27, .ref r28, .ref r29, .ref r30, .ref r31, .ref r32, .ref r33, .ref r34, .ref r35, .ref r36, .ref r37, .ref r38, .ref r39, .ref r40, .ref r41, .ref r42, .ref r43, .int (nI 0), .int (nI 4), .int (nI 4), .int (nI 2), .int (nI 131072), .int (nI 95232), .int (nI 78), .int (nI 32)])) hO k_h0 ⟨_, rfl, ⟨r21, rfl, kr21⟩, ⟨r22, rfl, kr22⟩, ⟨r23, rfl, kr23⟩, ⟨r24, rfl, kr24⟩, ⟨r25, rfl, kr25⟩, ⟨r26, rfl, kr26⟩, ⟨r27, rfl, kr27⟩, ⟨r28, rfl, kr28⟩, ⟨r29, rfl, kr29⟩, ⟨r30, rfl, kr30⟩, ⟨r31, rfl, kr31⟩, ⟨r32, rfl, kr32⟩, ⟨r33, rfl, kr33⟩, ⟨r34, rfl, kr34⟩, ⟨r35, rfl, kr35⟩, ⟨r36, rfl, kr36⟩, ⟨r37, rfl, kr37⟩, ⟨r38, rfl, kr38⟩, ⟨r39, rfl, kr39⟩, ⟨r40, rfl, kr40⟩, ⟨r41, rfl, kr41⟩, ⟨r42, rfl, kr42⟩, ⟨r43, rfl, kr43⟩, rfl, rfl, rfl, rfl, rfl, rfl, rfl, rfl, trivial⟩
  have hP : va_P g.1 vcl ([] ++ ((h0, .inr (12, [.ref r21, .ref r22, .ref r23, .ref r24, .ref r25, .ref r26, .ref r27, .ref r28, .ref r29, .ref r30, .ref r31, .ref r32, .ref r33, .ref r34, .ref r35, .ref r36, .ref r37, .ref r38, .ref r39, .ref r40, .ref r41, .ref r42, .ref r43, .int (nI 0), .int (nI 4), .int (nI 4), .int (nI 2), .int (nI 131072), .int (nI 95232), .int (nI 78), .int (nI 32)])) :: pl)) _ := hP
  have hD : va_D _ ([] ++ ((h0, .inr (12, [.ref r21, .ref r22, .ref r23, .ref r24, .ref r25, .ref r26, .ref r27, .ref r28, .ref r29, .ref r30, .ref r31, .ref r32, .ref r33, .ref r34, .ref r35, .ref r36, .ref r37, .ref r38, .ref r39, .ref r40, .ref r41, .ref r42, .ref r43, .int (nI 0), .int (nI 4), .int (nI 4), .int (nI 2), .int (nI 131072), .int (nI 95232), .int (nI 78), .int (nI 32)])) :: pl)) := hD
  generalize ((h0, .inr (12, [.ref r21, .ref r22, .ref r23, .ref r24, .ref r25, .ref r26, .ref r27, .ref r28, .ref r29, .ref r30, .ref r31, .ref r32, .ref r33, .ref r34, .ref r35, .ref r36, .ref r37, .ref r38, .ref r39, .ref r40, .ref r41, .ref r42, .ref r43, .int (nI 0), .int (nI 4), .int (nI 4), .int (nI 2), .int (nI 131072), .int (nI 95232), .int (nI 78), .int (nI 32)])) :: pl) = pl at hO hP hD
  have hback : ∀ pl, okx g (tyU T0 h0 (46 + 0, 0)) [] pl → okx g T0 [] pl := fun pl h9 => hands_out k_h0 (hands_wk 0 (by decide)) h9
  have hU := uni_U (a := h0) (k := (46 + 0, 0)) hU rfl
  have k_sk := tyU_k (k := (46 + 0, 0)) k_h0 k_sk (by intro h9; cases h9)
  have k_b := tyU_k (k := (46 + 0, 0)) k_h0 k_b (by intro h9; cases h9)
  have k_to := tyU_k (k := (46 + 0, 0)) k_h0 k_to (by intro h9; cases h9)
  have k_h0 : tyU T0 h0 (46 + 0, 0) h0 = some (46 + 0, 0) := tyU_at
  generalize tyU T0 h0 (46 + 0, 0) = T at hO hback hU k_sk k_b k_to k_h0
  refine lv_aload_n hx hb dMH_sign_5 rfl (lv_at hl 0 rfl) ?_
  refine lv_aload_n hx hb dMH_sign_6 rfl (lv_at hl 2 rfl) ?_
  refine mp_v (cx := []) (wr := []) hP hD hS hA [] [] rfl rfl rfl (by decide) (va_runV (As := [.ref sk]) (rest := []) F (t_MH_readHidden_0 l g _ T [] pl hO hU clo_nil h0 sk k_h0 k_sk) (cwV 1 hts (wg_app (wg_c kw_1860 (wg_c kw_1862 (wg_c ks_70 (wg_c kw_13 wg_n)))) kw_1863) rfl rfl rfl (by decide +kernel) ⟨by decide, by decide⟩) (pp_VT (en_ok g) (ci := 12) (kd := (46, 0)) hK hO k_h0 (nxg clo_nil k_h0 rfl) (fun _ h9 => ko1 h9) hP hD hS hA hE [] rfl rfl rfl) rfl rfl hl.1 rfl (lv_room (Nat.le_of_ble_eq_true rfl)) dMH_sign_7 ⟨by omega, by omega⟩) (fun  pl H locs hu22 hP hD hS => ?_)
  obtain ⟨hq22, hO⟩ := hu22
  have hP : va_P g.1 vcl ([] ++ pl) _ := hP
  have hD : va_D _ ([] ++ pl) := hD
  refine W.widen (k := 0) (n := 0) (by omega) (by omega) ?_
  refine lv_aload_n hx hb dMH_sign_10 rfl (lv_at hl 0 rfl) ?_
  refine lv_aload_n hx hb dMH_sign_11 rfl (lv_at hl 2 rfl) ?_
  refine mp_v (cx := []) (wr := []) hP hD hS hA [] [] rfl rfl rfl (by decide) (va_runV (As := [.ref sk]) (rest := []) F (t_MH_expand_0 l g _ T [] pl hO hU clo_nil clo_nil h0 sk 4896 k_h0 k_sk (by omega) (by omega)) (cwV 1 hts (wg_app (wg_c kw_1723 (wg_c kw_1725 (wg_c ks_61 (wg_c kw_13 wg_n)))) kw_1726) rfl rfl rfl (by decide +kernel) ⟨by decide, by decide⟩) (pp_VT (en_ok g) (ci := 12) (kd := (46, 0)) hK hO k_h0 (nxg clo_nil k_h0 rfl) (fun _ h9 => ko1 h9) hP hD hS hA hE [] rfl rfl rfl) rfl rfl hl.1 rfl (lv_room (Nat.le_of_ble_eq_true rfl)) dMH_sign_12 ⟨by omega, by omega⟩) (fun  pl H locs hu23 hP hD hS => ?_)
  obtain ⟨hq23, hO⟩ := hu23
  have hP : va_P g.1 vcl ([] ++ pl) _ := hP
  have hD : va_D _ ([] ++ pl) := hD
  refine W.widen (k := 0) (n := 0) (by omega) (by omega) ?_
  refine lv_aload_n hx hb dMH_sign_15 rfl (lv_at hl 0 rfl) ?_
  refine lv_aload_n hx hb dMH_sign_16 rfl (lv_at hl 2 rfl) ?_
  refine lv_bipush (v := nI 64) hx hb dMH_sign_17 (by decide) ?_
  refine lv_aload_n hx hb dMH_sign_19 rfl (lv_at hl 3 rfl) ?_
  refine lv_bipush (v := nI 32) hx hb dMH_sign_20 (by decide) ?_
  refine lv_iload hx hb dMH_sign_22 (lv_at hl 4 rfl) ?_
  refine lv_iload hx hb dMH_sign_24 (lv_at hl 5 rfl) ?_
  refine mp_v (cx := []) (wr := []) hP hD hS hA [] [] rfl rfl rfl (by decide) (va_runV (As := [.ref sk, .int (nI 64), .ref b, .int (nI 32), .int cl, .int (nI ed)]) (rest := []) F (t_MH_message_0 l g _ T [] pl hO hU clo_nil clo_nil h0 sk b 4896 n 64 32 ed cl k_h0 k_sk k_b (by omega) (by omega) (by omega) (by omega) (by omega)) (cwV 6 hts (wg_app (wg_c kw_1868 (wg_c kw_1870 (wg_c ks_71 (wg_c kw_13 wg_n)))) kw_1871) rfl rfl rfl (by decide +kernel) ⟨by decide, by decide⟩) (pp_VT (en_ok g) (ci := 12) (kd := (46, 0)) hK hO k_h0 (nxg clo_nil k_h0 rfl) (fun _ h9 => ko1 h9) hP hD hS hA hE [] rfl rfl rfl) rfl rfl hl.1 rfl (lv_room (Nat.le_of_ble_eq_true rfl)) dMH_sign_26 ⟨by omega, by omega⟩) (fun  pl H locs hu24 hP hD hS => ?_)
  obtain ⟨hq24, hO⟩ := hu24
  have hP : va_P g.1 vcl ([] ++ pl) _ := hP
  have hD : va_D _ ([] ++ pl) := hD
  refine W.widen (k := 0) (n := 0) (by omega) (by omega) ?_
  refine lv_aload_n hx hb dMH_sign_29 rfl (lv_at hl 0 rfl) ?_
  refine ty_get (ci := 12) (C := "LatticeKeysModel$Hands") (TT := T_MH) (N := 31) (kd := (46, 0)) hx hb hts (wg_ft i_MH) hown hK hO k_h0 (nxg clo_nil k_h0 rfl) hP (fun _ h9 => h9) rfl 0 (by decide) (hts _ (wg_t kw_1432)) (fun _ h9 => h9) (cd := (3, 20, 0)) rfl dMH_sign_30 (fun v52 hv52 => ?_)
  obtain ⟨r44, rfl, kr44⟩ := (show ∃ r : Nat, v52 = .ref r ∧ T r = some (20, 0) from hv52)
  obtain ⟨e22, pl, hP, hD, hk22, hO⟩ := open1 hP hD hO kr44 (nxg clo_nil kr44 rfl)
  obtain ⟨am21, am22, am23, am24, am25, rt21, ps21, x21, rfl, km21, km22, km23, km24, km25, hr21, hr22, hr23⟩ := hk22
  obtain ⟨e23, pl, hP, hD, hk23, hO⟩ := open1 hP hD hO km21 (nmc (knd_ne km21 kr44 (by decide)) (nxg clo_nil km21 rfl))
  obtain ⟨f21, rfl⟩ := hk23
  obtain ⟨e24, pl, hP, hD, hk24, hO⟩ := open1 hP hD hO km22 (nmc (knd_ne km22 km21 (by decide)) (nmc (knd_ne km22 kr44 (by decide)) (nxg clo_nil km22 rfl)))
  obtain ⟨f22, rfl⟩ := hk24
  obtain ⟨e25, pl, hP, hD, hk25, hO⟩ := open1 hP hD hO km23 (nmc (knd_ne km23 km22 (by decide)) (nmc (knd_ne km23 km21 (by decide)) (nmc (knd_ne km23 kr44 (by decide)) (nxg clo_nil km23 rfl))))
  obtain ⟨f23, rfl⟩ := hk25
  obtain ⟨e26, pl, hP, hD, hk26, hO⟩ := open1 hP hD hO km24 (nmc (knd_ne km24 km23 (by decide)) (nmc (knd_ne km24 km22 (by decide)) (nmc (knd_ne km24 km21 (by decide)) (nmc (knd_ne km24 kr44 (by decide)) (nxg clo_nil km24 rfl)))))
  obtain ⟨f24, rfl⟩ := hk26
  obtain ⟨e27, pl, hP, hD, hk27, hO⟩ := open1 hP hD hO km25 (nmc (knd_ne km25 km24 (by decide)) (nmc (knd_ne km25 km23 (by decide)) (nmc (knd_ne km25 km22 (by decide)) (nmc (knd_ne km25 km21 (by decide)) (nmc (knd_ne km25 kr44 (by decide)) (nxg clo_nil km25 rfl))))))
  obtain ⟨f25, rfl⟩ := hk27
  have hP : va_P g.1 vcl ([(r44, .inr (9, [.ref am21, .ref am22, .ref am23, .ref am24, .ref am25, .int (nI rt21), .int (nI ps21), .int x21])), (am21, .inl (g.2.1 2, 25, .inr (.inl f21))), (am22, .inl (g.2.1 2, 25, .inr (.inl f22))), (am23, .inl (g.2.1 2, 5, .inr (.inl f23))), (am24, .inl (g.2.1 2, 24, .inr (.inl f24))), (am25, .inl (g.2.1 0, 25, .inl f25))] ++ pl) _ := hP
  have hD : va_D _ ([(r44, .inr (9, [.ref am21, .ref am22, .ref am23, .ref am24, .ref am25, .int (nI rt21), .int (nI ps21), .int x21])), (am21, .inl (g.2.1 2, 25, .inr (.inl f21))), (am22, .inl (g.2.1 2, 25, .inr (.inl f22))), (am23, .inl (g.2.1 2, 5, .inr (.inl f23))), (am24, .inl (g.2.1 2, 24, .inr (.inl f24))), (am25, .inl (g.2.1 0, 25, .inl f25))] ++ pl) := hD
  refine mp_v (cx := [(r44, .inr (9, [.ref am21, .ref am22, .ref am23, .ref am24, .ref am25, .int (nI rt21), .int (nI ps21), .int x21])), (am21, .inl (g.2.1 2, 25, .inr (.inl f21))), (am22, .inl (g.2.1 2, 25, .inr (.inl f22))), (am23, .inl (g.2.1 2, 5, .inr (.inl f23))), (am24, .inl (g.2.1 2, 24, .inr (.inl f24))), (am25, .inl (g.2.1 0, 25, .inl f25))]) (wr := []) hP hD hS hA [0, 1, 2, 3, 4, 5] [] rfl rfl rfl (by decide) (va_runV (As := []) (rest := []) F (t_MS_shake l g _ T (am25 :: (am24 :: (am23 :: (am22 :: (am21 :: (r44 :: [])))))) pl hO hU  r44 am21 am22 am23 am24 am25 rt21 ps21 x21 f21 f22 f23 f24 f25) (cwV 0 hts (wg_app (wg_c kw_1718 (wg_c kw_1661 (wg_c kw_1662 (wg_c kw_10 wg_n)))) kw_1663) rfl rfl rfl (by decide +kernel) ⟨by decide, by decide⟩) (pp_V (en_ok g) (q0 := 0) hK hP hD hS hA hE [0, 1, 2, 3, 4, 5] rfl rfl rfl rfl) rfl rfl hl.1 rfl (lv_room (Nat.le_of_ble_eq_true rfl)) dMH_sign_33 ⟨by omega, by omega⟩) (fun  u21 H locs hu25 hP hD hS => ?_)
  obtain ⟨u22, pl⟩ := u21
  obtain ⟨hq25, hO⟩ := hu25
  obtain ⟨ps22, f26, f27, f28⟩ := u22
  have hP : va_P g.1 vcl ([(r44, .inr (9, [.ref am21, .ref am22, .ref am23, .ref am24, .ref am25, .int (nI 136), .int (nI ps22), .int (nI 31)])), (am21, .inl (g.2.1 2, 25, .inr (.inl f26))), (am22, .inl (g.2.1 2, 25, .inr (.inl f27))), (am23, .inl (g.2.1 2, 5, .inr (.inl f28))), (am24, .inl (g.2.1 2, 24, .inr (.inl f24))), (am25, .inl (g.2.1 0, 25, .inl f25))] ++ pl) _ := hP
  have hD : va_D _ ([(r44, .inr (9, [.ref am21, .ref am22, .ref am23, .ref am24, .ref am25, .int (nI 136), .int (nI ps22), .int (nI 31)])), (am21, .inl (g.2.1 2, 25, .inr (.inl f26))), (am22, .inl (g.2.1 2, 25, .inr (.inl f27))), (am23, .inl (g.2.1 2, 5, .inr (.inl f28))), (am24, .inl (g.2.1 2, 24, .inr (.inl f24))), (am25, .inl (g.2.1 0, 25, .inl f25))] ++ pl) := hD
  have hq25 : ps22 ≤ 136 := hq25
  refine W.widen (k := 0) (n := 0) (by omega) (by omega) ?_
  refine lv_aload_n hx hb dMH_sign_36 rfl (lv_at hl 0 rfl) ?_
  refine ty_get (ci := 12) (C := "LatticeKeysModel$Hands") (TT := T_MH) (N := 31) (kd := (46, 0)) hx hb hts (wg_ft i_MH) hown hK hO k_h0 (nxg (clo_cons (clo_cons (clo_cons (clo_cons (clo_cons (clo_cons clo_nil kr44 (by decide)) km21 (by decide)) km22 (by decide)) km23 (by decide)) km24 (by decide)) km25 (by decide)) k_h0 rfl) hP (fun _ h9 => h9) rfl 0 (by decide) (hts _ (wg_t kw_1432)) (fun _ h9 => h9) (cd := (3, 20, 0)) rfl dMH_sign_37 (fun v53 hv53 => ?_)
  obtain ⟨r45, rfl, kr45⟩ := (show ∃ r : Nat, v53 = .ref r ∧ T r = some (20, 0) from hv53)
  obtain rfl : r44 = r45 := hU _ _ _ (by decide) kr44 kr45
  refine lv_aload_n hx hb dMH_sign_40 rfl (lv_at hl 2 rfl) ?_
  refine lv_bipush (v := nI 32) hx hb dMH_sign_41 (by decide) ?_
  refine lv_bipush (v := nI 32) hx hb dMH_sign_43 (by decide) ?_
  refine mp_v (cx := [(r44, .inr (9, [.ref am21, .ref am22, .ref am23, .ref am24, .ref am25, .int (nI 136), .int (nI ps22), .int (nI 31)])), (am21, .inl (g.2.1 2, 25, .inr (.inl f26))), (am22, .inl (g.2.1 2, 25, .inr (.inl f27))), (am23, .inl (g.2.1 2, 5, .inr (.inl f28))), (am24, .inl (g.2.1 2, 24, .inr (.inl f24))), (am25, .inl (g.2.1 0, 25, .inl f25))]) (wr := []) hP hD hS hA [0, 1, 2, 3, 4, 5] [] rfl rfl rfl (by decide) (va_runV (As := [.ref sk, .int (nI 32), .int (nI 32)]) (rest := []) F (t_MS_puts l g _ T (am25 :: (am24 :: (am23 :: (am22 :: (am21 :: (r44 :: [])))))) pl hO hU (clo_cons (clo_cons (clo_cons (clo_cons (clo_cons (clo_cons clo_nil kr44 (by decide)) km21 (by decide)) km22 (by decide)) km23 (by decide)) km24 (by decide)) km25 (by decide)) sk 4896 32 32 r44 am21 am22 am23 am24 am25 136 ps22 (nI 31) f26 f27 f28 f24 f25 k_sk (by omega) (by omega) (by omega) (by omega)) (cwV 3 hts (wg_app (wg_c kw_1719 (wg_c kw_1612 (wg_c kw_1613 (wg_c kw_10 wg_n)))) kw_1614) rfl rfl rfl (by decide +kernel) ⟨by decide, by decide⟩) (pp_V (en_ok g) (q0 := 0) hK hP hD hS hA hE [0, 1, 2, 3, 4, 5] rfl rfl rfl rfl) rfl rfl hl.1 rfl (lv_room (Nat.le_of_ble_eq_true rfl)) dMH_sign_45 ⟨by omega, by omega⟩) (fun  u23 H locs hu26 hP hD hS => ?_)
  obtain ⟨u24, pl⟩ := u23
  obtain ⟨hq26, hO⟩ := hu26
  obtain ⟨ps23, f29, f30, f31⟩ := u24
  have hP : va_P g.1 vcl ([(r44, .inr (9, [.ref am21, .ref am22, .ref am23, .ref am24, .ref am25, .int (nI 136), .int (nI ps23), .int (nI 31)])), (am21, .inl (g.2.1 2, 25, .inr (.inl f29))), (am22, .inl (g.2.1 2, 25, .inr (.inl f30))), (am23, .inl (g.2.1 2, 5, .inr (.inl f31))), (am24, .inl (g.2.1 2, 24, .inr (.inl f24))), (am25, .inl (g.2.1 0, 25, .inl f25))] ++ pl) _ := hP
  have hD : va_D _ ([(r44, .inr (9, [.ref am21, .ref am22, .ref am23, .ref am24, .ref am25, .int (nI 136), .int (nI ps23), .int (nI 31)])), (am21, .inl (g.2.1 2, 25, .inr (.inl f29))), (am22, .inl (g.2.1 2, 25, .inr (.inl f30))), (am23, .inl (g.2.1 2, 5, .inr (.inl f31))), (am24, .inl (g.2.1 2, 24, .inr (.inl f24))), (am25, .inl (g.2.1 0, 25, .inl f25))] ++ pl) := hD
  have hq26 : ps23 ≤ 136 := hq26
  refine W.widen (k := 0) (n := 0) (by omega) (by omega) ?_
  refine lv_aload_n hx hb dMH_sign_48 rfl (lv_at hl 0 rfl) ?_
  refine ty_get (ci := 12) (C := "LatticeKeysModel$Hands") (TT := T_MH) (N := 31) (kd := (46, 0)) hx hb hts (wg_ft i_MH) hown hK hO k_h0 (nxg (clo_cons (clo_cons (clo_cons (clo_cons (clo_cons (clo_cons clo_nil kr44 (by decide)) km21 (by decide)) km22 (by decide)) km23 (by decide)) km24 (by decide)) km25 (by decide)) k_h0 rfl) hP (fun _ h9 => h9) rfl 0 (by decide) (hts _ (wg_t kw_1432)) (fun _ h9 => h9) (cd := (3, 20, 0)) rfl dMH_sign_49 (fun v54 hv54 => ?_)
  obtain ⟨r46, rfl, kr46⟩ := (show ∃ r : Nat, v54 = .ref r ∧ T r = some (20, 0) from hv54)
  obtain rfl : r44 = r46 := hU _ _ _ (by decide) kr44 kr46
  refine lv_aload_n hx hb dMH_sign_52 rfl (lv_at hl 3 rfl) ?_
  refine lv_iconst (v := nI 0) hx hb dMH_sign_53 (by decide) ?_
  refine lv_bipush (v := nI 32) hx hb dMH_sign_54 (by decide) ?_
  refine mp_v (cx := [(r44, .inr (9, [.ref am21, .ref am22, .ref am23, .ref am24, .ref am25, .int (nI 136), .int (nI ps23), .int (nI 31)])), (am21, .inl (g.2.1 2, 25, .inr (.inl f29))), (am22, .inl (g.2.1 2, 25, .inr (.inl f30))), (am23, .inl (g.2.1 2, 5, .inr (.inl f31))), (am24, .inl (g.2.1 2, 24, .inr (.inl f24))), (am25, .inl (g.2.1 0, 25, .inl f25))]) (wr := []) hP hD hS hA [0, 1, 2, 3, 4, 5] [] rfl rfl rfl (by decide) (va_runV (As := [.ref b, .int (nI 0), .int (nI 32)]) (rest := []) F (t_MS_puts l g _ T (am25 :: (am24 :: (am23 :: (am22 :: (am21 :: (r44 :: [])))))) pl hO hU (clo_cons (clo_cons (clo_cons (clo_cons (clo_cons (clo_cons clo_nil kr44 (by decide)) km21 (by decide)) km22 (by decide)) km23 (by decide)) km24 (by decide)) km25 (by decide)) b n 0 32 r44 am21 am22 am23 am24 am25 136 ps23 (nI 31) f29 f30 f31 f24 f25 k_b (by omega) (by omega) (by omega) (by omega)) (cwV 3 hts (wg_app (wg_c kw_1719 (wg_c kw_1612 (wg_c kw_1613 (wg_c kw_10 wg_n)))) kw_1614) rfl rfl rfl (by decide +kernel) ⟨by decide, by decide⟩) (pp_V (en_ok g) (q0 := 0) hK hP hD hS hA hE [0, 1, 2, 3, 4, 5] rfl rfl rfl rfl) rfl rfl hl.1 rfl (lv_room (Nat.le_of_ble_eq_true rfl)) dMH_sign_56 ⟨by omega, by omega⟩) (fun  u25 H locs hu27 hP hD hS => ?_)
  obtain ⟨u26, pl⟩ := u25
  obtain ⟨hq27, hO⟩ := hu27
  obtain ⟨ps24, f32, f33, f34⟩ := u26
  have hP : va_P g.1 vcl ([(r44, .inr (9, [.ref am21, .ref am22, .ref am23, .ref am24, .ref am25, .int (nI 136), .int (nI ps24), .int (nI 31)])), (am21, .inl (g.2.1 2, 25, .inr (.inl f32))), (am22, .inl (g.2.1 2, 25, .inr (.inl f33))), (am23, .inl (g.2.1 2, 5, .inr (.inl f34))), (am24, .inl (g.2.1 2, 24, .inr (.inl f24))), (am25, .inl (g.2.1 0, 25, .inl f25))] ++ pl) _ := hP
  have hD : va_D _ ([(r44, .inr (9, [.ref am21, .ref am22, .ref am23, .ref am24, .ref am25, .int (nI 136), .int (nI ps24), .int (nI 31)])), (am21, .inl (g.2.1 2, 25, .inr (.inl f32))), (am22, .inl (g.2.1 2, 25, .inr (.inl f33))), (am23, .inl (g.2.1 2, 5, .inr (.inl f34))), (am24, .inl (g.2.1 2, 24, .inr (.inl f24))), (am25, .inl (g.2.1 0, 25, .inl f25))] ++ pl) := hD
  have hq27 : ps24 ≤ 136 := hq27
  refine W.widen (k := 0) (n := 0) (by omega) (by omega) ?_
  refine lv_aload_n hx hb dMH_sign_59 rfl (lv_at hl 0 rfl) ?_
  refine ty_get (ci := 12) (C := "LatticeKeysModel$Hands") (TT := T_MH) (N := 31) (kd := (46, 0)) hx hb hts (wg_ft i_MH) hown hK hO k_h0 (nxg (clo_cons (clo_cons (clo_cons (clo_cons (clo_cons (clo_cons clo_nil kr44 (by decide)) km21 (by decide)) km22 (by decide)) km23 (by decide)) km24 (by decide)) km25 (by decide)) k_h0 rfl) hP (fun _ h9 => h9) rfl 0 (by decide) (hts _ (wg_t kw_1432)) (fun _ h9 => h9) (cd := (3, 20, 0)) rfl dMH_sign_60 (fun v55 hv55 => ?_)
  obtain ⟨r47, rfl, kr47⟩ := (show ∃ r : Nat, v55 = .ref r ∧ T r = some (20, 0) from hv55)
  obtain rfl : r44 = r47 := hU _ _ _ (by decide) kr44 kr47
  refine lv_aload_n hx hb dMH_sign_63 rfl (lv_at hl 0 rfl) ?_
  refine ty_get (ci := 12) (C := "LatticeKeysModel$Hands") (TT := T_MH) (N := 31) (kd := (46, 0)) hx hb hts (wg_ft i_MH) hown hK hO k_h0 (nxg (clo_cons (clo_cons (clo_cons (clo_cons (clo_cons (clo_cons clo_nil kr44 (by decide)) km21 (by decide)) km22 (by decide)) km23 (by decide)) km24 (by decide)) km25 (by decide)) k_h0 rfl) hP (fun _ h9 => h9) rfl 17 (by decide) (hts _ (wg_t kw_1449)) (fun _ h9 => h9) (cd := (3, 1, 64)) rfl dMH_sign_64 (fun v56 hv56 => ?_)
  obtain ⟨r48, rfl, kr48⟩ := (show ∃ r : Nat, v56 = .ref r ∧ T r = some (1, 64) from hv56)
  refine lv_iconst (v := nI 0) hx hb dMH_sign_67 (by decide) ?_
  refine lv_bipush (v := nI 64) hx hb dMH_sign_68 (by decide) ?_
  refine mp_v (cx := [(r44, .inr (9, [.ref am21, .ref am22, .ref am23, .ref am24, .ref am25, .int (nI 136), .int (nI ps24), .int (nI 31)])), (am21, .inl (g.2.1 2, 25, .inr (.inl f32))), (am22, .inl (g.2.1 2, 25, .inr (.inl f33))), (am23, .inl (g.2.1 2, 5, .inr (.inl f34))), (am24, .inl (g.2.1 2, 24, .inr (.inl f24))), (am25, .inl (g.2.1 0, 25, .inl f25))]) (wr := []) hP hD hS hA [0, 1, 2, 3, 4, 5] [] rfl rfl rfl (by decide) (va_runV (As := [.ref r48, .int (nI 0), .int (nI 64)]) (rest := []) F (t_MS_puts l g _ T (am25 :: (am24 :: (am23 :: (am22 :: (am21 :: (r44 :: [])))))) pl hO hU (clo_cons (clo_cons (clo_cons (clo_cons (clo_cons (clo_cons clo_nil kr44 (by decide)) km21 (by decide)) km22 (by decide)) km23 (by decide)) km24 (by decide)) km25 (by decide)) r48 64 0 64 r44 am21 am22 am23 am24 am25 136 ps24 (nI 31) f32 f33 f34 f24 f25 kr48 (by omega) (by omega) (by omega) (by omega)) (cwV 3 hts (wg_app (wg_c kw_1719 (wg_c kw_1612 (wg_c kw_1613 (wg_c kw_10 wg_n)))) kw_1614) rfl rfl rfl (by decide +kernel) ⟨by decide, by decide⟩) (pp_V (en_ok g) (q0 := 0) hK hP hD hS hA hE [0, 1, 2, 3, 4, 5] rfl rfl rfl rfl) rfl rfl hl.1 rfl (lv_room (Nat.le_of_ble_eq_true rfl)) dMH_sign_70 ⟨by omega, by omega⟩) (fun  u27 H locs hu28 hP hD hS => ?_)
  obtain ⟨u28, pl⟩ := u27
  obtain ⟨hq28, hO⟩ := hu28
  obtain ⟨ps25, f35, f36, f37⟩ := u28
  have hP : va_P g.1 vcl ([(r44, .inr (9, [.ref am21, .ref am22, .ref am23, .ref am24, .ref am25, .int (nI 136), .int (nI ps25), .int (nI 31)])), (am21, .inl (g.2.1 2, 25, .inr (.inl f35))), (am22, .inl (g.2.1 2, 25, .inr (.inl f36))), (am23, .inl (g.2.1 2, 5, .inr (.inl f37))), (am24, .inl (g.2.1 2, 24, .inr (.inl f24))), (am25, .inl (g.2.1 0, 25, .inl f25))] ++ pl) _ := hP
  have hD : va_D _ ([(r44, .inr (9, [.ref am21, .ref am22, .ref am23, .ref am24, .ref am25, .int (nI 136), .int (nI ps25), .int (nI 31)])), (am21, .inl (g.2.1 2, 25, .inr (.inl f35))), (am22, .inl (g.2.1 2, 25, .inr (.inl f36))), (am23, .inl (g.2.1 2, 5, .inr (.inl f37))), (am24, .inl (g.2.1 2, 24, .inr (.inl f24))), (am25, .inl (g.2.1 0, 25, .inl f25))] ++ pl) := hD
  have hq28 : ps25 ≤ 136 := hq28
  refine W.widen (k := 0) (n := 0) (by omega) (by omega) ?_
  refine lv_aload_n hx hb dMH_sign_73 rfl (lv_at hl 0 rfl) ?_
  refine ty_get (ci := 12) (C := "LatticeKeysModel$Hands") (TT := T_MH) (N := 31) (kd := (46, 0)) hx hb hts (wg_ft i_MH) hown hK hO k_h0 (nxg (clo_cons (clo_cons (clo_cons (clo_cons (clo_cons (clo_cons clo_nil kr44 (by decide)) km21 (by decide)) km22 (by decide)) km23 (by decide)) km24 (by decide)) km25 (by decide)) k_h0 rfl) hP (fun _ h9 => h9) rfl 0 (by decide) (hts _ (wg_t kw_1432)) (fun _ h9 => h9) (cd := (3, 20, 0)) rfl dMH_sign_74 (fun v57 hv57 => ?_)
  obtain ⟨r49, rfl, kr49⟩ := (show ∃ r : Nat, v57 = .ref r ∧ T r = some (20, 0) from hv57)
  obtain rfl : r44 = r49 := hU _ _ _ (by decide) kr44 kr49
  refine mp_v (cx := [(r44, .inr (9, [.ref am21, .ref am22, .ref am23, .ref am24, .ref am25, .int (nI 136), .int (nI ps25), .int (nI 31)])), (am21, .inl (g.2.1 2, 25, .inr (.inl f35))), (am22, .inl (g.2.1 2, 25, .inr (.inl f36))), (am23, .inl (g.2.1 2, 5, .inr (.inl f37))), (am24, .inl (g.2.1 2, 24, .inr (.inl f24))), (am25, .inl (g.2.1 0, 25, .inl f25))]) (wr := []) hP hD hS hA [0, 1, 2, 3, 4, 5] [] rfl rfl rfl (by decide) (va_runV (As := []) (rest := []) F (t_MS_end l g _ T (am25 :: (am24 :: (am23 :: (am22 :: (am21 :: (r44 :: [])))))) pl hO hU  r44 am21 am22 am23 am24 am25 136 ps25 (nI 31) f35 f36 f37 f24 f25 (by omega) (by omega)) (cwV 0 hts (wg_app (wg_c kw_1721 (wg_c kw_1634 (wg_c kw_1635 (wg_c kw_10 wg_n)))) kw_1636) rfl rfl rfl (by decide +kernel) ⟨by decide, by decide⟩) (pp_V (en_ok g) (q0 := 0) hK hP hD hS hA hE [0, 1, 2, 3, 4, 5] rfl rfl rfl rfl) rfl rfl hl.1 rfl (lv_room (Nat.le_of_ble_eq_true rfl)) dMH_sign_77 ⟨by omega, by omega⟩) (fun  u29 H locs hu29 hP hD hS => ?_)
  obtain ⟨u30, pl⟩ := u29
  obtain ⟨hq29, hO⟩ := hu29
  obtain ⟨ps26, f38, f39, f40⟩ := u30
  have hP : va_P g.1 vcl ([(r44, .inr (9, [.ref am21, .ref am22, .ref am23, .ref am24, .ref am25, .int (nI 136), .int (nI ps26), .int (nI 31)])), (am21, .inl (g.2.1 2, 25, .inr (.inl f38))), (am22, .inl (g.2.1 2, 25, .inr (.inl f39))), (am23, .inl (g.2.1 2, 5, .inr (.inl f40))), (am24, .inl (g.2.1 2, 24, .inr (.inl f24))), (am25, .inl (g.2.1 0, 25, .inl f25))] ++ pl) _ := hP
  have hD : va_D _ ([(r44, .inr (9, [.ref am21, .ref am22, .ref am23, .ref am24, .ref am25, .int (nI 136), .int (nI ps26), .int (nI 31)])), (am21, .inl (g.2.1 2, 25, .inr (.inl f38))), (am22, .inl (g.2.1 2, 25, .inr (.inl f39))), (am23, .inl (g.2.1 2, 5, .inr (.inl f40))), (am24, .inl (g.2.1 2, 24, .inr (.inl f24))), (am25, .inl (g.2.1 0, 25, .inl f25))] ++ pl) := hD
  have hq29 : ps26 ≤ 136 := hq29
  refine W.widen (k := 0) (n := 0) (by omega) (by omega) ?_
  refine lv_aload_n hx hb dMH_sign_80 rfl (lv_at hl 0 rfl) ?_
  refine ty_get (ci := 12) (C := "LatticeKeysModel$Hands") (TT := T_MH) (N := 31) (kd := (46, 0)) hx hb hts (wg_ft i_MH) hown hK hO k_h0 (nxg (clo_cons (clo_cons (clo_cons (clo_cons (clo_cons (clo_cons clo_nil kr44 (by decide)) km21 (by decide)) km22 (by decide)) km23 (by decide)) km24 (by decide)) km25 (by decide)) k_h0 rfl) hP (fun _ h9 => h9) rfl 0 (by decide) (hts _ (wg_t kw_1432)) (fun _ h9 => h9) (cd := (3, 20, 0)) rfl dMH_sign_81 (fun v58 hv58 => ?_)
  obtain ⟨r50, rfl, kr50⟩ := (show ∃ r : Nat, v58 = .ref r ∧ T r = some (20, 0) from hv58)
  obtain rfl : r44 = r50 := hU _ _ _ (by decide) kr44 kr50
  refine lv_aload_n hx hb dMH_sign_84 rfl (lv_at hl 0 rfl) ?_
  refine ty_get (ci := 12) (C := "LatticeKeysModel$Hands") (TT := T_MH) (N := 31) (kd := (46, 0)) hx hb hts (wg_ft i_MH) hown hK hO k_h0 (nxg (clo_cons (clo_cons (clo_cons (clo_cons (clo_cons (clo_cons clo_nil kr44 (by decide)) km21 (by decide)) km22 (by decide)) km23 (by decide)) km24 (by decide)) km25 (by decide)) k_h0 rfl) hP (fun _ h9 => h9) rfl 18 (by decide) (hts _ (wg_t kw_1450)) (fun _ h9 => h9) (cd := (3, 1, 64)) rfl dMH_sign_85 (fun v59 hv59 => ?_)
  obtain ⟨r51, rfl, kr51⟩ := (show ∃ r : Nat, v59 = .ref r ∧ T r = some (1, 64) from hv59)
  refine lv_iconst (v := nI 0) hx hb dMH_sign_88 (by decide) ?_
  refine lv_bipush (v := nI 64) hx hb dMH_sign_89 (by decide) ?_
  refine mp_v (cx := [(r44, .inr (9, [.ref am21, .ref am22, .ref am23, .ref am24, .ref am25, .int (nI 136), .int (nI ps26), .int (nI 31)])), (am21, .inl (g.2.1 2, 25, .inr (.inl f38))), (am22, .inl (g.2.1 2, 25, .inr (.inl f39))), (am23, .inl (g.2.1 2, 5, .inr (.inl f40))), (am24, .inl (g.2.1 2, 24, .inr (.inl f24))), (am25, .inl (g.2.1 0, 25, .inl f25))]) (wr := []) hP hD hS hA [0, 1, 2, 3, 4, 5] [] rfl rfl rfl (by decide) (va_runV (As := [.ref r51, .int (nI 0), .int (nI 64)]) (rest := []) F (t_MS_take l g _ T (am25 :: (am24 :: (am23 :: (am22 :: (am21 :: (r44 :: [])))))) pl hO hU (clo_cons (clo_cons (clo_cons (clo_cons (clo_cons (clo_cons clo_nil kr44 (by decide)) km21 (by decide)) km22 (by decide)) km23 (by decide)) km24 (by decide)) km25 (by decide)) r51 64 0 64 r44 am21 am22 am23 am24 am25 136 ps26 (nI 31) f38 f39 f40 f24 f25 kr51 (by omega) (by omega) (by omega) (by omega)) (cwV 3 hts (wg_app (wg_c kw_1722 (wg_c kw_1638 (wg_c kw_1639 (wg_c kw_10 wg_n)))) kw_1640) rfl rfl rfl (by decide +kernel) ⟨by decide, by decide⟩) (pp_V (en_ok g) (q0 := 0) hK hP hD hS hA hE [0, 1, 2, 3, 4, 5] rfl rfl rfl rfl) rfl rfl hl.1 rfl (lv_room (Nat.le_of_ble_eq_true rfl)) dMH_sign_91 ⟨by omega, by omega⟩) (fun  u31 H locs hu30 hP hD hS => ?_)
  obtain ⟨u32, pl⟩ := u31
  obtain ⟨hq30, hO⟩ := hu30
  obtain ⟨ps27, f41, f42, f43⟩ := u32
  have hP : va_P g.1 vcl ([(r44, .inr (9, [.ref am21, .ref am22, .ref am23, .ref am24, .ref am25, .int (nI 136), .int (nI ps27), .int (nI 31)])), (am21, .inl (g.2.1 2, 25, .inr (.inl f41))), (am22, .inl (g.2.1 2, 25, .inr (.inl f42))), (am23, .inl (g.2.1 2, 5, .inr (.inl f43))), (am24, .inl (g.2.1 2, 24, .inr (.inl f24))), (am25, .inl (g.2.1 0, 25, .inl f25))] ++ pl) _ := hP
  have hD : va_D _ ([(r44, .inr (9, [.ref am21, .ref am22, .ref am23, .ref am24, .ref am25, .int (nI 136), .int (nI ps27), .int (nI 31)])), (am21, .inl (g.2.1 2, 25, .inr (.inl f41))), (am22, .inl (g.2.1 2, 25, .inr (.inl f42))), (am23, .inl (g.2.1 2, 5, .inr (.inl f43))), (am24, .inl (g.2.1 2, 24, .inr (.inl f24))), (am25, .inl (g.2.1 0, 25, .inl f25))] ++ pl) := hD
  have hq30 : ps27 ≤ 136 := hq30
  refine W.widen (k := 0) (n := 0) (by omega) (by omega) ?_
  refine lv_iconst (v := nI 1) hx hb dMH_sign_94 (by decide) ?_
  refine lv_istore (lv' := [(7, .int (nI 1)), (0, .ref h0), (1, .int (nI 0)), (2, .ref sk), (3, .ref b), (4, .int cl), (5, .int (nI ed)), (6, .ref to)]) hx hb dMH_sign_95 hl (by decide) rfl (fun ls hl => ?_)
  have hO := close1 (e := .inl (g.2.1 0, 25, .inl f25)) hO km25 ⟨_, rfl⟩
  have hO := close1 (e := .inl (g.2.1 2, 24, .inr (.inl f24))) hO km24 ⟨_, rfl⟩
  have hO := close1 (e := .inl (g.2.1 2, 5, .inr (.inl f43))) hO km23 ⟨_, rfl⟩
  have hO := close1 (e := .inl (g.2.1 2, 25, .inr (.inl f42))) hO km22 ⟨_, rfl⟩
  have hO := close1 (e := .inl (g.2.1 2, 25, .inr (.inl f41))) hO km21 ⟨_, rfl⟩
  have hO := close1 (e := .inr (9, [.ref am21, .ref am22, .ref am23, .ref am24, .ref am25, .int (nI 136), .int (nI ps27), .int (nI 31)])) hO kr44 ⟨_, _, _, _, _, _, _, _, rfl, km21, km22, km23, km24, km25, by omega, by omega, by omega⟩
  have hO : okx g T [] ((r44, .inr (9, [.ref am21, .ref am22, .ref am23, .ref am24, .ref am25, .int (nI 136), .int (nI ps27), .int (nI 31)])) :: (am21, .inl (g.2.1 2, 25, .inr (.inl f41))) :: (am22, .inl (g.2.1 2, 25, .inr (.inl f42))) :: (am23, .inl (g.2.1 2, 5, .inr (.inl f43))) :: (am24, .inl (g.2.1 2, 24, .inr (.inl f24))) :: (am25, .inl (g.2.1 0, 25, .inl f25)) :: pl) := hO
  have hP : va_P g.1 vcl ([] ++ ((r44, .inr (9, [.ref am21, .ref am22, .ref am23, .ref am24, .ref am25, .int (nI 136), .int (nI ps27), .int (nI 31)])) :: (am21, .inl (g.2.1 2, 25, .inr (.inl f41))) :: (am22, .inl (g.2.1 2, 25, .inr (.inl f42))) :: (am23, .inl (g.2.1 2, 5, .inr (.inl f43))) :: (am24, .inl (g.2.1 2, 24, .inr (.inl f24))) :: (am25, .inl (g.2.1 0, 25, .inl f25)) :: pl)) _ := hP
  have hD : va_D _ ([] ++ ((r44, .inr (9, [.ref am21, .ref am22, .ref am23, .ref am24, .ref am25, .int (nI 136), .int (nI ps27), .int (nI 31)])) :: (am21, .inl (g.2.1 2, 25, .inr (.inl f41))) :: (am22, .inl (g.2.1 2, 25, .inr (.inl f42))) :: (am23, .inl (g.2.1 2, 5, .inr (.inl f43))) :: (am24, .inl (g.2.1 2, 24, .inr (.inl f24))) :: (am25, .inl (g.2.1 0, 25, .inl f25)) :: pl)) := hD
  generalize ((r44, .inr (9, [.ref am21, .ref am22, .ref am23, .ref am24, .ref am25, .int (nI 136), .int (nI ps27), .int (nI 31)])) :: (am21, .inl (g.2.1 2, 25, .inr (.inl f41))) :: (am22, .inl (g.2.1 2, 25, .inr (.inl f42))) :: (am23, .inl (g.2.1 2, 5, .inr (.inl f43))) :: (am24, .inl (g.2.1 2, 24, .inr (.inl f24))) :: (am25, .inl (g.2.1 0, 25, .inl f25)) :: pl) = pl at hO hP hD
  have lp21 : ∀ (n21 : Nat) (i21 : Nat) (pl : va_W) (ls : Array Slot) (H : Heap) (locs : List Loc), n21 + i21 = 201 → (1 ≤ i21) → lv_has ls 9 [(7, .int (nI i21)), (0, .ref h0), (6, .ref to)] → okx g T [] pl → va_P g.1 vcl ([] ++ pl) H → va_D A ([] ++ pl) → va_S A s.heap H locs → W p l e ({ frames := 5, cells := 0, slots := 0, locals := 124 } : Room) s m args below meth c H locs 0 0 (MQ below (va_Qi (fun (r : Int32) (u : va_W) => (True) ∧ okx g T0 [] u) (po g.1 vcl A (fun (u : va_W) => [] ++ u)) A) args s 0 0 A) (F0 m 97 ls []) := by
    intro n21
    induction n21 with
    | zero =>
      intro i21 pl ls H locs hm21 hi21 hl hO hP hD hS
      refine lv_iload hx hb dMH_sign_97 (lv_at hl 0 rfl) ?_
      refine lv_sipush (v := nI 200) hx hb dMH_sign_99 (by decide) ?_
      refine mi_gt (tgt := 232) hx hb dMH_sign_102 (by decide) (by omega) (by omega) (fun h21 => ?_) (fun h21 => absurd h21 (by omega))
      refine lv_iconst (v := nI 0) hx hb dMH_sign_232 (by decide) ?_
      exact mp_iret hx hb hr hlk hP hD hS pl ⟨trivial, (hback _ hO)⟩ [] rfl rfl rfl (by omega) (by omega) dMH_sign_233
    | succ n21 ih21 =>
      intro i21 pl ls H locs hm21 hi21 hl hO hP hD hS
      refine lv_iload hx hb dMH_sign_97 (lv_at hl 0 rfl) ?_
      refine lv_sipush (v := nI 200) hx hb dMH_sign_99 (by decide) ?_
      refine mi_gt (tgt := 232) hx hb dMH_sign_102 (by decide) (by omega) (by omega) (fun h22 => absurd h22 (by omega)) (fun h22 => ?_)
      refine lv_aload_n hx hb dMH_sign_105 rfl (lv_at hl 1 rfl) ?_
      refine lv_iload hx hb dMH_sign_106 (lv_at hl 0 rfl) ?_
      refine lv_iconst (v := nI 1) hx hb dMH_sign_108 (by decide) ?_
      refine mi_isub hx hb dMH_sign_109 (by omega) ?_
      refine lv_aload_n hx hb dMH_sign_110 rfl (lv_at hl 1 rfl) ?_
      refine ty_get (ci := 12) (C := "LatticeKeysModel$Hands") (TT := T_MH) (N := 31) (kd := (46, 0)) hx hb hts (wg_ft i_MH) hown hK hO k_h0 (nxg clo_nil k_h0 rfl) hP (fun _ h9 => h9) rfl 25 (by decide) (hts _ (wg_t kw_1457)) (fun _ h9 => h9) (cd := (1, 0, 4)) rfl dMH_sign_111 (fun v60 hv60 => ?_)
      obtain rfl := (show v60 = .int (nI 4) from hv60)
      refine mi_imul hx hb dMH_sign_114 ?_
      refine mp_v (cx := []) (wr := []) hP hD hS hA [] [] rfl rfl rfl (by decide) (va_runV (As := [.int (nI ((i21 - 1) * 4))]) (rest := []) F (t_MH_mask_0 l g _ T [] pl hO hU clo_nil clo_nil h0 (nI ((i21 - 1) * 4)) k_h0) (cwV 1 hts (wg_app (wg_c kw_1872 (wg_c kw_1874 (wg_c ks_72 (wg_c kw_13 wg_n)))) kw_1875) rfl rfl rfl (by decide +kernel) ⟨by decide, by decide⟩) (pp_VT (en_ok g) (ci := 12) (kd := (46, 0)) hK hO k_h0 (nxg clo_nil k_h0 rfl) (fun _ h9 => ko1 h9) hP hD hS hA hE [] rfl rfl rfl) rfl rfl hl.1 rfl (lv_room (Nat.le_of_ble_eq_true rfl)) dMH_sign_115 ⟨by omega, by omega⟩) (fun  pl H locs hu31 hP hD hS => ?_)
      obtain ⟨hq31, hO⟩ := hu31
      have hP : va_P g.1 vcl ([] ++ pl) _ := hP
      have hD : va_D _ ([] ++ pl) := hD
      refine W.widen (k := 0) (n := 0) (by omega) (by omega) ?_
      refine lv_iconst (v := nI 0) hx hb dMH_sign_118 (by decide) ?_
      refine lv_istore (lv' := [(8, .int (nI 0)), (7, .int (nI i21)), (0, .ref h0), (6, .ref to)]) hx hb dMH_sign_119 hl (by decide) rfl (fun ls hl => ?_)
      have lp22 : ∀ (n22 : Nat) (i22 : Nat) (pl : va_W) (ls : Array Slot) (H : Heap) (locs : List Loc), n22 + i22 = 4 → lv_has ls 9 [(8, .int (nI i22)), (7, .int (nI i21)), (0, .ref h0), (6, .ref to)] → okx g T [] pl → va_P g.1 vcl ([] ++ pl) H → va_D A ([] ++ pl) → va_S A s.heap H locs → W p l e ({ frames := 5, cells := 0, slots := 0, locals := 124 } : Room) s m args below meth c H locs 0 0 (MQ below (va_Qi (fun (r : Int32) (u : va_W) => (True) ∧ okx g T0 [] u) (po g.1 vcl A (fun (u : va_W) => [] ++ u)) A) args s 0 0 A) (F0 m 121 ls []) := by
        intro n22
        induction n22 with
        | zero =>
          intro i22 pl ls H locs hm22  hl hO hP hD hS
          refine lv_iload hx hb dMH_sign_121 (lv_at hl 0 rfl) ?_
          refine lv_aload_n hx hb dMH_sign_123 rfl (lv_at hl 2 rfl) ?_
          refine ty_get (ci := 12) (C := "LatticeKeysModel$Hands") (TT := T_MH) (N := 31) (kd := (46, 0)) hx hb hts (wg_ft i_MH) hown hK hO k_h0 (nxg clo_nil k_h0 rfl) hP (fun _ h9 => h9) rfl 25 (by decide) (hts _ (wg_t kw_1457)) (fun _ h9 => h9) (cd := (1, 0, 4)) rfl dMH_sign_124 (fun v61 hv61 => ?_)
          obtain rfl := (show v61 = .int (nI 4) from hv61)
          refine mi_ge (tgt := 159) hx hb dMH_sign_127 (by decide) (by omega) (by omega) (fun h23 => ?_) (fun h23 => absurd h23 (by omega))
          refine lv_iconst (v := nI 0) hx hb dMH_sign_159 (by decide) ?_
          refine lv_istore (lv' := [(8, .int (nI 0)), (7, .int (nI i21)), (0, .ref h0), (6, .ref to)]) hx hb dMH_sign_160 hl (by decide) rfl (fun ls hl => ?_)
          have lp23 : ∀ (n23 : Nat) (i23 : Nat) (pl : va_W) (ls : Array Slot) (H : Heap) (locs : List Loc), n23 + i23 = 4 → lv_has ls 9 [(8, .int (nI i23)), (7, .int (nI i21)), (0, .ref h0), (6, .ref to)] → okx g T [] pl → va_P g.1 vcl ([] ++ pl) H → va_D A ([] ++ pl) → va_S A s.heap H locs → W p l e ({ frames := 5, cells := 0, slots := 0, locals := 124 } : Room) s m args below meth c H locs 0 0 (MQ below (va_Qi (fun (r : Int32) (u : va_W) => (True) ∧ okx g T0 [] u) (po g.1 vcl A (fun (u : va_W) => [] ++ u)) A) args s 0 0 A) (F0 m 162 ls []) := by
            intro n23
            induction n23 with
            | zero =>
              intro i23 pl ls H locs hm23  hl hO hP hD hS
              refine lv_iload hx hb dMH_sign_162 (lv_at hl 0 rfl) ?_
              refine lv_aload_n hx hb dMH_sign_164 rfl (lv_at hl 2 rfl) ?_
              refine ty_get (ci := 12) (C := "LatticeKeysModel$Hands") (TT := T_MH) (N := 31) (kd := (46, 0)) hx hb hts (wg_ft i_MH) hown hK hO k_h0 (nxg clo_nil k_h0 rfl) hP (fun _ h9 => h9) rfl 24 (by decide) (hts _ (wg_t kw_1456)) (fun _ h9 => h9) (cd := (1, 0, 4)) rfl dMH_sign_165 (fun v62 hv62 => ?_)
              obtain rfl := (show v62 = .int (nI 4) from hv62)
              refine mi_ge (tgt := 190) hx hb dMH_sign_168 (by decide) (by omega) (by omega) (fun h24 => ?_) (fun h24 => absurd h24 (by omega))
              refine lv_aload_n hx hb dMH_sign_190 rfl (lv_at hl 2 rfl) ?_
              refine lv_iconst (v := nI 0) hx hb dMH_sign_191 (by decide) ?_
              refine lv_aload_n hx hb dMH_sign_192 rfl (lv_at hl 2 rfl) ?_
              refine ty_get (ci := 12) (C := "LatticeKeysModel$Hands") (TT := T_MH) (N := 31) (kd := (46, 0)) hx hb hts (wg_ft i_MH) hown hK hO k_h0 (nxg clo_nil k_h0 rfl) hP (fun _ h9 => h9) rfl 20 (by decide) (hts _ (wg_t kw_1452)) (fun _ h9 => h9) (cd := (3, 1, 64)) rfl dMH_sign_193 (fun v63 hv63 => ?_)
              obtain ⟨r52, rfl, kr52⟩ := (show ∃ r : Nat, v63 = .ref r ∧ T r = some (1, 64) from hv63)
              refine mp_v (cx := []) (wr := []) hP hD hS hA [] [] rfl rfl rfl (by decide) (va_runV (As := [.int (nI 0), .ref r52]) (rest := []) F (t_MH_marked_0 l g _ T [] pl hO hU clo_nil clo_nil h0 r52 (nI 0) k_h0 kr52) (cwV 2 hts (wg_app (wg_c kw_1876 (wg_c kw_1878 (wg_c ks_73 (wg_c kw_13 wg_n)))) kw_1879) rfl rfl rfl (by decide +kernel) ⟨by decide, by decide⟩) (pp_VT (en_ok g) (ci := 12) (kd := (46, 0)) hK hO k_h0 (nxg clo_nil k_h0 rfl) (fun _ h9 => ko1 h9) hP hD hS hA hE [] rfl rfl rfl) rfl rfl hl.1 rfl (lv_room (Nat.le_of_ble_eq_true rfl)) dMH_sign_196 ⟨by omega, by omega⟩) (fun  pl H locs hu32 hP hD hS => ?_)
              obtain ⟨hq32, hO⟩ := hu32
              have hP : va_P g.1 vcl ([] ++ pl) _ := hP
              have hD : va_D _ ([] ++ pl) := hD
              refine W.widen (k := 0) (n := 0) (by omega) (by omega) ?_
              refine lv_aload_n hx hb dMH_sign_199 rfl (lv_at hl 2 rfl) ?_
              refine lv_aload_n hx hb dMH_sign_200 rfl (lv_at hl 2 rfl) ?_
              refine ty_get (ci := 12) (C := "LatticeKeysModel$Hands") (TT := T_MH) (N := 31) (kd := (46, 0)) hx hb hts (wg_ft i_MH) hown hK hO k_h0 (nxg clo_nil k_h0 rfl) hP (fun _ h9 => h9) rfl 20 (by decide) (hts _ (wg_t kw_1452)) (fun _ h9 => h9) (cd := (3, 1, 64)) rfl dMH_sign_201 (fun v64 hv64 => ?_)
              obtain ⟨r53, rfl, kr53⟩ := (show ∃ r : Nat, v64 = .ref r ∧ T r = some (1, 64) from hv64)
              refine mp_v (cx := []) (wr := []) hP hD hS hA [] [] rfl rfl rfl (by decide) (va_runV (As := [.ref r53]) (rest := []) F (t_MH_ball_0 l g _ T [] pl hO hU clo_nil clo_nil h0 r53 k_h0 kr53) (cwV 1 hts (wg_app (wg_c kw_1893 (wg_c kw_1895 (wg_c ks_77 (wg_c kw_13 wg_n)))) kw_1896) rfl rfl rfl (by decide +kernel) ⟨by decide, by decide⟩) (pp_VT (en_ok g) (ci := 12) (kd := (46, 0)) hK hO k_h0 (nxg clo_nil k_h0 rfl) (fun _ h9 => ko1 h9) hP hD hS hA hE [] rfl rfl rfl) rfl rfl hl.1 rfl (lv_room (Nat.le_of_ble_eq_true rfl)) dMH_sign_204 ⟨by omega, by omega⟩) (fun  pl H locs hu33 hP hD hS => ?_)
              obtain ⟨hq33, hO⟩ := hu33
              have hP : va_P g.1 vcl ([] ++ pl) _ := hP
              have hD : va_D _ ([] ++ pl) := hD
              refine W.widen (k := 0) (n := 0) (by omega) (by omega) ?_
              refine lv_aload_n hx hb dMH_sign_207 rfl (lv_at hl 2 rfl) ?_
              refine mp_i (cx := []) (wr := []) hP hD hS hA [] [] rfl rfl rfl (by decide) (va_runV (As := []) (rest := []) F (t_MH_fits_0 l g _ T [] pl hO hU clo_nil h0 k_h0) (cwV 0 hts (wg_app (wg_c kw_1897 (wg_c kw_1899 (wg_c ks_78 (wg_c kw_13 wg_n)))) kw_1900) rfl rfl rfl (by decide +kernel) ⟨by decide, by decide⟩) (pp_VT (en_ok g) (ci := 12) (kd := (46, 0)) hK hO k_h0 (nxg clo_nil k_h0 rfl) (fun _ h9 => ko1 h9) hP hD hS hA hE [] rfl rfl rfl) rfl rfl hl.1 rfl (lv_room (Nat.le_of_ble_eq_true rfl)) dMH_sign_208 ⟨by omega, by omega⟩) (fun r54 pl H locs hu34 hP hD hS => ?_)
              obtain ⟨hq34, hO⟩ := hu34
              have hP : va_P g.1 vcl ([] ++ pl) _ := hP
              have hD : va_D _ ([] ++ pl) := hD
              refine W.widen (k := 0) (n := 0) (by omega) (by omega) ?_
              refine lv_if_ne (tgt := 217) hx hb dMH_sign_211 (by decide) (fun h25 => ?_) (fun h25 => ?_)
              · refine lv_aload_n hx hb dMH_sign_217 rfl (lv_at hl 2 rfl) ?_
                refine lv_aload hx hb dMH_sign_218 (lv_at hl 3 rfl) ?_
                refine mp_v (cx := []) (wr := []) hP hD hS hA [] [] rfl rfl rfl (by decide) (va_runV (As := [.ref to]) (rest := []) F (t_MH_written_0 l g _ T [] pl hO hU clo_nil h0 to k_h0 k_to) (cwV 1 hts (wg_app (wg_c kw_1914 (wg_c kw_1916 (wg_c ks_80 (wg_c kw_13 wg_n)))) kw_1917) rfl rfl rfl (by decide +kernel) ⟨by decide, by decide⟩) (pp_VT (en_ok g) (ci := 12) (kd := (46, 0)) hK hO k_h0 (nxg clo_nil k_h0 rfl) (fun _ h9 => ko1 h9) hP hD hS hA hE [] rfl rfl rfl) rfl rfl hl.1 rfl (lv_room (Nat.le_of_ble_eq_true rfl)) dMH_sign_220 ⟨by omega, by omega⟩) (fun  pl H locs hu35 hP hD hS => ?_)
                obtain ⟨hq35, hO⟩ := hu35
                have hP : va_P g.1 vcl ([] ++ pl) _ := hP
                have hD : va_D _ ([] ++ pl) := hD
                refine W.widen (k := 0) (n := 0) (by omega) (by omega) ?_
                refine lv_iload hx hb dMH_sign_223 (lv_at hl 1 rfl) ?_
                exact mp_iret hx hb hr hlk hP hD hS pl ⟨trivial, (hback _ hO)⟩ [] rfl rfl rfl (by omega) (by omega) dMH_sign_225
              · refine lv_goto (tgt := 226) hx hb dMH_sign_214 (by decide) ?_
                refine mi_iinc (k := 1) (x := i21) (d := 1) (y := i21 + 1) (lv' := [(7, .int (nI (i21 + 1))), (8, .int (nI i23)), (0, .ref h0), (6, .ref to)]) hx hb dMH_sign_226 hl rfl (by decide) rfl (by decide) rfl (fun ls hl => ?_)
                refine lv_goto (tgt := 97) hx hb dMH_sign_229 (by decide) ?_
                exact ih21 (i21 + 1) pl ls H locs (by omega) (by omega) (lv_sub hl [0, 2, 3] rfl) hO hP hD hS
            | succ n23 ih23 =>
              intro i23 pl ls H locs hm23  hl hO hP hD hS
              refine lv_iload hx hb dMH_sign_162 (lv_at hl 0 rfl) ?_
              refine lv_aload_n hx hb dMH_sign_164 rfl (lv_at hl 2 rfl) ?_
              refine ty_get (ci := 12) (C := "LatticeKeysModel$Hands") (TT := T_MH) (N := 31) (kd := (46, 0)) hx hb hts (wg_ft i_MH) hown hK hO k_h0 (nxg clo_nil k_h0 rfl) hP (fun _ h9 => h9) rfl 24 (by decide) (hts _ (wg_t kw_1456)) (fun _ h9 => h9) (cd := (1, 0, 4)) rfl dMH_sign_165 (fun v65 hv65 => ?_)
              obtain rfl := (show v65 = .int (nI 4) from hv65)
              refine mi_ge (tgt := 190) hx hb dMH_sign_168 (by decide) (by omega) (by omega) (fun h26 => absurd h26 (by omega)) (fun h26 => ?_)
              refine lv_aload_n hx hb dMH_sign_171 rfl (lv_at hl 2 rfl) ?_
              refine lv_iload hx hb dMH_sign_172 (lv_at hl 0 rfl) ?_
              refine lv_aload_n hx hb dMH_sign_174 rfl (lv_at hl 2 rfl) ?_
              refine ty_get (ci := 12) (C := "LatticeKeysModel$Hands") (TT := T_MH) (N := 31) (kd := (46, 0)) hx hb hts (wg_ft i_MH) hown hK hO k_h0 (nxg clo_nil k_h0 rfl) hP (fun _ h9 => h9) rfl 10 (by decide) (hts _ (wg_t kw_1442)) (fun _ h9 => h9) (cd := (3, 3, 8)) rfl dMH_sign_175 (fun v66 hv66 => ?_)
              obtain ⟨r55, rfl, kr54⟩ := (show ∃ r : Nat, v66 = .ref r ∧ T r = some (3, 8) from hv66)
              refine lv_iload hx hb dMH_sign_178 (lv_at hl 0 rfl) ?_
              refine ty_aald3 hx hb hK hO kr54 (nxg clo_nil kr54 rfl) hP (by omega) (by decide) dMH_sign_180 (fun r56 kr55 => ?_)
              refine mp_v (cx := []) (wr := []) hP hD hS hA [] [] rfl rfl rfl (by decide) (va_runV (As := [.int (nI i23), .ref r56]) (rest := []) F (t_MH_rowBy_0 l g _ T [] pl hO hU clo_nil h0 r56 i23 k_h0 kr55 (by omega)) (cwV 2 hts (wg_app (wg_c kw_1734 (wg_c kw_1736 (wg_c ks_63 (wg_c kw_13 wg_n)))) kw_1737) rfl rfl rfl (by decide +kernel) ⟨by decide, by decide⟩) (pp_VT (en_ok g) (ci := 12) (kd := (46, 0)) hK hO k_h0 (nxg clo_nil k_h0 rfl) (fun _ h9 => ko1 h9) hP hD hS hA hE [] rfl rfl rfl) rfl rfl hl.1 rfl (lv_room (Nat.le_of_ble_eq_true rfl)) dMH_sign_181 ⟨by omega, by omega⟩) (fun  pl H locs hu36 hP hD hS => ?_)
              obtain ⟨hq36, hO⟩ := hu36
              have hP : va_P g.1 vcl ([] ++ pl) _ := hP
              have hD : va_D _ ([] ++ pl) := hD
              refine W.widen (k := 0) (n := 0) (by omega) (by omega) ?_
              refine mi_iinc (k := 0) (x := i23) (d := 1) (y := i23 + 1) (lv' := [(8, .int (nI (i23 + 1))), (7, .int (nI i21)), (0, .ref h0), (6, .ref to)]) hx hb dMH_sign_184 hl rfl (by decide) rfl (by decide) rfl (fun ls hl => ?_)
              refine lv_goto (tgt := 162) hx hb dMH_sign_187 (by decide) ?_
              exact ih23 (i23 + 1) pl ls H locs (by omega) (lv_sub hl [0, 1, 2, 3] rfl) hO hP hD hS
          exact lp23 4 0 pl ls _ _ (by omega) (lv_sub hl [0, 1, 2, 3] rfl) hO hP hD hS
        | succ n22 ih22 =>
          intro i22 pl ls H locs hm22  hl hO hP hD hS
          refine lv_iload hx hb dMH_sign_121 (lv_at hl 0 rfl) ?_
          refine lv_aload_n hx hb dMH_sign_123 rfl (lv_at hl 2 rfl) ?_
          refine ty_get (ci := 12) (C := "LatticeKeysModel$Hands") (TT := T_MH) (N := 31) (kd := (46, 0)) hx hb hts (wg_ft i_MH) hown hK hO k_h0 (nxg clo_nil k_h0 rfl) hP (fun _ h9 => h9) rfl 25 (by decide) (hts _ (wg_t kw_1457)) (fun _ h9 => h9) (cd := (1, 0, 4)) rfl dMH_sign_124 (fun v67 hv67 => ?_)
          obtain rfl := (show v67 = .int (nI 4) from hv67)
          refine mi_ge (tgt := 159) hx hb dMH_sign_127 (by decide) (by omega) (by omega) (fun h27 => absurd h27 (by omega)) (fun h27 => ?_)
          refine lv_aload_n hx hb dMH_sign_130 rfl (lv_at hl 2 rfl) ?_
          refine ty_get (ci := 12) (C := "LatticeKeysModel$Hands") (TT := T_MH) (N := 31) (kd := (46, 0)) hx hb hts (wg_ft i_MH) hown hK hO k_h0 (nxg clo_nil k_h0 rfl) hP (fun _ h9 => h9) rfl 1 (by decide) (hts _ (wg_t kw_1433)) (fun _ h9 => h9) (cd := (3, 22, 0)) rfl dMH_sign_131 (fun v68 hv68 => ?_)
          obtain ⟨r57, rfl, kr56⟩ := (show ∃ r : Nat, v68 = .ref r ∧ T r = some (22, 0) from hv68)
          refine lv_aload_n hx hb dMH_sign_134 rfl (lv_at hl 2 rfl) ?_
          refine ty_get (ci := 12) (C := "LatticeKeysModel$Hands") (TT := T_MH) (N := 31) (kd := (46, 0)) hx hb hts (wg_ft i_MH) hown hK hO k_h0 (nxg clo_nil k_h0 rfl) hP (fun _ h9 => h9) rfl 7 (by decide) (hts _ (wg_t kw_1439)) (fun _ h9 => h9) (cd := (3, 3, 7)) rfl dMH_sign_135 (fun v69 hv69 => ?_)
          obtain ⟨r58, rfl, kr57⟩ := (show ∃ r : Nat, v69 = .ref r ∧ T r = some (3, 7) from hv69)
          refine lv_iload hx hb dMH_sign_138 (lv_at hl 0 rfl) ?_
          refine ty_aald3 hx hb hK hO kr57 (nxg clo_nil kr57 rfl) hP (by omega) (by decide) dMH_sign_140 (fun r59 kr58 => ?_)
          refine lv_aload_n hx hb dMH_sign_141 rfl (lv_at hl 2 rfl) ?_
          refine ty_get (ci := 12) (C := "LatticeKeysModel$Hands") (TT := T_MH) (N := 31) (kd := (46, 0)) hx hb hts (wg_ft i_MH) hown hK hO k_h0 (nxg clo_nil k_h0 rfl) hP (fun _ h9 => h9) rfl 9 (by decide) (hts _ (wg_t kw_1441)) (fun _ h9 => h9) (cd := (3, 3, 7)) rfl dMH_sign_142 (fun v70 hv70 => ?_)
          obtain ⟨r60, rfl, kr59⟩ := (show ∃ r : Nat, v70 = .ref r ∧ T r = some (3, 7) from hv70)
          refine lv_iload hx hb dMH_sign_145 (lv_at hl 0 rfl) ?_
          refine ty_aald3 hx hb hK hO kr59 (nxg clo_nil kr59 rfl) hP (by omega) (by decide) dMH_sign_147 (fun r61 kr60 => ?_)
          refine lv_iconst (v := nI 1) hx hb dMH_sign_148 (by decide) ?_
          refine lv_iconst (v := nI 0) hx hb dMH_sign_149 (by decide) ?_
          refine mp_v (cx := []) (wr := []) hP hD hS hA [] [] rfl rfl rfl (by decide) (va_runV (As := [.ref r59, .ref r61, .int (nI 1), .int (nI 0)]) (rest := []) F (t_MR_forth_22_0 l g _ T [] pl hO hU clo_nil r57 r59 r61 kr56 kr58 kr60) (cwV 4 hts (wg_app (wg_c kw_1733 (wg_c kw_1673 (wg_c kw_1674 (wg_c kw_12 wg_n)))) kw_1675) rfl rfl rfl (by decide +kernel) ⟨by decide, by decide⟩) (pp_VT (en_ok g) (ci := 10) (kd := (22, 0)) hK hO kr56 (nxg clo_nil kr56 rfl) (fun _ h9 => ko1 h9) hP hD hS hA hE [] rfl rfl rfl) rfl rfl hl.1 rfl (lv_room (Nat.le_of_ble_eq_true rfl)) dMH_sign_150 ⟨by omega, by omega⟩) (fun  pl H locs hu37 hP hD hS => ?_)
          obtain ⟨hq37, hO⟩ := hu37
          have hP : va_P g.1 vcl ([] ++ pl) _ := hP
          have hD : va_D _ ([] ++ pl) := hD
          refine W.widen (k := 0) (n := 0) (by omega) (by omega) ?_
          refine mi_iinc (k := 0) (x := i22) (d := 1) (y := i22 + 1) (lv' := [(8, .int (nI (i22 + 1))), (7, .int (nI i21)), (0, .ref h0), (6, .ref to)]) hx hb dMH_sign_153 hl rfl (by decide) rfl (by decide) rfl (fun ls hl => ?_)
          refine lv_goto (tgt := 121) hx hb dMH_sign_156 (by decide) ?_
          exact ih22 (i22 + 1) pl ls H locs (by omega) (lv_sub hl [0, 1, 2, 3] rfl) hO hP hD hS
      exact lp22 4 0 pl ls _ _ (by omega) (lv_sub hl [0, 1, 2, 3] rfl) hO hP hD hS
  exact lp21 (201 - 1) 1 pl ls _ _ (by omega) (by omega) (lv_sub hl [0, 1, 7] rfl) hO hP hD hS
set_option maxHeartbeats 4000000 in
set_option maxRecDepth 100000 in
theorem t_MH_sign_1 (l : Launch) (g : Gd) (sz : Nat) (T0 : Ty) (pl : va_W) (hO : okx g T0 [] pl) (hU : uni T0) (h0 sk b to n ed : Nat) (cl : Int32) (k_h0 : T0 h0 = some (49, 0)) (k_sk : T0 sk = some (1, 4896)) (k_b : T0 b = some (1, n)) (k_to : T0 to = some (1, 8192)) (h1 : 32 ≤ ed) (h3 : ed ≤ n) (h2 : n < 65536)  : Met l y_MH_sign w_MH_sign ({ frames := 5, cells := 0, slots := 0, locals := 124 } : Room) (va_Pc [.ref h0, .int (nI 1), .ref sk, .ref b, .int cl, .int (nI ed), .ref to] (pr (en g) g.1 vcl sz ([] ++ pl))) (va_Qi (fun (r : Int32) (u : va_W) => (True) ∧ okx g T0 [] u) (po g.1 vcl (va_A ([] ++ pl) sz) (fun (u : va_W) => [] ++ u)) (va_A ([] ++ pl) sz)) 0 0 (va_A ([] ++ pl) sz) := by
  refine mc_entry (cc := c_MH_sign) (maxL := 9) (ret := (some .int)) (by decide) rfl (Nat.le_of_ble_eq_true rfl) ?_
  intro p e s m args below meth c ls F hr hlk hnm hsz hP hD hE hA hl
  obtain ⟨hx, hb, hml, hown, hts⟩ := id F
  have hK := hE.1
  generalize va_A ([] ++ pl) sz = A at hD hE hA ⊢
  have hS : va_S A s.heap s.heap [] := va_S.rf
  have hl : lv_has ls 9 [(0, .ref h0), (1, .int (nI 1)), (2, .ref sk), (3, .ref b), (4, .int cl), (5, .int (nI ed)), (6, .ref to)] := hl
  refine lv_aload_n hx hb dMH_sign_0 rfl (lv_at hl 0 rfl) ?_
  refine lv_iload_n hx hb dMH_sign_1 rfl (lv_at hl 1 rfl) ?_
  obtain ⟨e21, pl, hP, hD, hk21, hO⟩ := open1 hP hD hO k_h0 (nxg clo_nil k_h0 (p := 11) rfl)
  obtain ⟨fs21, rfl, hf21⟩ := hk21
  obtain ⟨v21, vs21, rfl, hv21, hf22⟩ := fall_cons hf21
  obtain ⟨r21, rfl, kr21⟩ := (show ∃ r : Nat, v21 = .ref r ∧ T0 r = some (20, 0) from hv21)
  obtain ⟨v22, vs22, rfl, hv22, hf23⟩ := fall_cons hf22
  obtain ⟨r22, rfl, kr22⟩ := (show ∃ r : Nat, v22 = .ref r ∧ T0 r = some (22, 0) from hv22)
  obtain ⟨v23, vs23, rfl, hv23, hf24⟩ := fall_cons hf23
  obtain ⟨r23, rfl, kr23⟩ := (show ∃ r : Nat, v23 = .ref r ∧ T0 r = some (3, 64) from hv23)
  obtain ⟨v24, vs24, rfl, hv24, hf25⟩ := fall_cons hf24
  obtain ⟨r24, rfl, kr24⟩ := (show ∃ r : Nat, v24 = .ref r ∧ T0 r = some (3, 7) from hv24)
  obtain ⟨v25, vs25, rfl, hv25, hf26⟩ := fall_cons hf25
  obtain ⟨r25, rfl, kr25⟩ := (show ∃ r : Nat, v25 = .ref r ∧ T0 r = some (3, 8) from hv25)
  obtain ⟨v26, vs26, rfl, hv26, hf27⟩ := fall_cons hf26
  obtain ⟨r26, rfl, kr26⟩ := (show ∃ r : Nat, v26 = .ref r ∧ T0 r = some (3, 8) from hv26)
  obtain ⟨v27, vs27, rfl, hv27, hf28⟩ := fall_cons hf27
  obtain ⟨r27, rfl, kr27⟩ := (show ∃ r : Nat, v27 = .ref r ∧ T0 r = some (3, 8) from hv27)
  obtain ⟨v28, vs28, rfl, hv28, hf29⟩ := fall_cons hf28
  obtain ⟨r28, rfl, kr28⟩ := (show ∃ r : Nat, v28 = .ref r ∧ T0 r = some (3, 7) from hv28)
  obtain ⟨v29, vs29, rfl, hv29, hf30⟩ := fall_cons hf29
  obtain ⟨r29, rfl, kr29⟩ := (show ∃ r : Nat, v29 = .ref r ∧ T0 r = some (3, 7) from hv29)
  obtain ⟨v30, vs30, rfl, hv30, hf31⟩ := fall_cons hf30
  obtain ⟨r30, rfl, kr30⟩ := (show ∃ r : Nat, v30 = .ref r ∧ T0 r = some (3, 7) from hv30)
  obtain ⟨v31, vs31, rfl, hv31, hf32⟩ := fall_cons hf31
  obtain ⟨r31, rfl, kr31⟩ := (show ∃ r : Nat, v31 = .ref r ∧ T0 r = some (3, 8) from hv31)
  obtain ⟨v32, vs32, rfl, hv32, hf33⟩ := fall_cons hf32
  obtain ⟨r32, rfl, kr32⟩ := (show ∃ r : Nat, v32 = .ref r ∧ T0 r = some (3, 8) from hv32)
  obtain ⟨v33, vs33, rfl, hv33, hf34⟩ := fall_cons hf33
  obtain ⟨r33, rfl, kr33⟩ := (show ∃ r : Nat, v33 = .ref r ∧ T0 r = some (0, 256) from hv33)
  obtain ⟨v34, vs34, rfl, hv34, hf35⟩ := fall_cons hf34
  obtain ⟨r34, rfl, kr34⟩ := (show ∃ r : Nat, v34 = .ref r ∧ T0 r = some (0, 256) from hv34)
  obtain ⟨v35, vs35, rfl, hv35, hf36⟩ := fall_cons hf35
  obtain ⟨r35, rfl, kr35⟩ := (show ∃ r : Nat, v35 = .ref r ∧ T0 r = some (0, 256) from hv35)
  obtain ⟨v36, vs36, rfl, hv36, hf37⟩ := fall_cons hf36
  obtain ⟨r36, rfl, kr36⟩ := (show ∃ r : Nat, v36 = .ref r ∧ T0 r = some (2, 256) from hv36)
  obtain ⟨v37, vs37, rfl, hv37, hf38⟩ := fall_cons hf37
  obtain ⟨r37, rfl, kr37⟩ := (show ∃ r : Nat, v37 = .ref r ∧ T0 r = some (1, 128) from hv37)
  obtain ⟨v38, vs38, rfl, hv38, hf39⟩ := fall_cons hf38
  obtain ⟨r38, rfl, kr38⟩ := (show ∃ r : Nat, v38 = .ref r ∧ T0 r = some (1, 64) from hv38)
  obtain ⟨v39, vs39, rfl, hv39, hf40⟩ := fall_cons hf39
  obtain ⟨r39, rfl, kr39⟩ := (show ∃ r : Nat, v39 = .ref r ∧ T0 r = some (1, 64) from hv39)
  obtain ⟨v40, vs40, rfl, hv40, hf41⟩ := fall_cons hf40
  obtain ⟨r40, rfl, kr40⟩ := (show ∃ r : Nat, v40 = .ref r ∧ T0 r = some (1, 640) from hv40)
  obtain ⟨v41, vs41, rfl, hv41, hf42⟩ := fall_cons hf41
  obtain ⟨r41, rfl, kr41⟩ := (show ∃ r : Nat, v41 = .ref r ∧ T0 r = some (1, 64) from hv41)
  obtain ⟨v42, vs42, rfl, hv42, hf43⟩ := fall_cons hf42
  obtain ⟨r42, rfl, kr42⟩ := (show ∃ r : Nat, v42 = .ref r ∧ T0 r = some (1, 64) from hv42)
  obtain ⟨v43, vs43, rfl, hv43, hf44⟩ := fall_cons hf43
  obtain ⟨r43, rfl, kr43⟩ := (show ∃ r : Nat, v43 = .ref r ∧ T0 r = some (1, 64) from hv43)
  obtain ⟨v44, vs44, rfl, hv44, hf45⟩ := fall_cons hf44
  obtain ⟨z21, rfl⟩ := (show ∃ z : Int32, v44 = .int z from hv44)
  obtain ⟨v45, vs45, rfl, hv45, hf46⟩ := fall_cons hf45
  obtain ⟨z22, rfl⟩ := (show ∃ z : Int32, v45 = .int z from hv45)
  obtain ⟨v46, vs46, rfl, hv46, hf47⟩ := fall_cons hf46
  obtain ⟨z23, rfl⟩ := (show ∃ z : Int32, v46 = .int z from hv46)
  obtain ⟨v47, vs47, rfl, hv47, hf48⟩ := fall_cons hf47
  obtain ⟨z24, rfl⟩ := (show ∃ z : Int32, v47 = .int z from hv47)
  obtain ⟨v48, vs48, rfl, hv48, hf49⟩ := fall_cons hf48
  obtain ⟨z25, rfl⟩ := (show ∃ z : Int32, v48 = .int z from hv48)
  obtain ⟨v49, vs49, rfl, hv49, hf50⟩ := fall_cons hf49
  obtain ⟨z26, rfl⟩ := (show ∃ z : Int32, v49 = .int z from hv49)
  obtain ⟨v50, vs50, rfl, hv50, hf51⟩ := fall_cons hf50
  obtain ⟨z27, rfl⟩ := (show ∃ z : Int32, v50 = .int z from hv50)
  obtain ⟨v51, vs51, rfl, hv51, hf52⟩ := fall_cons hf51
  obtain ⟨z28, rfl⟩ := (show ∃ z : Int32, v51 = .int z from hv51)
  obtain rfl := fall_nil hf52
  have hP : va_P g.1 vcl ([(h0, .inr (12, [.ref r21, .ref r22, .ref r23, .ref r24, .ref r25, .ref r26, .ref r27, .ref r28, .ref r29, .ref r30, .ref r31, .ref r32, .ref r33, .ref r34, .ref r35, .ref r36, .ref r37, .ref r38, .ref r39, .ref r40, .ref r41, .ref r42, .ref r43, .int z21, .int z22, .int z23, .int z24, .int z25, .int z26, .int z27, .int z28]))] ++ pl) _ := hP
  have hD : va_D _ ([(h0, .inr (12, [.ref r21, .ref r22, .ref r23, .ref r24, .ref r25, .ref r26, .ref r27, .ref r28, .ref r29, .ref r30, .ref r31, .ref r32, .ref r33, .ref r34, .ref r35, .ref r36, .ref r37, .ref r38, .ref r39, .ref r40, .ref r41, .ref r42, .ref r43, .int z21, .int z22, .int z23, .int z24, .int z25, .int z26, .int z27, .int z28]))] ++ pl) := hD
  refine mp_v (cx := [(h0, .inr (12, [.ref r21, .ref r22, .ref r23, .ref r24, .ref r25, .ref r26, .ref r27, .ref r28, .ref r29, .ref r30, .ref r31, .ref r32, .ref r33, .ref r34, .ref r35, .ref r36, .ref r37, .ref r38, .ref r39, .ref r40, .ref r41, .ref r42, .ref r43, .int z21, .int z22, .int z23, .int z24, .int z25, .int z26, .int z27, .int z28]))]) (wr := []) hP hD hS hA [0] [] rfl rfl rfl (by decide) (va_runV (As := [.int (nI 1)]) (rest := []) F (t_MH_as_1 l g _ T0 (h0 :: []) pl hO hU  h0 r21 r22 r23 r24 r25 r26 r27 r28 r29 r30 r31 r32 r33 r34 r35 r36 r37 r38 r39 r40 r41 r42 r43 z21 z22 z23 z24 z25 z26 z27 z28) (cwV 1 hts (wg_app (wg_c kw_1702 (wg_c kw_1704 (wg_c ks_60 (wg_c kw_13 wg_n)))) kw_1705) rfl rfl rfl (by decide +kernel) ⟨by decide, by decide⟩) (pp_V (en_ok g) (q0 := 0) hK hP hD hS hA hE [0] rfl rfl rfl rfl) rfl rfl hl.1 rfl (lv_room (Nat.le_of_ble_eq_true rfl)) dMH_sign_2 ⟨by omega, by omega⟩) (fun  pl H locs hu21 hP hD hS => ?_)
  obtain ⟨hq21, hO⟩ := hu21
  have hP : va_P g.1 vcl ([(h0, .inr (12, [.ref r21, .ref r22, .ref r23, .ref r24, .ref r25, .ref r26, .ref r27, .ref r28, .ref r29, .ref r30, .ref r31, .ref r32, .ref r33, .ref r34, .ref r35, .ref r36, .ref r37, .ref r38, .ref r39, .ref r40, .ref r41, .ref r42, .ref r43, .int (nI 1), .int (nI 6), .int (nI 5), .int (nI 4), .int (nI 524288), .int (nI 261888), .int (nI 196), .int (nI 48)]))] ++ pl) _ := hP
  have hD : va_D _ ([(h0, .inr (12, [.ref r21, .ref r22, .ref r23, .ref r24, .ref r25, .ref r26, .ref r27, .ref r28, .ref r29, .ref r30, .ref r31, .ref r32, .ref r33, .ref r34, .ref r35, .ref r36, .ref r37, .ref r38, .ref r39, .ref r40, .ref r41, .ref r42, .ref r43, .int (nI 1), .int (nI 6), .int (nI 5), .int (nI 4), .int (nI 524288), .int (nI 261888), .int (nI 196), .int (nI 48)]))] ++ pl) := hD
  refine W.widen (k := 0) (n := 0) (by omega) (by omega) ?_
  have hO := hands_in (j := 1) (e := .inr (12, [.ref r21, .ref r22, .ref r23, .ref r24, .ref r25, .ref r26, .ref r27, .ref r28, .ref r29, .ref r30, .ref r31, .ref r32, .ref r33, .ref r34, .ref r35, .ref r36, .ref r37, .ref r38, .ref r39, .ref r40, .ref r41, .ref r42, .ref r43, .int (nI 1), .int (nI 6), .int (nI 5), .int (nI 4), .int (nI 524288), .int (nI 261888), .int (nI 196), .int (nI 48)])) hO k_h0 ⟨_, rfl, ⟨r21, rfl, kr21⟩, ⟨r22, rfl, kr22⟩, ⟨r23, rfl, kr23⟩, ⟨r24, rfl, kr24⟩, ⟨r25, rfl, kr25⟩, ⟨r26, rfl, kr26⟩, ⟨r27, rfl, kr27⟩, ⟨r28, rfl, kr28⟩, ⟨r29, rfl, kr29⟩, ⟨r30, rfl, kr30⟩, ⟨r31, rfl, kr31⟩, ⟨r32, rfl, kr32⟩, ⟨r33, rfl, kr33⟩, ⟨r34, rfl, kr34⟩, ⟨r35, rfl, kr35⟩, ⟨r36, rfl, kr36⟩, ⟨r37, rfl, kr37⟩, ⟨r38, rfl, kr38⟩, ⟨r39, rfl, kr39⟩, ⟨r40, rfl, kr40⟩, ⟨r41, rfl, kr41⟩, ⟨r42, rfl, kr42⟩, ⟨r43, rfl, kr43⟩, rfl, rfl, rfl, rfl, rfl, rfl, rfl, rfl, trivial⟩
  have hP : va_P g.1 vcl ([] ++ ((h0, .inr (12, [.ref r21, .ref r22, .ref r23, .ref r24, .ref r25, .ref r26, .ref r27, .ref r28, .ref r29, .ref r30, .ref r31, .ref r32, .ref r33, .ref r34, .ref r35, .ref r36, .ref r37, .ref r38, .ref r39, .ref r40, .ref r41, .ref r42, .ref r43, .int (nI 1), .int (nI 6), .int (nI 5), .int (nI 4), .int (nI 524288), .int (nI 261888), .int (nI 196), .int (nI 48)])) :: pl)) _ := hP
  have hD : va_D _ ([] ++ ((h0, .inr (12, [.ref r21, .ref r22, .ref r23, .ref r24, .ref r25, .ref r26, .ref r27, .ref r28, .ref r29, .ref r30, .ref r31, .ref r32, .ref r33, .ref r34, .ref r35, .ref r36, .ref r37, .ref r38, .ref r39, .ref r40, .ref r41, .ref r42, .ref r43, .int (nI 1), .int (nI 6), .int (nI 5), .int (nI 4), .int (nI 524288), .int (nI 261888), .int (nI 196), .int (nI 48)])) :: pl)) := hD
  generalize ((h0, .inr (12, [.ref r21, .ref r22, .ref r23, .ref r24, .ref r25, .ref r26, .ref r27, .ref r28, .ref r29, .ref r30, .ref r31, .ref r32, .ref r33, .ref r34, .ref r35, .ref r36, .ref r37, .ref r38, .ref r39, .ref r40, .ref r41, .ref r42, .ref r43, .int (nI 1), .int (nI 6), .int (nI 5), .int (nI 4), .int (nI 524288), .int (nI 261888), .int (nI 196), .int (nI 48)])) :: pl) = pl at hO hP hD
  have hback : ∀ pl, okx g (tyU T0 h0 (46 + 1, 0)) [] pl → okx g T0 [] pl := fun pl h9 => hands_out k_h0 (hands_wk 1 (by decide)) h9
  have hU := uni_U (a := h0) (k := (46 + 1, 0)) hU rfl
  have k_sk := tyU_k (k := (46 + 1, 0)) k_h0 k_sk (by intro h9; cases h9)
  have k_b := tyU_k (k := (46 + 1, 0)) k_h0 k_b (by intro h9; cases h9)
  have k_to := tyU_k (k := (46 + 1, 0)) k_h0 k_to (by intro h9; cases h9)
  have k_h0 : tyU T0 h0 (46 + 1, 0) h0 = some (46 + 1, 0) := tyU_at
  generalize tyU T0 h0 (46 + 1, 0) = T at hO hback hU k_sk k_b k_to k_h0
  refine lv_aload_n hx hb dMH_sign_5 rfl (lv_at hl 0 rfl) ?_
  refine lv_aload_n hx hb dMH_sign_6 rfl (lv_at hl 2 rfl) ?_
  refine mp_v (cx := []) (wr := []) hP hD hS hA [] [] rfl rfl rfl (by decide) (va_runV (As := [.ref sk]) (rest := []) F (t_MH_readHidden_1 l g _ T [] pl hO hU clo_nil h0 sk k_h0 k_sk) (cwV 1 hts (wg_app (wg_c kw_1860 (wg_c kw_1862 (wg_c ks_70 (wg_c kw_13 wg_n)))) kw_1863) rfl rfl rfl (by decide +kernel) ⟨by decide, by decide⟩) (pp_VT (en_ok g) (ci := 12) (kd := (47, 0)) hK hO k_h0 (nxg clo_nil k_h0 rfl) (fun _ h9 => ko1 h9) hP hD hS hA hE [] rfl rfl rfl) rfl rfl hl.1 rfl (lv_room (Nat.le_of_ble_eq_true rfl)) dMH_sign_7 ⟨by omega, by omega⟩) (fun  pl H locs hu22 hP hD hS => ?_)
  obtain ⟨hq22, hO⟩ := hu22
  have hP : va_P g.1 vcl ([] ++ pl) _ := hP
  have hD : va_D _ ([] ++ pl) := hD
  refine W.widen (k := 0) (n := 0) (by omega) (by omega) ?_
  refine lv_aload_n hx hb dMH_sign_10 rfl (lv_at hl 0 rfl) ?_
  refine lv_aload_n hx hb dMH_sign_11 rfl (lv_at hl 2 rfl) ?_
  refine mp_v (cx := []) (wr := []) hP hD hS hA [] [] rfl rfl rfl (by decide) (va_runV (As := [.ref sk]) (rest := []) F (t_MH_expand_1 l g _ T [] pl hO hU clo_nil clo_nil h0 sk 4896 k_h0 k_sk (by omega) (by omega)) (cwV 1 hts (wg_app (wg_c kw_1723 (wg_c kw_1725 (wg_c ks_61 (wg_c kw_13 wg_n)))) kw_1726) rfl rfl rfl (by decide +kernel) ⟨by decide, by decide⟩) (pp_VT (en_ok g) (ci := 12) (kd := (47, 0)) hK hO k_h0 (nxg clo_nil k_h0 rfl) (fun _ h9 => ko1 h9) hP hD hS hA hE [] rfl rfl rfl) rfl rfl hl.1 rfl (lv_room (Nat.le_of_ble_eq_true rfl)) dMH_sign_12 ⟨by omega, by omega⟩) (fun  pl H locs hu23 hP hD hS => ?_)
  obtain ⟨hq23, hO⟩ := hu23
  have hP : va_P g.1 vcl ([] ++ pl) _ := hP
  have hD : va_D _ ([] ++ pl) := hD
  refine W.widen (k := 0) (n := 0) (by omega) (by omega) ?_
  refine lv_aload_n hx hb dMH_sign_15 rfl (lv_at hl 0 rfl) ?_
  refine lv_aload_n hx hb dMH_sign_16 rfl (lv_at hl 2 rfl) ?_
  refine lv_bipush (v := nI 64) hx hb dMH_sign_17 (by decide) ?_
  refine lv_aload_n hx hb dMH_sign_19 rfl (lv_at hl 3 rfl) ?_
  refine lv_bipush (v := nI 32) hx hb dMH_sign_20 (by decide) ?_
  refine lv_iload hx hb dMH_sign_22 (lv_at hl 4 rfl) ?_
  refine lv_iload hx hb dMH_sign_24 (lv_at hl 5 rfl) ?_
  refine mp_v (cx := []) (wr := []) hP hD hS hA [] [] rfl rfl rfl (by decide) (va_runV (As := [.ref sk, .int (nI 64), .ref b, .int (nI 32), .int cl, .int (nI ed)]) (rest := []) F (t_MH_message_1 l g _ T [] pl hO hU clo_nil clo_nil h0 sk b 4896 n 64 32 ed cl k_h0 k_sk k_b (by omega) (by omega) (by omega) (by omega) (by omega)) (cwV 6 hts (wg_app (wg_c kw_1868 (wg_c kw_1870 (wg_c ks_71 (wg_c kw_13 wg_n)))) kw_1871) rfl rfl rfl (by decide +kernel) ⟨by decide, by decide⟩) (pp_VT (en_ok g) (ci := 12) (kd := (47, 0)) hK hO k_h0 (nxg clo_nil k_h0 rfl) (fun _ h9 => ko1 h9) hP hD hS hA hE [] rfl rfl rfl) rfl rfl hl.1 rfl (lv_room (Nat.le_of_ble_eq_true rfl)) dMH_sign_26 ⟨by omega, by omega⟩) (fun  pl H locs hu24 hP hD hS => ?_)
  obtain ⟨hq24, hO⟩ := hu24
  have hP : va_P g.1 vcl ([] ++ pl) _ := hP
  have hD : va_D _ ([] ++ pl) := hD
  refine W.widen (k := 0) (n := 0) (by omega) (by omega) ?_
  refine lv_aload_n hx hb dMH_sign_29 rfl (lv_at hl 0 rfl) ?_
  refine ty_get (ci := 12) (C := "LatticeKeysModel$Hands") (TT := T_MH) (N := 31) (kd := (47, 0)) hx hb hts (wg_ft i_MH) hown hK hO k_h0 (nxg clo_nil k_h0 rfl) hP (fun _ h9 => h9) rfl 0 (by decide) (hts _ (wg_t kw_1432)) (fun _ h9 => h9) (cd := (3, 20, 0)) rfl dMH_sign_30 (fun v52 hv52 => ?_)
  obtain ⟨r44, rfl, kr44⟩ := (show ∃ r : Nat, v52 = .ref r ∧ T r = some (20, 0) from hv52)
  obtain ⟨e22, pl, hP, hD, hk22, hO⟩ := open1 hP hD hO kr44 (nxg clo_nil kr44 rfl)
  obtain ⟨am21, am22, am23, am24, am25, rt21, ps21, x21, rfl, km21, km22, km23, km24, km25, hr21, hr22, hr23⟩ := hk22
  obtain ⟨e23, pl, hP, hD, hk23, hO⟩ := open1 hP hD hO km21 (nmc (knd_ne km21 kr44 (by decide)) (nxg clo_nil km21 rfl))
  obtain ⟨f21, rfl⟩ := hk23
  obtain ⟨e24, pl, hP, hD, hk24, hO⟩ := open1 hP hD hO km22 (nmc (knd_ne km22 km21 (by decide)) (nmc (knd_ne km22 kr44 (by decide)) (nxg clo_nil km22 rfl)))
  obtain ⟨f22, rfl⟩ := hk24
  obtain ⟨e25, pl, hP, hD, hk25, hO⟩ := open1 hP hD hO km23 (nmc (knd_ne km23 km22 (by decide)) (nmc (knd_ne km23 km21 (by decide)) (nmc (knd_ne km23 kr44 (by decide)) (nxg clo_nil km23 rfl))))
  obtain ⟨f23, rfl⟩ := hk25
  obtain ⟨e26, pl, hP, hD, hk26, hO⟩ := open1 hP hD hO km24 (nmc (knd_ne km24 km23 (by decide)) (nmc (knd_ne km24 km22 (by decide)) (nmc (knd_ne km24 km21 (by decide)) (nmc (knd_ne km24 kr44 (by decide)) (nxg clo_nil km24 rfl)))))
  obtain ⟨f24, rfl⟩ := hk26
  obtain ⟨e27, pl, hP, hD, hk27, hO⟩ := open1 hP hD hO km25 (nmc (knd_ne km25 km24 (by decide)) (nmc (knd_ne km25 km23 (by decide)) (nmc (knd_ne km25 km22 (by decide)) (nmc (knd_ne km25 km21 (by decide)) (nmc (knd_ne km25 kr44 (by decide)) (nxg clo_nil km25 rfl))))))
  obtain ⟨f25, rfl⟩ := hk27
  have hP : va_P g.1 vcl ([(r44, .inr (9, [.ref am21, .ref am22, .ref am23, .ref am24, .ref am25, .int (nI rt21), .int (nI ps21), .int x21])), (am21, .inl (g.2.1 2, 25, .inr (.inl f21))), (am22, .inl (g.2.1 2, 25, .inr (.inl f22))), (am23, .inl (g.2.1 2, 5, .inr (.inl f23))), (am24, .inl (g.2.1 2, 24, .inr (.inl f24))), (am25, .inl (g.2.1 0, 25, .inl f25))] ++ pl) _ := hP
  have hD : va_D _ ([(r44, .inr (9, [.ref am21, .ref am22, .ref am23, .ref am24, .ref am25, .int (nI rt21), .int (nI ps21), .int x21])), (am21, .inl (g.2.1 2, 25, .inr (.inl f21))), (am22, .inl (g.2.1 2, 25, .inr (.inl f22))), (am23, .inl (g.2.1 2, 5, .inr (.inl f23))), (am24, .inl (g.2.1 2, 24, .inr (.inl f24))), (am25, .inl (g.2.1 0, 25, .inl f25))] ++ pl) := hD
  refine mp_v (cx := [(r44, .inr (9, [.ref am21, .ref am22, .ref am23, .ref am24, .ref am25, .int (nI rt21), .int (nI ps21), .int x21])), (am21, .inl (g.2.1 2, 25, .inr (.inl f21))), (am22, .inl (g.2.1 2, 25, .inr (.inl f22))), (am23, .inl (g.2.1 2, 5, .inr (.inl f23))), (am24, .inl (g.2.1 2, 24, .inr (.inl f24))), (am25, .inl (g.2.1 0, 25, .inl f25))]) (wr := []) hP hD hS hA [0, 1, 2, 3, 4, 5] [] rfl rfl rfl (by decide) (va_runV (As := []) (rest := []) F (t_MS_shake l g _ T (am25 :: (am24 :: (am23 :: (am22 :: (am21 :: (r44 :: [])))))) pl hO hU  r44 am21 am22 am23 am24 am25 rt21 ps21 x21 f21 f22 f23 f24 f25) (cwV 0 hts (wg_app (wg_c kw_1718 (wg_c kw_1661 (wg_c kw_1662 (wg_c kw_10 wg_n)))) kw_1663) rfl rfl rfl (by decide +kernel) ⟨by decide, by decide⟩) (pp_V (en_ok g) (q0 := 0) hK hP hD hS hA hE [0, 1, 2, 3, 4, 5] rfl rfl rfl rfl) rfl rfl hl.1 rfl (lv_room (Nat.le_of_ble_eq_true rfl)) dMH_sign_33 ⟨by omega, by omega⟩) (fun  u21 H locs hu25 hP hD hS => ?_)
  obtain ⟨u22, pl⟩ := u21
  obtain ⟨hq25, hO⟩ := hu25
  obtain ⟨ps22, f26, f27, f28⟩ := u22
  have hP : va_P g.1 vcl ([(r44, .inr (9, [.ref am21, .ref am22, .ref am23, .ref am24, .ref am25, .int (nI 136), .int (nI ps22), .int (nI 31)])), (am21, .inl (g.2.1 2, 25, .inr (.inl f26))), (am22, .inl (g.2.1 2, 25, .inr (.inl f27))), (am23, .inl (g.2.1 2, 5, .inr (.inl f28))), (am24, .inl (g.2.1 2, 24, .inr (.inl f24))), (am25, .inl (g.2.1 0, 25, .inl f25))] ++ pl) _ := hP
  have hD : va_D _ ([(r44, .inr (9, [.ref am21, .ref am22, .ref am23, .ref am24, .ref am25, .int (nI 136), .int (nI ps22), .int (nI 31)])), (am21, .inl (g.2.1 2, 25, .inr (.inl f26))), (am22, .inl (g.2.1 2, 25, .inr (.inl f27))), (am23, .inl (g.2.1 2, 5, .inr (.inl f28))), (am24, .inl (g.2.1 2, 24, .inr (.inl f24))), (am25, .inl (g.2.1 0, 25, .inl f25))] ++ pl) := hD
  have hq25 : ps22 ≤ 136 := hq25
  refine W.widen (k := 0) (n := 0) (by omega) (by omega) ?_
  refine lv_aload_n hx hb dMH_sign_36 rfl (lv_at hl 0 rfl) ?_
  refine ty_get (ci := 12) (C := "LatticeKeysModel$Hands") (TT := T_MH) (N := 31) (kd := (47, 0)) hx hb hts (wg_ft i_MH) hown hK hO k_h0 (nxg (clo_cons (clo_cons (clo_cons (clo_cons (clo_cons (clo_cons clo_nil kr44 (by decide)) km21 (by decide)) km22 (by decide)) km23 (by decide)) km24 (by decide)) km25 (by decide)) k_h0 rfl) hP (fun _ h9 => h9) rfl 0 (by decide) (hts _ (wg_t kw_1432)) (fun _ h9 => h9) (cd := (3, 20, 0)) rfl dMH_sign_37 (fun v53 hv53 => ?_)
  obtain ⟨r45, rfl, kr45⟩ := (show ∃ r : Nat, v53 = .ref r ∧ T r = some (20, 0) from hv53)
  obtain rfl : r44 = r45 := hU _ _ _ (by decide) kr44 kr45
  refine lv_aload_n hx hb dMH_sign_40 rfl (lv_at hl 2 rfl) ?_
  refine lv_bipush (v := nI 32) hx hb dMH_sign_41 (by decide) ?_
  refine lv_bipush (v := nI 32) hx hb dMH_sign_43 (by decide) ?_
  refine mp_v (cx := [(r44, .inr (9, [.ref am21, .ref am22, .ref am23, .ref am24, .ref am25, .int (nI 136), .int (nI ps22), .int (nI 31)])), (am21, .inl (g.2.1 2, 25, .inr (.inl f26))), (am22, .inl (g.2.1 2, 25, .inr (.inl f27))), (am23, .inl (g.2.1 2, 5, .inr (.inl f28))), (am24, .inl (g.2.1 2, 24, .inr (.inl f24))), (am25, .inl (g.2.1 0, 25, .inl f25))]) (wr := []) hP hD hS hA [0, 1, 2, 3, 4, 5] [] rfl rfl rfl (by decide) (va_runV (As := [.ref sk, .int (nI 32), .int (nI 32)]) (rest := []) F (t_MS_puts l g _ T (am25 :: (am24 :: (am23 :: (am22 :: (am21 :: (r44 :: [])))))) pl hO hU (clo_cons (clo_cons (clo_cons (clo_cons (clo_cons (clo_cons clo_nil kr44 (by decide)) km21 (by decide)) km22 (by decide)) km23 (by decide)) km24 (by decide)) km25 (by decide)) sk 4896 32 32 r44 am21 am22 am23 am24 am25 136 ps22 (nI 31) f26 f27 f28 f24 f25 k_sk (by omega) (by omega) (by omega) (by omega)) (cwV 3 hts (wg_app (wg_c kw_1719 (wg_c kw_1612 (wg_c kw_1613 (wg_c kw_10 wg_n)))) kw_1614) rfl rfl rfl (by decide +kernel) ⟨by decide, by decide⟩) (pp_V (en_ok g) (q0 := 0) hK hP hD hS hA hE [0, 1, 2, 3, 4, 5] rfl rfl rfl rfl) rfl rfl hl.1 rfl (lv_room (Nat.le_of_ble_eq_true rfl)) dMH_sign_45 ⟨by omega, by omega⟩) (fun  u23 H locs hu26 hP hD hS => ?_)
  obtain ⟨u24, pl⟩ := u23
  obtain ⟨hq26, hO⟩ := hu26
  obtain ⟨ps23, f29, f30, f31⟩ := u24
  have hP : va_P g.1 vcl ([(r44, .inr (9, [.ref am21, .ref am22, .ref am23, .ref am24, .ref am25, .int (nI 136), .int (nI ps23), .int (nI 31)])), (am21, .inl (g.2.1 2, 25, .inr (.inl f29))), (am22, .inl (g.2.1 2, 25, .inr (.inl f30))), (am23, .inl (g.2.1 2, 5, .inr (.inl f31))), (am24, .inl (g.2.1 2, 24, .inr (.inl f24))), (am25, .inl (g.2.1 0, 25, .inl f25))] ++ pl) _ := hP
  have hD : va_D _ ([(r44, .inr (9, [.ref am21, .ref am22, .ref am23, .ref am24, .ref am25, .int (nI 136), .int (nI ps23), .int (nI 31)])), (am21, .inl (g.2.1 2, 25, .inr (.inl f29))), (am22, .inl (g.2.1 2, 25, .inr (.inl f30))), (am23, .inl (g.2.1 2, 5, .inr (.inl f31))), (am24, .inl (g.2.1 2, 24, .inr (.inl f24))), (am25, .inl (g.2.1 0, 25, .inl f25))] ++ pl) := hD
  have hq26 : ps23 ≤ 136 := hq26
  refine W.widen (k := 0) (n := 0) (by omega) (by omega) ?_
  refine lv_aload_n hx hb dMH_sign_48 rfl (lv_at hl 0 rfl) ?_
  refine ty_get (ci := 12) (C := "LatticeKeysModel$Hands") (TT := T_MH) (N := 31) (kd := (47, 0)) hx hb hts (wg_ft i_MH) hown hK hO k_h0 (nxg (clo_cons (clo_cons (clo_cons (clo_cons (clo_cons (clo_cons clo_nil kr44 (by decide)) km21 (by decide)) km22 (by decide)) km23 (by decide)) km24 (by decide)) km25 (by decide)) k_h0 rfl) hP (fun _ h9 => h9) rfl 0 (by decide) (hts _ (wg_t kw_1432)) (fun _ h9 => h9) (cd := (3, 20, 0)) rfl dMH_sign_49 (fun v54 hv54 => ?_)
  obtain ⟨r46, rfl, kr46⟩ := (show ∃ r : Nat, v54 = .ref r ∧ T r = some (20, 0) from hv54)
  obtain rfl : r44 = r46 := hU _ _ _ (by decide) kr44 kr46
  refine lv_aload_n hx hb dMH_sign_52 rfl (lv_at hl 3 rfl) ?_
  refine lv_iconst (v := nI 0) hx hb dMH_sign_53 (by decide) ?_
  refine lv_bipush (v := nI 32) hx hb dMH_sign_54 (by decide) ?_
  refine mp_v (cx := [(r44, .inr (9, [.ref am21, .ref am22, .ref am23, .ref am24, .ref am25, .int (nI 136), .int (nI ps23), .int (nI 31)])), (am21, .inl (g.2.1 2, 25, .inr (.inl f29))), (am22, .inl (g.2.1 2, 25, .inr (.inl f30))), (am23, .inl (g.2.1 2, 5, .inr (.inl f31))), (am24, .inl (g.2.1 2, 24, .inr (.inl f24))), (am25, .inl (g.2.1 0, 25, .inl f25))]) (wr := []) hP hD hS hA [0, 1, 2, 3, 4, 5] [] rfl rfl rfl (by decide) (va_runV (As := [.ref b, .int (nI 0), .int (nI 32)]) (rest := []) F (t_MS_puts l g _ T (am25 :: (am24 :: (am23 :: (am22 :: (am21 :: (r44 :: [])))))) pl hO hU (clo_cons (clo_cons (clo_cons (clo_cons (clo_cons (clo_cons clo_nil kr44 (by decide)) km21 (by decide)) km22 (by decide)) km23 (by decide)) km24 (by decide)) km25 (by decide)) b n 0 32 r44 am21 am22 am23 am24 am25 136 ps23 (nI 31) f29 f30 f31 f24 f25 k_b (by omega) (by omega) (by omega) (by omega)) (cwV 3 hts (wg_app (wg_c kw_1719 (wg_c kw_1612 (wg_c kw_1613 (wg_c kw_10 wg_n)))) kw_1614) rfl rfl rfl (by decide +kernel) ⟨by decide, by decide⟩) (pp_V (en_ok g) (q0 := 0) hK hP hD hS hA hE [0, 1, 2, 3, 4, 5] rfl rfl rfl rfl) rfl rfl hl.1 rfl (lv_room (Nat.le_of_ble_eq_true rfl)) dMH_sign_56 ⟨by omega, by omega⟩) (fun  u25 H locs hu27 hP hD hS => ?_)
  obtain ⟨u26, pl⟩ := u25
  obtain ⟨hq27, hO⟩ := hu27
  obtain ⟨ps24, f32, f33, f34⟩ := u26
  have hP : va_P g.1 vcl ([(r44, .inr (9, [.ref am21, .ref am22, .ref am23, .ref am24, .ref am25, .int (nI 136), .int (nI ps24), .int (nI 31)])), (am21, .inl (g.2.1 2, 25, .inr (.inl f32))), (am22, .inl (g.2.1 2, 25, .inr (.inl f33))), (am23, .inl (g.2.1 2, 5, .inr (.inl f34))), (am24, .inl (g.2.1 2, 24, .inr (.inl f24))), (am25, .inl (g.2.1 0, 25, .inl f25))] ++ pl) _ := hP
  have hD : va_D _ ([(r44, .inr (9, [.ref am21, .ref am22, .ref am23, .ref am24, .ref am25, .int (nI 136), .int (nI ps24), .int (nI 31)])), (am21, .inl (g.2.1 2, 25, .inr (.inl f32))), (am22, .inl (g.2.1 2, 25, .inr (.inl f33))), (am23, .inl (g.2.1 2, 5, .inr (.inl f34))), (am24, .inl (g.2.1 2, 24, .inr (.inl f24))), (am25, .inl (g.2.1 0, 25, .inl f25))] ++ pl) := hD
  have hq27 : ps24 ≤ 136 := hq27
  refine W.widen (k := 0) (n := 0) (by omega) (by omega) ?_
  refine lv_aload_n hx hb dMH_sign_59 rfl (lv_at hl 0 rfl) ?_
  refine ty_get (ci := 12) (C := "LatticeKeysModel$Hands") (TT := T_MH) (N := 31) (kd := (47, 0)) hx hb hts (wg_ft i_MH) hown hK hO k_h0 (nxg (clo_cons (clo_cons (clo_cons (clo_cons (clo_cons (clo_cons clo_nil kr44 (by decide)) km21 (by decide)) km22 (by decide)) km23 (by decide)) km24 (by decide)) km25 (by decide)) k_h0 rfl) hP (fun _ h9 => h9) rfl 0 (by decide) (hts _ (wg_t kw_1432)) (fun _ h9 => h9) (cd := (3, 20, 0)) rfl dMH_sign_60 (fun v55 hv55 => ?_)
  obtain ⟨r47, rfl, kr47⟩ := (show ∃ r : Nat, v55 = .ref r ∧ T r = some (20, 0) from hv55)
  obtain rfl : r44 = r47 := hU _ _ _ (by decide) kr44 kr47
  refine lv_aload_n hx hb dMH_sign_63 rfl (lv_at hl 0 rfl) ?_
  refine ty_get (ci := 12) (C := "LatticeKeysModel$Hands") (TT := T_MH) (N := 31) (kd := (47, 0)) hx hb hts (wg_ft i_MH) hown hK hO k_h0 (nxg (clo_cons (clo_cons (clo_cons (clo_cons (clo_cons (clo_cons clo_nil kr44 (by decide)) km21 (by decide)) km22 (by decide)) km23 (by decide)) km24 (by decide)) km25 (by decide)) k_h0 rfl) hP (fun _ h9 => h9) rfl 17 (by decide) (hts _ (wg_t kw_1449)) (fun _ h9 => h9) (cd := (3, 1, 64)) rfl dMH_sign_64 (fun v56 hv56 => ?_)
  obtain ⟨r48, rfl, kr48⟩ := (show ∃ r : Nat, v56 = .ref r ∧ T r = some (1, 64) from hv56)
  refine lv_iconst (v := nI 0) hx hb dMH_sign_67 (by decide) ?_
  refine lv_bipush (v := nI 64) hx hb dMH_sign_68 (by decide) ?_
  refine mp_v (cx := [(r44, .inr (9, [.ref am21, .ref am22, .ref am23, .ref am24, .ref am25, .int (nI 136), .int (nI ps24), .int (nI 31)])), (am21, .inl (g.2.1 2, 25, .inr (.inl f32))), (am22, .inl (g.2.1 2, 25, .inr (.inl f33))), (am23, .inl (g.2.1 2, 5, .inr (.inl f34))), (am24, .inl (g.2.1 2, 24, .inr (.inl f24))), (am25, .inl (g.2.1 0, 25, .inl f25))]) (wr := []) hP hD hS hA [0, 1, 2, 3, 4, 5] [] rfl rfl rfl (by decide) (va_runV (As := [.ref r48, .int (nI 0), .int (nI 64)]) (rest := []) F (t_MS_puts l g _ T (am25 :: (am24 :: (am23 :: (am22 :: (am21 :: (r44 :: [])))))) pl hO hU (clo_cons (clo_cons (clo_cons (clo_cons (clo_cons (clo_cons clo_nil kr44 (by decide)) km21 (by decide)) km22 (by decide)) km23 (by decide)) km24 (by decide)) km25 (by decide)) r48 64 0 64 r44 am21 am22 am23 am24 am25 136 ps24 (nI 31) f32 f33 f34 f24 f25 kr48 (by omega) (by omega) (by omega) (by omega)) (cwV 3 hts (wg_app (wg_c kw_1719 (wg_c kw_1612 (wg_c kw_1613 (wg_c kw_10 wg_n)))) kw_1614) rfl rfl rfl (by decide +kernel) ⟨by decide, by decide⟩) (pp_V (en_ok g) (q0 := 0) hK hP hD hS hA hE [0, 1, 2, 3, 4, 5] rfl rfl rfl rfl) rfl rfl hl.1 rfl (lv_room (Nat.le_of_ble_eq_true rfl)) dMH_sign_70 ⟨by omega, by omega⟩) (fun  u27 H locs hu28 hP hD hS => ?_)
  obtain ⟨u28, pl⟩ := u27
  obtain ⟨hq28, hO⟩ := hu28
  obtain ⟨ps25, f35, f36, f37⟩ := u28
  have hP : va_P g.1 vcl ([(r44, .inr (9, [.ref am21, .ref am22, .ref am23, .ref am24, .ref am25, .int (nI 136), .int (nI ps25), .int (nI 31)])), (am21, .inl (g.2.1 2, 25, .inr (.inl f35))), (am22, .inl (g.2.1 2, 25, .inr (.inl f36))), (am23, .inl (g.2.1 2, 5, .inr (.inl f37))), (am24, .inl (g.2.1 2, 24, .inr (.inl f24))), (am25, .inl (g.2.1 0, 25, .inl f25))] ++ pl) _ := hP
  have hD : va_D _ ([(r44, .inr (9, [.ref am21, .ref am22, .ref am23, .ref am24, .ref am25, .int (nI 136), .int (nI ps25), .int (nI 31)])), (am21, .inl (g.2.1 2, 25, .inr (.inl f35))), (am22, .inl (g.2.1 2, 25, .inr (.inl f36))), (am23, .inl (g.2.1 2, 5, .inr (.inl f37))), (am24, .inl (g.2.1 2, 24, .inr (.inl f24))), (am25, .inl (g.2.1 0, 25, .inl f25))] ++ pl) := hD
  have hq28 : ps25 ≤ 136 := hq28
  refine W.widen (k := 0) (n := 0) (by omega) (by omega) ?_
  refine lv_aload_n hx hb dMH_sign_73 rfl (lv_at hl 0 rfl) ?_
  refine ty_get (ci := 12) (C := "LatticeKeysModel$Hands") (TT := T_MH) (N := 31) (kd := (47, 0)) hx hb hts (wg_ft i_MH) hown hK hO k_h0 (nxg (clo_cons (clo_cons (clo_cons (clo_cons (clo_cons (clo_cons clo_nil kr44 (by decide)) km21 (by decide)) km22 (by decide)) km23 (by decide)) km24 (by decide)) km25 (by decide)) k_h0 rfl) hP (fun _ h9 => h9) rfl 0 (by decide) (hts _ (wg_t kw_1432)) (fun _ h9 => h9) (cd := (3, 20, 0)) rfl dMH_sign_74 (fun v57 hv57 => ?_)
  obtain ⟨r49, rfl, kr49⟩ := (show ∃ r : Nat, v57 = .ref r ∧ T r = some (20, 0) from hv57)
  obtain rfl : r44 = r49 := hU _ _ _ (by decide) kr44 kr49
  refine mp_v (cx := [(r44, .inr (9, [.ref am21, .ref am22, .ref am23, .ref am24, .ref am25, .int (nI 136), .int (nI ps25), .int (nI 31)])), (am21, .inl (g.2.1 2, 25, .inr (.inl f35))), (am22, .inl (g.2.1 2, 25, .inr (.inl f36))), (am23, .inl (g.2.1 2, 5, .inr (.inl f37))), (am24, .inl (g.2.1 2, 24, .inr (.inl f24))), (am25, .inl (g.2.1 0, 25, .inl f25))]) (wr := []) hP hD hS hA [0, 1, 2, 3, 4, 5] [] rfl rfl rfl (by decide) (va_runV (As := []) (rest := []) F (t_MS_end l g _ T (am25 :: (am24 :: (am23 :: (am22 :: (am21 :: (r44 :: [])))))) pl hO hU  r44 am21 am22 am23 am24 am25 136 ps25 (nI 31) f35 f36 f37 f24 f25 (by omega) (by omega)) (cwV 0 hts (wg_app (wg_c kw_1721 (wg_c kw_1634 (wg_c kw_1635 (wg_c kw_10 wg_n)))) kw_1636) rfl rfl rfl (by decide +kernel) ⟨by decide, by decide⟩) (pp_V (en_ok g) (q0 := 0) hK hP hD hS hA hE [0, 1, 2, 3, 4, 5] rfl rfl rfl rfl) rfl rfl hl.1 rfl (lv_room (Nat.le_of_ble_eq_true rfl)) dMH_sign_77 ⟨by omega, by omega⟩) (fun  u29 H locs hu29 hP hD hS => ?_)
  obtain ⟨u30, pl⟩ := u29
  obtain ⟨hq29, hO⟩ := hu29
  obtain ⟨ps26, f38, f39, f40⟩ := u30
  have hP : va_P g.1 vcl ([(r44, .inr (9, [.ref am21, .ref am22, .ref am23, .ref am24, .ref am25, .int (nI 136), .int (nI ps26), .int (nI 31)])), (am21, .inl (g.2.1 2, 25, .inr (.inl f38))), (am22, .inl (g.2.1 2, 25, .inr (.inl f39))), (am23, .inl (g.2.1 2, 5, .inr (.inl f40))), (am24, .inl (g.2.1 2, 24, .inr (.inl f24))), (am25, .inl (g.2.1 0, 25, .inl f25))] ++ pl) _ := hP
  have hD : va_D _ ([(r44, .inr (9, [.ref am21, .ref am22, .ref am23, .ref am24, .ref am25, .int (nI 136), .int (nI ps26), .int (nI 31)])), (am21, .inl (g.2.1 2, 25, .inr (.inl f38))), (am22, .inl (g.2.1 2, 25, .inr (.inl f39))), (am23, .inl (g.2.1 2, 5, .inr (.inl f40))), (am24, .inl (g.2.1 2, 24, .inr (.inl f24))), (am25, .inl (g.2.1 0, 25, .inl f25))] ++ pl) := hD
  have hq29 : ps26 ≤ 136 := hq29
  refine W.widen (k := 0) (n := 0) (by omega) (by omega) ?_
  refine lv_aload_n hx hb dMH_sign_80 rfl (lv_at hl 0 rfl) ?_
  refine ty_get (ci := 12) (C := "LatticeKeysModel$Hands") (TT := T_MH) (N := 31) (kd := (47, 0)) hx hb hts (wg_ft i_MH) hown hK hO k_h0 (nxg (clo_cons (clo_cons (clo_cons (clo_cons (clo_cons (clo_cons clo_nil kr44 (by decide)) km21 (by decide)) km22 (by decide)) km23 (by decide)) km24 (by decide)) km25 (by decide)) k_h0 rfl) hP (fun _ h9 => h9) rfl 0 (by decide) (hts _ (wg_t kw_1432)) (fun _ h9 => h9) (cd := (3, 20, 0)) rfl dMH_sign_81 (fun v58 hv58 => ?_)
  obtain ⟨r50, rfl, kr50⟩ := (show ∃ r : Nat, v58 = .ref r ∧ T r = some (20, 0) from hv58)
  obtain rfl : r44 = r50 := hU _ _ _ (by decide) kr44 kr50
  refine lv_aload_n hx hb dMH_sign_84 rfl (lv_at hl 0 rfl) ?_
  refine ty_get (ci := 12) (C := "LatticeKeysModel$Hands") (TT := T_MH) (N := 31) (kd := (47, 0)) hx hb hts (wg_ft i_MH) hown hK hO k_h0 (nxg (clo_cons (clo_cons (clo_cons (clo_cons (clo_cons (clo_cons clo_nil kr44 (by decide)) km21 (by decide)) km22 (by decide)) km23 (by decide)) km24 (by decide)) km25 (by decide)) k_h0 rfl) hP (fun _ h9 => h9) rfl 18 (by decide) (hts _ (wg_t kw_1450)) (fun _ h9 => h9) (cd := (3, 1, 64)) rfl dMH_sign_85 (fun v59 hv59 => ?_)
  obtain ⟨r51, rfl, kr51⟩ := (show ∃ r : Nat, v59 = .ref r ∧ T r = some (1, 64) from hv59)
  refine lv_iconst (v := nI 0) hx hb dMH_sign_88 (by decide) ?_
  refine lv_bipush (v := nI 64) hx hb dMH_sign_89 (by decide) ?_
  refine mp_v (cx := [(r44, .inr (9, [.ref am21, .ref am22, .ref am23, .ref am24, .ref am25, .int (nI 136), .int (nI ps26), .int (nI 31)])), (am21, .inl (g.2.1 2, 25, .inr (.inl f38))), (am22, .inl (g.2.1 2, 25, .inr (.inl f39))), (am23, .inl (g.2.1 2, 5, .inr (.inl f40))), (am24, .inl (g.2.1 2, 24, .inr (.inl f24))), (am25, .inl (g.2.1 0, 25, .inl f25))]) (wr := []) hP hD hS hA [0, 1, 2, 3, 4, 5] [] rfl rfl rfl (by decide) (va_runV (As := [.ref r51, .int (nI 0), .int (nI 64)]) (rest := []) F (t_MS_take l g _ T (am25 :: (am24 :: (am23 :: (am22 :: (am21 :: (r44 :: [])))))) pl hO hU (clo_cons (clo_cons (clo_cons (clo_cons (clo_cons (clo_cons clo_nil kr44 (by decide)) km21 (by decide)) km22 (by decide)) km23 (by decide)) km24 (by decide)) km25 (by decide)) r51 64 0 64 r44 am21 am22 am23 am24 am25 136 ps26 (nI 31) f38 f39 f40 f24 f25 kr51 (by omega) (by omega) (by omega) (by omega)) (cwV 3 hts (wg_app (wg_c kw_1722 (wg_c kw_1638 (wg_c kw_1639 (wg_c kw_10 wg_n)))) kw_1640) rfl rfl rfl (by decide +kernel) ⟨by decide, by decide⟩) (pp_V (en_ok g) (q0 := 0) hK hP hD hS hA hE [0, 1, 2, 3, 4, 5] rfl rfl rfl rfl) rfl rfl hl.1 rfl (lv_room (Nat.le_of_ble_eq_true rfl)) dMH_sign_91 ⟨by omega, by omega⟩) (fun  u31 H locs hu30 hP hD hS => ?_)
  obtain ⟨u32, pl⟩ := u31
  obtain ⟨hq30, hO⟩ := hu30
  obtain ⟨ps27, f41, f42, f43⟩ := u32
  have hP : va_P g.1 vcl ([(r44, .inr (9, [.ref am21, .ref am22, .ref am23, .ref am24, .ref am25, .int (nI 136), .int (nI ps27), .int (nI 31)])), (am21, .inl (g.2.1 2, 25, .inr (.inl f41))), (am22, .inl (g.2.1 2, 25, .inr (.inl f42))), (am23, .inl (g.2.1 2, 5, .inr (.inl f43))), (am24, .inl (g.2.1 2, 24, .inr (.inl f24))), (am25, .inl (g.2.1 0, 25, .inl f25))] ++ pl) _ := hP
  have hD : va_D _ ([(r44, .inr (9, [.ref am21, .ref am22, .ref am23, .ref am24, .ref am25, .int (nI 136), .int (nI ps27), .int (nI 31)])), (am21, .inl (g.2.1 2, 25, .inr (.inl f41))), (am22, .inl (g.2.1 2, 25, .inr (.inl f42))), (am23, .inl (g.2.1 2, 5, .inr (.inl f43))), (am24, .inl (g.2.1 2, 24, .inr (.inl f24))), (am25, .inl (g.2.1 0, 25, .inl f25))] ++ pl) := hD
  have hq30 : ps27 ≤ 136 := hq30
  refine W.widen (k := 0) (n := 0) (by omega) (by omega) ?_
  refine lv_iconst (v := nI 1) hx hb dMH_sign_94 (by decide) ?_
  refine lv_istore (lv' := [(7, .int (nI 1)), (0, .ref h0), (1, .int (nI 1)), (2, .ref sk), (3, .ref b), (4, .int cl), (5, .int (nI ed)), (6, .ref to)]) hx hb dMH_sign_95 hl (by decide) rfl (fun ls hl => ?_)
  have hO := close1 (e := .inl (g.2.1 0, 25, .inl f25)) hO km25 ⟨_, rfl⟩
  have hO := close1 (e := .inl (g.2.1 2, 24, .inr (.inl f24))) hO km24 ⟨_, rfl⟩
  have hO := close1 (e := .inl (g.2.1 2, 5, .inr (.inl f43))) hO km23 ⟨_, rfl⟩
  have hO := close1 (e := .inl (g.2.1 2, 25, .inr (.inl f42))) hO km22 ⟨_, rfl⟩
  have hO := close1 (e := .inl (g.2.1 2, 25, .inr (.inl f41))) hO km21 ⟨_, rfl⟩
  have hO := close1 (e := .inr (9, [.ref am21, .ref am22, .ref am23, .ref am24, .ref am25, .int (nI 136), .int (nI ps27), .int (nI 31)])) hO kr44 ⟨_, _, _, _, _, _, _, _, rfl, km21, km22, km23, km24, km25, by omega, by omega, by omega⟩
  have hO : okx g T [] ((r44, .inr (9, [.ref am21, .ref am22, .ref am23, .ref am24, .ref am25, .int (nI 136), .int (nI ps27), .int (nI 31)])) :: (am21, .inl (g.2.1 2, 25, .inr (.inl f41))) :: (am22, .inl (g.2.1 2, 25, .inr (.inl f42))) :: (am23, .inl (g.2.1 2, 5, .inr (.inl f43))) :: (am24, .inl (g.2.1 2, 24, .inr (.inl f24))) :: (am25, .inl (g.2.1 0, 25, .inl f25)) :: pl) := hO
  have hP : va_P g.1 vcl ([] ++ ((r44, .inr (9, [.ref am21, .ref am22, .ref am23, .ref am24, .ref am25, .int (nI 136), .int (nI ps27), .int (nI 31)])) :: (am21, .inl (g.2.1 2, 25, .inr (.inl f41))) :: (am22, .inl (g.2.1 2, 25, .inr (.inl f42))) :: (am23, .inl (g.2.1 2, 5, .inr (.inl f43))) :: (am24, .inl (g.2.1 2, 24, .inr (.inl f24))) :: (am25, .inl (g.2.1 0, 25, .inl f25)) :: pl)) _ := hP
  have hD : va_D _ ([] ++ ((r44, .inr (9, [.ref am21, .ref am22, .ref am23, .ref am24, .ref am25, .int (nI 136), .int (nI ps27), .int (nI 31)])) :: (am21, .inl (g.2.1 2, 25, .inr (.inl f41))) :: (am22, .inl (g.2.1 2, 25, .inr (.inl f42))) :: (am23, .inl (g.2.1 2, 5, .inr (.inl f43))) :: (am24, .inl (g.2.1 2, 24, .inr (.inl f24))) :: (am25, .inl (g.2.1 0, 25, .inl f25)) :: pl)) := hD
  generalize ((r44, .inr (9, [.ref am21, .ref am22, .ref am23, .ref am24, .ref am25, .int (nI 136), .int (nI ps27), .int (nI 31)])) :: (am21, .inl (g.2.1 2, 25, .inr (.inl f41))) :: (am22, .inl (g.2.1 2, 25, .inr (.inl f42))) :: (am23, .inl (g.2.1 2, 5, .inr (.inl f43))) :: (am24, .inl (g.2.1 2, 24, .inr (.inl f24))) :: (am25, .inl (g.2.1 0, 25, .inl f25)) :: pl) = pl at hO hP hD
  have lp21 : ∀ (n21 : Nat) (i21 : Nat) (pl : va_W) (ls : Array Slot) (H : Heap) (locs : List Loc), n21 + i21 = 201 → (1 ≤ i21) → lv_has ls 9 [(7, .int (nI i21)), (0, .ref h0), (6, .ref to)] → okx g T [] pl → va_P g.1 vcl ([] ++ pl) H → va_D A ([] ++ pl) → va_S A s.heap H locs → W p l e ({ frames := 5, cells := 0, slots := 0, locals := 124 } : Room) s m args below meth c H locs 0 0 (MQ below (va_Qi (fun (r : Int32) (u : va_W) => (True) ∧ okx g T0 [] u) (po g.1 vcl A (fun (u : va_W) => [] ++ u)) A) args s 0 0 A) (F0 m 97 ls []) := by
    intro n21
    induction n21 with
    | zero =>
      intro i21 pl ls H locs hm21 hi21 hl hO hP hD hS
      refine lv_iload hx hb dMH_sign_97 (lv_at hl 0 rfl) ?_
      refine lv_sipush (v := nI 200) hx hb dMH_sign_99 (by decide) ?_
      refine mi_gt (tgt := 232) hx hb dMH_sign_102 (by decide) (by omega) (by omega) (fun h21 => ?_) (fun h21 => absurd h21 (by omega))
      refine lv_iconst (v := nI 0) hx hb dMH_sign_232 (by decide) ?_
      exact mp_iret hx hb hr hlk hP hD hS pl ⟨trivial, (hback _ hO)⟩ [] rfl rfl rfl (by omega) (by omega) dMH_sign_233
    | succ n21 ih21 =>
      intro i21 pl ls H locs hm21 hi21 hl hO hP hD hS
      refine lv_iload hx hb dMH_sign_97 (lv_at hl 0 rfl) ?_
      refine lv_sipush (v := nI 200) hx hb dMH_sign_99 (by decide) ?_
      refine mi_gt (tgt := 232) hx hb dMH_sign_102 (by decide) (by omega) (by omega) (fun h22 => absurd h22 (by omega)) (fun h22 => ?_)
      refine lv_aload_n hx hb dMH_sign_105 rfl (lv_at hl 1 rfl) ?_
      refine lv_iload hx hb dMH_sign_106 (lv_at hl 0 rfl) ?_
      refine lv_iconst (v := nI 1) hx hb dMH_sign_108 (by decide) ?_
      refine mi_isub hx hb dMH_sign_109 (by omega) ?_
      refine lv_aload_n hx hb dMH_sign_110 rfl (lv_at hl 1 rfl) ?_
      refine ty_get (ci := 12) (C := "LatticeKeysModel$Hands") (TT := T_MH) (N := 31) (kd := (47, 0)) hx hb hts (wg_ft i_MH) hown hK hO k_h0 (nxg clo_nil k_h0 rfl) hP (fun _ h9 => h9) rfl 25 (by decide) (hts _ (wg_t kw_1457)) (fun _ h9 => h9) (cd := (1, 0, 5)) rfl dMH_sign_111 (fun v60 hv60 => ?_)
      obtain rfl := (show v60 = .int (nI 5) from hv60)
      refine mi_imul hx hb dMH_sign_114 ?_
      refine mp_v (cx := []) (wr := []) hP hD hS hA [] [] rfl rfl rfl (by decide) (va_runV (As := [.int (nI ((i21 - 1) * 5))]) (rest := []) F (t_MH_mask_1 l g _ T [] pl hO hU clo_nil clo_nil h0 (nI ((i21 - 1) * 5)) k_h0) (cwV 1 hts (wg_app (wg_c kw_1872 (wg_c kw_1874 (wg_c ks_72 (wg_c kw_13 wg_n)))) kw_1875) rfl rfl rfl (by decide +kernel) ⟨by decide, by decide⟩) (pp_VT (en_ok g) (ci := 12) (kd := (47, 0)) hK hO k_h0 (nxg clo_nil k_h0 rfl) (fun _ h9 => ko1 h9) hP hD hS hA hE [] rfl rfl rfl) rfl rfl hl.1 rfl (lv_room (Nat.le_of_ble_eq_true rfl)) dMH_sign_115 ⟨by omega, by omega⟩) (fun  pl H locs hu31 hP hD hS => ?_)
      obtain ⟨hq31, hO⟩ := hu31
      have hP : va_P g.1 vcl ([] ++ pl) _ := hP
      have hD : va_D _ ([] ++ pl) := hD
      refine W.widen (k := 0) (n := 0) (by omega) (by omega) ?_
      refine lv_iconst (v := nI 0) hx hb dMH_sign_118 (by decide) ?_
      refine lv_istore (lv' := [(8, .int (nI 0)), (7, .int (nI i21)), (0, .ref h0), (6, .ref to)]) hx hb dMH_sign_119 hl (by decide) rfl (fun ls hl => ?_)
      have lp22 : ∀ (n22 : Nat) (i22 : Nat) (pl : va_W) (ls : Array Slot) (H : Heap) (locs : List Loc), n22 + i22 = 5 → lv_has ls 9 [(8, .int (nI i22)), (7, .int (nI i21)), (0, .ref h0), (6, .ref to)] → okx g T [] pl → va_P g.1 vcl ([] ++ pl) H → va_D A ([] ++ pl) → va_S A s.heap H locs → W p l e ({ frames := 5, cells := 0, slots := 0, locals := 124 } : Room) s m args below meth c H locs 0 0 (MQ below (va_Qi (fun (r : Int32) (u : va_W) => (True) ∧ okx g T0 [] u) (po g.1 vcl A (fun (u : va_W) => [] ++ u)) A) args s 0 0 A) (F0 m 121 ls []) := by
        intro n22
        induction n22 with
        | zero =>
          intro i22 pl ls H locs hm22  hl hO hP hD hS
          refine lv_iload hx hb dMH_sign_121 (lv_at hl 0 rfl) ?_
          refine lv_aload_n hx hb dMH_sign_123 rfl (lv_at hl 2 rfl) ?_
          refine ty_get (ci := 12) (C := "LatticeKeysModel$Hands") (TT := T_MH) (N := 31) (kd := (47, 0)) hx hb hts (wg_ft i_MH) hown hK hO k_h0 (nxg clo_nil k_h0 rfl) hP (fun _ h9 => h9) rfl 25 (by decide) (hts _ (wg_t kw_1457)) (fun _ h9 => h9) (cd := (1, 0, 5)) rfl dMH_sign_124 (fun v61 hv61 => ?_)
          obtain rfl := (show v61 = .int (nI 5) from hv61)
          refine mi_ge (tgt := 159) hx hb dMH_sign_127 (by decide) (by omega) (by omega) (fun h23 => ?_) (fun h23 => absurd h23 (by omega))
          refine lv_iconst (v := nI 0) hx hb dMH_sign_159 (by decide) ?_
          refine lv_istore (lv' := [(8, .int (nI 0)), (7, .int (nI i21)), (0, .ref h0), (6, .ref to)]) hx hb dMH_sign_160 hl (by decide) rfl (fun ls hl => ?_)
          have lp23 : ∀ (n23 : Nat) (i23 : Nat) (pl : va_W) (ls : Array Slot) (H : Heap) (locs : List Loc), n23 + i23 = 6 → lv_has ls 9 [(8, .int (nI i23)), (7, .int (nI i21)), (0, .ref h0), (6, .ref to)] → okx g T [] pl → va_P g.1 vcl ([] ++ pl) H → va_D A ([] ++ pl) → va_S A s.heap H locs → W p l e ({ frames := 5, cells := 0, slots := 0, locals := 124 } : Room) s m args below meth c H locs 0 0 (MQ below (va_Qi (fun (r : Int32) (u : va_W) => (True) ∧ okx g T0 [] u) (po g.1 vcl A (fun (u : va_W) => [] ++ u)) A) args s 0 0 A) (F0 m 162 ls []) := by
            intro n23
            induction n23 with
            | zero =>
              intro i23 pl ls H locs hm23  hl hO hP hD hS
              refine lv_iload hx hb dMH_sign_162 (lv_at hl 0 rfl) ?_
              refine lv_aload_n hx hb dMH_sign_164 rfl (lv_at hl 2 rfl) ?_
              refine ty_get (ci := 12) (C := "LatticeKeysModel$Hands") (TT := T_MH) (N := 31) (kd := (47, 0)) hx hb hts (wg_ft i_MH) hown hK hO k_h0 (nxg clo_nil k_h0 rfl) hP (fun _ h9 => h9) rfl 24 (by decide) (hts _ (wg_t kw_1456)) (fun _ h9 => h9) (cd := (1, 0, 6)) rfl dMH_sign_165 (fun v62 hv62 => ?_)
              obtain rfl := (show v62 = .int (nI 6) from hv62)
              refine mi_ge (tgt := 190) hx hb dMH_sign_168 (by decide) (by omega) (by omega) (fun h24 => ?_) (fun h24 => absurd h24 (by omega))
              refine lv_aload_n hx hb dMH_sign_190 rfl (lv_at hl 2 rfl) ?_
              refine lv_iconst (v := nI 0) hx hb dMH_sign_191 (by decide) ?_
              refine lv_aload_n hx hb dMH_sign_192 rfl (lv_at hl 2 rfl) ?_
              refine ty_get (ci := 12) (C := "LatticeKeysModel$Hands") (TT := T_MH) (N := 31) (kd := (47, 0)) hx hb hts (wg_ft i_MH) hown hK hO k_h0 (nxg clo_nil k_h0 rfl) hP (fun _ h9 => h9) rfl 20 (by decide) (hts _ (wg_t kw_1452)) (fun _ h9 => h9) (cd := (3, 1, 64)) rfl dMH_sign_193 (fun v63 hv63 => ?_)
              obtain ⟨r52, rfl, kr52⟩ := (show ∃ r : Nat, v63 = .ref r ∧ T r = some (1, 64) from hv63)
              refine mp_v (cx := []) (wr := []) hP hD hS hA [] [] rfl rfl rfl (by decide) (va_runV (As := [.int (nI 0), .ref r52]) (rest := []) F (t_MH_marked_1 l g _ T [] pl hO hU clo_nil clo_nil h0 r52 (nI 0) k_h0 kr52) (cwV 2 hts (wg_app (wg_c kw_1876 (wg_c kw_1878 (wg_c ks_73 (wg_c kw_13 wg_n)))) kw_1879) rfl rfl rfl (by decide +kernel) ⟨by decide, by decide⟩) (pp_VT (en_ok g) (ci := 12) (kd := (47, 0)) hK hO k_h0 (nxg clo_nil k_h0 rfl) (fun _ h9 => ko1 h9) hP hD hS hA hE [] rfl rfl rfl) rfl rfl hl.1 rfl (lv_room (Nat.le_of_ble_eq_true rfl)) dMH_sign_196 ⟨by omega, by omega⟩) (fun  pl H locs hu32 hP hD hS => ?_)
              obtain ⟨hq32, hO⟩ := hu32
              have hP : va_P g.1 vcl ([] ++ pl) _ := hP
              have hD : va_D _ ([] ++ pl) := hD
              refine W.widen (k := 0) (n := 0) (by omega) (by omega) ?_
              refine lv_aload_n hx hb dMH_sign_199 rfl (lv_at hl 2 rfl) ?_
              refine lv_aload_n hx hb dMH_sign_200 rfl (lv_at hl 2 rfl) ?_
              refine ty_get (ci := 12) (C := "LatticeKeysModel$Hands") (TT := T_MH) (N := 31) (kd := (47, 0)) hx hb hts (wg_ft i_MH) hown hK hO k_h0 (nxg clo_nil k_h0 rfl) hP (fun _ h9 => h9) rfl 20 (by decide) (hts _ (wg_t kw_1452)) (fun _ h9 => h9) (cd := (3, 1, 64)) rfl dMH_sign_201 (fun v64 hv64 => ?_)
              obtain ⟨r53, rfl, kr53⟩ := (show ∃ r : Nat, v64 = .ref r ∧ T r = some (1, 64) from hv64)
              refine mp_v (cx := []) (wr := []) hP hD hS hA [] [] rfl rfl rfl (by decide) (va_runV (As := [.ref r53]) (rest := []) F (t_MH_ball_1 l g _ T [] pl hO hU clo_nil clo_nil h0 r53 k_h0 kr53) (cwV 1 hts (wg_app (wg_c kw_1893 (wg_c kw_1895 (wg_c ks_77 (wg_c kw_13 wg_n)))) kw_1896) rfl rfl rfl (by decide +kernel) ⟨by decide, by decide⟩) (pp_VT (en_ok g) (ci := 12) (kd := (47, 0)) hK hO k_h0 (nxg clo_nil k_h0 rfl) (fun _ h9 => ko1 h9) hP hD hS hA hE [] rfl rfl rfl) rfl rfl hl.1 rfl (lv_room (Nat.le_of_ble_eq_true rfl)) dMH_sign_204 ⟨by omega, by omega⟩) (fun  pl H locs hu33 hP hD hS => ?_)
              obtain ⟨hq33, hO⟩ := hu33
              have hP : va_P g.1 vcl ([] ++ pl) _ := hP
              have hD : va_D _ ([] ++ pl) := hD
              refine W.widen (k := 0) (n := 0) (by omega) (by omega) ?_
              refine lv_aload_n hx hb dMH_sign_207 rfl (lv_at hl 2 rfl) ?_
              refine mp_i (cx := []) (wr := []) hP hD hS hA [] [] rfl rfl rfl (by decide) (va_runV (As := []) (rest := []) F (t_MH_fits_1 l g _ T [] pl hO hU clo_nil h0 k_h0) (cwV 0 hts (wg_app (wg_c kw_1897 (wg_c kw_1899 (wg_c ks_78 (wg_c kw_13 wg_n)))) kw_1900) rfl rfl rfl (by decide +kernel) ⟨by decide, by decide⟩) (pp_VT (en_ok g) (ci := 12) (kd := (47, 0)) hK hO k_h0 (nxg clo_nil k_h0 rfl) (fun _ h9 => ko1 h9) hP hD hS hA hE [] rfl rfl rfl) rfl rfl hl.1 rfl (lv_room (Nat.le_of_ble_eq_true rfl)) dMH_sign_208 ⟨by omega, by omega⟩) (fun r54 pl H locs hu34 hP hD hS => ?_)
              obtain ⟨hq34, hO⟩ := hu34
              have hP : va_P g.1 vcl ([] ++ pl) _ := hP
              have hD : va_D _ ([] ++ pl) := hD
              refine W.widen (k := 0) (n := 0) (by omega) (by omega) ?_
              refine lv_if_ne (tgt := 217) hx hb dMH_sign_211 (by decide) (fun h25 => ?_) (fun h25 => ?_)
              · refine lv_aload_n hx hb dMH_sign_217 rfl (lv_at hl 2 rfl) ?_
                refine lv_aload hx hb dMH_sign_218 (lv_at hl 3 rfl) ?_
                refine mp_v (cx := []) (wr := []) hP hD hS hA [] [] rfl rfl rfl (by decide) (va_runV (As := [.ref to]) (rest := []) F (t_MH_written_1 l g _ T [] pl hO hU clo_nil h0 to k_h0 k_to) (cwV 1 hts (wg_app (wg_c kw_1914 (wg_c kw_1916 (wg_c ks_80 (wg_c kw_13 wg_n)))) kw_1917) rfl rfl rfl (by decide +kernel) ⟨by decide, by decide⟩) (pp_VT (en_ok g) (ci := 12) (kd := (47, 0)) hK hO k_h0 (nxg clo_nil k_h0 rfl) (fun _ h9 => ko1 h9) hP hD hS hA hE [] rfl rfl rfl) rfl rfl hl.1 rfl (lv_room (Nat.le_of_ble_eq_true rfl)) dMH_sign_220 ⟨by omega, by omega⟩) (fun  pl H locs hu35 hP hD hS => ?_)
                obtain ⟨hq35, hO⟩ := hu35
                have hP : va_P g.1 vcl ([] ++ pl) _ := hP
                have hD : va_D _ ([] ++ pl) := hD
                refine W.widen (k := 0) (n := 0) (by omega) (by omega) ?_
                refine lv_iload hx hb dMH_sign_223 (lv_at hl 1 rfl) ?_
                exact mp_iret hx hb hr hlk hP hD hS pl ⟨trivial, (hback _ hO)⟩ [] rfl rfl rfl (by omega) (by omega) dMH_sign_225
              · refine lv_goto (tgt := 226) hx hb dMH_sign_214 (by decide) ?_
                refine mi_iinc (k := 1) (x := i21) (d := 1) (y := i21 + 1) (lv' := [(7, .int (nI (i21 + 1))), (8, .int (nI i23)), (0, .ref h0), (6, .ref to)]) hx hb dMH_sign_226 hl rfl (by decide) rfl (by decide) rfl (fun ls hl => ?_)
                refine lv_goto (tgt := 97) hx hb dMH_sign_229 (by decide) ?_
                exact ih21 (i21 + 1) pl ls H locs (by omega) (by omega) (lv_sub hl [0, 2, 3] rfl) hO hP hD hS
            | succ n23 ih23 =>
              intro i23 pl ls H locs hm23  hl hO hP hD hS
              refine lv_iload hx hb dMH_sign_162 (lv_at hl 0 rfl) ?_
              refine lv_aload_n hx hb dMH_sign_164 rfl (lv_at hl 2 rfl) ?_
              refine ty_get (ci := 12) (C := "LatticeKeysModel$Hands") (TT := T_MH) (N := 31) (kd := (47, 0)) hx hb hts (wg_ft i_MH) hown hK hO k_h0 (nxg clo_nil k_h0 rfl) hP (fun _ h9 => h9) rfl 24 (by decide) (hts _ (wg_t kw_1456)) (fun _ h9 => h9) (cd := (1, 0, 6)) rfl dMH_sign_165 (fun v65 hv65 => ?_)
              obtain rfl := (show v65 = .int (nI 6) from hv65)
              refine mi_ge (tgt := 190) hx hb dMH_sign_168 (by decide) (by omega) (by omega) (fun h26 => absurd h26 (by omega)) (fun h26 => ?_)
              refine lv_aload_n hx hb dMH_sign_171 rfl (lv_at hl 2 rfl) ?_
              refine lv_iload hx hb dMH_sign_172 (lv_at hl 0 rfl) ?_
              refine lv_aload_n hx hb dMH_sign_174 rfl (lv_at hl 2 rfl) ?_
              refine ty_get (ci := 12) (C := "LatticeKeysModel$Hands") (TT := T_MH) (N := 31) (kd := (47, 0)) hx hb hts (wg_ft i_MH) hown hK hO k_h0 (nxg clo_nil k_h0 rfl) hP (fun _ h9 => h9) rfl 10 (by decide) (hts _ (wg_t kw_1442)) (fun _ h9 => h9) (cd := (3, 3, 8)) rfl dMH_sign_175 (fun v66 hv66 => ?_)
              obtain ⟨r55, rfl, kr54⟩ := (show ∃ r : Nat, v66 = .ref r ∧ T r = some (3, 8) from hv66)
              refine lv_iload hx hb dMH_sign_178 (lv_at hl 0 rfl) ?_
              refine ty_aald3 hx hb hK hO kr54 (nxg clo_nil kr54 rfl) hP (by omega) (by decide) dMH_sign_180 (fun r56 kr55 => ?_)
              refine mp_v (cx := []) (wr := []) hP hD hS hA [] [] rfl rfl rfl (by decide) (va_runV (As := [.int (nI i23), .ref r56]) (rest := []) F (t_MH_rowBy_1 l g _ T [] pl hO hU clo_nil h0 r56 i23 k_h0 kr55 (by omega)) (cwV 2 hts (wg_app (wg_c kw_1734 (wg_c kw_1736 (wg_c ks_63 (wg_c kw_13 wg_n)))) kw_1737) rfl rfl rfl (by decide +kernel) ⟨by decide, by decide⟩) (pp_VT (en_ok g) (ci := 12) (kd := (47, 0)) hK hO k_h0 (nxg clo_nil k_h0 rfl) (fun _ h9 => ko1 h9) hP hD hS hA hE [] rfl rfl rfl) rfl rfl hl.1 rfl (lv_room (Nat.le_of_ble_eq_true rfl)) dMH_sign_181 ⟨by omega, by omega⟩) (fun  pl H locs hu36 hP hD hS => ?_)
              obtain ⟨hq36, hO⟩ := hu36
              have hP : va_P g.1 vcl ([] ++ pl) _ := hP
              have hD : va_D _ ([] ++ pl) := hD
              refine W.widen (k := 0) (n := 0) (by omega) (by omega) ?_
              refine mi_iinc (k := 0) (x := i23) (d := 1) (y := i23 + 1) (lv' := [(8, .int (nI (i23 + 1))), (7, .int (nI i21)), (0, .ref h0), (6, .ref to)]) hx hb dMH_sign_184 hl rfl (by decide) rfl (by decide) rfl (fun ls hl => ?_)
              refine lv_goto (tgt := 162) hx hb dMH_sign_187 (by decide) ?_
              exact ih23 (i23 + 1) pl ls H locs (by omega) (lv_sub hl [0, 1, 2, 3] rfl) hO hP hD hS
          exact lp23 6 0 pl ls _ _ (by omega) (lv_sub hl [0, 1, 2, 3] rfl) hO hP hD hS
        | succ n22 ih22 =>
          intro i22 pl ls H locs hm22  hl hO hP hD hS
          refine lv_iload hx hb dMH_sign_121 (lv_at hl 0 rfl) ?_
          refine lv_aload_n hx hb dMH_sign_123 rfl (lv_at hl 2 rfl) ?_
          refine ty_get (ci := 12) (C := "LatticeKeysModel$Hands") (TT := T_MH) (N := 31) (kd := (47, 0)) hx hb hts (wg_ft i_MH) hown hK hO k_h0 (nxg clo_nil k_h0 rfl) hP (fun _ h9 => h9) rfl 25 (by decide) (hts _ (wg_t kw_1457)) (fun _ h9 => h9) (cd := (1, 0, 5)) rfl dMH_sign_124 (fun v67 hv67 => ?_)
          obtain rfl := (show v67 = .int (nI 5) from hv67)
          refine mi_ge (tgt := 159) hx hb dMH_sign_127 (by decide) (by omega) (by omega) (fun h27 => absurd h27 (by omega)) (fun h27 => ?_)
          refine lv_aload_n hx hb dMH_sign_130 rfl (lv_at hl 2 rfl) ?_
          refine ty_get (ci := 12) (C := "LatticeKeysModel$Hands") (TT := T_MH) (N := 31) (kd := (47, 0)) hx hb hts (wg_ft i_MH) hown hK hO k_h0 (nxg clo_nil k_h0 rfl) hP (fun _ h9 => h9) rfl 1 (by decide) (hts _ (wg_t kw_1433)) (fun _ h9 => h9) (cd := (3, 22, 0)) rfl dMH_sign_131 (fun v68 hv68 => ?_)
          obtain ⟨r57, rfl, kr56⟩ := (show ∃ r : Nat, v68 = .ref r ∧ T r = some (22, 0) from hv68)
          refine lv_aload_n hx hb dMH_sign_134 rfl (lv_at hl 2 rfl) ?_
          refine ty_get (ci := 12) (C := "LatticeKeysModel$Hands") (TT := T_MH) (N := 31) (kd := (47, 0)) hx hb hts (wg_ft i_MH) hown hK hO k_h0 (nxg clo_nil k_h0 rfl) hP (fun _ h9 => h9) rfl 7 (by decide) (hts _ (wg_t kw_1439)) (fun _ h9 => h9) (cd := (3, 3, 7)) rfl dMH_sign_135 (fun v69 hv69 => ?_)
          obtain ⟨r58, rfl, kr57⟩ := (show ∃ r : Nat, v69 = .ref r ∧ T r = some (3, 7) from hv69)
          refine lv_iload hx hb dMH_sign_138 (lv_at hl 0 rfl) ?_
          refine ty_aald3 hx hb hK hO kr57 (nxg clo_nil kr57 rfl) hP (by omega) (by decide) dMH_sign_140 (fun r59 kr58 => ?_)
          refine lv_aload_n hx hb dMH_sign_141 rfl (lv_at hl 2 rfl) ?_
          refine ty_get (ci := 12) (C := "LatticeKeysModel$Hands") (TT := T_MH) (N := 31) (kd := (47, 0)) hx hb hts (wg_ft i_MH) hown hK hO k_h0 (nxg clo_nil k_h0 rfl) hP (fun _ h9 => h9) rfl 9 (by decide) (hts _ (wg_t kw_1441)) (fun _ h9 => h9) (cd := (3, 3, 7)) rfl dMH_sign_142 (fun v70 hv70 => ?_)
          obtain ⟨r60, rfl, kr59⟩ := (show ∃ r : Nat, v70 = .ref r ∧ T r = some (3, 7) from hv70)
          refine lv_iload hx hb dMH_sign_145 (lv_at hl 0 rfl) ?_
          refine ty_aald3 hx hb hK hO kr59 (nxg clo_nil kr59 rfl) hP (by omega) (by decide) dMH_sign_147 (fun r61 kr60 => ?_)
          refine lv_iconst (v := nI 1) hx hb dMH_sign_148 (by decide) ?_
          refine lv_iconst (v := nI 0) hx hb dMH_sign_149 (by decide) ?_
          refine mp_v (cx := []) (wr := []) hP hD hS hA [] [] rfl rfl rfl (by decide) (va_runV (As := [.ref r59, .ref r61, .int (nI 1), .int (nI 0)]) (rest := []) F (t_MR_forth_22_0 l g _ T [] pl hO hU clo_nil r57 r59 r61 kr56 kr58 kr60) (cwV 4 hts (wg_app (wg_c kw_1733 (wg_c kw_1673 (wg_c kw_1674 (wg_c kw_12 wg_n)))) kw_1675) rfl rfl rfl (by decide +kernel) ⟨by decide, by decide⟩) (pp_VT (en_ok g) (ci := 10) (kd := (22, 0)) hK hO kr56 (nxg clo_nil kr56 rfl) (fun _ h9 => ko1 h9) hP hD hS hA hE [] rfl rfl rfl) rfl rfl hl.1 rfl (lv_room (Nat.le_of_ble_eq_true rfl)) dMH_sign_150 ⟨by omega, by omega⟩) (fun  pl H locs hu37 hP hD hS => ?_)
          obtain ⟨hq37, hO⟩ := hu37
          have hP : va_P g.1 vcl ([] ++ pl) _ := hP
          have hD : va_D _ ([] ++ pl) := hD
          refine W.widen (k := 0) (n := 0) (by omega) (by omega) ?_
          refine mi_iinc (k := 0) (x := i22) (d := 1) (y := i22 + 1) (lv' := [(8, .int (nI (i22 + 1))), (7, .int (nI i21)), (0, .ref h0), (6, .ref to)]) hx hb dMH_sign_153 hl rfl (by decide) rfl (by decide) rfl (fun ls hl => ?_)
          refine lv_goto (tgt := 121) hx hb dMH_sign_156 (by decide) ?_
          exact ih22 (i22 + 1) pl ls H locs (by omega) (lv_sub hl [0, 1, 2, 3] rfl) hO hP hD hS
      exact lp22 5 0 pl ls _ _ (by omega) (lv_sub hl [0, 1, 2, 3] rfl) hO hP hD hS
  exact lp21 (201 - 1) 1 pl ls _ _ (by omega) (by omega) (lv_sub hl [0, 1, 7] rfl) hO hP hD hS
set_option maxHeartbeats 4000000 in
set_option maxRecDepth 100000 in
theorem t_MH_sign_2 (l : Launch) (g : Gd) (sz : Nat) (T0 : Ty) (pl : va_W) (hO : okx g T0 [] pl) (hU : uni T0) (h0 sk b to n ed : Nat) (cl : Int32) (k_h0 : T0 h0 = some (49, 0)) (k_sk : T0 sk = some (1, 4896)) (k_b : T0 b = some (1, n)) (k_to : T0 to = some (1, 8192)) (h1 : 32 ≤ ed) (h3 : ed ≤ n) (h2 : n < 65536)  : Met l y_MH_sign w_MH_sign ({ frames := 5, cells := 0, slots := 0, locals := 124 } : Room) (va_Pc [.ref h0, .int (nI 2), .ref sk, .ref b, .int cl, .int (nI ed), .ref to] (pr (en g) g.1 vcl sz ([] ++ pl))) (va_Qi (fun (r : Int32) (u : va_W) => (True) ∧ okx g T0 [] u) (po g.1 vcl (va_A ([] ++ pl) sz) (fun (u : va_W) => [] ++ u)) (va_A ([] ++ pl) sz)) 0 0 (va_A ([] ++ pl) sz) := by
  refine mc_entry (cc := c_MH_sign) (maxL := 9) (ret := (some .int)) (by decide) rfl (Nat.le_of_ble_eq_true rfl) ?_
  intro p e s m args below meth c ls F hr hlk hnm hsz hP hD hE hA hl
  obtain ⟨hx, hb, hml, hown, hts⟩ := id F
  have hK := hE.1
  generalize va_A ([] ++ pl) sz = A at hD hE hA ⊢
  have hS : va_S A s.heap s.heap [] := va_S.rf
  have hl : lv_has ls 9 [(0, .ref h0), (1, .int (nI 2)), (2, .ref sk), (3, .ref b), (4, .int cl), (5, .int (nI ed)), (6, .ref to)] := hl
  refine lv_aload_n hx hb dMH_sign_0 rfl (lv_at hl 0 rfl) ?_
  refine lv_iload_n hx hb dMH_sign_1 rfl (lv_at hl 1 rfl) ?_
  obtain ⟨e21, pl, hP, hD, hk21, hO⟩ := open1 hP hD hO k_h0 (nxg clo_nil k_h0 (p := 11) rfl)
  obtain ⟨fs21, rfl, hf21⟩ := hk21
  obtain ⟨v21, vs21, rfl, hv21, hf22⟩ := fall_cons hf21
  obtain ⟨r21, rfl, kr21⟩ := (show ∃ r : Nat, v21 = .ref r ∧ T0 r = some (20, 0) from hv21)
  obtain ⟨v22, vs22, rfl, hv22, hf23⟩ := fall_cons hf22
  obtain ⟨r22, rfl, kr22⟩ := (show ∃ r : Nat, v22 = .ref r ∧ T0 r = some (22, 0) from hv22)
  obtain ⟨v23, vs23, rfl, hv23, hf24⟩ := fall_cons hf23
  obtain ⟨r23, rfl, kr23⟩ := (show ∃ r : Nat, v23 = .ref r ∧ T0 r = some (3, 64) from hv23)
  obtain ⟨v24, vs24, rfl, hv24, hf25⟩ := fall_cons hf24
  obtain ⟨r24, rfl, kr24⟩ := (show ∃ r : Nat, v24 = .ref r ∧ T0 r = some (3, 7) from hv24)
  obtain ⟨v25, vs25, rfl, hv25, hf26⟩ := fall_cons hf25
  obtain ⟨r25, rfl, kr25⟩ := (show ∃ r : Nat, v25 = .ref r ∧ T0 r = some (3, 8) from hv25)
  obtain ⟨v26, vs26, rfl, hv26, hf27⟩ := fall_cons hf26
  obtain ⟨r26, rfl, kr26⟩ := (show ∃ r : Nat, v26 = .ref r ∧ T0 r = some (3, 8) from hv26)
  obtain ⟨v27, vs27, rfl, hv27, hf28⟩ := fall_cons hf27
  obtain ⟨r27, rfl, kr27⟩ := (show ∃ r : Nat, v27 = .ref r ∧ T0 r = some (3, 8) from hv27)
  obtain ⟨v28, vs28, rfl, hv28, hf29⟩ := fall_cons hf28
  obtain ⟨r28, rfl, kr28⟩ := (show ∃ r : Nat, v28 = .ref r ∧ T0 r = some (3, 7) from hv28)
  obtain ⟨v29, vs29, rfl, hv29, hf30⟩ := fall_cons hf29
  obtain ⟨r29, rfl, kr29⟩ := (show ∃ r : Nat, v29 = .ref r ∧ T0 r = some (3, 7) from hv29)
  obtain ⟨v30, vs30, rfl, hv30, hf31⟩ := fall_cons hf30
  obtain ⟨r30, rfl, kr30⟩ := (show ∃ r : Nat, v30 = .ref r ∧ T0 r = some (3, 7) from hv30)
  obtain ⟨v31, vs31, rfl, hv31, hf32⟩ := fall_cons hf31
  obtain ⟨r31, rfl, kr31⟩ := (show ∃ r : Nat, v31 = .ref r ∧ T0 r = some (3, 8) from hv31)
  obtain ⟨v32, vs32, rfl, hv32, hf33⟩ := fall_cons hf32
  obtain ⟨r32, rfl, kr32⟩ := (show ∃ r : Nat, v32 = .ref r ∧ T0 r = some (3, 8) from hv32)
  obtain ⟨v33, vs33, rfl, hv33, hf34⟩ := fall_cons hf33
  obtain ⟨r33, rfl, kr33⟩ := (show ∃ r : Nat, v33 = .ref r ∧ T0 r = some (0, 256) from hv33)
  obtain ⟨v34, vs34, rfl, hv34, hf35⟩ := fall_cons hf34
  obtain ⟨r34, rfl, kr34⟩ := (show ∃ r : Nat, v34 = .ref r ∧ T0 r = some (0, 256) from hv34)
  obtain ⟨v35, vs35, rfl, hv35, hf36⟩ := fall_cons hf35
  obtain ⟨r35, rfl, kr35⟩ := (show ∃ r : Nat, v35 = .ref r ∧ T0 r = some (0, 256) from hv35)
  obtain ⟨v36, vs36, rfl, hv36, hf37⟩ := fall_cons hf36
  obtain ⟨r36, rfl, kr36⟩ := (show ∃ r : Nat, v36 = .ref r ∧ T0 r = some (2, 256) from hv36)
  obtain ⟨v37, vs37, rfl, hv37, hf38⟩ := fall_cons hf37
  obtain ⟨r37, rfl, kr37⟩ := (show ∃ r : Nat, v37 = .ref r ∧ T0 r = some (1, 128) from hv37)
  obtain ⟨v38, vs38, rfl, hv38, hf39⟩ := fall_cons hf38
  obtain ⟨r38, rfl, kr38⟩ := (show ∃ r : Nat, v38 = .ref r ∧ T0 r = some (1, 64) from hv38)
  obtain ⟨v39, vs39, rfl, hv39, hf40⟩ := fall_cons hf39
  obtain ⟨r39, rfl, kr39⟩ := (show ∃ r : Nat, v39 = .ref r ∧ T0 r = some (1, 64) from hv39)
  obtain ⟨v40, vs40, rfl, hv40, hf41⟩ := fall_cons hf40
  obtain ⟨r40, rfl, kr40⟩ := (show ∃ r : Nat, v40 = .ref r ∧ T0 r = some (1, 640) from hv40)
  obtain ⟨v41, vs41, rfl, hv41, hf42⟩ := fall_cons hf41
  obtain ⟨r41, rfl, kr41⟩ := (show ∃ r : Nat, v41 = .ref r ∧ T0 r = some (1, 64) from hv41)
  obtain ⟨v42, vs42, rfl, hv42, hf43⟩ := fall_cons hf42
  obtain ⟨r42, rfl, kr42⟩ := (show ∃ r : Nat, v42 = .ref r ∧ T0 r = some (1, 64) from hv42)
  obtain ⟨v43, vs43, rfl, hv43, hf44⟩ := fall_cons hf43
  obtain ⟨r43, rfl, kr43⟩ := (show ∃ r : Nat, v43 = .ref r ∧ T0 r = some (1, 64) from hv43)
  obtain ⟨v44, vs44, rfl, hv44, hf45⟩ := fall_cons hf44
  obtain ⟨z21, rfl⟩ := (show ∃ z : Int32, v44 = .int z from hv44)
  obtain ⟨v45, vs45, rfl, hv45, hf46⟩ := fall_cons hf45
  obtain ⟨z22, rfl⟩ := (show ∃ z : Int32, v45 = .int z from hv45)
  obtain ⟨v46, vs46, rfl, hv46, hf47⟩ := fall_cons hf46
  obtain ⟨z23, rfl⟩ := (show ∃ z : Int32, v46 = .int z from hv46)
  obtain ⟨v47, vs47, rfl, hv47, hf48⟩ := fall_cons hf47
  obtain ⟨z24, rfl⟩ := (show ∃ z : Int32, v47 = .int z from hv47)
  obtain ⟨v48, vs48, rfl, hv48, hf49⟩ := fall_cons hf48
  obtain ⟨z25, rfl⟩ := (show ∃ z : Int32, v48 = .int z from hv48)
  obtain ⟨v49, vs49, rfl, hv49, hf50⟩ := fall_cons hf49
  obtain ⟨z26, rfl⟩ := (show ∃ z : Int32, v49 = .int z from hv49)
  obtain ⟨v50, vs50, rfl, hv50, hf51⟩ := fall_cons hf50
  obtain ⟨z27, rfl⟩ := (show ∃ z : Int32, v50 = .int z from hv50)
  obtain ⟨v51, vs51, rfl, hv51, hf52⟩ := fall_cons hf51
  obtain ⟨z28, rfl⟩ := (show ∃ z : Int32, v51 = .int z from hv51)
  obtain rfl := fall_nil hf52
  have hP : va_P g.1 vcl ([(h0, .inr (12, [.ref r21, .ref r22, .ref r23, .ref r24, .ref r25, .ref r26, .ref r27, .ref r28, .ref r29, .ref r30, .ref r31, .ref r32, .ref r33, .ref r34, .ref r35, .ref r36, .ref r37, .ref r38, .ref r39, .ref r40, .ref r41, .ref r42, .ref r43, .int z21, .int z22, .int z23, .int z24, .int z25, .int z26, .int z27, .int z28]))] ++ pl) _ := hP
  have hD : va_D _ ([(h0, .inr (12, [.ref r21, .ref r22, .ref r23, .ref r24, .ref r25, .ref r26, .ref r27, .ref r28, .ref r29, .ref r30, .ref r31, .ref r32, .ref r33, .ref r34, .ref r35, .ref r36, .ref r37, .ref r38, .ref r39, .ref r40, .ref r41, .ref r42, .ref r43, .int z21, .int z22, .int z23, .int z24, .int z25, .int z26, .int z27, .int z28]))] ++ pl) := hD
  refine mp_v (cx := [(h0, .inr (12, [.ref r21, .ref r22, .ref r23, .ref r24, .ref r25, .ref r26, .ref r27, .ref r28, .ref r29, .ref r30, .ref r31, .ref r32, .ref r33, .ref r34, .ref r35, .ref r36, .ref r37, .ref r38, .ref r39, .ref r40, .ref r41, .ref r42, .ref r43, .int z21, .int z22, .int z23, .int z24, .int z25, .int z26, .int z27, .int z28]))]) (wr := []) hP hD hS hA [0] [] rfl rfl rfl (by decide) (va_runV (As := [.int (nI 2)]) (rest := []) F (t_MH_as_2 l g _ T0 (h0 :: []) pl hO hU  h0 r21 r22 r23 r24 r25 r26 r27 r28 r29 r30 r31 r32 r33 r34 r35 r36 r37 r38 r39 r40 r41 r42 r43 z21 z22 z23 z24 z25 z26 z27 z28) (cwV 1 hts (wg_app (wg_c kw_1702 (wg_c kw_1704 (wg_c ks_60 (wg_c kw_13 wg_n)))) kw_1705) rfl rfl rfl (by decide +kernel) ⟨by decide, by decide⟩) (pp_V (en_ok g) (q0 := 0) hK hP hD hS hA hE [0] rfl rfl rfl rfl) rfl rfl hl.1 rfl (lv_room (Nat.le_of_ble_eq_true rfl)) dMH_sign_2 ⟨by omega, by omega⟩) (fun  pl H locs hu21 hP hD hS => ?_)
  obtain ⟨hq21, hO⟩ := hu21
  have hP : va_P g.1 vcl ([(h0, .inr (12, [.ref r21, .ref r22, .ref r23, .ref r24, .ref r25, .ref r26, .ref r27, .ref r28, .ref r29, .ref r30, .ref r31, .ref r32, .ref r33, .ref r34, .ref r35, .ref r36, .ref r37, .ref r38, .ref r39, .ref r40, .ref r41, .ref r42, .ref r43, .int (nI 2), .int (nI 8), .int (nI 7), .int (nI 2), .int (nI 524288), .int (nI 261888), .int (nI 120), .int (nI 64)]))] ++ pl) _ := hP
  have hD : va_D _ ([(h0, .inr (12, [.ref r21, .ref r22, .ref r23, .ref r24, .ref r25, .ref r26, .ref r27, .ref r28, .ref r29, .ref r30, .ref r31, .ref r32, .ref r33, .ref r34, .ref r35, .ref r36, .ref r37, .ref r38, .ref r39, .ref r40, .ref r41, .ref r42, .ref r43, .int (nI 2), .int (nI 8), .int (nI 7), .int (nI 2), .int (nI 524288), .int (nI 261888), .int (nI 120), .int (nI 64)]))] ++ pl) := hD
  refine W.widen (k := 0) (n := 0) (by omega) (by omega) ?_
  have hO := hands_in (j := 2) (e := .inr (12, [.ref r21, .ref r22, .ref r23, .ref r24, .ref r25, .ref r26, .ref r27, .ref r28, .ref r29, .ref r30, .ref r31, .ref r32, .ref r33, .ref r34, .ref r35, .ref r36, .ref r37, .ref r38, .ref r39, .ref r40, .ref r41, .ref r42, .ref r43, .int (nI 2), .int (nI 8), .int (nI 7), .int (nI 2), .int (nI 524288), .int (nI 261888), .int (nI 120), .int (nI 64)])) hO k_h0 ⟨_, rfl, ⟨r21, rfl, kr21⟩, ⟨r22, rfl, kr22⟩, ⟨r23, rfl, kr23⟩, ⟨r24, rfl, kr24⟩, ⟨r25, rfl, kr25⟩, ⟨r26, rfl, kr26⟩, ⟨r27, rfl, kr27⟩, ⟨r28, rfl, kr28⟩, ⟨r29, rfl, kr29⟩, ⟨r30, rfl, kr30⟩, ⟨r31, rfl, kr31⟩, ⟨r32, rfl, kr32⟩, ⟨r33, rfl, kr33⟩, ⟨r34, rfl, kr34⟩, ⟨r35, rfl, kr35⟩, ⟨r36, rfl, kr36⟩, ⟨r37, rfl, kr37⟩, ⟨r38, rfl, kr38⟩, ⟨r39, rfl, kr39⟩, ⟨r40, rfl, kr40⟩, ⟨r41, rfl, kr41⟩, ⟨r42, rfl, kr42⟩, ⟨r43, rfl, kr43⟩, rfl, rfl, rfl, rfl, rfl, rfl, rfl, rfl, trivial⟩
  have hP : va_P g.1 vcl ([] ++ ((h0, .inr (12, [.ref r21, .ref r22, .ref r23, .ref r24, .ref r25, .ref r26, .ref r27, .ref r28, .ref r29, .ref r30, .ref r31, .ref r32, .ref r33, .ref r34, .ref r35, .ref r36, .ref r37, .ref r38, .ref r39, .ref r40, .ref r41, .ref r42, .ref r43, .int (nI 2), .int (nI 8), .int (nI 7), .int (nI 2), .int (nI 524288), .int (nI 261888), .int (nI 120), .int (nI 64)])) :: pl)) _ := hP
  have hD : va_D _ ([] ++ ((h0, .inr (12, [.ref r21, .ref r22, .ref r23, .ref r24, .ref r25, .ref r26, .ref r27, .ref r28, .ref r29, .ref r30, .ref r31, .ref r32, .ref r33, .ref r34, .ref r35, .ref r36, .ref r37, .ref r38, .ref r39, .ref r40, .ref r41, .ref r42, .ref r43, .int (nI 2), .int (nI 8), .int (nI 7), .int (nI 2), .int (nI 524288), .int (nI 261888), .int (nI 120), .int (nI 64)])) :: pl)) := hD
  generalize ((h0, .inr (12, [.ref r21, .ref r22, .ref r23, .ref r24, .ref r25, .ref r26, .ref r27, .ref r28, .ref r29, .ref r30, .ref r31, .ref r32, .ref r33, .ref r34, .ref r35, .ref r36, .ref r37, .ref r38, .ref r39, .ref r40, .ref r41, .ref r42, .ref r43, .int (nI 2), .int (nI 8), .int (nI 7), .int (nI 2), .int (nI 524288), .int (nI 261888), .int (nI 120), .int (nI 64)])) :: pl) = pl at hO hP hD
  have hback : ∀ pl, okx g (tyU T0 h0 (46 + 2, 0)) [] pl → okx g T0 [] pl := fun pl h9 => hands_out k_h0 (hands_wk 2 (by decide)) h9
  have hU := uni_U (a := h0) (k := (46 + 2, 0)) hU rfl
  have k_sk := tyU_k (k := (46 + 2, 0)) k_h0 k_sk (by intro h9; cases h9)
  have k_b := tyU_k (k := (46 + 2, 0)) k_h0 k_b (by intro h9; cases h9)
  have k_to := tyU_k (k := (46 + 2, 0)) k_h0 k_to (by intro h9; cases h9)
  have k_h0 : tyU T0 h0 (46 + 2, 0) h0 = some (46 + 2, 0) := tyU_at
  generalize tyU T0 h0 (46 + 2, 0) = T at hO hback hU k_sk k_b k_to k_h0
  refine lv_aload_n hx hb dMH_sign_5 rfl (lv_at hl 0 rfl) ?_
  refine lv_aload_n hx hb dMH_sign_6 rfl (lv_at hl 2 rfl) ?_
  refine mp_v (cx := []) (wr := []) hP hD hS hA [] [] rfl rfl rfl (by decide) (va_runV (As := [.ref sk]) (rest := []) F (t_MH_readHidden_2 l g _ T [] pl hO hU clo_nil h0 sk k_h0 k_sk) (cwV 1 hts (wg_app (wg_c kw_1860 (wg_c kw_1862 (wg_c ks_70 (wg_c kw_13 wg_n)))) kw_1863) rfl rfl rfl (by decide +kernel) ⟨by decide, by decide⟩) (pp_VT (en_ok g) (ci := 12) (kd := (48, 0)) hK hO k_h0 (nxg clo_nil k_h0 rfl) (fun _ h9 => ko1 h9) hP hD hS hA hE [] rfl rfl rfl) rfl rfl hl.1 rfl (lv_room (Nat.le_of_ble_eq_true rfl)) dMH_sign_7 ⟨by omega, by omega⟩) (fun  pl H locs hu22 hP hD hS => ?_)
  obtain ⟨hq22, hO⟩ := hu22
  have hP : va_P g.1 vcl ([] ++ pl) _ := hP
  have hD : va_D _ ([] ++ pl) := hD
  refine W.widen (k := 0) (n := 0) (by omega) (by omega) ?_
  refine lv_aload_n hx hb dMH_sign_10 rfl (lv_at hl 0 rfl) ?_
  refine lv_aload_n hx hb dMH_sign_11 rfl (lv_at hl 2 rfl) ?_
  refine mp_v (cx := []) (wr := []) hP hD hS hA [] [] rfl rfl rfl (by decide) (va_runV (As := [.ref sk]) (rest := []) F (t_MH_expand_2 l g _ T [] pl hO hU clo_nil clo_nil h0 sk 4896 k_h0 k_sk (by omega) (by omega)) (cwV 1 hts (wg_app (wg_c kw_1723 (wg_c kw_1725 (wg_c ks_61 (wg_c kw_13 wg_n)))) kw_1726) rfl rfl rfl (by decide +kernel) ⟨by decide, by decide⟩) (pp_VT (en_ok g) (ci := 12) (kd := (48, 0)) hK hO k_h0 (nxg clo_nil k_h0 rfl) (fun _ h9 => ko1 h9) hP hD hS hA hE [] rfl rfl rfl) rfl rfl hl.1 rfl (lv_room (Nat.le_of_ble_eq_true rfl)) dMH_sign_12 ⟨by omega, by omega⟩) (fun  pl H locs hu23 hP hD hS => ?_)
  obtain ⟨hq23, hO⟩ := hu23
  have hP : va_P g.1 vcl ([] ++ pl) _ := hP
  have hD : va_D _ ([] ++ pl) := hD
  refine W.widen (k := 0) (n := 0) (by omega) (by omega) ?_
  refine lv_aload_n hx hb dMH_sign_15 rfl (lv_at hl 0 rfl) ?_
  refine lv_aload_n hx hb dMH_sign_16 rfl (lv_at hl 2 rfl) ?_
  refine lv_bipush (v := nI 64) hx hb dMH_sign_17 (by decide) ?_
  refine lv_aload_n hx hb dMH_sign_19 rfl (lv_at hl 3 rfl) ?_
  refine lv_bipush (v := nI 32) hx hb dMH_sign_20 (by decide) ?_
  refine lv_iload hx hb dMH_sign_22 (lv_at hl 4 rfl) ?_
  refine lv_iload hx hb dMH_sign_24 (lv_at hl 5 rfl) ?_
  refine mp_v (cx := []) (wr := []) hP hD hS hA [] [] rfl rfl rfl (by decide) (va_runV (As := [.ref sk, .int (nI 64), .ref b, .int (nI 32), .int cl, .int (nI ed)]) (rest := []) F (t_MH_message_2 l g _ T [] pl hO hU clo_nil clo_nil h0 sk b 4896 n 64 32 ed cl k_h0 k_sk k_b (by omega) (by omega) (by omega) (by omega) (by omega)) (cwV 6 hts (wg_app (wg_c kw_1868 (wg_c kw_1870 (wg_c ks_71 (wg_c kw_13 wg_n)))) kw_1871) rfl rfl rfl (by decide +kernel) ⟨by decide, by decide⟩) (pp_VT (en_ok g) (ci := 12) (kd := (48, 0)) hK hO k_h0 (nxg clo_nil k_h0 rfl) (fun _ h9 => ko1 h9) hP hD hS hA hE [] rfl rfl rfl) rfl rfl hl.1 rfl (lv_room (Nat.le_of_ble_eq_true rfl)) dMH_sign_26 ⟨by omega, by omega⟩) (fun  pl H locs hu24 hP hD hS => ?_)
  obtain ⟨hq24, hO⟩ := hu24
  have hP : va_P g.1 vcl ([] ++ pl) _ := hP
  have hD : va_D _ ([] ++ pl) := hD
  refine W.widen (k := 0) (n := 0) (by omega) (by omega) ?_
  refine lv_aload_n hx hb dMH_sign_29 rfl (lv_at hl 0 rfl) ?_
  refine ty_get (ci := 12) (C := "LatticeKeysModel$Hands") (TT := T_MH) (N := 31) (kd := (48, 0)) hx hb hts (wg_ft i_MH) hown hK hO k_h0 (nxg clo_nil k_h0 rfl) hP (fun _ h9 => h9) rfl 0 (by decide) (hts _ (wg_t kw_1432)) (fun _ h9 => h9) (cd := (3, 20, 0)) rfl dMH_sign_30 (fun v52 hv52 => ?_)
  obtain ⟨r44, rfl, kr44⟩ := (show ∃ r : Nat, v52 = .ref r ∧ T r = some (20, 0) from hv52)
  obtain ⟨e22, pl, hP, hD, hk22, hO⟩ := open1 hP hD hO kr44 (nxg clo_nil kr44 rfl)
  obtain ⟨am21, am22, am23, am24, am25, rt21, ps21, x21, rfl, km21, km22, km23, km24, km25, hr21, hr22, hr23⟩ := hk22
  obtain ⟨e23, pl, hP, hD, hk23, hO⟩ := open1 hP hD hO km21 (nmc (knd_ne km21 kr44 (by decide)) (nxg clo_nil km21 rfl))
  obtain ⟨f21, rfl⟩ := hk23
  obtain ⟨e24, pl, hP, hD, hk24, hO⟩ := open1 hP hD hO km22 (nmc (knd_ne km22 km21 (by decide)) (nmc (knd_ne km22 kr44 (by decide)) (nxg clo_nil km22 rfl)))
  obtain ⟨f22, rfl⟩ := hk24
  obtain ⟨e25, pl, hP, hD, hk25, hO⟩ := open1 hP hD hO km23 (nmc (knd_ne km23 km22 (by decide)) (nmc (knd_ne km23 km21 (by decide)) (nmc (knd_ne km23 kr44 (by decide)) (nxg clo_nil km23 rfl))))
  obtain ⟨f23, rfl⟩ := hk25
  obtain ⟨e26, pl, hP, hD, hk26, hO⟩ := open1 hP hD hO km24 (nmc (knd_ne km24 km23 (by decide)) (nmc (knd_ne km24 km22 (by decide)) (nmc (knd_ne km24 km21 (by decide)) (nmc (knd_ne km24 kr44 (by decide)) (nxg clo_nil km24 rfl)))))
  obtain ⟨f24, rfl⟩ := hk26
  obtain ⟨e27, pl, hP, hD, hk27, hO⟩ := open1 hP hD hO km25 (nmc (knd_ne km25 km24 (by decide)) (nmc (knd_ne km25 km23 (by decide)) (nmc (knd_ne km25 km22 (by decide)) (nmc (knd_ne km25 km21 (by decide)) (nmc (knd_ne km25 kr44 (by decide)) (nxg clo_nil km25 rfl))))))
  obtain ⟨f25, rfl⟩ := hk27
  have hP : va_P g.1 vcl ([(r44, .inr (9, [.ref am21, .ref am22, .ref am23, .ref am24, .ref am25, .int (nI rt21), .int (nI ps21), .int x21])), (am21, .inl (g.2.1 2, 25, .inr (.inl f21))), (am22, .inl (g.2.1 2, 25, .inr (.inl f22))), (am23, .inl (g.2.1 2, 5, .inr (.inl f23))), (am24, .inl (g.2.1 2, 24, .inr (.inl f24))), (am25, .inl (g.2.1 0, 25, .inl f25))] ++ pl) _ := hP
  have hD : va_D _ ([(r44, .inr (9, [.ref am21, .ref am22, .ref am23, .ref am24, .ref am25, .int (nI rt21), .int (nI ps21), .int x21])), (am21, .inl (g.2.1 2, 25, .inr (.inl f21))), (am22, .inl (g.2.1 2, 25, .inr (.inl f22))), (am23, .inl (g.2.1 2, 5, .inr (.inl f23))), (am24, .inl (g.2.1 2, 24, .inr (.inl f24))), (am25, .inl (g.2.1 0, 25, .inl f25))] ++ pl) := hD
  refine mp_v (cx := [(r44, .inr (9, [.ref am21, .ref am22, .ref am23, .ref am24, .ref am25, .int (nI rt21), .int (nI ps21), .int x21])), (am21, .inl (g.2.1 2, 25, .inr (.inl f21))), (am22, .inl (g.2.1 2, 25, .inr (.inl f22))), (am23, .inl (g.2.1 2, 5, .inr (.inl f23))), (am24, .inl (g.2.1 2, 24, .inr (.inl f24))), (am25, .inl (g.2.1 0, 25, .inl f25))]) (wr := []) hP hD hS hA [0, 1, 2, 3, 4, 5] [] rfl rfl rfl (by decide) (va_runV (As := []) (rest := []) F (t_MS_shake l g _ T (am25 :: (am24 :: (am23 :: (am22 :: (am21 :: (r44 :: [])))))) pl hO hU  r44 am21 am22 am23 am24 am25 rt21 ps21 x21 f21 f22 f23 f24 f25) (cwV 0 hts (wg_app (wg_c kw_1718 (wg_c kw_1661 (wg_c kw_1662 (wg_c kw_10 wg_n)))) kw_1663) rfl rfl rfl (by decide +kernel) ⟨by decide, by decide⟩) (pp_V (en_ok g) (q0 := 0) hK hP hD hS hA hE [0, 1, 2, 3, 4, 5] rfl rfl rfl rfl) rfl rfl hl.1 rfl (lv_room (Nat.le_of_ble_eq_true rfl)) dMH_sign_33 ⟨by omega, by omega⟩) (fun  u21 H locs hu25 hP hD hS => ?_)
  obtain ⟨u22, pl⟩ := u21
  obtain ⟨hq25, hO⟩ := hu25
  obtain ⟨ps22, f26, f27, f28⟩ := u22
  have hP : va_P g.1 vcl ([(r44, .inr (9, [.ref am21, .ref am22, .ref am23, .ref am24, .ref am25, .int (nI 136), .int (nI ps22), .int (nI 31)])), (am21, .inl (g.2.1 2, 25, .inr (.inl f26))), (am22, .inl (g.2.1 2, 25, .inr (.inl f27))), (am23, .inl (g.2.1 2, 5, .inr (.inl f28))), (am24, .inl (g.2.1 2, 24, .inr (.inl f24))), (am25, .inl (g.2.1 0, 25, .inl f25))] ++ pl) _ := hP
  have hD : va_D _ ([(r44, .inr (9, [.ref am21, .ref am22, .ref am23, .ref am24, .ref am25, .int (nI 136), .int (nI ps22), .int (nI 31)])), (am21, .inl (g.2.1 2, 25, .inr (.inl f26))), (am22, .inl (g.2.1 2, 25, .inr (.inl f27))), (am23, .inl (g.2.1 2, 5, .inr (.inl f28))), (am24, .inl (g.2.1 2, 24, .inr (.inl f24))), (am25, .inl (g.2.1 0, 25, .inl f25))] ++ pl) := hD
  have hq25 : ps22 ≤ 136 := hq25
  refine W.widen (k := 0) (n := 0) (by omega) (by omega) ?_
  refine lv_aload_n hx hb dMH_sign_36 rfl (lv_at hl 0 rfl) ?_
  refine ty_get (ci := 12) (C := "LatticeKeysModel$Hands") (TT := T_MH) (N := 31) (kd := (48, 0)) hx hb hts (wg_ft i_MH) hown hK hO k_h0 (nxg (clo_cons (clo_cons (clo_cons (clo_cons (clo_cons (clo_cons clo_nil kr44 (by decide)) km21 (by decide)) km22 (by decide)) km23 (by decide)) km24 (by decide)) km25 (by decide)) k_h0 rfl) hP (fun _ h9 => h9) rfl 0 (by decide) (hts _ (wg_t kw_1432)) (fun _ h9 => h9) (cd := (3, 20, 0)) rfl dMH_sign_37 (fun v53 hv53 => ?_)
  obtain ⟨r45, rfl, kr45⟩ := (show ∃ r : Nat, v53 = .ref r ∧ T r = some (20, 0) from hv53)
  obtain rfl : r44 = r45 := hU _ _ _ (by decide) kr44 kr45
  refine lv_aload_n hx hb dMH_sign_40 rfl (lv_at hl 2 rfl) ?_
  refine lv_bipush (v := nI 32) hx hb dMH_sign_41 (by decide) ?_
  refine lv_bipush (v := nI 32) hx hb dMH_sign_43 (by decide) ?_
  refine mp_v (cx := [(r44, .inr (9, [.ref am21, .ref am22, .ref am23, .ref am24, .ref am25, .int (nI 136), .int (nI ps22), .int (nI 31)])), (am21, .inl (g.2.1 2, 25, .inr (.inl f26))), (am22, .inl (g.2.1 2, 25, .inr (.inl f27))), (am23, .inl (g.2.1 2, 5, .inr (.inl f28))), (am24, .inl (g.2.1 2, 24, .inr (.inl f24))), (am25, .inl (g.2.1 0, 25, .inl f25))]) (wr := []) hP hD hS hA [0, 1, 2, 3, 4, 5] [] rfl rfl rfl (by decide) (va_runV (As := [.ref sk, .int (nI 32), .int (nI 32)]) (rest := []) F (t_MS_puts l g _ T (am25 :: (am24 :: (am23 :: (am22 :: (am21 :: (r44 :: [])))))) pl hO hU (clo_cons (clo_cons (clo_cons (clo_cons (clo_cons (clo_cons clo_nil kr44 (by decide)) km21 (by decide)) km22 (by decide)) km23 (by decide)) km24 (by decide)) km25 (by decide)) sk 4896 32 32 r44 am21 am22 am23 am24 am25 136 ps22 (nI 31) f26 f27 f28 f24 f25 k_sk (by omega) (by omega) (by omega) (by omega)) (cwV 3 hts (wg_app (wg_c kw_1719 (wg_c kw_1612 (wg_c kw_1613 (wg_c kw_10 wg_n)))) kw_1614) rfl rfl rfl (by decide +kernel) ⟨by decide, by decide⟩) (pp_V (en_ok g) (q0 := 0) hK hP hD hS hA hE [0, 1, 2, 3, 4, 5] rfl rfl rfl rfl) rfl rfl hl.1 rfl (lv_room (Nat.le_of_ble_eq_true rfl)) dMH_sign_45 ⟨by omega, by omega⟩) (fun  u23 H locs hu26 hP hD hS => ?_)
  obtain ⟨u24, pl⟩ := u23
  obtain ⟨hq26, hO⟩ := hu26
  obtain ⟨ps23, f29, f30, f31⟩ := u24
  have hP : va_P g.1 vcl ([(r44, .inr (9, [.ref am21, .ref am22, .ref am23, .ref am24, .ref am25, .int (nI 136), .int (nI ps23), .int (nI 31)])), (am21, .inl (g.2.1 2, 25, .inr (.inl f29))), (am22, .inl (g.2.1 2, 25, .inr (.inl f30))), (am23, .inl (g.2.1 2, 5, .inr (.inl f31))), (am24, .inl (g.2.1 2, 24, .inr (.inl f24))), (am25, .inl (g.2.1 0, 25, .inl f25))] ++ pl) _ := hP
  have hD : va_D _ ([(r44, .inr (9, [.ref am21, .ref am22, .ref am23, .ref am24, .ref am25, .int (nI 136), .int (nI ps23), .int (nI 31)])), (am21, .inl (g.2.1 2, 25, .inr (.inl f29))), (am22, .inl (g.2.1 2, 25, .inr (.inl f30))), (am23, .inl (g.2.1 2, 5, .inr (.inl f31))), (am24, .inl (g.2.1 2, 24, .inr (.inl f24))), (am25, .inl (g.2.1 0, 25, .inl f25))] ++ pl) := hD
  have hq26 : ps23 ≤ 136 := hq26
  refine W.widen (k := 0) (n := 0) (by omega) (by omega) ?_
  refine lv_aload_n hx hb dMH_sign_48 rfl (lv_at hl 0 rfl) ?_
  refine ty_get (ci := 12) (C := "LatticeKeysModel$Hands") (TT := T_MH) (N := 31) (kd := (48, 0)) hx hb hts (wg_ft i_MH) hown hK hO k_h0 (nxg (clo_cons (clo_cons (clo_cons (clo_cons (clo_cons (clo_cons clo_nil kr44 (by decide)) km21 (by decide)) km22 (by decide)) km23 (by decide)) km24 (by decide)) km25 (by decide)) k_h0 rfl) hP (fun _ h9 => h9) rfl 0 (by decide) (hts _ (wg_t kw_1432)) (fun _ h9 => h9) (cd := (3, 20, 0)) rfl dMH_sign_49 (fun v54 hv54 => ?_)
  obtain ⟨r46, rfl, kr46⟩ := (show ∃ r : Nat, v54 = .ref r ∧ T r = some (20, 0) from hv54)
  obtain rfl : r44 = r46 := hU _ _ _ (by decide) kr44 kr46
  refine lv_aload_n hx hb dMH_sign_52 rfl (lv_at hl 3 rfl) ?_
  refine lv_iconst (v := nI 0) hx hb dMH_sign_53 (by decide) ?_
  refine lv_bipush (v := nI 32) hx hb dMH_sign_54 (by decide) ?_
  refine mp_v (cx := [(r44, .inr (9, [.ref am21, .ref am22, .ref am23, .ref am24, .ref am25, .int (nI 136), .int (nI ps23), .int (nI 31)])), (am21, .inl (g.2.1 2, 25, .inr (.inl f29))), (am22, .inl (g.2.1 2, 25, .inr (.inl f30))), (am23, .inl (g.2.1 2, 5, .inr (.inl f31))), (am24, .inl (g.2.1 2, 24, .inr (.inl f24))), (am25, .inl (g.2.1 0, 25, .inl f25))]) (wr := []) hP hD hS hA [0, 1, 2, 3, 4, 5] [] rfl rfl rfl (by decide) (va_runV (As := [.ref b, .int (nI 0), .int (nI 32)]) (rest := []) F (t_MS_puts l g _ T (am25 :: (am24 :: (am23 :: (am22 :: (am21 :: (r44 :: [])))))) pl hO hU (clo_cons (clo_cons (clo_cons (clo_cons (clo_cons (clo_cons clo_nil kr44 (by decide)) km21 (by decide)) km22 (by decide)) km23 (by decide)) km24 (by decide)) km25 (by decide)) b n 0 32 r44 am21 am22 am23 am24 am25 136 ps23 (nI 31) f29 f30 f31 f24 f25 k_b (by omega) (by omega) (by omega) (by omega)) (cwV 3 hts (wg_app (wg_c kw_1719 (wg_c kw_1612 (wg_c kw_1613 (wg_c kw_10 wg_n)))) kw_1614) rfl rfl rfl (by decide +kernel) ⟨by decide, by decide⟩) (pp_V (en_ok g) (q0 := 0) hK hP hD hS hA hE [0, 1, 2, 3, 4, 5] rfl rfl rfl rfl) rfl rfl hl.1 rfl (lv_room (Nat.le_of_ble_eq_true rfl)) dMH_sign_56 ⟨by omega, by omega⟩) (fun  u25 H locs hu27 hP hD hS => ?_)
  obtain ⟨u26, pl⟩ := u25
  obtain ⟨hq27, hO⟩ := hu27
  obtain ⟨ps24, f32, f33, f34⟩ := u26
  have hP : va_P g.1 vcl ([(r44, .inr (9, [.ref am21, .ref am22, .ref am23, .ref am24, .ref am25, .int (nI 136), .int (nI ps24), .int (nI 31)])), (am21, .inl (g.2.1 2, 25, .inr (.inl f32))), (am22, .inl (g.2.1 2, 25, .inr (.inl f33))), (am23, .inl (g.2.1 2, 5, .inr (.inl f34))), (am24, .inl (g.2.1 2, 24, .inr (.inl f24))), (am25, .inl (g.2.1 0, 25, .inl f25))] ++ pl) _ := hP
  have hD : va_D _ ([(r44, .inr (9, [.ref am21, .ref am22, .ref am23, .ref am24, .ref am25, .int (nI 136), .int (nI ps24), .int (nI 31)])), (am21, .inl (g.2.1 2, 25, .inr (.inl f32))), (am22, .inl (g.2.1 2, 25, .inr (.inl f33))), (am23, .inl (g.2.1 2, 5, .inr (.inl f34))), (am24, .inl (g.2.1 2, 24, .inr (.inl f24))), (am25, .inl (g.2.1 0, 25, .inl f25))] ++ pl) := hD
  have hq27 : ps24 ≤ 136 := hq27
  refine W.widen (k := 0) (n := 0) (by omega) (by omega) ?_
  refine lv_aload_n hx hb dMH_sign_59 rfl (lv_at hl 0 rfl) ?_
  refine ty_get (ci := 12) (C := "LatticeKeysModel$Hands") (TT := T_MH) (N := 31) (kd := (48, 0)) hx hb hts (wg_ft i_MH) hown hK hO k_h0 (nxg (clo_cons (clo_cons (clo_cons (clo_cons (clo_cons (clo_cons clo_nil kr44 (by decide)) km21 (by decide)) km22 (by decide)) km23 (by decide)) km24 (by decide)) km25 (by decide)) k_h0 rfl) hP (fun _ h9 => h9) rfl 0 (by decide) (hts _ (wg_t kw_1432)) (fun _ h9 => h9) (cd := (3, 20, 0)) rfl dMH_sign_60 (fun v55 hv55 => ?_)
  obtain ⟨r47, rfl, kr47⟩ := (show ∃ r : Nat, v55 = .ref r ∧ T r = some (20, 0) from hv55)
  obtain rfl : r44 = r47 := hU _ _ _ (by decide) kr44 kr47
  refine lv_aload_n hx hb dMH_sign_63 rfl (lv_at hl 0 rfl) ?_
  refine ty_get (ci := 12) (C := "LatticeKeysModel$Hands") (TT := T_MH) (N := 31) (kd := (48, 0)) hx hb hts (wg_ft i_MH) hown hK hO k_h0 (nxg (clo_cons (clo_cons (clo_cons (clo_cons (clo_cons (clo_cons clo_nil kr44 (by decide)) km21 (by decide)) km22 (by decide)) km23 (by decide)) km24 (by decide)) km25 (by decide)) k_h0 rfl) hP (fun _ h9 => h9) rfl 17 (by decide) (hts _ (wg_t kw_1449)) (fun _ h9 => h9) (cd := (3, 1, 64)) rfl dMH_sign_64 (fun v56 hv56 => ?_)
  obtain ⟨r48, rfl, kr48⟩ := (show ∃ r : Nat, v56 = .ref r ∧ T r = some (1, 64) from hv56)
  refine lv_iconst (v := nI 0) hx hb dMH_sign_67 (by decide) ?_
  refine lv_bipush (v := nI 64) hx hb dMH_sign_68 (by decide) ?_
  refine mp_v (cx := [(r44, .inr (9, [.ref am21, .ref am22, .ref am23, .ref am24, .ref am25, .int (nI 136), .int (nI ps24), .int (nI 31)])), (am21, .inl (g.2.1 2, 25, .inr (.inl f32))), (am22, .inl (g.2.1 2, 25, .inr (.inl f33))), (am23, .inl (g.2.1 2, 5, .inr (.inl f34))), (am24, .inl (g.2.1 2, 24, .inr (.inl f24))), (am25, .inl (g.2.1 0, 25, .inl f25))]) (wr := []) hP hD hS hA [0, 1, 2, 3, 4, 5] [] rfl rfl rfl (by decide) (va_runV (As := [.ref r48, .int (nI 0), .int (nI 64)]) (rest := []) F (t_MS_puts l g _ T (am25 :: (am24 :: (am23 :: (am22 :: (am21 :: (r44 :: [])))))) pl hO hU (clo_cons (clo_cons (clo_cons (clo_cons (clo_cons (clo_cons clo_nil kr44 (by decide)) km21 (by decide)) km22 (by decide)) km23 (by decide)) km24 (by decide)) km25 (by decide)) r48 64 0 64 r44 am21 am22 am23 am24 am25 136 ps24 (nI 31) f32 f33 f34 f24 f25 kr48 (by omega) (by omega) (by omega) (by omega)) (cwV 3 hts (wg_app (wg_c kw_1719 (wg_c kw_1612 (wg_c kw_1613 (wg_c kw_10 wg_n)))) kw_1614) rfl rfl rfl (by decide +kernel) ⟨by decide, by decide⟩) (pp_V (en_ok g) (q0 := 0) hK hP hD hS hA hE [0, 1, 2, 3, 4, 5] rfl rfl rfl rfl) rfl rfl hl.1 rfl (lv_room (Nat.le_of_ble_eq_true rfl)) dMH_sign_70 ⟨by omega, by omega⟩) (fun  u27 H locs hu28 hP hD hS => ?_)
  obtain ⟨u28, pl⟩ := u27
  obtain ⟨hq28, hO⟩ := hu28
  obtain ⟨ps25, f35, f36, f37⟩ := u28
  have hP : va_P g.1 vcl ([(r44, .inr (9, [.ref am21, .ref am22, .ref am23, .ref am24, .ref am25, .int (nI 136), .int (nI ps25), .int (nI 31)])), (am21, .inl (g.2.1 2, 25, .inr (.inl f35))), (am22, .inl (g.2.1 2, 25, .inr (.inl f36))), (am23, .inl (g.2.1 2, 5, .inr (.inl f37))), (am24, .inl (g.2.1 2, 24, .inr (.inl f24))), (am25, .inl (g.2.1 0, 25, .inl f25))] ++ pl) _ := hP
  have hD : va_D _ ([(r44, .inr (9, [.ref am21, .ref am22, .ref am23, .ref am24, .ref am25, .int (nI 136), .int (nI ps25), .int (nI 31)])), (am21, .inl (g.2.1 2, 25, .inr (.inl f35))), (am22, .inl (g.2.1 2, 25, .inr (.inl f36))), (am23, .inl (g.2.1 2, 5, .inr (.inl f37))), (am24, .inl (g.2.1 2, 24, .inr (.inl f24))), (am25, .inl (g.2.1 0, 25, .inl f25))] ++ pl) := hD
  have hq28 : ps25 ≤ 136 := hq28
  refine W.widen (k := 0) (n := 0) (by omega) (by omega) ?_
  refine lv_aload_n hx hb dMH_sign_73 rfl (lv_at hl 0 rfl) ?_
  refine ty_get (ci := 12) (C := "LatticeKeysModel$Hands") (TT := T_MH) (N := 31) (kd := (48, 0)) hx hb hts (wg_ft i_MH) hown hK hO k_h0 (nxg (clo_cons (clo_cons (clo_cons (clo_cons (clo_cons (clo_cons clo_nil kr44 (by decide)) km21 (by decide)) km22 (by decide)) km23 (by decide)) km24 (by decide)) km25 (by decide)) k_h0 rfl) hP (fun _ h9 => h9) rfl 0 (by decide) (hts _ (wg_t kw_1432)) (fun _ h9 => h9) (cd := (3, 20, 0)) rfl dMH_sign_74 (fun v57 hv57 => ?_)
  obtain ⟨r49, rfl, kr49⟩ := (show ∃ r : Nat, v57 = .ref r ∧ T r = some (20, 0) from hv57)
  obtain rfl : r44 = r49 := hU _ _ _ (by decide) kr44 kr49
  refine mp_v (cx := [(r44, .inr (9, [.ref am21, .ref am22, .ref am23, .ref am24, .ref am25, .int (nI 136), .int (nI ps25), .int (nI 31)])), (am21, .inl (g.2.1 2, 25, .inr (.inl f35))), (am22, .inl (g.2.1 2, 25, .inr (.inl f36))), (am23, .inl (g.2.1 2, 5, .inr (.inl f37))), (am24, .inl (g.2.1 2, 24, .inr (.inl f24))), (am25, .inl (g.2.1 0, 25, .inl f25))]) (wr := []) hP hD hS hA [0, 1, 2, 3, 4, 5] [] rfl rfl rfl (by decide) (va_runV (As := []) (rest := []) F (t_MS_end l g _ T (am25 :: (am24 :: (am23 :: (am22 :: (am21 :: (r44 :: [])))))) pl hO hU  r44 am21 am22 am23 am24 am25 136 ps25 (nI 31) f35 f36 f37 f24 f25 (by omega) (by omega)) (cwV 0 hts (wg_app (wg_c kw_1721 (wg_c kw_1634 (wg_c kw_1635 (wg_c kw_10 wg_n)))) kw_1636) rfl rfl rfl (by decide +kernel) ⟨by decide, by decide⟩) (pp_V (en_ok g) (q0 := 0) hK hP hD hS hA hE [0, 1, 2, 3, 4, 5] rfl rfl rfl rfl) rfl rfl hl.1 rfl (lv_room (Nat.le_of_ble_eq_true rfl)) dMH_sign_77 ⟨by omega, by omega⟩) (fun  u29 H locs hu29 hP hD hS => ?_)
  obtain ⟨u30, pl⟩ := u29
  obtain ⟨hq29, hO⟩ := hu29
  obtain ⟨ps26, f38, f39, f40⟩ := u30
  have hP : va_P g.1 vcl ([(r44, .inr (9, [.ref am21, .ref am22, .ref am23, .ref am24, .ref am25, .int (nI 136), .int (nI ps26), .int (nI 31)])), (am21, .inl (g.2.1 2, 25, .inr (.inl f38))), (am22, .inl (g.2.1 2, 25, .inr (.inl f39))), (am23, .inl (g.2.1 2, 5, .inr (.inl f40))), (am24, .inl (g.2.1 2, 24, .inr (.inl f24))), (am25, .inl (g.2.1 0, 25, .inl f25))] ++ pl) _ := hP
  have hD : va_D _ ([(r44, .inr (9, [.ref am21, .ref am22, .ref am23, .ref am24, .ref am25, .int (nI 136), .int (nI ps26), .int (nI 31)])), (am21, .inl (g.2.1 2, 25, .inr (.inl f38))), (am22, .inl (g.2.1 2, 25, .inr (.inl f39))), (am23, .inl (g.2.1 2, 5, .inr (.inl f40))), (am24, .inl (g.2.1 2, 24, .inr (.inl f24))), (am25, .inl (g.2.1 0, 25, .inl f25))] ++ pl) := hD
  have hq29 : ps26 ≤ 136 := hq29
  refine W.widen (k := 0) (n := 0) (by omega) (by omega) ?_
  refine lv_aload_n hx hb dMH_sign_80 rfl (lv_at hl 0 rfl) ?_
  refine ty_get (ci := 12) (C := "LatticeKeysModel$Hands") (TT := T_MH) (N := 31) (kd := (48, 0)) hx hb hts (wg_ft i_MH) hown hK hO k_h0 (nxg (clo_cons (clo_cons (clo_cons (clo_cons (clo_cons (clo_cons clo_nil kr44 (by decide)) km21 (by decide)) km22 (by decide)) km23 (by decide)) km24 (by decide)) km25 (by decide)) k_h0 rfl) hP (fun _ h9 => h9) rfl 0 (by decide) (hts _ (wg_t kw_1432)) (fun _ h9 => h9) (cd := (3, 20, 0)) rfl dMH_sign_81 (fun v58 hv58 => ?_)
  obtain ⟨r50, rfl, kr50⟩ := (show ∃ r : Nat, v58 = .ref r ∧ T r = some (20, 0) from hv58)
  obtain rfl : r44 = r50 := hU _ _ _ (by decide) kr44 kr50
  refine lv_aload_n hx hb dMH_sign_84 rfl (lv_at hl 0 rfl) ?_
  refine ty_get (ci := 12) (C := "LatticeKeysModel$Hands") (TT := T_MH) (N := 31) (kd := (48, 0)) hx hb hts (wg_ft i_MH) hown hK hO k_h0 (nxg (clo_cons (clo_cons (clo_cons (clo_cons (clo_cons (clo_cons clo_nil kr44 (by decide)) km21 (by decide)) km22 (by decide)) km23 (by decide)) km24 (by decide)) km25 (by decide)) k_h0 rfl) hP (fun _ h9 => h9) rfl 18 (by decide) (hts _ (wg_t kw_1450)) (fun _ h9 => h9) (cd := (3, 1, 64)) rfl dMH_sign_85 (fun v59 hv59 => ?_)
  obtain ⟨r51, rfl, kr51⟩ := (show ∃ r : Nat, v59 = .ref r ∧ T r = some (1, 64) from hv59)
  refine lv_iconst (v := nI 0) hx hb dMH_sign_88 (by decide) ?_
  refine lv_bipush (v := nI 64) hx hb dMH_sign_89 (by decide) ?_
  refine mp_v (cx := [(r44, .inr (9, [.ref am21, .ref am22, .ref am23, .ref am24, .ref am25, .int (nI 136), .int (nI ps26), .int (nI 31)])), (am21, .inl (g.2.1 2, 25, .inr (.inl f38))), (am22, .inl (g.2.1 2, 25, .inr (.inl f39))), (am23, .inl (g.2.1 2, 5, .inr (.inl f40))), (am24, .inl (g.2.1 2, 24, .inr (.inl f24))), (am25, .inl (g.2.1 0, 25, .inl f25))]) (wr := []) hP hD hS hA [0, 1, 2, 3, 4, 5] [] rfl rfl rfl (by decide) (va_runV (As := [.ref r51, .int (nI 0), .int (nI 64)]) (rest := []) F (t_MS_take l g _ T (am25 :: (am24 :: (am23 :: (am22 :: (am21 :: (r44 :: [])))))) pl hO hU (clo_cons (clo_cons (clo_cons (clo_cons (clo_cons (clo_cons clo_nil kr44 (by decide)) km21 (by decide)) km22 (by decide)) km23 (by decide)) km24 (by decide)) km25 (by decide)) r51 64 0 64 r44 am21 am22 am23 am24 am25 136 ps26 (nI 31) f38 f39 f40 f24 f25 kr51 (by omega) (by omega) (by omega) (by omega)) (cwV 3 hts (wg_app (wg_c kw_1722 (wg_c kw_1638 (wg_c kw_1639 (wg_c kw_10 wg_n)))) kw_1640) rfl rfl rfl (by decide +kernel) ⟨by decide, by decide⟩) (pp_V (en_ok g) (q0 := 0) hK hP hD hS hA hE [0, 1, 2, 3, 4, 5] rfl rfl rfl rfl) rfl rfl hl.1 rfl (lv_room (Nat.le_of_ble_eq_true rfl)) dMH_sign_91 ⟨by omega, by omega⟩) (fun  u31 H locs hu30 hP hD hS => ?_)
  obtain ⟨u32, pl⟩ := u31
  obtain ⟨hq30, hO⟩ := hu30
  obtain ⟨ps27, f41, f42, f43⟩ := u32
  have hP : va_P g.1 vcl ([(r44, .inr (9, [.ref am21, .ref am22, .ref am23, .ref am24, .ref am25, .int (nI 136), .int (nI ps27), .int (nI 31)])), (am21, .inl (g.2.1 2, 25, .inr (.inl f41))), (am22, .inl (g.2.1 2, 25, .inr (.inl f42))), (am23, .inl (g.2.1 2, 5, .inr (.inl f43))), (am24, .inl (g.2.1 2, 24, .inr (.inl f24))), (am25, .inl (g.2.1 0, 25, .inl f25))] ++ pl) _ := hP
  have hD : va_D _ ([(r44, .inr (9, [.ref am21, .ref am22, .ref am23, .ref am24, .ref am25, .int (nI 136), .int (nI ps27), .int (nI 31)])), (am21, .inl (g.2.1 2, 25, .inr (.inl f41))), (am22, .inl (g.2.1 2, 25, .inr (.inl f42))), (am23, .inl (g.2.1 2, 5, .inr (.inl f43))), (am24, .inl (g.2.1 2, 24, .inr (.inl f24))), (am25, .inl (g.2.1 0, 25, .inl f25))] ++ pl) := hD
  have hq30 : ps27 ≤ 136 := hq30
  refine W.widen (k := 0) (n := 0) (by omega) (by omega) ?_
  refine lv_iconst (v := nI 1) hx hb dMH_sign_94 (by decide) ?_
  refine lv_istore (lv' := [(7, .int (nI 1)), (0, .ref h0), (1, .int (nI 2)), (2, .ref sk), (3, .ref b), (4, .int cl), (5, .int (nI ed)), (6, .ref to)]) hx hb dMH_sign_95 hl (by decide) rfl (fun ls hl => ?_)
  have hO := close1 (e := .inl (g.2.1 0, 25, .inl f25)) hO km25 ⟨_, rfl⟩
  have hO := close1 (e := .inl (g.2.1 2, 24, .inr (.inl f24))) hO km24 ⟨_, rfl⟩
  have hO := close1 (e := .inl (g.2.1 2, 5, .inr (.inl f43))) hO km23 ⟨_, rfl⟩
  have hO := close1 (e := .inl (g.2.1 2, 25, .inr (.inl f42))) hO km22 ⟨_, rfl⟩
  have hO := close1 (e := .inl (g.2.1 2, 25, .inr (.inl f41))) hO km21 ⟨_, rfl⟩
  have hO := close1 (e := .inr (9, [.ref am21, .ref am22, .ref am23, .ref am24, .ref am25, .int (nI 136), .int (nI ps27), .int (nI 31)])) hO kr44 ⟨_, _, _, _, _, _, _, _, rfl, km21, km22, km23, km24, km25, by omega, by omega, by omega⟩
  have hO : okx g T [] ((r44, .inr (9, [.ref am21, .ref am22, .ref am23, .ref am24, .ref am25, .int (nI 136), .int (nI ps27), .int (nI 31)])) :: (am21, .inl (g.2.1 2, 25, .inr (.inl f41))) :: (am22, .inl (g.2.1 2, 25, .inr (.inl f42))) :: (am23, .inl (g.2.1 2, 5, .inr (.inl f43))) :: (am24, .inl (g.2.1 2, 24, .inr (.inl f24))) :: (am25, .inl (g.2.1 0, 25, .inl f25)) :: pl) := hO
  have hP : va_P g.1 vcl ([] ++ ((r44, .inr (9, [.ref am21, .ref am22, .ref am23, .ref am24, .ref am25, .int (nI 136), .int (nI ps27), .int (nI 31)])) :: (am21, .inl (g.2.1 2, 25, .inr (.inl f41))) :: (am22, .inl (g.2.1 2, 25, .inr (.inl f42))) :: (am23, .inl (g.2.1 2, 5, .inr (.inl f43))) :: (am24, .inl (g.2.1 2, 24, .inr (.inl f24))) :: (am25, .inl (g.2.1 0, 25, .inl f25)) :: pl)) _ := hP
  have hD : va_D _ ([] ++ ((r44, .inr (9, [.ref am21, .ref am22, .ref am23, .ref am24, .ref am25, .int (nI 136), .int (nI ps27), .int (nI 31)])) :: (am21, .inl (g.2.1 2, 25, .inr (.inl f41))) :: (am22, .inl (g.2.1 2, 25, .inr (.inl f42))) :: (am23, .inl (g.2.1 2, 5, .inr (.inl f43))) :: (am24, .inl (g.2.1 2, 24, .inr (.inl f24))) :: (am25, .inl (g.2.1 0, 25, .inl f25)) :: pl)) := hD
  generalize ((r44, .inr (9, [.ref am21, .ref am22, .ref am23, .ref am24, .ref am25, .int (nI 136), .int (nI ps27), .int (nI 31)])) :: (am21, .inl (g.2.1 2, 25, .inr (.inl f41))) :: (am22, .inl (g.2.1 2, 25, .inr (.inl f42))) :: (am23, .inl (g.2.1 2, 5, .inr (.inl f43))) :: (am24, .inl (g.2.1 2, 24, .inr (.inl f24))) :: (am25, .inl (g.2.1 0, 25, .inl f25)) :: pl) = pl at hO hP hD
  have lp21 : ∀ (n21 : Nat) (i21 : Nat) (pl : va_W) (ls : Array Slot) (H : Heap) (locs : List Loc), n21 + i21 = 201 → (1 ≤ i21) → lv_has ls 9 [(7, .int (nI i21)), (0, .ref h0), (6, .ref to)] → okx g T [] pl → va_P g.1 vcl ([] ++ pl) H → va_D A ([] ++ pl) → va_S A s.heap H locs → W p l e ({ frames := 5, cells := 0, slots := 0, locals := 124 } : Room) s m args below meth c H locs 0 0 (MQ below (va_Qi (fun (r : Int32) (u : va_W) => (True) ∧ okx g T0 [] u) (po g.1 vcl A (fun (u : va_W) => [] ++ u)) A) args s 0 0 A) (F0 m 97 ls []) := by
    intro n21
    induction n21 with
    | zero =>
      intro i21 pl ls H locs hm21 hi21 hl hO hP hD hS
      refine lv_iload hx hb dMH_sign_97 (lv_at hl 0 rfl) ?_
      refine lv_sipush (v := nI 200) hx hb dMH_sign_99 (by decide) ?_
      refine mi_gt (tgt := 232) hx hb dMH_sign_102 (by decide) (by omega) (by omega) (fun h21 => ?_) (fun h21 => absurd h21 (by omega))
      refine lv_iconst (v := nI 0) hx hb dMH_sign_232 (by decide) ?_
      exact mp_iret hx hb hr hlk hP hD hS pl ⟨trivial, (hback _ hO)⟩ [] rfl rfl rfl (by omega) (by omega) dMH_sign_233
    | succ n21 ih21 =>
      intro i21 pl ls H locs hm21 hi21 hl hO hP hD hS
      refine lv_iload hx hb dMH_sign_97 (lv_at hl 0 rfl) ?_
      refine lv_sipush (v := nI 200) hx hb dMH_sign_99 (by decide) ?_
      refine mi_gt (tgt := 232) hx hb dMH_sign_102 (by decide) (by omega) (by omega) (fun h22 => absurd h22 (by omega)) (fun h22 => ?_)
      refine lv_aload_n hx hb dMH_sign_105 rfl (lv_at hl 1 rfl) ?_
      refine lv_iload hx hb dMH_sign_106 (lv_at hl 0 rfl) ?_
      refine lv_iconst (v := nI 1) hx hb dMH_sign_108 (by decide) ?_
      refine mi_isub hx hb dMH_sign_109 (by omega) ?_
      refine lv_aload_n hx hb dMH_sign_110 rfl (lv_at hl 1 rfl) ?_
      refine ty_get (ci := 12) (C := "LatticeKeysModel$Hands") (TT := T_MH) (N := 31) (kd := (48, 0)) hx hb hts (wg_ft i_MH) hown hK hO k_h0 (nxg clo_nil k_h0 rfl) hP (fun _ h9 => h9) rfl 25 (by decide) (hts _ (wg_t kw_1457)) (fun _ h9 => h9) (cd := (1, 0, 7)) rfl dMH_sign_111 (fun v60 hv60 => ?_)
      obtain rfl := (show v60 = .int (nI 7) from hv60)
      refine mi_imul hx hb dMH_sign_114 ?_
      refine mp_v (cx := []) (wr := []) hP hD hS hA [] [] rfl rfl rfl (by decide) (va_runV (As := [.int (nI ((i21 - 1) * 7))]) (rest := []) F (t_MH_mask_2 l g _ T [] pl hO hU clo_nil clo_nil h0 (nI ((i21 - 1) * 7)) k_h0) (cwV 1 hts (wg_app (wg_c kw_1872 (wg_c kw_1874 (wg_c ks_72 (wg_c kw_13 wg_n)))) kw_1875) rfl rfl rfl (by decide +kernel) ⟨by decide, by decide⟩) (pp_VT (en_ok g) (ci := 12) (kd := (48, 0)) hK hO k_h0 (nxg clo_nil k_h0 rfl) (fun _ h9 => ko1 h9) hP hD hS hA hE [] rfl rfl rfl) rfl rfl hl.1 rfl (lv_room (Nat.le_of_ble_eq_true rfl)) dMH_sign_115 ⟨by omega, by omega⟩) (fun  pl H locs hu31 hP hD hS => ?_)
      obtain ⟨hq31, hO⟩ := hu31
      have hP : va_P g.1 vcl ([] ++ pl) _ := hP
      have hD : va_D _ ([] ++ pl) := hD
      refine W.widen (k := 0) (n := 0) (by omega) (by omega) ?_
      refine lv_iconst (v := nI 0) hx hb dMH_sign_118 (by decide) ?_
      refine lv_istore (lv' := [(8, .int (nI 0)), (7, .int (nI i21)), (0, .ref h0), (6, .ref to)]) hx hb dMH_sign_119 hl (by decide) rfl (fun ls hl => ?_)
      have lp22 : ∀ (n22 : Nat) (i22 : Nat) (pl : va_W) (ls : Array Slot) (H : Heap) (locs : List Loc), n22 + i22 = 7 → lv_has ls 9 [(8, .int (nI i22)), (7, .int (nI i21)), (0, .ref h0), (6, .ref to)] → okx g T [] pl → va_P g.1 vcl ([] ++ pl) H → va_D A ([] ++ pl) → va_S A s.heap H locs → W p l e ({ frames := 5, cells := 0, slots := 0, locals := 124 } : Room) s m args below meth c H locs 0 0 (MQ below (va_Qi (fun (r : Int32) (u : va_W) => (True) ∧ okx g T0 [] u) (po g.1 vcl A (fun (u : va_W) => [] ++ u)) A) args s 0 0 A) (F0 m 121 ls []) := by
        intro n22
        induction n22 with
        | zero =>
          intro i22 pl ls H locs hm22  hl hO hP hD hS
          refine lv_iload hx hb dMH_sign_121 (lv_at hl 0 rfl) ?_
          refine lv_aload_n hx hb dMH_sign_123 rfl (lv_at hl 2 rfl) ?_
          refine ty_get (ci := 12) (C := "LatticeKeysModel$Hands") (TT := T_MH) (N := 31) (kd := (48, 0)) hx hb hts (wg_ft i_MH) hown hK hO k_h0 (nxg clo_nil k_h0 rfl) hP (fun _ h9 => h9) rfl 25 (by decide) (hts _ (wg_t kw_1457)) (fun _ h9 => h9) (cd := (1, 0, 7)) rfl dMH_sign_124 (fun v61 hv61 => ?_)
          obtain rfl := (show v61 = .int (nI 7) from hv61)
          refine mi_ge (tgt := 159) hx hb dMH_sign_127 (by decide) (by omega) (by omega) (fun h23 => ?_) (fun h23 => absurd h23 (by omega))
          refine lv_iconst (v := nI 0) hx hb dMH_sign_159 (by decide) ?_
          refine lv_istore (lv' := [(8, .int (nI 0)), (7, .int (nI i21)), (0, .ref h0), (6, .ref to)]) hx hb dMH_sign_160 hl (by decide) rfl (fun ls hl => ?_)
          have lp23 : ∀ (n23 : Nat) (i23 : Nat) (pl : va_W) (ls : Array Slot) (H : Heap) (locs : List Loc), n23 + i23 = 8 → lv_has ls 9 [(8, .int (nI i23)), (7, .int (nI i21)), (0, .ref h0), (6, .ref to)] → okx g T [] pl → va_P g.1 vcl ([] ++ pl) H → va_D A ([] ++ pl) → va_S A s.heap H locs → W p l e ({ frames := 5, cells := 0, slots := 0, locals := 124 } : Room) s m args below meth c H locs 0 0 (MQ below (va_Qi (fun (r : Int32) (u : va_W) => (True) ∧ okx g T0 [] u) (po g.1 vcl A (fun (u : va_W) => [] ++ u)) A) args s 0 0 A) (F0 m 162 ls []) := by
            intro n23
            induction n23 with
            | zero =>
              intro i23 pl ls H locs hm23  hl hO hP hD hS
              refine lv_iload hx hb dMH_sign_162 (lv_at hl 0 rfl) ?_
              refine lv_aload_n hx hb dMH_sign_164 rfl (lv_at hl 2 rfl) ?_
              refine ty_get (ci := 12) (C := "LatticeKeysModel$Hands") (TT := T_MH) (N := 31) (kd := (48, 0)) hx hb hts (wg_ft i_MH) hown hK hO k_h0 (nxg clo_nil k_h0 rfl) hP (fun _ h9 => h9) rfl 24 (by decide) (hts _ (wg_t kw_1456)) (fun _ h9 => h9) (cd := (1, 0, 8)) rfl dMH_sign_165 (fun v62 hv62 => ?_)
              obtain rfl := (show v62 = .int (nI 8) from hv62)
              refine mi_ge (tgt := 190) hx hb dMH_sign_168 (by decide) (by omega) (by omega) (fun h24 => ?_) (fun h24 => absurd h24 (by omega))
              refine lv_aload_n hx hb dMH_sign_190 rfl (lv_at hl 2 rfl) ?_
              refine lv_iconst (v := nI 0) hx hb dMH_sign_191 (by decide) ?_
              refine lv_aload_n hx hb dMH_sign_192 rfl (lv_at hl 2 rfl) ?_
              refine ty_get (ci := 12) (C := "LatticeKeysModel$Hands") (TT := T_MH) (N := 31) (kd := (48, 0)) hx hb hts (wg_ft i_MH) hown hK hO k_h0 (nxg clo_nil k_h0 rfl) hP (fun _ h9 => h9) rfl 20 (by decide) (hts _ (wg_t kw_1452)) (fun _ h9 => h9) (cd := (3, 1, 64)) rfl dMH_sign_193 (fun v63 hv63 => ?_)
              obtain ⟨r52, rfl, kr52⟩ := (show ∃ r : Nat, v63 = .ref r ∧ T r = some (1, 64) from hv63)
              refine mp_v (cx := []) (wr := []) hP hD hS hA [] [] rfl rfl rfl (by decide) (va_runV (As := [.int (nI 0), .ref r52]) (rest := []) F (t_MH_marked_2 l g _ T [] pl hO hU clo_nil clo_nil h0 r52 (nI 0) k_h0 kr52) (cwV 2 hts (wg_app (wg_c kw_1876 (wg_c kw_1878 (wg_c ks_73 (wg_c kw_13 wg_n)))) kw_1879) rfl rfl rfl (by decide +kernel) ⟨by decide, by decide⟩) (pp_VT (en_ok g) (ci := 12) (kd := (48, 0)) hK hO k_h0 (nxg clo_nil k_h0 rfl) (fun _ h9 => ko1 h9) hP hD hS hA hE [] rfl rfl rfl) rfl rfl hl.1 rfl (lv_room (Nat.le_of_ble_eq_true rfl)) dMH_sign_196 ⟨by omega, by omega⟩) (fun  pl H locs hu32 hP hD hS => ?_)
              obtain ⟨hq32, hO⟩ := hu32
              have hP : va_P g.1 vcl ([] ++ pl) _ := hP
              have hD : va_D _ ([] ++ pl) := hD
              refine W.widen (k := 0) (n := 0) (by omega) (by omega) ?_
              refine lv_aload_n hx hb dMH_sign_199 rfl (lv_at hl 2 rfl) ?_
              refine lv_aload_n hx hb dMH_sign_200 rfl (lv_at hl 2 rfl) ?_
              refine ty_get (ci := 12) (C := "LatticeKeysModel$Hands") (TT := T_MH) (N := 31) (kd := (48, 0)) hx hb hts (wg_ft i_MH) hown hK hO k_h0 (nxg clo_nil k_h0 rfl) hP (fun _ h9 => h9) rfl 20 (by decide) (hts _ (wg_t kw_1452)) (fun _ h9 => h9) (cd := (3, 1, 64)) rfl dMH_sign_201 (fun v64 hv64 => ?_)
              obtain ⟨r53, rfl, kr53⟩ := (show ∃ r : Nat, v64 = .ref r ∧ T r = some (1, 64) from hv64)
              refine mp_v (cx := []) (wr := []) hP hD hS hA [] [] rfl rfl rfl (by decide) (va_runV (As := [.ref r53]) (rest := []) F (t_MH_ball_2 l g _ T [] pl hO hU clo_nil clo_nil h0 r53 k_h0 kr53) (cwV 1 hts (wg_app (wg_c kw_1893 (wg_c kw_1895 (wg_c ks_77 (wg_c kw_13 wg_n)))) kw_1896) rfl rfl rfl (by decide +kernel) ⟨by decide, by decide⟩) (pp_VT (en_ok g) (ci := 12) (kd := (48, 0)) hK hO k_h0 (nxg clo_nil k_h0 rfl) (fun _ h9 => ko1 h9) hP hD hS hA hE [] rfl rfl rfl) rfl rfl hl.1 rfl (lv_room (Nat.le_of_ble_eq_true rfl)) dMH_sign_204 ⟨by omega, by omega⟩) (fun  pl H locs hu33 hP hD hS => ?_)
              obtain ⟨hq33, hO⟩ := hu33
              have hP : va_P g.1 vcl ([] ++ pl) _ := hP
              have hD : va_D _ ([] ++ pl) := hD
              refine W.widen (k := 0) (n := 0) (by omega) (by omega) ?_
              refine lv_aload_n hx hb dMH_sign_207 rfl (lv_at hl 2 rfl) ?_
              refine mp_i (cx := []) (wr := []) hP hD hS hA [] [] rfl rfl rfl (by decide) (va_runV (As := []) (rest := []) F (t_MH_fits_2 l g _ T [] pl hO hU clo_nil h0 k_h0) (cwV 0 hts (wg_app (wg_c kw_1897 (wg_c kw_1899 (wg_c ks_78 (wg_c kw_13 wg_n)))) kw_1900) rfl rfl rfl (by decide +kernel) ⟨by decide, by decide⟩) (pp_VT (en_ok g) (ci := 12) (kd := (48, 0)) hK hO k_h0 (nxg clo_nil k_h0 rfl) (fun _ h9 => ko1 h9) hP hD hS hA hE [] rfl rfl rfl) rfl rfl hl.1 rfl (lv_room (Nat.le_of_ble_eq_true rfl)) dMH_sign_208 ⟨by omega, by omega⟩) (fun r54 pl H locs hu34 hP hD hS => ?_)
              obtain ⟨hq34, hO⟩ := hu34
              have hP : va_P g.1 vcl ([] ++ pl) _ := hP
              have hD : va_D _ ([] ++ pl) := hD
              refine W.widen (k := 0) (n := 0) (by omega) (by omega) ?_
              refine lv_if_ne (tgt := 217) hx hb dMH_sign_211 (by decide) (fun h25 => ?_) (fun h25 => ?_)
              · refine lv_aload_n hx hb dMH_sign_217 rfl (lv_at hl 2 rfl) ?_
                refine lv_aload hx hb dMH_sign_218 (lv_at hl 3 rfl) ?_
                refine mp_v (cx := []) (wr := []) hP hD hS hA [] [] rfl rfl rfl (by decide) (va_runV (As := [.ref to]) (rest := []) F (t_MH_written_2 l g _ T [] pl hO hU clo_nil h0 to k_h0 k_to) (cwV 1 hts (wg_app (wg_c kw_1914 (wg_c kw_1916 (wg_c ks_80 (wg_c kw_13 wg_n)))) kw_1917) rfl rfl rfl (by decide +kernel) ⟨by decide, by decide⟩) (pp_VT (en_ok g) (ci := 12) (kd := (48, 0)) hK hO k_h0 (nxg clo_nil k_h0 rfl) (fun _ h9 => ko1 h9) hP hD hS hA hE [] rfl rfl rfl) rfl rfl hl.1 rfl (lv_room (Nat.le_of_ble_eq_true rfl)) dMH_sign_220 ⟨by omega, by omega⟩) (fun  pl H locs hu35 hP hD hS => ?_)
                obtain ⟨hq35, hO⟩ := hu35
                have hP : va_P g.1 vcl ([] ++ pl) _ := hP
                have hD : va_D _ ([] ++ pl) := hD
                refine W.widen (k := 0) (n := 0) (by omega) (by omega) ?_
                refine lv_iload hx hb dMH_sign_223 (lv_at hl 1 rfl) ?_
                exact mp_iret hx hb hr hlk hP hD hS pl ⟨trivial, (hback _ hO)⟩ [] rfl rfl rfl (by omega) (by omega) dMH_sign_225
              · refine lv_goto (tgt := 226) hx hb dMH_sign_214 (by decide) ?_
                refine mi_iinc (k := 1) (x := i21) (d := 1) (y := i21 + 1) (lv' := [(7, .int (nI (i21 + 1))), (8, .int (nI i23)), (0, .ref h0), (6, .ref to)]) hx hb dMH_sign_226 hl rfl (by decide) rfl (by decide) rfl (fun ls hl => ?_)
                refine lv_goto (tgt := 97) hx hb dMH_sign_229 (by decide) ?_
                exact ih21 (i21 + 1) pl ls H locs (by omega) (by omega) (lv_sub hl [0, 2, 3] rfl) hO hP hD hS
            | succ n23 ih23 =>
              intro i23 pl ls H locs hm23  hl hO hP hD hS
              refine lv_iload hx hb dMH_sign_162 (lv_at hl 0 rfl) ?_
              refine lv_aload_n hx hb dMH_sign_164 rfl (lv_at hl 2 rfl) ?_
              refine ty_get (ci := 12) (C := "LatticeKeysModel$Hands") (TT := T_MH) (N := 31) (kd := (48, 0)) hx hb hts (wg_ft i_MH) hown hK hO k_h0 (nxg clo_nil k_h0 rfl) hP (fun _ h9 => h9) rfl 24 (by decide) (hts _ (wg_t kw_1456)) (fun _ h9 => h9) (cd := (1, 0, 8)) rfl dMH_sign_165 (fun v65 hv65 => ?_)
              obtain rfl := (show v65 = .int (nI 8) from hv65)
              refine mi_ge (tgt := 190) hx hb dMH_sign_168 (by decide) (by omega) (by omega) (fun h26 => absurd h26 (by omega)) (fun h26 => ?_)
              refine lv_aload_n hx hb dMH_sign_171 rfl (lv_at hl 2 rfl) ?_
              refine lv_iload hx hb dMH_sign_172 (lv_at hl 0 rfl) ?_
              refine lv_aload_n hx hb dMH_sign_174 rfl (lv_at hl 2 rfl) ?_
              refine ty_get (ci := 12) (C := "LatticeKeysModel$Hands") (TT := T_MH) (N := 31) (kd := (48, 0)) hx hb hts (wg_ft i_MH) hown hK hO k_h0 (nxg clo_nil k_h0 rfl) hP (fun _ h9 => h9) rfl 10 (by decide) (hts _ (wg_t kw_1442)) (fun _ h9 => h9) (cd := (3, 3, 8)) rfl dMH_sign_175 (fun v66 hv66 => ?_)
              obtain ⟨r55, rfl, kr54⟩ := (show ∃ r : Nat, v66 = .ref r ∧ T r = some (3, 8) from hv66)
              refine lv_iload hx hb dMH_sign_178 (lv_at hl 0 rfl) ?_
              refine ty_aald3 hx hb hK hO kr54 (nxg clo_nil kr54 rfl) hP (by omega) (by decide) dMH_sign_180 (fun r56 kr55 => ?_)
              refine mp_v (cx := []) (wr := []) hP hD hS hA [] [] rfl rfl rfl (by decide) (va_runV (As := [.int (nI i23), .ref r56]) (rest := []) F (t_MH_rowBy_2 l g _ T [] pl hO hU clo_nil h0 r56 i23 k_h0 kr55 (by omega)) (cwV 2 hts (wg_app (wg_c kw_1734 (wg_c kw_1736 (wg_c ks_63 (wg_c kw_13 wg_n)))) kw_1737) rfl rfl rfl (by decide +kernel) ⟨by decide, by decide⟩) (pp_VT (en_ok g) (ci := 12) (kd := (48, 0)) hK hO k_h0 (nxg clo_nil k_h0 rfl) (fun _ h9 => ko1 h9) hP hD hS hA hE [] rfl rfl rfl) rfl rfl hl.1 rfl (lv_room (Nat.le_of_ble_eq_true rfl)) dMH_sign_181 ⟨by omega, by omega⟩) (fun  pl H locs hu36 hP hD hS => ?_)
              obtain ⟨hq36, hO⟩ := hu36
              have hP : va_P g.1 vcl ([] ++ pl) _ := hP
              have hD : va_D _ ([] ++ pl) := hD
              refine W.widen (k := 0) (n := 0) (by omega) (by omega) ?_
              refine mi_iinc (k := 0) (x := i23) (d := 1) (y := i23 + 1) (lv' := [(8, .int (nI (i23 + 1))), (7, .int (nI i21)), (0, .ref h0), (6, .ref to)]) hx hb dMH_sign_184 hl rfl (by decide) rfl (by decide) rfl (fun ls hl => ?_)
              refine lv_goto (tgt := 162) hx hb dMH_sign_187 (by decide) ?_
              exact ih23 (i23 + 1) pl ls H locs (by omega) (lv_sub hl [0, 1, 2, 3] rfl) hO hP hD hS
          exact lp23 8 0 pl ls _ _ (by omega) (lv_sub hl [0, 1, 2, 3] rfl) hO hP hD hS
        | succ n22 ih22 =>
          intro i22 pl ls H locs hm22  hl hO hP hD hS
          refine lv_iload hx hb dMH_sign_121 (lv_at hl 0 rfl) ?_
          refine lv_aload_n hx hb dMH_sign_123 rfl (lv_at hl 2 rfl) ?_
          refine ty_get (ci := 12) (C := "LatticeKeysModel$Hands") (TT := T_MH) (N := 31) (kd := (48, 0)) hx hb hts (wg_ft i_MH) hown hK hO k_h0 (nxg clo_nil k_h0 rfl) hP (fun _ h9 => h9) rfl 25 (by decide) (hts _ (wg_t kw_1457)) (fun _ h9 => h9) (cd := (1, 0, 7)) rfl dMH_sign_124 (fun v67 hv67 => ?_)
          obtain rfl := (show v67 = .int (nI 7) from hv67)
          refine mi_ge (tgt := 159) hx hb dMH_sign_127 (by decide) (by omega) (by omega) (fun h27 => absurd h27 (by omega)) (fun h27 => ?_)
          refine lv_aload_n hx hb dMH_sign_130 rfl (lv_at hl 2 rfl) ?_
          refine ty_get (ci := 12) (C := "LatticeKeysModel$Hands") (TT := T_MH) (N := 31) (kd := (48, 0)) hx hb hts (wg_ft i_MH) hown hK hO k_h0 (nxg clo_nil k_h0 rfl) hP (fun _ h9 => h9) rfl 1 (by decide) (hts _ (wg_t kw_1433)) (fun _ h9 => h9) (cd := (3, 22, 0)) rfl dMH_sign_131 (fun v68 hv68 => ?_)
          obtain ⟨r57, rfl, kr56⟩ := (show ∃ r : Nat, v68 = .ref r ∧ T r = some (22, 0) from hv68)
          refine lv_aload_n hx hb dMH_sign_134 rfl (lv_at hl 2 rfl) ?_
          refine ty_get (ci := 12) (C := "LatticeKeysModel$Hands") (TT := T_MH) (N := 31) (kd := (48, 0)) hx hb hts (wg_ft i_MH) hown hK hO k_h0 (nxg clo_nil k_h0 rfl) hP (fun _ h9 => h9) rfl 7 (by decide) (hts _ (wg_t kw_1439)) (fun _ h9 => h9) (cd := (3, 3, 7)) rfl dMH_sign_135 (fun v69 hv69 => ?_)
          obtain ⟨r58, rfl, kr57⟩ := (show ∃ r : Nat, v69 = .ref r ∧ T r = some (3, 7) from hv69)
          refine lv_iload hx hb dMH_sign_138 (lv_at hl 0 rfl) ?_
          refine ty_aald3 hx hb hK hO kr57 (nxg clo_nil kr57 rfl) hP (by omega) (by decide) dMH_sign_140 (fun r59 kr58 => ?_)
          refine lv_aload_n hx hb dMH_sign_141 rfl (lv_at hl 2 rfl) ?_
          refine ty_get (ci := 12) (C := "LatticeKeysModel$Hands") (TT := T_MH) (N := 31) (kd := (48, 0)) hx hb hts (wg_ft i_MH) hown hK hO k_h0 (nxg clo_nil k_h0 rfl) hP (fun _ h9 => h9) rfl 9 (by decide) (hts _ (wg_t kw_1441)) (fun _ h9 => h9) (cd := (3, 3, 7)) rfl dMH_sign_142 (fun v70 hv70 => ?_)
          obtain ⟨r60, rfl, kr59⟩ := (show ∃ r : Nat, v70 = .ref r ∧ T r = some (3, 7) from hv70)
          refine lv_iload hx hb dMH_sign_145 (lv_at hl 0 rfl) ?_
          refine ty_aald3 hx hb hK hO kr59 (nxg clo_nil kr59 rfl) hP (by omega) (by decide) dMH_sign_147 (fun r61 kr60 => ?_)
          refine lv_iconst (v := nI 1) hx hb dMH_sign_148 (by decide) ?_
          refine lv_iconst (v := nI 0) hx hb dMH_sign_149 (by decide) ?_
          refine mp_v (cx := []) (wr := []) hP hD hS hA [] [] rfl rfl rfl (by decide) (va_runV (As := [.ref r59, .ref r61, .int (nI 1), .int (nI 0)]) (rest := []) F (t_MR_forth_22_0 l g _ T [] pl hO hU clo_nil r57 r59 r61 kr56 kr58 kr60) (cwV 4 hts (wg_app (wg_c kw_1733 (wg_c kw_1673 (wg_c kw_1674 (wg_c kw_12 wg_n)))) kw_1675) rfl rfl rfl (by decide +kernel) ⟨by decide, by decide⟩) (pp_VT (en_ok g) (ci := 10) (kd := (22, 0)) hK hO kr56 (nxg clo_nil kr56 rfl) (fun _ h9 => ko1 h9) hP hD hS hA hE [] rfl rfl rfl) rfl rfl hl.1 rfl (lv_room (Nat.le_of_ble_eq_true rfl)) dMH_sign_150 ⟨by omega, by omega⟩) (fun  pl H locs hu37 hP hD hS => ?_)
          obtain ⟨hq37, hO⟩ := hu37
          have hP : va_P g.1 vcl ([] ++ pl) _ := hP
          have hD : va_D _ ([] ++ pl) := hD
          refine W.widen (k := 0) (n := 0) (by omega) (by omega) ?_
          refine mi_iinc (k := 0) (x := i22) (d := 1) (y := i22 + 1) (lv' := [(8, .int (nI (i22 + 1))), (7, .int (nI i21)), (0, .ref h0), (6, .ref to)]) hx hb dMH_sign_153 hl rfl (by decide) rfl (by decide) rfl (fun ls hl => ?_)
          refine lv_goto (tgt := 121) hx hb dMH_sign_156 (by decide) ?_
          exact ih22 (i22 + 1) pl ls H locs (by omega) (lv_sub hl [0, 1, 2, 3] rfl) hO hP hD hS
      exact lp22 7 0 pl ls _ _ (by omega) (lv_sub hl [0, 1, 2, 3] rfl) hO hP hD hS
  exact lp21 (201 - 1) 1 pl ls _ _ (by omega) (by omega) (lv_sub hl [0, 1, 7] rfl) hO hP hD hS
set_option maxHeartbeats 4000000 in
set_option maxRecDepth 100000 in
theorem t_MH_verify_0 (l : Launch) (g : Gd) (sz : Nat) (T0 : Ty) (pl : va_W) (hO : okx g T0 [] pl) (hU : uni T0) (h0 pk b ed : Nat) (cl : Int32) (k_h0 : T0 h0 = some (49, 0)) (k_pk : T0 pk = some (1, 2592)) (k_b : T0 b = some (1, 16384)) (h1 : 2420 ≤ ed) (h3 : ed ≤ 16384)  : Met l y_MH_verify w_MH_verify ({ frames := 5, cells := 0, slots := 0, locals := 124 } : Room) (va_Pc [.ref h0, .int (nI 0), .ref pk, .ref b, .int cl, .int (nI ed)] (pr (en g) g.1 vcl sz ([] ++ pl))) (va_Qi (fun (r : Int32) (u : va_W) => (r = nI 0 ∨ r = nI 1) ∧ okx g T0 [] u) (po g.1 vcl (va_A ([] ++ pl) sz) (fun (u : va_W) => [] ++ u)) (va_A ([] ++ pl) sz)) 0 0 (va_A ([] ++ pl) sz) := by
  refine mc_entry (cc := c_MH_verify) (maxL := 11) (ret := (some .boolean)) (by decide) rfl (Nat.le_of_ble_eq_true rfl) ?_
  intro p e s m args below meth c ls F hr hlk hnm hsz hP hD hE hA hl
  obtain ⟨hx, hb, hml, hown, hts⟩ := id F
  have hK := hE.1
  generalize va_A ([] ++ pl) sz = A at hD hE hA ⊢
  have hS : va_S A s.heap s.heap [] := va_S.rf
  have hl : lv_has ls 11 [(0, .ref h0), (1, .int (nI 0)), (2, .ref pk), (3, .ref b), (4, .int cl), (5, .int (nI ed))] := hl
  refine lv_aload_n hx hb dMH_verify_0 rfl (lv_at hl 0 rfl) ?_
  refine lv_iload_n hx hb dMH_verify_1 rfl (lv_at hl 1 rfl) ?_
  obtain ⟨e21, pl, hP, hD, hk21, hO⟩ := open1 hP hD hO k_h0 (nxg clo_nil k_h0 (p := 11) rfl)
  obtain ⟨fs21, rfl, hf21⟩ := hk21
  obtain ⟨v21, vs21, rfl, hv21, hf22⟩ := fall_cons hf21
  obtain ⟨r21, rfl, kr21⟩ := (show ∃ r : Nat, v21 = .ref r ∧ T0 r = some (20, 0) from hv21)
  obtain ⟨v22, vs22, rfl, hv22, hf23⟩ := fall_cons hf22
  obtain ⟨r22, rfl, kr22⟩ := (show ∃ r : Nat, v22 = .ref r ∧ T0 r = some (22, 0) from hv22)
  obtain ⟨v23, vs23, rfl, hv23, hf24⟩ := fall_cons hf23
  obtain ⟨r23, rfl, kr23⟩ := (show ∃ r : Nat, v23 = .ref r ∧ T0 r = some (3, 64) from hv23)
  obtain ⟨v24, vs24, rfl, hv24, hf25⟩ := fall_cons hf24
  obtain ⟨r24, rfl, kr24⟩ := (show ∃ r : Nat, v24 = .ref r ∧ T0 r = some (3, 7) from hv24)
  obtain ⟨v25, vs25, rfl, hv25, hf26⟩ := fall_cons hf25
  obtain ⟨r25, rfl, kr25⟩ := (show ∃ r : Nat, v25 = .ref r ∧ T0 r = some (3, 8) from hv25)
  obtain ⟨v26, vs26, rfl, hv26, hf27⟩ := fall_cons hf26
  obtain ⟨r26, rfl, kr26⟩ := (show ∃ r : Nat, v26 = .ref r ∧ T0 r = some (3, 8) from hv26)
  obtain ⟨v27, vs27, rfl, hv27, hf28⟩ := fall_cons hf27
  obtain ⟨r27, rfl, kr27⟩ := (show ∃ r : Nat, v27 = .ref r ∧ T0 r = some (3, 8) from hv27)
  obtain ⟨v28, vs28, rfl, hv28, hf29⟩ := fall_cons hf28
  obtain ⟨r28, rfl, kr28⟩ := (show ∃ r : Nat, v28 = .ref r ∧ T0 r = some (3, 7) from hv28)
  obtain ⟨v29, vs29, rfl, hv29, hf30⟩ := fall_cons hf29
  obtain ⟨r29, rfl, kr29⟩ := (show ∃ r : Nat, v29 = .ref r ∧ T0 r = some (3, 7) from hv29)
  obtain ⟨v30, vs30, rfl, hv30, hf31⟩ := fall_cons hf30
  obtain ⟨r30, rfl, kr30⟩ := (show ∃ r : Nat, v30 = .ref r ∧ T0 r = some (3, 7) from hv30)
  obtain ⟨v31, vs31, rfl, hv31, hf32⟩ := fall_cons hf31
  obtain ⟨r31, rfl, kr31⟩ := (show ∃ r : Nat, v31 = .ref r ∧ T0 r = some (3, 8) from hv31)
  obtain ⟨v32, vs32, rfl, hv32, hf33⟩ := fall_cons hf32
  obtain ⟨r32, rfl, kr32⟩ := (show ∃ r : Nat, v32 = .ref r ∧ T0 r = some (3, 8) from hv32)
  obtain ⟨v33, vs33, rfl, hv33, hf34⟩ := fall_cons hf33
  obtain ⟨r33, rfl, kr33⟩ := (show ∃ r : Nat, v33 = .ref r ∧ T0 r = some (0, 256) from hv33)
  obtain ⟨v34, vs34, rfl, hv34, hf35⟩ := fall_cons hf34
  obtain ⟨r34, rfl, kr34⟩ := (show ∃ r : Nat, v34 = .ref r ∧ T0 r = some (0, 256) from hv34)
  obtain ⟨v35, vs35, rfl, hv35, hf36⟩ := fall_cons hf35
  obtain ⟨r35, rfl, kr35⟩ := (show ∃ r : Nat, v35 = .ref r ∧ T0 r = some (0, 256) from hv35)
  obtain ⟨v36, vs36, rfl, hv36, hf37⟩ := fall_cons hf36
  obtain ⟨r36, rfl, kr36⟩ := (show ∃ r : Nat, v36 = .ref r ∧ T0 r = some (2, 256) from hv36)
  obtain ⟨v37, vs37, rfl, hv37, hf38⟩ := fall_cons hf37
  obtain ⟨r37, rfl, kr37⟩ := (show ∃ r : Nat, v37 = .ref r ∧ T0 r = some (1, 128) from hv37)
  obtain ⟨v38, vs38, rfl, hv38, hf39⟩ := fall_cons hf38
  obtain ⟨r38, rfl, kr38⟩ := (show ∃ r : Nat, v38 = .ref r ∧ T0 r = some (1, 64) from hv38)
  obtain ⟨v39, vs39, rfl, hv39, hf40⟩ := fall_cons hf39
  obtain ⟨r39, rfl, kr39⟩ := (show ∃ r : Nat, v39 = .ref r ∧ T0 r = some (1, 64) from hv39)
  obtain ⟨v40, vs40, rfl, hv40, hf41⟩ := fall_cons hf40
  obtain ⟨r40, rfl, kr40⟩ := (show ∃ r : Nat, v40 = .ref r ∧ T0 r = some (1, 640) from hv40)
  obtain ⟨v41, vs41, rfl, hv41, hf42⟩ := fall_cons hf41
  obtain ⟨r41, rfl, kr41⟩ := (show ∃ r : Nat, v41 = .ref r ∧ T0 r = some (1, 64) from hv41)
  obtain ⟨v42, vs42, rfl, hv42, hf43⟩ := fall_cons hf42
  obtain ⟨r42, rfl, kr42⟩ := (show ∃ r : Nat, v42 = .ref r ∧ T0 r = some (1, 64) from hv42)
  obtain ⟨v43, vs43, rfl, hv43, hf44⟩ := fall_cons hf43
  obtain ⟨r43, rfl, kr43⟩ := (show ∃ r : Nat, v43 = .ref r ∧ T0 r = some (1, 64) from hv43)
  obtain ⟨v44, vs44, rfl, hv44, hf45⟩ := fall_cons hf44
  obtain ⟨z21, rfl⟩ := (show ∃ z : Int32, v44 = .int z from hv44)
  obtain ⟨v45, vs45, rfl, hv45, hf46⟩ := fall_cons hf45
  obtain ⟨z22, rfl⟩ := (show ∃ z : Int32, v45 = .int z from hv45)
  obtain ⟨v46, vs46, rfl, hv46, hf47⟩ := fall_cons hf46
  obtain ⟨z23, rfl⟩ := (show ∃ z : Int32, v46 = .int z from hv46)
  obtain ⟨v47, vs47, rfl, hv47, hf48⟩ := fall_cons hf47
  obtain ⟨z24, rfl⟩ := (show ∃ z : Int32, v47 = .int z from hv47)
  obtain ⟨v48, vs48, rfl, hv48, hf49⟩ := fall_cons hf48
  obtain ⟨z25, rfl⟩ := (show ∃ z : Int32, v48 = .int z from hv48)
  obtain ⟨v49, vs49, rfl, hv49, hf50⟩ := fall_cons hf49
  obtain ⟨z26, rfl⟩ := (show ∃ z : Int32, v49 = .int z from hv49)
  obtain ⟨v50, vs50, rfl, hv50, hf51⟩ := fall_cons hf50
  obtain ⟨z27, rfl⟩ := (show ∃ z : Int32, v50 = .int z from hv50)
  obtain ⟨v51, vs51, rfl, hv51, hf52⟩ := fall_cons hf51
  obtain ⟨z28, rfl⟩ := (show ∃ z : Int32, v51 = .int z from hv51)
  obtain rfl := fall_nil hf52
  have hP : va_P g.1 vcl ([(h0, .inr (12, [.ref r21, .ref r22, .ref r23, .ref r24, .ref r25, .ref r26, .ref r27, .ref r28, .ref r29, .ref r30, .ref r31, .ref r32, .ref r33, .ref r34, .ref r35, .ref r36, .ref r37, .ref r38, .ref r39, .ref r40, .ref r41, .ref r42, .ref r43, .int z21, .int z22, .int z23, .int z24, .int z25, .int z26, .int z27, .int z28]))] ++ pl) _ := hP
  have hD : va_D _ ([(h0, .inr (12, [.ref r21, .ref r22, .ref r23, .ref r24, .ref r25, .ref r26, .ref r27, .ref r28, .ref r29, .ref r30, .ref r31, .ref r32, .ref r33, .ref r34, .ref r35, .ref r36, .ref r37, .ref r38, .ref r39, .ref r40, .ref r41, .ref r42, .ref r43, .int z21, .int z22, .int z23, .int z24, .int z25, .int z26, .int z27, .int z28]))] ++ pl) := hD
  refine mp_v (cx := [(h0, .inr (12, [.ref r21, .ref r22, .ref r23, .ref r24, .ref r25, .ref r26, .ref r27, .ref r28, .ref r29, .ref r30, .ref r31, .ref r32, .ref r33, .ref r34, .ref r35, .ref r36, .ref r37, .ref r38, .ref r39, .ref r40, .ref r41, .ref r42, .ref r43, .int z21, .int z22, .int z23, .int z24, .int z25, .int z26, .int z27, .int z28]))]) (wr := []) hP hD hS hA [0] [] rfl rfl rfl (by decide) (va_runV (As := [.int (nI 0)]) (rest := []) F (t_MH_as_0 l g _ T0 (h0 :: []) pl hO hU  h0 r21 r22 r23 r24 r25 r26 r27 r28 r29 r30 r31 r32 r33 r34 r35 r36 r37 r38 r39 r40 r41 r42 r43 z21 z22 z23 z24 z25 z26 z27 z28) (cwV 1 hts (wg_app (wg_c kw_1702 (wg_c kw_1704 (wg_c ks_60 (wg_c kw_13 wg_n)))) kw_1705) rfl rfl rfl (by decide +kernel) ⟨by decide, by decide⟩) (pp_V (en_ok g) (q0 := 0) hK hP hD hS hA hE [0] rfl rfl rfl rfl) rfl rfl hl.1 rfl (lv_room (Nat.le_of_ble_eq_true rfl)) dMH_verify_2 ⟨by omega, by omega⟩) (fun  pl H locs hu21 hP hD hS => ?_)
  obtain ⟨hq21, hO⟩ := hu21
  have hP : va_P g.1 vcl ([(h0, .inr (12, [.ref r21, .ref r22, .ref r23, .ref r24, .ref r25, .ref r26, .ref r27, .ref r28, .ref r29, .ref r30, .ref r31, .ref r32, .ref r33, .ref r34, .ref r35, .ref r36, .ref r37, .ref r38, .ref r39, .ref r40, .ref r41, .ref r42, .ref r43, .int (nI 0), .int (nI 4), .int (nI 4), .int (nI 2), .int (nI 131072), .int (nI 95232), .int (nI 78), .int (nI 32)]))] ++ pl) _ := hP
  have hD : va_D _ ([(h0, .inr (12, [.ref r21, .ref r22, .ref r23, .ref r24, .ref r25, .ref r26, .ref r27, .ref r28, .ref r29, .ref r30, .ref r31, .ref r32, .ref r33, .ref r34, .ref r35, .ref r36, .ref r37, .ref r38, .ref r39, .ref r40, .ref r41, .ref r42, .ref r43, .int (nI 0), .int (nI 4), .int (nI 4), .int (nI 2), .int (nI 131072), .int (nI 95232), .int (nI 78), .int (nI 32)]))] ++ pl) := hD
  refine W.widen (k := 0) (n := 0) (by omega) (by omega) ?_
  have hO := hands_in (j := 0) (e := .inr (12, [.ref r21, .ref r22, .ref r23, .ref r24, .ref r25, .ref r26, .ref r27, .ref r28, .ref r29, .ref r30, .ref r31, .ref r32, .ref r33, .ref r34, .ref r35, .ref r36, .ref r37, .ref r38, .ref r39, .ref r40, .ref r41, .ref r42, .ref r43, .int (nI 0), .int (nI 4), .int (nI 4), .int (nI 2), .int (nI 131072), .int (nI 95232), .int (nI 78), .int (nI 32)])) hO k_h0 ⟨_, rfl, ⟨r21, rfl, kr21⟩, ⟨r22, rfl, kr22⟩, ⟨r23, rfl, kr23⟩, ⟨r24, rfl, kr24⟩, ⟨r25, rfl, kr25⟩, ⟨r26, rfl, kr26⟩, ⟨r27, rfl, kr27⟩, ⟨r28, rfl, kr28⟩, ⟨r29, rfl, kr29⟩, ⟨r30, rfl, kr30⟩, ⟨r31, rfl, kr31⟩, ⟨r32, rfl, kr32⟩, ⟨r33, rfl, kr33⟩, ⟨r34, rfl, kr34⟩, ⟨r35, rfl, kr35⟩, ⟨r36, rfl, kr36⟩, ⟨r37, rfl, kr37⟩, ⟨r38, rfl, kr38⟩, ⟨r39, rfl, kr39⟩, ⟨r40, rfl, kr40⟩, ⟨r41, rfl, kr41⟩, ⟨r42, rfl, kr42⟩, ⟨r43, rfl, kr43⟩, rfl, rfl, rfl, rfl, rfl, rfl, rfl, rfl, trivial⟩
  have hP : va_P g.1 vcl ([] ++ ((h0, .inr (12, [.ref r21, .ref r22, .ref r23, .ref r24, .ref r25, .ref r26, .ref r27, .ref r28, .ref r29, .ref r30, .ref r31, .ref r32, .ref r33, .ref r34, .ref r35, .ref r36, .ref r37, .ref r38, .ref r39, .ref r40, .ref r41, .ref r42, .ref r43, .int (nI 0), .int (nI 4), .int (nI 4), .int (nI 2), .int (nI 131072), .int (nI 95232), .int (nI 78), .int (nI 32)])) :: pl)) _ := hP
  have hD : va_D _ ([] ++ ((h0, .inr (12, [.ref r21, .ref r22, .ref r23, .ref r24, .ref r25, .ref r26, .ref r27, .ref r28, .ref r29, .ref r30, .ref r31, .ref r32, .ref r33, .ref r34, .ref r35, .ref r36, .ref r37, .ref r38, .ref r39, .ref r40, .ref r41, .ref r42, .ref r43, .int (nI 0), .int (nI 4), .int (nI 4), .int (nI 2), .int (nI 131072), .int (nI 95232), .int (nI 78), .int (nI 32)])) :: pl)) := hD
  generalize ((h0, .inr (12, [.ref r21, .ref r22, .ref r23, .ref r24, .ref r25, .ref r26, .ref r27, .ref r28, .ref r29, .ref r30, .ref r31, .ref r32, .ref r33, .ref r34, .ref r35, .ref r36, .ref r37, .ref r38, .ref r39, .ref r40, .ref r41, .ref r42, .ref r43, .int (nI 0), .int (nI 4), .int (nI 4), .int (nI 2), .int (nI 131072), .int (nI 95232), .int (nI 78), .int (nI 32)])) :: pl) = pl at hO hP hD
  have hback : ∀ pl, okx g (tyU T0 h0 (46 + 0, 0)) [] pl → okx g T0 [] pl := fun pl h9 => hands_out k_h0 (hands_wk 0 (by decide)) h9
  have hU := uni_U (a := h0) (k := (46 + 0, 0)) hU rfl
  have k_pk := tyU_k (k := (46 + 0, 0)) k_h0 k_pk (by intro h9; cases h9)
  have k_b := tyU_k (k := (46 + 0, 0)) k_h0 k_b (by intro h9; cases h9)
  have k_h0 : tyU T0 h0 (46 + 0, 0) h0 = some (46 + 0, 0) := tyU_at
  generalize tyU T0 h0 (46 + 0, 0) = T at hO hback hU k_pk k_b k_h0
  refine lv_aload_n hx hb dMH_verify_5 rfl (lv_at hl 0 rfl) ?_
  refine ty_get (ci := 12) (C := "LatticeKeysModel$Hands") (TT := T_MH) (N := 31) (kd := (46, 0)) hx hb hts (wg_ft i_MH) hown hK hO k_h0 (nxg clo_nil k_h0 rfl) hP (fun _ h9 => h9) rfl 23 (by decide) (hts _ (wg_t kw_1455)) (fun _ h9 => h9) (cd := (1, 0, 0)) rfl dMH_verify_6 (fun v52 hv52 => ?_)
  obtain rfl := (show v52 = .int (nI 0) from hv52)
  refine lv_if_ne (tgt := 17) hx hb dMH_verify_9 (by decide) (fun h21 => absurd h21 (by decide)) (fun h21 => ?_)
  refine lv_bipush (v := nI 18) hx hb dMH_verify_12 (by decide) ?_
  refine lv_goto (tgt := 19) hx hb dMH_verify_14 (by decide) ?_
  refine lv_istore (lv' := [(6, .int (nI 18)), (0, .ref h0), (1, .int (nI 0)), (2, .ref pk), (3, .ref b), (4, .int cl), (5, .int (nI ed))]) hx hb dMH_verify_19 hl (by decide) rfl (fun ls hl => ?_)
  refine lv_bipush (v := nI 8) hx hb dMH_verify_21 (by decide) ?_
  refine lv_aload_n hx hb dMH_verify_23 rfl (lv_at hl 1 rfl) ?_
  refine ty_get (ci := 12) (C := "LatticeKeysModel$Hands") (TT := T_MH) (N := 31) (kd := (46, 0)) hx hb hts (wg_ft i_MH) hown hK hO k_h0 (nxg clo_nil k_h0 rfl) hP (fun _ h9 => h9) rfl 30 (by decide) (hts _ (wg_t kw_1462)) (fun _ h9 => h9) (cd := (1, 0, 32)) rfl dMH_verify_24 (fun v53 hv53 => ?_)
  obtain rfl := (show v53 = .int (nI 32) from hv53)
  refine mi_imul hx hb dMH_verify_27 ?_
  refine mi_as (show nI (8 * 32) = nI 256 from rfl) ?_
  refine lv_istore (lv' := [(7, .int (nI 256)), (6, .int (nI 18)), (0, .ref h0), (1, .int (nI 0)), (2, .ref pk), (3, .ref b), (4, .int cl), (5, .int (nI ed))]) hx hb dMH_verify_28 hl (by decide) rfl (fun ls hl => ?_)
  refine lv_iconst (v := nI 1) hx hb dMH_verify_30 (by decide) ?_
  refine lv_istore (lv' := [(8, .int (nI 1)), (7, .int (nI 256)), (6, .int (nI 18)), (0, .ref h0), (1, .int (nI 0)), (2, .ref pk), (3, .ref b), (4, .int cl), (5, .int (nI ed))]) hx hb dMH_verify_31 hl (by decide) rfl (fun ls hl => ?_)
  refine lv_iconst (v := nI 0) hx hb dMH_verify_33 (by decide) ?_
  refine lv_istore (lv' := [(9, .int (nI 0)), (8, .int (nI 1)), (7, .int (nI 256)), (6, .int (nI 18)), (0, .ref h0), (1, .int (nI 0)), (2, .ref pk), (3, .ref b), (4, .int cl), (5, .int (nI ed))]) hx hb dMH_verify_34 hl (by decide) rfl (fun ls hl => ?_)
  have lp21 : ∀ (n21 : Nat) (i21 : Nat) (pl : va_W) (ls : Array Slot) (H : Heap) (locs : List Loc), n21 + i21 = 32 → lv_has ls 11 [(9, .int (nI i21)), (8, .int (nI 1)), (7, .int (nI 256)), (6, .int (nI 18)), (0, .ref h0), (2, .ref pk), (3, .ref b), (4, .int cl), (5, .int (nI ed))] → okx g T [] pl → va_P g.1 vcl ([] ++ pl) H → va_D A ([] ++ pl) → va_S A s.heap H locs → W p l e ({ frames := 5, cells := 0, slots := 0, locals := 124 } : Room) s m args below meth c H locs 0 0 (MQ below (va_Qi (fun (r : Int32) (u : va_W) => (r = nI 0 ∨ r = nI 1) ∧ okx g T0 [] u) (po g.1 vcl A (fun (u : va_W) => [] ++ u)) A) args s 0 0 A) (F0 m 36 ls []) := by
    intro n21
    induction n21 with
    | zero =>
      intro i21 pl ls H locs hm21  hl hO hP hD hS
      refine lv_iload hx hb dMH_verify_36 (lv_at hl 0 rfl) ?_
      refine lv_aload_n hx hb dMH_verify_38 rfl (lv_at hl 4 rfl) ?_
      refine ty_get (ci := 12) (C := "LatticeKeysModel$Hands") (TT := T_MH) (N := 31) (kd := (46, 0)) hx hb hts (wg_ft i_MH) hown hK hO k_h0 (nxg clo_nil k_h0 rfl) hP (fun _ h9 => h9) rfl 30 (by decide) (hts _ (wg_t kw_1462)) (fun _ h9 => h9) (cd := (1, 0, 32)) rfl dMH_verify_39 (fun v54 hv54 => ?_)
      obtain rfl := (show v54 = .int (nI 32) from hv54)
      refine mi_ge (tgt := 62) hx hb dMH_verify_42 (by decide) (by omega) (by omega) (fun h22 => ?_) (fun h22 => absurd h22 (by omega))
      refine lv_iconst (v := nI 0) hx hb dMH_verify_62 (by decide) ?_
      refine lv_istore (lv' := [(9, .int (nI 0)), (8, .int (nI 1)), (7, .int (nI 256)), (6, .int (nI 18)), (0, .ref h0), (2, .ref pk), (3, .ref b), (4, .int cl), (5, .int (nI ed))]) hx hb dMH_verify_63 hl (by decide) rfl (fun ls hl => ?_)
      have lp22 : ∀ (n22 : Nat) (i22 : Nat) (z29 : Int32) (az21 : Nat) (pl : va_W) (ls : Array Slot) (H : Heap) (locs : List Loc), n22 + i22 = 4 → (az21 = 256 + 4608 * i22) → lv_has ls 11 [(9, .int (nI i22)), (8, .int z29), (7, .int (nI az21)), (6, .int (nI 18)), (0, .ref h0), (2, .ref pk), (3, .ref b), (4, .int cl), (5, .int (nI ed))] → okx g T [] pl → va_P g.1 vcl ([] ++ pl) H → va_D A ([] ++ pl) → va_S A s.heap H locs → W p l e ({ frames := 5, cells := 0, slots := 0, locals := 124 } : Room) s m args below meth c H locs 0 0 (MQ below (va_Qi (fun (r : Int32) (u : va_W) => (r = nI 0 ∨ r = nI 1) ∧ okx g T0 [] u) (po g.1 vcl A (fun (u : va_W) => [] ++ u)) A) args s 0 0 A) (F0 m 65 ls []) := by
        intro n22
        induction n22 with
        | zero =>
          intro i22 z29 az21 pl ls H locs hm22 hi21 hl hO hP hD hS
          refine lv_iload hx hb dMH_verify_65 (lv_at hl 0 rfl) ?_
          refine lv_aload_n hx hb dMH_verify_67 rfl (lv_at hl 4 rfl) ?_
          refine ty_get (ci := 12) (C := "LatticeKeysModel$Hands") (TT := T_MH) (N := 31) (kd := (46, 0)) hx hb hts (wg_ft i_MH) hown hK hO k_h0 (nxg clo_nil k_h0 rfl) hP (fun _ h9 => h9) rfl 25 (by decide) (hts _ (wg_t kw_1457)) (fun _ h9 => h9) (cd := (1, 0, 4)) rfl dMH_verify_68 (fun v55 hv55 => ?_)
          obtain rfl := (show v55 = .int (nI 4) from hv55)
          refine mi_ge (tgt := 164) hx hb dMH_verify_71 (by decide) (by omega) (by omega) (fun h23 => ?_) (fun h23 => absurd h23 (by omega))
          refine lv_iload hx hb dMH_verify_164 (lv_at hl 1 rfl) ?_
          refine lv_if_eq (tgt := 182) hx hb dMH_verify_166 (by decide) (fun h24 => ?_) (fun h24 => ?_)
          · refine lv_iconst (v := nI 0) hx hb dMH_verify_182 (by decide) ?_
            exact mp_zret hx hb hr hlk rfl hP hD hS pl ⟨(Or.inl rfl), (hback _ hO)⟩ [] rfl rfl rfl (by omega) (by omega) dMH_verify_183
          · refine lv_aload_n hx hb dMH_verify_169 rfl (lv_at hl 4 rfl) ?_
            refine lv_aload_n hx hb dMH_verify_170 rfl (lv_at hl 6 rfl) ?_
            refine lv_iload hx hb dMH_verify_171 (lv_at hl 2 rfl) ?_
            refine lv_bipush (v := nI 8) hx hb dMH_verify_173 (by decide) ?_
            refine mi_idiv hx hb dMH_verify_175 (by omega) (by omega) (by omega) ?_
            refine mp_i (cx := []) (wr := []) hP hD hS hA [] [] rfl rfl rfl (by decide) (va_runV (As := [.ref b, .int (nI (az21 / 8))]) (rest := []) F (t_MH_readHints_0 l g _ T [] pl hO hU clo_nil h0 b (az21 / 8) k_h0 k_b (by omega)) (cwV 2 hts (wg_app (wg_c kw_1929 (wg_c kw_1931 (wg_c ks_81 (wg_c kw_13 wg_n)))) kw_1932) rfl rfl rfl (by decide +kernel) ⟨by decide, by decide⟩) (pp_VT (en_ok g) (ci := 12) (kd := (46, 0)) hK hO k_h0 (nxg clo_nil k_h0 rfl) (fun _ h9 => ko1 h9) hP hD hS hA hE [] rfl rfl rfl) rfl rfl hl.1 rfl (lv_room (Nat.le_of_ble_eq_true rfl)) dMH_verify_176 ⟨by omega, by omega⟩) (fun r44 pl H locs hu22 hP hD hS => ?_)
            obtain ⟨hq22, hO⟩ := hu22
            have hP : va_P g.1 vcl ([] ++ pl) _ := hP
            have hD : va_D _ ([] ++ pl) := hD
            refine W.widen (k := 0) (n := 0) (by omega) (by omega) ?_
            refine lv_if_ne (tgt := 184) hx hb dMH_verify_179 (by decide) (fun h25 => ?_) (fun h25 => ?_)
            · refine lv_aload_n hx hb dMH_verify_184 rfl (lv_at hl 4 rfl) ?_
              refine ty_get (ci := 12) (C := "LatticeKeysModel$Hands") (TT := T_MH) (N := 31) (kd := (46, 0)) hx hb hts (wg_ft i_MH) hown hK hO k_h0 (nxg clo_nil k_h0 rfl) hP (fun _ h9 => h9) rfl 0 (by decide) (hts _ (wg_t kw_1432)) (fun _ h9 => h9) (cd := (3, 20, 0)) rfl dMH_verify_185 (fun v56 hv56 => ?_)
              obtain ⟨r45, rfl, kr44⟩ := (show ∃ r : Nat, v56 = .ref r ∧ T r = some (20, 0) from hv56)
              obtain ⟨e22, pl, hP, hD, hk22, hO⟩ := open1 hP hD hO kr44 (nxg clo_nil kr44 rfl)
              obtain ⟨am21, am22, am23, am24, am25, rt21, ps21, x21, rfl, km21, km22, km23, km24, km25, hr21, hr22, hr23⟩ := hk22
              obtain ⟨e23, pl, hP, hD, hk23, hO⟩ := open1 hP hD hO km21 (nmc (knd_ne km21 kr44 (by decide)) (nxg clo_nil km21 rfl))
              obtain ⟨f21, rfl⟩ := hk23
              obtain ⟨e24, pl, hP, hD, hk24, hO⟩ := open1 hP hD hO km22 (nmc (knd_ne km22 km21 (by decide)) (nmc (knd_ne km22 kr44 (by decide)) (nxg clo_nil km22 rfl)))
              obtain ⟨f22, rfl⟩ := hk24
              obtain ⟨e25, pl, hP, hD, hk25, hO⟩ := open1 hP hD hO km23 (nmc (knd_ne km23 km22 (by decide)) (nmc (knd_ne km23 km21 (by decide)) (nmc (knd_ne km23 kr44 (by decide)) (nxg clo_nil km23 rfl))))
              obtain ⟨f23, rfl⟩ := hk25
              obtain ⟨e26, pl, hP, hD, hk26, hO⟩ := open1 hP hD hO km24 (nmc (knd_ne km24 km23 (by decide)) (nmc (knd_ne km24 km22 (by decide)) (nmc (knd_ne km24 km21 (by decide)) (nmc (knd_ne km24 kr44 (by decide)) (nxg clo_nil km24 rfl)))))
              obtain ⟨f24, rfl⟩ := hk26
              obtain ⟨e27, pl, hP, hD, hk27, hO⟩ := open1 hP hD hO km25 (nmc (knd_ne km25 km24 (by decide)) (nmc (knd_ne km25 km23 (by decide)) (nmc (knd_ne km25 km22 (by decide)) (nmc (knd_ne km25 km21 (by decide)) (nmc (knd_ne km25 kr44 (by decide)) (nxg clo_nil km25 rfl))))))
              obtain ⟨f25, rfl⟩ := hk27
              have hP : va_P g.1 vcl ([(r45, .inr (9, [.ref am21, .ref am22, .ref am23, .ref am24, .ref am25, .int (nI rt21), .int (nI ps21), .int x21])), (am21, .inl (g.2.1 2, 25, .inr (.inl f21))), (am22, .inl (g.2.1 2, 25, .inr (.inl f22))), (am23, .inl (g.2.1 2, 5, .inr (.inl f23))), (am24, .inl (g.2.1 2, 24, .inr (.inl f24))), (am25, .inl (g.2.1 0, 25, .inl f25))] ++ pl) _ := hP
              have hD : va_D _ ([(r45, .inr (9, [.ref am21, .ref am22, .ref am23, .ref am24, .ref am25, .int (nI rt21), .int (nI ps21), .int x21])), (am21, .inl (g.2.1 2, 25, .inr (.inl f21))), (am22, .inl (g.2.1 2, 25, .inr (.inl f22))), (am23, .inl (g.2.1 2, 5, .inr (.inl f23))), (am24, .inl (g.2.1 2, 24, .inr (.inl f24))), (am25, .inl (g.2.1 0, 25, .inl f25))] ++ pl) := hD
              refine mp_v (cx := [(r45, .inr (9, [.ref am21, .ref am22, .ref am23, .ref am24, .ref am25, .int (nI rt21), .int (nI ps21), .int x21])), (am21, .inl (g.2.1 2, 25, .inr (.inl f21))), (am22, .inl (g.2.1 2, 25, .inr (.inl f22))), (am23, .inl (g.2.1 2, 5, .inr (.inl f23))), (am24, .inl (g.2.1 2, 24, .inr (.inl f24))), (am25, .inl (g.2.1 0, 25, .inl f25))]) (wr := []) hP hD hS hA [0, 1, 2, 3, 4, 5] [] rfl rfl rfl (by decide) (va_runV (As := []) (rest := []) F (t_MS_shake l g _ T (am25 :: (am24 :: (am23 :: (am22 :: (am21 :: (r45 :: [])))))) pl hO hU  r45 am21 am22 am23 am24 am25 rt21 ps21 x21 f21 f22 f23 f24 f25) (cwV 0 hts (wg_app (wg_c kw_1718 (wg_c kw_1661 (wg_c kw_1662 (wg_c kw_10 wg_n)))) kw_1663) rfl rfl rfl (by decide +kernel) ⟨by decide, by decide⟩) (pp_V (en_ok g) (q0 := 0) hK hP hD hS hA hE [0, 1, 2, 3, 4, 5] rfl rfl rfl rfl) rfl rfl hl.1 rfl (lv_room (Nat.le_of_ble_eq_true rfl)) dMH_verify_188 ⟨by omega, by omega⟩) (fun  u21 H locs hu23 hP hD hS => ?_)
              obtain ⟨u22, pl⟩ := u21
              obtain ⟨hq23, hO⟩ := hu23
              obtain ⟨ps22, f26, f27, f28⟩ := u22
              have hP : va_P g.1 vcl ([(r45, .inr (9, [.ref am21, .ref am22, .ref am23, .ref am24, .ref am25, .int (nI 136), .int (nI ps22), .int (nI 31)])), (am21, .inl (g.2.1 2, 25, .inr (.inl f26))), (am22, .inl (g.2.1 2, 25, .inr (.inl f27))), (am23, .inl (g.2.1 2, 5, .inr (.inl f28))), (am24, .inl (g.2.1 2, 24, .inr (.inl f24))), (am25, .inl (g.2.1 0, 25, .inl f25))] ++ pl) _ := hP
              have hD : va_D _ ([(r45, .inr (9, [.ref am21, .ref am22, .ref am23, .ref am24, .ref am25, .int (nI 136), .int (nI ps22), .int (nI 31)])), (am21, .inl (g.2.1 2, 25, .inr (.inl f26))), (am22, .inl (g.2.1 2, 25, .inr (.inl f27))), (am23, .inl (g.2.1 2, 5, .inr (.inl f28))), (am24, .inl (g.2.1 2, 24, .inr (.inl f24))), (am25, .inl (g.2.1 0, 25, .inl f25))] ++ pl) := hD
              have hq23 : ps22 ≤ 136 := hq23
              refine W.widen (k := 0) (n := 0) (by omega) (by omega) ?_
              refine lv_aload_n hx hb dMH_verify_191 rfl (lv_at hl 4 rfl) ?_
              refine ty_get (ci := 12) (C := "LatticeKeysModel$Hands") (TT := T_MH) (N := 31) (kd := (46, 0)) hx hb hts (wg_ft i_MH) hown hK hO k_h0 (nxg (clo_cons (clo_cons (clo_cons (clo_cons (clo_cons (clo_cons clo_nil kr44 (by decide)) km21 (by decide)) km22 (by decide)) km23 (by decide)) km24 (by decide)) km25 (by decide)) k_h0 rfl) hP (fun _ h9 => h9) rfl 0 (by decide) (hts _ (wg_t kw_1432)) (fun _ h9 => h9) (cd := (3, 20, 0)) rfl dMH_verify_192 (fun v57 hv57 => ?_)
              obtain ⟨r46, rfl, kr45⟩ := (show ∃ r : Nat, v57 = .ref r ∧ T r = some (20, 0) from hv57)
              obtain rfl : r45 = r46 := hU _ _ _ (by decide) kr44 kr45
              refine lv_aload_n hx hb dMH_verify_195 rfl (lv_at hl 5 rfl) ?_
              refine lv_iconst (v := nI 0) hx hb dMH_verify_196 (by decide) ?_
              refine lv_aload_n hx hb dMH_verify_197 rfl (lv_at hl 4 rfl) ?_
              refine ty_get (ci := 12) (C := "LatticeKeysModel$Hands") (TT := T_MH) (N := 31) (kd := (46, 0)) hx hb hts (wg_ft i_MH) hown hK hO k_h0 (nxg (clo_cons (clo_cons (clo_cons (clo_cons (clo_cons (clo_cons clo_nil kr44 (by decide)) km21 (by decide)) km22 (by decide)) km23 (by decide)) km24 (by decide)) km25 (by decide)) k_h0 rfl) hP (fun _ h9 => h9) rfl 23 (by decide) (hts _ (wg_t kw_1455)) (fun _ h9 => h9) (cd := (1, 0, 0)) rfl dMH_verify_198 (fun v58 hv58 => ?_)
              obtain rfl := (show v58 = .int (nI 0) from hv58)
              refine mp_i (cx := []) (wr := [(r45, .inr (9, [.ref am21, .ref am22, .ref am23, .ref am24, .ref am25, .int (nI 136), .int (nI ps22), .int (nI 31)])), (am21, .inl (g.2.1 2, 25, .inr (.inl f26))), (am22, .inl (g.2.1 2, 25, .inr (.inl f27))), (am23, .inl (g.2.1 2, 5, .inr (.inl f28))), (am24, .inl (g.2.1 2, 24, .inr (.inl f24))), (am25, .inl (g.2.1 0, 25, .inl f25))]) hP hD hS hA [] [0, 1, 2, 3, 4, 5] rfl rfl rfl (by decide) (va_runS (As := [.int (nI 0)]) (rest := [.int (nI 0), .ref pk, .ref r45]) F (t_MH_openSize_0 l g _ T (am25 :: (am24 :: (am23 :: (am22 :: (am21 :: (r45 :: [])))))) pl hO hU  ) (va_cwS 1 hts (wg_app (wg_c kw_1744 (wg_c kw_1745 (wg_c kw_13 wg_n))) kw_1746) rfl rfl rfl (by decide +kernel) ⟨by decide, by decide⟩) (pp_S (en_ok g) hP hD hS hA hE [] rfl rfl) rfl rfl hl.1 rfl (lv_room (Nat.le_of_ble_eq_true rfl)) dMH_verify_201 ⟨by omega, by omega⟩) (fun r47 pl H locs hu24 hP hD hS => ?_)
              obtain ⟨hq24, hO⟩ := hu24
              have hP : va_P g.1 vcl ([(r45, .inr (9, [.ref am21, .ref am22, .ref am23, .ref am24, .ref am25, .int (nI 136), .int (nI ps22), .int (nI 31)])), (am21, .inl (g.2.1 2, 25, .inr (.inl f26))), (am22, .inl (g.2.1 2, 25, .inr (.inl f27))), (am23, .inl (g.2.1 2, 5, .inr (.inl f28))), (am24, .inl (g.2.1 2, 24, .inr (.inl f24))), (am25, .inl (g.2.1 0, 25, .inl f25))] ++ pl) _ := hP
              have hD : va_D _ ([(r45, .inr (9, [.ref am21, .ref am22, .ref am23, .ref am24, .ref am25, .int (nI 136), .int (nI ps22), .int (nI 31)])), (am21, .inl (g.2.1 2, 25, .inr (.inl f26))), (am22, .inl (g.2.1 2, 25, .inr (.inl f27))), (am23, .inl (g.2.1 2, 5, .inr (.inl f28))), (am24, .inl (g.2.1 2, 24, .inr (.inl f24))), (am25, .inl (g.2.1 0, 25, .inl f25))] ++ pl) := hD
              obtain rfl := hq24
              refine W.widen (k := 0) (n := 0) (by omega) (by omega) ?_
              refine mp_v (cx := [(r45, .inr (9, [.ref am21, .ref am22, .ref am23, .ref am24, .ref am25, .int (nI 136), .int (nI ps22), .int (nI 31)])), (am21, .inl (g.2.1 2, 25, .inr (.inl f26))), (am22, .inl (g.2.1 2, 25, .inr (.inl f27))), (am23, .inl (g.2.1 2, 5, .inr (.inl f28))), (am24, .inl (g.2.1 2, 24, .inr (.inl f24))), (am25, .inl (g.2.1 0, 25, .inl f25))]) (wr := []) hP hD hS hA [0, 1, 2, 3, 4, 5] [] rfl rfl rfl (by decide) (va_runV (As := [.ref pk, .int (nI 0), .int (nI 1312)]) (rest := []) F (t_MS_puts l g _ T (am25 :: (am24 :: (am23 :: (am22 :: (am21 :: (r45 :: [])))))) pl hO hU (clo_cons (clo_cons (clo_cons (clo_cons (clo_cons (clo_cons clo_nil kr44 (by decide)) km21 (by decide)) km22 (by decide)) km23 (by decide)) km24 (by decide)) km25 (by decide)) pk 2592 0 1312 r45 am21 am22 am23 am24 am25 136 ps22 (nI 31) f26 f27 f28 f24 f25 k_pk (by omega) (by omega) (by omega) (by omega)) (cwV 3 hts (wg_app (wg_c kw_1719 (wg_c kw_1612 (wg_c kw_1613 (wg_c kw_10 wg_n)))) kw_1614) rfl rfl rfl (by decide +kernel) ⟨by decide, by decide⟩) (pp_V (en_ok g) (q0 := 0) hK hP hD hS hA hE [0, 1, 2, 3, 4, 5] rfl rfl rfl rfl) rfl rfl hl.1 rfl (lv_room (Nat.le_of_ble_eq_true rfl)) dMH_verify_204 ⟨by omega, by omega⟩) (fun  u23 H locs hu25 hP hD hS => ?_)
              obtain ⟨u24, pl⟩ := u23
              obtain ⟨hq25, hO⟩ := hu25
              obtain ⟨ps23, f29, f30, f31⟩ := u24
              have hP : va_P g.1 vcl ([(r45, .inr (9, [.ref am21, .ref am22, .ref am23, .ref am24, .ref am25, .int (nI 136), .int (nI ps23), .int (nI 31)])), (am21, .inl (g.2.1 2, 25, .inr (.inl f29))), (am22, .inl (g.2.1 2, 25, .inr (.inl f30))), (am23, .inl (g.2.1 2, 5, .inr (.inl f31))), (am24, .inl (g.2.1 2, 24, .inr (.inl f24))), (am25, .inl (g.2.1 0, 25, .inl f25))] ++ pl) _ := hP
              have hD : va_D _ ([(r45, .inr (9, [.ref am21, .ref am22, .ref am23, .ref am24, .ref am25, .int (nI 136), .int (nI ps23), .int (nI 31)])), (am21, .inl (g.2.1 2, 25, .inr (.inl f29))), (am22, .inl (g.2.1 2, 25, .inr (.inl f30))), (am23, .inl (g.2.1 2, 5, .inr (.inl f31))), (am24, .inl (g.2.1 2, 24, .inr (.inl f24))), (am25, .inl (g.2.1 0, 25, .inl f25))] ++ pl) := hD
              have hq25 : ps23 ≤ 136 := hq25
              refine W.widen (k := 0) (n := 0) (by omega) (by omega) ?_
              refine lv_aload_n hx hb dMH_verify_207 rfl (lv_at hl 4 rfl) ?_
              refine ty_get (ci := 12) (C := "LatticeKeysModel$Hands") (TT := T_MH) (N := 31) (kd := (46, 0)) hx hb hts (wg_ft i_MH) hown hK hO k_h0 (nxg (clo_cons (clo_cons (clo_cons (clo_cons (clo_cons (clo_cons clo_nil kr44 (by decide)) km21 (by decide)) km22 (by decide)) km23 (by decide)) km24 (by decide)) km25 (by decide)) k_h0 rfl) hP (fun _ h9 => h9) rfl 0 (by decide) (hts _ (wg_t kw_1432)) (fun _ h9 => h9) (cd := (3, 20, 0)) rfl dMH_verify_208 (fun v59 hv59 => ?_)
              obtain ⟨r48, rfl, kr46⟩ := (show ∃ r : Nat, v59 = .ref r ∧ T r = some (20, 0) from hv59)
              obtain rfl : r45 = r48 := hU _ _ _ (by decide) kr44 kr46
              refine mp_v (cx := [(r45, .inr (9, [.ref am21, .ref am22, .ref am23, .ref am24, .ref am25, .int (nI 136), .int (nI ps23), .int (nI 31)])), (am21, .inl (g.2.1 2, 25, .inr (.inl f29))), (am22, .inl (g.2.1 2, 25, .inr (.inl f30))), (am23, .inl (g.2.1 2, 5, .inr (.inl f31))), (am24, .inl (g.2.1 2, 24, .inr (.inl f24))), (am25, .inl (g.2.1 0, 25, .inl f25))]) (wr := []) hP hD hS hA [0, 1, 2, 3, 4, 5] [] rfl rfl rfl (by decide) (va_runV (As := []) (rest := []) F (t_MS_end l g _ T (am25 :: (am24 :: (am23 :: (am22 :: (am21 :: (r45 :: [])))))) pl hO hU  r45 am21 am22 am23 am24 am25 136 ps23 (nI 31) f29 f30 f31 f24 f25 (by omega) (by omega)) (cwV 0 hts (wg_app (wg_c kw_1721 (wg_c kw_1634 (wg_c kw_1635 (wg_c kw_10 wg_n)))) kw_1636) rfl rfl rfl (by decide +kernel) ⟨by decide, by decide⟩) (pp_V (en_ok g) (q0 := 0) hK hP hD hS hA hE [0, 1, 2, 3, 4, 5] rfl rfl rfl rfl) rfl rfl hl.1 rfl (lv_room (Nat.le_of_ble_eq_true rfl)) dMH_verify_211 ⟨by omega, by omega⟩) (fun  u25 H locs hu26 hP hD hS => ?_)
              obtain ⟨u26, pl⟩ := u25
              obtain ⟨hq26, hO⟩ := hu26
              obtain ⟨ps24, f32, f33, f34⟩ := u26
              have hP : va_P g.1 vcl ([(r45, .inr (9, [.ref am21, .ref am22, .ref am23, .ref am24, .ref am25, .int (nI 136), .int (nI ps24), .int (nI 31)])), (am21, .inl (g.2.1 2, 25, .inr (.inl f32))), (am22, .inl (g.2.1 2, 25, .inr (.inl f33))), (am23, .inl (g.2.1 2, 5, .inr (.inl f34))), (am24, .inl (g.2.1 2, 24, .inr (.inl f24))), (am25, .inl (g.2.1 0, 25, .inl f25))] ++ pl) _ := hP
              have hD : va_D _ ([(r45, .inr (9, [.ref am21, .ref am22, .ref am23, .ref am24, .ref am25, .int (nI 136), .int (nI ps24), .int (nI 31)])), (am21, .inl (g.2.1 2, 25, .inr (.inl f32))), (am22, .inl (g.2.1 2, 25, .inr (.inl f33))), (am23, .inl (g.2.1 2, 5, .inr (.inl f34))), (am24, .inl (g.2.1 2, 24, .inr (.inl f24))), (am25, .inl (g.2.1 0, 25, .inl f25))] ++ pl) := hD
              have hq26 : ps24 ≤ 136 := hq26
              refine W.widen (k := 0) (n := 0) (by omega) (by omega) ?_
              refine lv_aload_n hx hb dMH_verify_214 rfl (lv_at hl 4 rfl) ?_
              refine ty_get (ci := 12) (C := "LatticeKeysModel$Hands") (TT := T_MH) (N := 31) (kd := (46, 0)) hx hb hts (wg_ft i_MH) hown hK hO k_h0 (nxg (clo_cons (clo_cons (clo_cons (clo_cons (clo_cons (clo_cons clo_nil kr44 (by decide)) km21 (by decide)) km22 (by decide)) km23 (by decide)) km24 (by decide)) km25 (by decide)) k_h0 rfl) hP (fun _ h9 => h9) rfl 0 (by decide) (hts _ (wg_t kw_1432)) (fun _ h9 => h9) (cd := (3, 20, 0)) rfl dMH_verify_215 (fun v60 hv60 => ?_)
              obtain ⟨r49, rfl, kr47⟩ := (show ∃ r : Nat, v60 = .ref r ∧ T r = some (20, 0) from hv60)
              obtain rfl : r45 = r49 := hU _ _ _ (by decide) kr44 kr47
              refine lv_aload_n hx hb dMH_verify_218 rfl (lv_at hl 4 rfl) ?_
              refine ty_get (ci := 12) (C := "LatticeKeysModel$Hands") (TT := T_MH) (N := 31) (kd := (46, 0)) hx hb hts (wg_ft i_MH) hown hK hO k_h0 (nxg (clo_cons (clo_cons (clo_cons (clo_cons (clo_cons (clo_cons clo_nil kr44 (by decide)) km21 (by decide)) km22 (by decide)) km23 (by decide)) km24 (by decide)) km25 (by decide)) k_h0 rfl) hP (fun _ h9 => h9) rfl 22 (by decide) (hts _ (wg_t kw_1454)) (fun _ h9 => h9) (cd := (3, 1, 64)) rfl dMH_verify_219 (fun v61 hv61 => ?_)
              obtain ⟨r50, rfl, kr48⟩ := (show ∃ r : Nat, v61 = .ref r ∧ T r = some (1, 64) from hv61)
              refine lv_iconst (v := nI 0) hx hb dMH_verify_222 (by decide) ?_
              refine lv_bipush (v := nI 64) hx hb dMH_verify_223 (by decide) ?_
              refine mp_v (cx := [(r45, .inr (9, [.ref am21, .ref am22, .ref am23, .ref am24, .ref am25, .int (nI 136), .int (nI ps24), .int (nI 31)])), (am21, .inl (g.2.1 2, 25, .inr (.inl f32))), (am22, .inl (g.2.1 2, 25, .inr (.inl f33))), (am23, .inl (g.2.1 2, 5, .inr (.inl f34))), (am24, .inl (g.2.1 2, 24, .inr (.inl f24))), (am25, .inl (g.2.1 0, 25, .inl f25))]) (wr := []) hP hD hS hA [0, 1, 2, 3, 4, 5] [] rfl rfl rfl (by decide) (va_runV (As := [.ref r50, .int (nI 0), .int (nI 64)]) (rest := []) F (t_MS_take l g _ T (am25 :: (am24 :: (am23 :: (am22 :: (am21 :: (r45 :: [])))))) pl hO hU (clo_cons (clo_cons (clo_cons (clo_cons (clo_cons (clo_cons clo_nil kr44 (by decide)) km21 (by decide)) km22 (by decide)) km23 (by decide)) km24 (by decide)) km25 (by decide)) r50 64 0 64 r45 am21 am22 am23 am24 am25 136 ps24 (nI 31) f32 f33 f34 f24 f25 kr48 (by omega) (by omega) (by omega) (by omega)) (cwV 3 hts (wg_app (wg_c kw_1722 (wg_c kw_1638 (wg_c kw_1639 (wg_c kw_10 wg_n)))) kw_1640) rfl rfl rfl (by decide +kernel) ⟨by decide, by decide⟩) (pp_V (en_ok g) (q0 := 0) hK hP hD hS hA hE [0, 1, 2, 3, 4, 5] rfl rfl rfl rfl) rfl rfl hl.1 rfl (lv_room (Nat.le_of_ble_eq_true rfl)) dMH_verify_225 ⟨by omega, by omega⟩) (fun  u27 H locs hu27 hP hD hS => ?_)
              obtain ⟨u28, pl⟩ := u27
              obtain ⟨hq27, hO⟩ := hu27
              obtain ⟨ps25, f35, f36, f37⟩ := u28
              have hP : va_P g.1 vcl ([(r45, .inr (9, [.ref am21, .ref am22, .ref am23, .ref am24, .ref am25, .int (nI 136), .int (nI ps25), .int (nI 31)])), (am21, .inl (g.2.1 2, 25, .inr (.inl f35))), (am22, .inl (g.2.1 2, 25, .inr (.inl f36))), (am23, .inl (g.2.1 2, 5, .inr (.inl f37))), (am24, .inl (g.2.1 2, 24, .inr (.inl f24))), (am25, .inl (g.2.1 0, 25, .inl f25))] ++ pl) _ := hP
              have hD : va_D _ ([(r45, .inr (9, [.ref am21, .ref am22, .ref am23, .ref am24, .ref am25, .int (nI 136), .int (nI ps25), .int (nI 31)])), (am21, .inl (g.2.1 2, 25, .inr (.inl f35))), (am22, .inl (g.2.1 2, 25, .inr (.inl f36))), (am23, .inl (g.2.1 2, 5, .inr (.inl f37))), (am24, .inl (g.2.1 2, 24, .inr (.inl f24))), (am25, .inl (g.2.1 0, 25, .inl f25))] ++ pl) := hD
              have hq27 : ps25 ≤ 136 := hq27
              refine W.widen (k := 0) (n := 0) (by omega) (by omega) ?_
              refine lv_aload_n hx hb dMH_verify_228 rfl (lv_at hl 4 rfl) ?_
              refine lv_aload_n hx hb dMH_verify_229 rfl (lv_at hl 4 rfl) ?_
              refine ty_get (ci := 12) (C := "LatticeKeysModel$Hands") (TT := T_MH) (N := 31) (kd := (46, 0)) hx hb hts (wg_ft i_MH) hown hK hO k_h0 (nxg (clo_cons (clo_cons (clo_cons (clo_cons (clo_cons (clo_cons clo_nil kr44 (by decide)) km21 (by decide)) km22 (by decide)) km23 (by decide)) km24 (by decide)) km25 (by decide)) k_h0 rfl) hP (fun _ h9 => h9) rfl 22 (by decide) (hts _ (wg_t kw_1454)) (fun _ h9 => h9) (cd := (3, 1, 64)) rfl dMH_verify_230 (fun v62 hv62 => ?_)
              obtain ⟨r51, rfl, kr49⟩ := (show ∃ r : Nat, v62 = .ref r ∧ T r = some (1, 64) from hv62)
              refine lv_iconst (v := nI 0) hx hb dMH_verify_233 (by decide) ?_
              refine lv_aload_n hx hb dMH_verify_234 rfl (lv_at hl 6 rfl) ?_
              refine lv_aload_n hx hb dMH_verify_235 rfl (lv_at hl 4 rfl) ?_
              refine ty_get (ci := 12) (C := "LatticeKeysModel$Hands") (TT := T_MH) (N := 31) (kd := (46, 0)) hx hb hts (wg_ft i_MH) hown hK hO k_h0 (nxg (clo_cons (clo_cons (clo_cons (clo_cons (clo_cons (clo_cons clo_nil kr44 (by decide)) km21 (by decide)) km22 (by decide)) km23 (by decide)) km24 (by decide)) km25 (by decide)) k_h0 rfl) hP (fun _ h9 => h9) rfl 23 (by decide) (hts _ (wg_t kw_1455)) (fun _ h9 => h9) (cd := (1, 0, 0)) rfl dMH_verify_236 (fun v63 hv63 => ?_)
              obtain rfl := (show v63 = .int (nI 0) from hv63)
              refine mp_i (cx := []) (wr := [(r45, .inr (9, [.ref am21, .ref am22, .ref am23, .ref am24, .ref am25, .int (nI 136), .int (nI ps25), .int (nI 31)])), (am21, .inl (g.2.1 2, 25, .inr (.inl f35))), (am22, .inl (g.2.1 2, 25, .inr (.inl f36))), (am23, .inl (g.2.1 2, 5, .inr (.inl f37))), (am24, .inl (g.2.1 2, 24, .inr (.inl f24))), (am25, .inl (g.2.1 0, 25, .inl f25))]) hP hD hS hA [] [0, 1, 2, 3, 4, 5] rfl rfl rfl (by decide) (va_runS (As := [.int (nI 0)]) (rest := [.ref b, .int (nI 0), .ref r51, .ref h0]) F (t_MH_markSize_0 l g _ T (am25 :: (am24 :: (am23 :: (am22 :: (am21 :: (r45 :: [])))))) pl hO hU  ) (va_cwS 1 hts (wg_app (wg_c kw_1933 (wg_c kw_1919 (wg_c kw_13 wg_n))) kw_1920) rfl rfl rfl (by decide +kernel) ⟨by decide, by decide⟩) (pp_S (en_ok g) hP hD hS hA hE [] rfl rfl) rfl rfl hl.1 rfl (lv_room (Nat.le_of_ble_eq_true rfl)) dMH_verify_239 ⟨by omega, by omega⟩) (fun r52 pl H locs hu28 hP hD hS => ?_)
              obtain ⟨hq28, hO⟩ := hu28
              have hP : va_P g.1 vcl ([(r45, .inr (9, [.ref am21, .ref am22, .ref am23, .ref am24, .ref am25, .int (nI 136), .int (nI ps25), .int (nI 31)])), (am21, .inl (g.2.1 2, 25, .inr (.inl f35))), (am22, .inl (g.2.1 2, 25, .inr (.inl f36))), (am23, .inl (g.2.1 2, 5, .inr (.inl f37))), (am24, .inl (g.2.1 2, 24, .inr (.inl f24))), (am25, .inl (g.2.1 0, 25, .inl f25))] ++ pl) _ := hP
              have hD : va_D _ ([(r45, .inr (9, [.ref am21, .ref am22, .ref am23, .ref am24, .ref am25, .int (nI 136), .int (nI ps25), .int (nI 31)])), (am21, .inl (g.2.1 2, 25, .inr (.inl f35))), (am22, .inl (g.2.1 2, 25, .inr (.inl f36))), (am23, .inl (g.2.1 2, 5, .inr (.inl f37))), (am24, .inl (g.2.1 2, 24, .inr (.inl f24))), (am25, .inl (g.2.1 0, 25, .inl f25))] ++ pl) := hD
              obtain rfl := hq28
              refine W.widen (k := 0) (n := 0) (by omega) (by omega) ?_
              refine lv_iload hx hb dMH_verify_242 (lv_at hl 7 rfl) ?_
              refine lv_iload hx hb dMH_verify_244 (lv_at hl 8 rfl) ?_
              have hO := close1 (e := .inl (g.2.1 0, 25, .inl f25)) hO km25 ⟨_, rfl⟩
              have hO := close1 (e := .inl (g.2.1 2, 24, .inr (.inl f24))) hO km24 ⟨_, rfl⟩
              have hO := close1 (e := .inl (g.2.1 2, 5, .inr (.inl f37))) hO km23 ⟨_, rfl⟩
              have hO := close1 (e := .inl (g.2.1 2, 25, .inr (.inl f36))) hO km22 ⟨_, rfl⟩
              have hO := close1 (e := .inl (g.2.1 2, 25, .inr (.inl f35))) hO km21 ⟨_, rfl⟩
              have hO := close1 (e := .inr (9, [.ref am21, .ref am22, .ref am23, .ref am24, .ref am25, .int (nI 136), .int (nI ps25), .int (nI 31)])) hO kr44 ⟨_, _, _, _, _, _, _, _, rfl, km21, km22, km23, km24, km25, by omega, by omega, by omega⟩
              have hO : okx g T [] ((r45, .inr (9, [.ref am21, .ref am22, .ref am23, .ref am24, .ref am25, .int (nI 136), .int (nI ps25), .int (nI 31)])) :: (am21, .inl (g.2.1 2, 25, .inr (.inl f35))) :: (am22, .inl (g.2.1 2, 25, .inr (.inl f36))) :: (am23, .inl (g.2.1 2, 5, .inr (.inl f37))) :: (am24, .inl (g.2.1 2, 24, .inr (.inl f24))) :: (am25, .inl (g.2.1 0, 25, .inl f25)) :: pl) := hO
              have hP : va_P g.1 vcl ([] ++ ((r45, .inr (9, [.ref am21, .ref am22, .ref am23, .ref am24, .ref am25, .int (nI 136), .int (nI ps25), .int (nI 31)])) :: (am21, .inl (g.2.1 2, 25, .inr (.inl f35))) :: (am22, .inl (g.2.1 2, 25, .inr (.inl f36))) :: (am23, .inl (g.2.1 2, 5, .inr (.inl f37))) :: (am24, .inl (g.2.1 2, 24, .inr (.inl f24))) :: (am25, .inl (g.2.1 0, 25, .inl f25)) :: pl)) _ := hP
              have hD : va_D _ ([] ++ ((r45, .inr (9, [.ref am21, .ref am22, .ref am23, .ref am24, .ref am25, .int (nI 136), .int (nI ps25), .int (nI 31)])) :: (am21, .inl (g.2.1 2, 25, .inr (.inl f35))) :: (am22, .inl (g.2.1 2, 25, .inr (.inl f36))) :: (am23, .inl (g.2.1 2, 5, .inr (.inl f37))) :: (am24, .inl (g.2.1 2, 24, .inr (.inl f24))) :: (am25, .inl (g.2.1 0, 25, .inl f25)) :: pl)) := hD
              generalize ((r45, .inr (9, [.ref am21, .ref am22, .ref am23, .ref am24, .ref am25, .int (nI 136), .int (nI ps25), .int (nI 31)])) :: (am21, .inl (g.2.1 2, 25, .inr (.inl f35))) :: (am22, .inl (g.2.1 2, 25, .inr (.inl f36))) :: (am23, .inl (g.2.1 2, 5, .inr (.inl f37))) :: (am24, .inl (g.2.1 2, 24, .inr (.inl f24))) :: (am25, .inl (g.2.1 0, 25, .inl f25)) :: pl) = pl at hO hP hD
              refine mp_v (cx := []) (wr := []) hP hD hS hA [] [] rfl rfl rfl (by decide) (va_runV (As := [.ref r51, .int (nI 0), .ref b, .int (nI 2420), .int cl, .int (nI ed)]) (rest := []) F (t_MH_message_0 l g _ T [] pl hO hU clo_nil clo_nil h0 r51 b 64 16384 0 2420 ed cl k_h0 kr49 k_b (by omega) (by omega) (by omega) (by omega) (by omega)) (cwV 6 hts (wg_app (wg_c kw_1868 (wg_c kw_1870 (wg_c ks_71 (wg_c kw_13 wg_n)))) kw_1871) rfl rfl rfl (by decide +kernel) ⟨by decide, by decide⟩) (pp_VT (en_ok g) (ci := 12) (kd := (46, 0)) hK hO k_h0 (nxg clo_nil k_h0 rfl) (fun _ h9 => ko1 h9) hP hD hS hA hE [] rfl rfl rfl) rfl rfl hl.1 rfl (lv_room (Nat.le_of_ble_eq_true rfl)) dMH_verify_246 ⟨by omega, by omega⟩) (fun  pl H locs hu29 hP hD hS => ?_)
              obtain ⟨hq29, hO⟩ := hu29
              have hP : va_P g.1 vcl ([] ++ pl) _ := hP
              have hD : va_D _ ([] ++ pl) := hD
              refine W.widen (k := 0) (n := 0) (by omega) (by omega) ?_
              refine lv_aload_n hx hb dMH_verify_249 rfl (lv_at hl 4 rfl) ?_
              refine lv_aload_n hx hb dMH_verify_250 rfl (lv_at hl 5 rfl) ?_
              refine mp_v (cx := []) (wr := []) hP hD hS hA [] [] rfl rfl rfl (by decide) (va_runV (As := [.ref pk]) (rest := []) F (t_MH_expand_0 l g _ T [] pl hO hU clo_nil clo_nil h0 pk 2592 k_h0 k_pk (by omega) (by omega)) (cwV 1 hts (wg_app (wg_c kw_1723 (wg_c kw_1725 (wg_c ks_61 (wg_c kw_13 wg_n)))) kw_1726) rfl rfl rfl (by decide +kernel) ⟨by decide, by decide⟩) (pp_VT (en_ok g) (ci := 12) (kd := (46, 0)) hK hO k_h0 (nxg clo_nil k_h0 rfl) (fun _ h9 => ko1 h9) hP hD hS hA hE [] rfl rfl rfl) rfl rfl hl.1 rfl (lv_room (Nat.le_of_ble_eq_true rfl)) dMH_verify_251 ⟨by omega, by omega⟩) (fun  pl H locs hu30 hP hD hS => ?_)
              obtain ⟨hq30, hO⟩ := hu30
              have hP : va_P g.1 vcl ([] ++ pl) _ := hP
              have hD : va_D _ ([] ++ pl) := hD
              refine W.widen (k := 0) (n := 0) (by omega) (by omega) ?_
              refine lv_aload_n hx hb dMH_verify_254 rfl (lv_at hl 4 rfl) ?_
              refine lv_aload_n hx hb dMH_verify_255 rfl (lv_at hl 4 rfl) ?_
              refine ty_get (ci := 12) (C := "LatticeKeysModel$Hands") (TT := T_MH) (N := 31) (kd := (46, 0)) hx hb hts (wg_ft i_MH) hown hK hO k_h0 (nxg clo_nil k_h0 rfl) hP (fun _ h9 => h9) rfl 20 (by decide) (hts _ (wg_t kw_1452)) (fun _ h9 => h9) (cd := (3, 1, 64)) rfl dMH_verify_256 (fun v64 hv64 => ?_)
              obtain ⟨r53, rfl, kr50⟩ := (show ∃ r : Nat, v64 = .ref r ∧ T r = some (1, 64) from hv64)
              refine mp_v (cx := []) (wr := []) hP hD hS hA [] [] rfl rfl rfl (by decide) (va_runV (As := [.ref r53]) (rest := []) F (t_MH_ball_0 l g _ T [] pl hO hU clo_nil clo_nil h0 r53 k_h0 kr50) (cwV 1 hts (wg_app (wg_c kw_1893 (wg_c kw_1895 (wg_c ks_77 (wg_c kw_13 wg_n)))) kw_1896) rfl rfl rfl (by decide +kernel) ⟨by decide, by decide⟩) (pp_VT (en_ok g) (ci := 12) (kd := (46, 0)) hK hO k_h0 (nxg clo_nil k_h0 rfl) (fun _ h9 => ko1 h9) hP hD hS hA hE [] rfl rfl rfl) rfl rfl hl.1 rfl (lv_room (Nat.le_of_ble_eq_true rfl)) dMH_verify_259 ⟨by omega, by omega⟩) (fun  pl H locs hu31 hP hD hS => ?_)
              obtain ⟨hq31, hO⟩ := hu31
              have hP : va_P g.1 vcl ([] ++ pl) _ := hP
              have hD : va_D _ ([] ++ pl) := hD
              refine W.widen (k := 0) (n := 0) (by omega) (by omega) ?_
              refine lv_iconst (v := nI 0) hx hb dMH_verify_262 (by decide) ?_
              refine lv_istore (lv' := [(9, .int (nI 0)), (8, .int z29), (7, .int (nI az21)), (6, .int (nI 18)), (0, .ref h0), (2, .ref pk), (3, .ref b), (4, .int cl), (5, .int (nI ed))]) hx hb dMH_verify_263 hl (by decide) rfl (fun ls hl => ?_)
              have lp23 : ∀ (n23 : Nat) (i23 : Nat) (pl : va_W) (ls : Array Slot) (H : Heap) (locs : List Loc), n23 + i23 = 4 → lv_has ls 11 [(9, .int (nI i23)), (0, .ref h0), (2, .ref pk)] → okx g T [] pl → va_P g.1 vcl ([] ++ pl) H → va_D A ([] ++ pl) → va_S A s.heap H locs → W p l e ({ frames := 5, cells := 0, slots := 0, locals := 124 } : Room) s m args below meth c H locs 0 0 (MQ below (va_Qi (fun (r : Int32) (u : va_W) => (r = nI 0 ∨ r = nI 1) ∧ okx g T0 [] u) (po g.1 vcl A (fun (u : va_W) => [] ++ u)) A) args s 0 0 A) (F0 m 265 ls []) := by
                intro n23
                induction n23 with
                | zero =>
                  intro i23 pl ls H locs hm23  hl hO hP hD hS
                  refine lv_iload hx hb dMH_verify_265 (lv_at hl 0 rfl) ?_
                  refine lv_aload_n hx hb dMH_verify_267 rfl (lv_at hl 1 rfl) ?_
                  refine ty_get (ci := 12) (C := "LatticeKeysModel$Hands") (TT := T_MH) (N := 31) (kd := (46, 0)) hx hb hts (wg_ft i_MH) hown hK hO k_h0 (nxg clo_nil k_h0 rfl) hP (fun _ h9 => h9) rfl 25 (by decide) (hts _ (wg_t kw_1457)) (fun _ h9 => h9) (cd := (1, 0, 4)) rfl dMH_verify_268 (fun v65 hv65 => ?_)
                  obtain rfl := (show v65 = .int (nI 4) from hv65)
                  refine mi_ge (tgt := 303) hx hb dMH_verify_271 (by decide) (by omega) (by omega) (fun h26 => ?_) (fun h26 => absurd h26 (by omega))
                  refine lv_iconst (v := nI 0) hx hb dMH_verify_303 (by decide) ?_
                  refine lv_istore (lv' := [(9, .int (nI 0)), (0, .ref h0), (2, .ref pk)]) hx hb dMH_verify_304 hl (by decide) rfl (fun ls hl => ?_)
                  have lp24 : ∀ (n24 : Nat) (i24 : Nat) (pl : va_W) (ls : Array Slot) (H : Heap) (locs : List Loc), n24 + i24 = 4 → lv_has ls 11 [(9, .int (nI i24)), (0, .ref h0), (2, .ref pk)] → okx g T [] pl → va_P g.1 vcl ([] ++ pl) H → va_D A ([] ++ pl) → va_S A s.heap H locs → W p l e ({ frames := 5, cells := 0, slots := 0, locals := 124 } : Room) s m args below meth c H locs 0 0 (MQ below (va_Qi (fun (r : Int32) (u : va_W) => (r = nI 0 ∨ r = nI 1) ∧ okx g T0 [] u) (po g.1 vcl A (fun (u : va_W) => [] ++ u)) A) args s 0 0 A) (F0 m 306 ls []) := by
                    intro n24
                    induction n24 with
                    | zero =>
                      intro i24 pl ls H locs hm24  hl hO hP hD hS
                      refine lv_iload hx hb dMH_verify_306 (lv_at hl 0 rfl) ?_
                      refine lv_aload_n hx hb dMH_verify_308 rfl (lv_at hl 1 rfl) ?_
                      refine ty_get (ci := 12) (C := "LatticeKeysModel$Hands") (TT := T_MH) (N := 31) (kd := (46, 0)) hx hb hts (wg_ft i_MH) hown hK hO k_h0 (nxg clo_nil k_h0 rfl) hP (fun _ h9 => h9) rfl 24 (by decide) (hts _ (wg_t kw_1456)) (fun _ h9 => h9) (cd := (1, 0, 4)) rfl dMH_verify_309 (fun v66 hv66 => ?_)
                      obtain rfl := (show v66 = .int (nI 4) from hv66)
                      refine mi_ge (tgt := 448) hx hb dMH_verify_312 (by decide) (by omega) (by omega) (fun h27 => ?_) (fun h27 => absurd h27 (by omega))
                      refine lv_aload_n hx hb dMH_verify_448 rfl (lv_at hl 1 rfl) ?_
                      refine lv_iconst (v := nI 1) hx hb dMH_verify_449 (by decide) ?_
                      refine lv_aload_n hx hb dMH_verify_450 rfl (lv_at hl 1 rfl) ?_
                      refine ty_get (ci := 12) (C := "LatticeKeysModel$Hands") (TT := T_MH) (N := 31) (kd := (46, 0)) hx hb hts (wg_ft i_MH) hown hK hO k_h0 (nxg clo_nil k_h0 rfl) hP (fun _ h9 => h9) rfl 21 (by decide) (hts _ (wg_t kw_1453)) (fun _ h9 => h9) (cd := (3, 1, 64)) rfl dMH_verify_451 (fun v67 hv67 => ?_)
                      obtain ⟨r54, rfl, kr51⟩ := (show ∃ r : Nat, v67 = .ref r ∧ T r = some (1, 64) from hv67)
                      refine mp_v (cx := []) (wr := []) hP hD hS hA [] [] rfl rfl rfl (by decide) (va_runV (As := [.int (nI 1), .ref r54]) (rest := []) F (t_MH_marked_0 l g _ T [] pl hO hU clo_nil clo_nil h0 r54 (nI 1) k_h0 kr51) (cwV 2 hts (wg_app (wg_c kw_1876 (wg_c kw_1878 (wg_c ks_73 (wg_c kw_13 wg_n)))) kw_1879) rfl rfl rfl (by decide +kernel) ⟨by decide, by decide⟩) (pp_VT (en_ok g) (ci := 12) (kd := (46, 0)) hK hO k_h0 (nxg clo_nil k_h0 rfl) (fun _ h9 => ko1 h9) hP hD hS hA hE [] rfl rfl rfl) rfl rfl hl.1 rfl (lv_room (Nat.le_of_ble_eq_true rfl)) dMH_verify_454 ⟨by omega, by omega⟩) (fun  pl H locs hu32 hP hD hS => ?_)
                      obtain ⟨hq32, hO⟩ := hu32
                      have hP : va_P g.1 vcl ([] ++ pl) _ := hP
                      have hD : va_D _ ([] ++ pl) := hD
                      refine W.widen (k := 0) (n := 0) (by omega) (by omega) ?_
                      refine lv_iconst (v := nI 0) hx hb dMH_verify_457 (by decide) ?_
                      refine lv_istore (lv' := [(9, .int (nI 0)), (0, .ref h0), (2, .ref pk)]) hx hb dMH_verify_458 hl (by decide) rfl (fun ls hl => ?_)
                      have lp25 : ∀ (n25 : Nat) (i25 : Nat) (pl : va_W) (ls : Array Slot) (H : Heap) (locs : List Loc), n25 + i25 = 32 → lv_has ls 11 [(9, .int (nI i25)), (0, .ref h0)] → okx g T [] pl → va_P g.1 vcl ([] ++ pl) H → va_D A ([] ++ pl) → va_S A s.heap H locs → W p l e ({ frames := 5, cells := 0, slots := 0, locals := 124 } : Room) s m args below meth c H locs 0 0 (MQ below (va_Qi (fun (r : Int32) (u : va_W) => (r = nI 0 ∨ r = nI 1) ∧ okx g T0 [] u) (po g.1 vcl A (fun (u : va_W) => [] ++ u)) A) args s 0 0 A) (F0 m 460 ls []) := by
                        intro n25
                        induction n25 with
                        | zero =>
                          intro i25 pl ls H locs hm25  hl hO hP hD hS
                          refine lv_iload hx hb dMH_verify_460 (lv_at hl 0 rfl) ?_
                          refine lv_aload_n hx hb dMH_verify_462 rfl (lv_at hl 1 rfl) ?_
                          refine ty_get (ci := 12) (C := "LatticeKeysModel$Hands") (TT := T_MH) (N := 31) (kd := (46, 0)) hx hb hts (wg_ft i_MH) hown hK hO k_h0 (nxg clo_nil k_h0 rfl) hP (fun _ h9 => h9) rfl 30 (by decide) (hts _ (wg_t kw_1462)) (fun _ h9 => h9) (cd := (1, 0, 32)) rfl dMH_verify_463 (fun v68 hv68 => ?_)
                          obtain rfl := (show v68 = .int (nI 32) from hv68)
                          refine mi_ge (tgt := 494) hx hb dMH_verify_466 (by decide) (by omega) (by omega) (fun h28 => ?_) (fun h28 => absurd h28 (by omega))
                          refine lv_iconst (v := nI 1) hx hb dMH_verify_494 (by decide) ?_
                          exact mp_zret hx hb hr hlk rfl hP hD hS pl ⟨(Or.inr rfl), (hback _ hO)⟩ [] rfl rfl rfl (by omega) (by omega) dMH_verify_495
                        | succ n25 ih25 =>
                          intro i25 pl ls H locs hm25  hl hO hP hD hS
                          refine lv_iload hx hb dMH_verify_460 (lv_at hl 0 rfl) ?_
                          refine lv_aload_n hx hb dMH_verify_462 rfl (lv_at hl 1 rfl) ?_
                          refine ty_get (ci := 12) (C := "LatticeKeysModel$Hands") (TT := T_MH) (N := 31) (kd := (46, 0)) hx hb hts (wg_ft i_MH) hown hK hO k_h0 (nxg clo_nil k_h0 rfl) hP (fun _ h9 => h9) rfl 30 (by decide) (hts _ (wg_t kw_1462)) (fun _ h9 => h9) (cd := (1, 0, 32)) rfl dMH_verify_463 (fun v69 hv69 => ?_)
                          obtain rfl := (show v69 = .int (nI 32) from hv69)
                          refine mi_ge (tgt := 494) hx hb dMH_verify_466 (by decide) (by omega) (by omega) (fun h29 => absurd h29 (by omega)) (fun h29 => ?_)
                          refine lv_aload_n hx hb dMH_verify_469 rfl (lv_at hl 1 rfl) ?_
                          refine ty_get (ci := 12) (C := "LatticeKeysModel$Hands") (TT := T_MH) (N := 31) (kd := (46, 0)) hx hb hts (wg_ft i_MH) hown hK hO k_h0 (nxg clo_nil k_h0 rfl) hP (fun _ h9 => h9) rfl 21 (by decide) (hts _ (wg_t kw_1453)) (fun _ h9 => h9) (cd := (3, 1, 64)) rfl dMH_verify_470 (fun v70 hv70 => ?_)
                          obtain ⟨r55, rfl, kr52⟩ := (show ∃ r : Nat, v70 = .ref r ∧ T r = some (1, 64) from hv70)
                          refine lv_iload hx hb dMH_verify_473 (lv_at hl 0 rfl) ?_
                          refine ty_bald hx hb hK hO kr52 (nxg clo_nil kr52 rfl) hP (vp_in_nI (by omega) (by decide)) dMH_verify_475 (fun z30 => ?_)
                          refine lv_aload_n hx hb dMH_verify_476 rfl (lv_at hl 1 rfl) ?_
                          refine ty_get (ci := 12) (C := "LatticeKeysModel$Hands") (TT := T_MH) (N := 31) (kd := (46, 0)) hx hb hts (wg_ft i_MH) hown hK hO k_h0 (nxg clo_nil k_h0 rfl) hP (fun _ h9 => h9) rfl 20 (by decide) (hts _ (wg_t kw_1452)) (fun _ h9 => h9) (cd := (3, 1, 64)) rfl dMH_verify_477 (fun v71 hv71 => ?_)
                          obtain ⟨r56, rfl, kr53⟩ := (show ∃ r : Nat, v71 = .ref r ∧ T r = some (1, 64) from hv71)
                          refine lv_iload hx hb dMH_verify_480 (lv_at hl 0 rfl) ?_
                          refine ty_bald hx hb hK hO kr53 (nxg clo_nil kr53 rfl) hP (vp_in_nI (by omega) (by decide)) dMH_verify_482 (fun z31 => ?_)
                          refine lv_icmp_eq (tgt := 488) hx hb dMH_verify_483 (by decide) (fun h30 => ?_) (fun h30 => ?_)
                          · refine mi_iinc (k := 0) (x := i25) (d := 1) (y := i25 + 1) (lv' := [(9, .int (nI (i25 + 1))), (0, .ref h0)]) hx hb dMH_verify_488 hl rfl (by decide) rfl (by decide) rfl (fun ls hl => ?_)
                            refine lv_goto (tgt := 460) hx hb dMH_verify_491 (by decide) ?_
                            exact ih25 (i25 + 1) pl ls H locs (by omega) (lv_sub hl [0, 1] rfl) hO hP hD hS
                          · refine lv_iconst (v := nI 0) hx hb dMH_verify_486 (by decide) ?_
                            exact mp_zret hx hb hr hlk rfl hP hD hS pl ⟨(Or.inl rfl), (hback _ hO)⟩ [] rfl rfl rfl (by omega) (by omega) dMH_verify_487
                      exact lp25 32 0 pl ls _ _ (by omega) (lv_sub hl [0, 1] rfl) hO hP hD hS
                    | succ n24 ih24 =>
                      intro i24 pl ls H locs hm24  hl hO hP hD hS
                      refine lv_iload hx hb dMH_verify_306 (lv_at hl 0 rfl) ?_
                      refine lv_aload_n hx hb dMH_verify_308 rfl (lv_at hl 1 rfl) ?_
                      refine ty_get (ci := 12) (C := "LatticeKeysModel$Hands") (TT := T_MH) (N := 31) (kd := (46, 0)) hx hb hts (wg_ft i_MH) hown hK hO k_h0 (nxg clo_nil k_h0 rfl) hP (fun _ h9 => h9) rfl 24 (by decide) (hts _ (wg_t kw_1456)) (fun _ h9 => h9) (cd := (1, 0, 4)) rfl dMH_verify_309 (fun v72 hv72 => ?_)
                      obtain rfl := (show v72 = .int (nI 4) from hv72)
                      refine mi_ge (tgt := 448) hx hb dMH_verify_312 (by decide) (by omega) (by omega) (fun h31 => absurd h31 (by omega)) (fun h31 => ?_)
                      refine lv_aload_n hx hb dMH_verify_315 rfl (lv_at hl 1 rfl) ?_
                      refine lv_iload hx hb dMH_verify_316 (lv_at hl 0 rfl) ?_
                      refine lv_aload_n hx hb dMH_verify_318 rfl (lv_at hl 1 rfl) ?_
                      refine ty_get (ci := 12) (C := "LatticeKeysModel$Hands") (TT := T_MH) (N := 31) (kd := (46, 0)) hx hb hts (wg_ft i_MH) hown hK hO k_h0 (nxg clo_nil k_h0 rfl) hP (fun _ h9 => h9) rfl 10 (by decide) (hts _ (wg_t kw_1442)) (fun _ h9 => h9) (cd := (3, 3, 8)) rfl dMH_verify_319 (fun v73 hv73 => ?_)
                      obtain ⟨r57, rfl, kr54⟩ := (show ∃ r : Nat, v73 = .ref r ∧ T r = some (3, 8) from hv73)
                      refine lv_iload hx hb dMH_verify_322 (lv_at hl 0 rfl) ?_
                      refine ty_aald3 hx hb hK hO kr54 (nxg clo_nil kr54 rfl) hP (by omega) (by decide) dMH_verify_324 (fun r58 kr55 => ?_)
                      refine mp_v (cx := []) (wr := []) hP hD hS hA [] [] rfl rfl rfl (by decide) (va_runV (As := [.int (nI i24), .ref r58]) (rest := []) F (t_MH_rowBy_0 l g _ T [] pl hO hU clo_nil h0 r58 i24 k_h0 kr55 (by omega)) (cwV 2 hts (wg_app (wg_c kw_1734 (wg_c kw_1736 (wg_c ks_63 (wg_c kw_13 wg_n)))) kw_1737) rfl rfl rfl (by decide +kernel) ⟨by decide, by decide⟩) (pp_VT (en_ok g) (ci := 12) (kd := (46, 0)) hK hO k_h0 (nxg clo_nil k_h0 rfl) (fun _ h9 => ko1 h9) hP hD hS hA hE [] rfl rfl rfl) rfl rfl hl.1 rfl (lv_room (Nat.le_of_ble_eq_true rfl)) dMH_verify_325 ⟨by omega, by omega⟩) (fun  pl H locs hu33 hP hD hS => ?_)
                      obtain ⟨hq33, hO⟩ := hu33
                      have hP : va_P g.1 vcl ([] ++ pl) _ := hP
                      have hD : va_D _ ([] ++ pl) := hD
                      refine W.widen (k := 0) (n := 0) (by omega) (by omega) ?_
                      refine lv_iconst (v := nI 0) hx hb dMH_verify_328 (by decide) ?_
                      refine lv_istore (lv' := [(10, .int (nI 0)), (9, .int (nI i24)), (0, .ref h0), (2, .ref pk)]) hx hb dMH_verify_329 hl (by decide) rfl (fun ls hl => ?_)
                      have lp26 : ∀ (n26 : Nat) (i26 : Nat) (pl : va_W) (ls : Array Slot) (H : Heap) (locs : List Loc), n26 + i26 = 256 → lv_has ls 11 [(10, .int (nI i26)), (9, .int (nI i24)), (0, .ref h0), (2, .ref pk)] → okx g T [] pl → va_P g.1 vcl ([] ++ pl) H → va_D A ([] ++ pl) → va_S A s.heap H locs → W p l e ({ frames := 5, cells := 0, slots := 0, locals := 124 } : Room) s m args below meth c H locs 0 0 (MQ below (va_Qi (fun (r : Int32) (u : va_W) => (r = nI 0 ∨ r = nI 1) ∧ okx g T0 [] u) (po g.1 vcl A (fun (u : va_W) => [] ++ u)) A) args s 0 0 A) (F0 m 331 ls []) := by
                        intro n26
                        induction n26 with
                        | zero =>
                          intro i26 pl ls H locs hm26  hl hO hP hD hS
                          refine lv_iload hx hb dMH_verify_331 (lv_at hl 0 rfl) ?_
                          refine lv_sipush (v := nI 256) hx hb dMH_verify_333 (by decide) ?_
                          refine mi_ge (tgt := 380) hx hb dMH_verify_336 (by decide) (by omega) (by omega) (fun h32 => ?_) (fun h32 => absurd h32 (by omega))
                          refine lv_aload_n hx hb dMH_verify_380 rfl (lv_at hl 2 rfl) ?_
                          refine lv_aload_n hx hb dMH_verify_381 rfl (lv_at hl 2 rfl) ?_
                          refine ty_get (ci := 12) (C := "LatticeKeysModel$Hands") (TT := T_MH) (N := 31) (kd := (46, 0)) hx hb hts (wg_ft i_MH) hown hK hO k_h0 (nxg clo_nil k_h0 rfl) hP (fun _ h9 => h9) rfl 6 (by decide) (hts _ (wg_t kw_1438)) (fun _ h9 => h9) (cd := (3, 3, 8)) rfl dMH_verify_382 (fun v74 hv74 => ?_)
                          obtain ⟨r59, rfl, kr56⟩ := (show ∃ r : Nat, v74 = .ref r ∧ T r = some (3, 8) from hv74)
                          refine lv_iload hx hb dMH_verify_385 (lv_at hl 1 rfl) ?_
                          refine ty_aald3 hx hb hK hO kr56 (nxg clo_nil kr56 rfl) hP (by omega) (by decide) dMH_verify_387 (fun r60 kr57 => ?_)
                          refine lv_aload_n hx hb dMH_verify_388 rfl (lv_at hl 2 rfl) ?_
                          refine ty_get (ci := 12) (C := "LatticeKeysModel$Hands") (TT := T_MH) (N := 31) (kd := (46, 0)) hx hb hts (wg_ft i_MH) hown hK hO k_h0 (nxg clo_nil k_h0 rfl) hP (fun _ h9 => h9) rfl 13 (by decide) (hts _ (wg_t kw_1445)) (fun _ h9 => h9) (cd := (3, 0, 256)) rfl dMH_verify_389 (fun v75 hv75 => ?_)
                          obtain ⟨r61, rfl, kr58⟩ := (show ∃ r : Nat, v75 = .ref r ∧ T r = some (0, 256) from hv75)
                          refine mp_v (cx := []) (wr := []) hP hD hS hA [] [] rfl rfl rfl (by decide) (va_runV (As := [.ref r60, .ref r61]) (rest := []) F (t_MH_turned_0 l g _ T [] pl hO hU clo_nil h0 r60 r61 k_h0 kr57 kr58) (cwV 2 hts (wg_app (wg_c kw_1901 (wg_c kw_1903 (wg_c ks_79 (wg_c kw_13 wg_n)))) kw_1904) rfl rfl rfl (by decide +kernel) ⟨by decide, by decide⟩) (pp_VT (en_ok g) (ci := 12) (kd := (46, 0)) hK hO k_h0 (nxg clo_nil k_h0 rfl) (fun _ h9 => ko1 h9) hP hD hS hA hE [] rfl rfl rfl) rfl rfl hl.1 rfl (lv_room (Nat.le_of_ble_eq_true rfl)) dMH_verify_392 ⟨by omega, by omega⟩) (fun  pl H locs hu34 hP hD hS => ?_)
                          obtain ⟨hq34, hO⟩ := hu34
                          have hP : va_P g.1 vcl ([] ++ pl) _ := hP
                          have hD : va_D _ ([] ++ pl) := hD
                          refine W.widen (k := 0) (n := 0) (by omega) (by omega) ?_
                          refine lv_iconst (v := nI 0) hx hb dMH_verify_395 (by decide) ?_
                          refine lv_istore (lv' := [(10, .int (nI 0)), (9, .int (nI i24)), (0, .ref h0), (2, .ref pk)]) hx hb dMH_verify_396 hl (by decide) rfl (fun ls hl => ?_)
                          have lp27 : ∀ (n27 : Nat) (i27 : Nat) (pl : va_W) (ls : Array Slot) (H : Heap) (locs : List Loc), n27 + i27 = 256 → lv_has ls 11 [(10, .int (nI i27)), (9, .int (nI i24)), (0, .ref h0), (2, .ref pk)] → okx g T [] pl → va_P g.1 vcl ([] ++ pl) H → va_D A ([] ++ pl) → va_S A s.heap H locs → W p l e ({ frames := 5, cells := 0, slots := 0, locals := 124 } : Room) s m args below meth c H locs 0 0 (MQ below (va_Qi (fun (r : Int32) (u : va_W) => (r = nI 0 ∨ r = nI 1) ∧ okx g T0 [] u) (po g.1 vcl A (fun (u : va_W) => [] ++ u)) A) args s 0 0 A) (F0 m 398 ls []) := by
                            intro n27
                            induction n27 with
                            | zero =>
                              intro i27 pl ls H locs hm27  hl hO hP hD hS
                              refine lv_iload hx hb dMH_verify_398 (lv_at hl 0 rfl) ?_
                              refine lv_sipush (v := nI 256) hx hb dMH_verify_400 (by decide) ?_
                              refine mi_ge (tgt := 442) hx hb dMH_verify_403 (by decide) (by omega) (by omega) (fun h33 => ?_) (fun h33 => absurd h33 (by omega))
                              refine mi_iinc (k := 1) (x := i24) (d := 1) (y := i24 + 1) (lv' := [(9, .int (nI (i24 + 1))), (10, .int (nI i27)), (0, .ref h0), (2, .ref pk)]) hx hb dMH_verify_442 hl rfl (by decide) rfl (by decide) rfl (fun ls hl => ?_)
                              refine lv_goto (tgt := 306) hx hb dMH_verify_445 (by decide) ?_
                              exact ih24 (i24 + 1) pl ls H locs (by omega) (lv_sub hl [0, 2, 3] rfl) hO hP hD hS
                            | succ n27 ih27 =>
                              intro i27 pl ls H locs hm27  hl hO hP hD hS
                              refine lv_iload hx hb dMH_verify_398 (lv_at hl 0 rfl) ?_
                              refine lv_sipush (v := nI 256) hx hb dMH_verify_400 (by decide) ?_
                              refine mi_ge (tgt := 442) hx hb dMH_verify_403 (by decide) (by omega) (by omega) (fun h34 => absurd h34 (by omega)) (fun h34 => ?_)
                              refine lv_aload_n hx hb dMH_verify_406 rfl (lv_at hl 2 rfl) ?_
                              refine ty_get (ci := 12) (C := "LatticeKeysModel$Hands") (TT := T_MH) (N := 31) (kd := (46, 0)) hx hb hts (wg_ft i_MH) hown hK hO k_h0 (nxg clo_nil k_h0 rfl) hP (fun _ h9 => h9) rfl 10 (by decide) (hts _ (wg_t kw_1442)) (fun _ h9 => h9) (cd := (3, 3, 8)) rfl dMH_verify_407 (fun v76 hv76 => ?_)
                              obtain ⟨r62, rfl, kr59⟩ := (show ∃ r : Nat, v76 = .ref r ∧ T r = some (3, 8) from hv76)
                              refine lv_iload hx hb dMH_verify_410 (lv_at hl 1 rfl) ?_
                              refine ty_aald3 hx hb hK hO kr59 (nxg clo_nil kr59 rfl) hP (by omega) (by decide) dMH_verify_412 (fun r63 kr60 => ?_)
                              refine lv_iload hx hb dMH_verify_413 (lv_at hl 0 rfl) ?_
                              refine lv_aload_n hx hb dMH_verify_415 rfl (lv_at hl 2 rfl) ?_
                              refine ty_get (ci := 12) (C := "LatticeKeysModel$Hands") (TT := T_MH) (N := 31) (kd := (46, 0)) hx hb hts (wg_ft i_MH) hown hK hO k_h0 (nxg clo_nil k_h0 rfl) hP (fun _ h9 => h9) rfl 10 (by decide) (hts _ (wg_t kw_1442)) (fun _ h9 => h9) (cd := (3, 3, 8)) rfl dMH_verify_416 (fun v77 hv77 => ?_)
                              obtain ⟨r64, rfl, kr61⟩ := (show ∃ r : Nat, v77 = .ref r ∧ T r = some (3, 8) from hv77)
                              refine lv_iload hx hb dMH_verify_419 (lv_at hl 1 rfl) ?_
                              refine ty_aald3 hx hb hK hO kr61 (nxg clo_nil kr61 rfl) hP (by omega) (by decide) dMH_verify_421 (fun r65 kr62 => ?_)
                              refine lv_iload hx hb dMH_verify_422 (lv_at hl 0 rfl) ?_
                              refine ty_iald hx hb hK hO kr62 (nxg clo_nil kr62 rfl) hP (vp_in_nI (by omega) (by decide)) dMH_verify_424 (fun z32 => ?_)
                              refine lv_aload_n hx hb dMH_verify_425 rfl (lv_at hl 2 rfl) ?_
                              refine ty_get (ci := 12) (C := "LatticeKeysModel$Hands") (TT := T_MH) (N := 31) (kd := (46, 0)) hx hb hts (wg_ft i_MH) hown hK hO k_h0 (nxg clo_nil k_h0 rfl) hP (fun _ h9 => h9) rfl 13 (by decide) (hts _ (wg_t kw_1445)) (fun _ h9 => h9) (cd := (3, 0, 256)) rfl dMH_verify_426 (fun v78 hv78 => ?_)
                              obtain ⟨r66, rfl, kr63⟩ := (show ∃ r : Nat, v78 = .ref r ∧ T r = some (0, 256) from hv78)
                              refine lv_iload hx hb dMH_verify_429 (lv_at hl 0 rfl) ?_
                              refine ty_iald hx hb hK hO kr63 (nxg clo_nil kr63 rfl) hP (vp_in_nI (by omega) (by decide)) dMH_verify_431 (fun z33 => ?_)
                              refine mp_i (cx := []) (wr := []) hP hD hS hA [] [] rfl rfl rfl (by decide) (va_runS (As := [.int z32, .int z33]) (rest := [.int (nI i27), .ref r63]) F (t_MH_minus l g _ T [] pl hO hU  z32 z33) (va_cwS 2 hts (wg_app (wg_c kw_1865 (wg_c kw_1866 (wg_c kw_13 wg_n))) kw_1867) rfl rfl rfl (by decide +kernel) ⟨by decide, by decide⟩) (pp_S (en_ok g) hP hD hS hA hE [] rfl rfl) rfl rfl hl.1 rfl (lv_room (Nat.le_of_ble_eq_true rfl)) dMH_verify_432 ⟨by omega, by omega⟩) (fun r67 pl H locs hu35 hP hD hS => ?_)
                              obtain ⟨hq35, hO⟩ := hu35
                              have hP : va_P g.1 vcl ([] ++ pl) _ := hP
                              have hD : va_D _ ([] ++ pl) := hD
                              refine W.widen (k := 0) (n := 0) (by omega) (by omega) ?_
                              refine ty_iast hx hb hK hO kr60 (nxg clo_nil kr60 rfl) hP hD hS (vp_in_nI (by omega) (by decide)) dMH_verify_435 (fun pl H locs hO hP hD hS => ?_)
                              refine mi_iinc (k := 0) (x := i27) (d := 1) (y := i27 + 1) (lv' := [(10, .int (nI (i27 + 1))), (9, .int (nI i24)), (0, .ref h0), (2, .ref pk)]) hx hb dMH_verify_436 hl rfl (by decide) rfl (by decide) rfl (fun ls hl => ?_)
                              refine lv_goto (tgt := 398) hx hb dMH_verify_439 (by decide) ?_
                              exact ih27 (i27 + 1) pl ls H locs (by omega) (lv_sub hl [0, 1, 2, 3] rfl) hO hP hD hS
                          exact lp27 256 0 pl ls _ _ (by omega) (lv_sub hl [0, 1, 2, 3] rfl) hO hP hD hS
                        | succ n26 ih26 =>
                          intro i26 pl ls H locs hm26  hl hO hP hD hS
                          refine lv_iload hx hb dMH_verify_331 (lv_at hl 0 rfl) ?_
                          refine lv_sipush (v := nI 256) hx hb dMH_verify_333 (by decide) ?_
                          refine mi_ge (tgt := 380) hx hb dMH_verify_336 (by decide) (by omega) (by omega) (fun h35 => absurd h35 (by omega)) (fun h35 => ?_)
                          refine lv_aload_n hx hb dMH_verify_339 rfl (lv_at hl 2 rfl) ?_
                          refine ty_get (ci := 12) (C := "LatticeKeysModel$Hands") (TT := T_MH) (N := 31) (kd := (46, 0)) hx hb hts (wg_ft i_MH) hown hK hO k_h0 (nxg clo_nil k_h0 rfl) hP (fun _ h9 => h9) rfl 6 (by decide) (hts _ (wg_t kw_1438)) (fun _ h9 => h9) (cd := (3, 3, 8)) rfl dMH_verify_340 (fun v79 hv79 => ?_)
                          obtain ⟨r68, rfl, kr64⟩ := (show ∃ r : Nat, v79 = .ref r ∧ T r = some (3, 8) from hv79)
                          refine lv_iload hx hb dMH_verify_343 (lv_at hl 1 rfl) ?_
                          refine ty_aald3 hx hb hK hO kr64 (nxg clo_nil kr64 rfl) hP (by omega) (by decide) dMH_verify_345 (fun r69 kr65 => ?_)
                          refine lv_iload hx hb dMH_verify_346 (lv_at hl 0 rfl) ?_
                          refine lv_aload_n hx hb dMH_verify_348 rfl (lv_at hl 3 rfl) ?_
                          refine lv_sipush (v := nI 256) hx hb dMH_verify_349 (by decide) ?_
                          refine lv_sipush (v := nI 2560) hx hb dMH_verify_352 (by decide) ?_
                          refine lv_iload hx hb dMH_verify_355 (lv_at hl 1 rfl) ?_
                          refine mi_imul hx hb dMH_verify_357 ?_
                          refine mi_iadd hx hb dMH_verify_358 ?_
                          refine lv_bipush (v := nI 10) hx hb dMH_verify_359 (by decide) ?_
                          refine lv_iload hx hb dMH_verify_361 (lv_at hl 0 rfl) ?_
                          refine mi_imul hx hb dMH_verify_363 ?_
                          refine mi_iadd hx hb dMH_verify_364 ?_
                          refine lv_bipush (v := nI 10) hx hb dMH_verify_365 (by decide) ?_
                          refine mp_i (cx := []) (wr := []) hP hD hS hA [] [] rfl rfl rfl (by decide) (va_runSN (As := [.ref pk, .int (nI ((256 + (2560 * i24)) + (10 * i26))), .int (nI 10)]) (rest := [.int (nI i26), .ref r69]) F (t_M_unpack l g _ T [] pl hO hU clo_nil pk 2592 ((256 + (2560 * i24)) + (10 * i26)) 10 k_pk (by omega) (by omega) (by omega)) ⟨va_cnB 3 hts (wg_in kw_1667) rfl rfl rfl (hE.2.2.2.2.2.2.2.2.2.2) (hts _ (wg_t kw_9)) (by decide +kernel) ⟨by decide, by decide⟩, hts _ (wg_t kw_1666), trivial⟩ (pp_S (en_ok g) hP hD hS hA hE [] rfl rfl) rfl rfl hl.1 rfl (lv_room (Nat.le_of_ble_eq_true rfl)) dMH_verify_367 ⟨by omega, by omega⟩) (fun r70 pl H locs hu36 hP hD hS => ?_)
                          obtain ⟨hq36, hO⟩ := hu36
                          have hP : va_P g.1 vcl ([] ++ pl) _ := hP
                          have hD : va_D _ ([] ++ pl) := hD
                          refine W.widen (k := 0) (n := 0) (by omega) (by omega) ?_
                          refine lv_bipush (v := nI 13) hx hb dMH_verify_370 (by decide) ?_
                          refine lv_ishl hx hb dMH_verify_372 ?_
                          refine mi_any (fun z34 => ?_)
                          refine ty_iast hx hb hK hO kr65 (nxg clo_nil kr65 rfl) hP hD hS (vp_in_nI (by omega) (by decide)) dMH_verify_373 (fun pl H locs hO hP hD hS => ?_)
                          refine mi_iinc (k := 0) (x := i26) (d := 1) (y := i26 + 1) (lv' := [(10, .int (nI (i26 + 1))), (9, .int (nI i24)), (0, .ref h0), (2, .ref pk)]) hx hb dMH_verify_374 hl rfl (by decide) rfl (by decide) rfl (fun ls hl => ?_)
                          refine lv_goto (tgt := 331) hx hb dMH_verify_377 (by decide) ?_
                          exact ih26 (i26 + 1) pl ls H locs (by omega) (lv_sub hl [0, 1, 2, 3] rfl) hO hP hD hS
                      exact lp26 256 0 pl ls _ _ (by omega) (lv_sub hl [0, 1, 2, 3] rfl) hO hP hD hS
                  exact lp24 4 0 pl ls _ _ (by omega) (lv_sub hl [0, 1, 2] rfl) hO hP hD hS
                | succ n23 ih23 =>
                  intro i23 pl ls H locs hm23  hl hO hP hD hS
                  refine lv_iload hx hb dMH_verify_265 (lv_at hl 0 rfl) ?_
                  refine lv_aload_n hx hb dMH_verify_267 rfl (lv_at hl 1 rfl) ?_
                  refine ty_get (ci := 12) (C := "LatticeKeysModel$Hands") (TT := T_MH) (N := 31) (kd := (46, 0)) hx hb hts (wg_ft i_MH) hown hK hO k_h0 (nxg clo_nil k_h0 rfl) hP (fun _ h9 => h9) rfl 25 (by decide) (hts _ (wg_t kw_1457)) (fun _ h9 => h9) (cd := (1, 0, 4)) rfl dMH_verify_268 (fun v80 hv80 => ?_)
                  obtain rfl := (show v80 = .int (nI 4) from hv80)
                  refine mi_ge (tgt := 303) hx hb dMH_verify_271 (by decide) (by omega) (by omega) (fun h36 => absurd h36 (by omega)) (fun h36 => ?_)
                  refine lv_aload_n hx hb dMH_verify_274 rfl (lv_at hl 1 rfl) ?_
                  refine ty_get (ci := 12) (C := "LatticeKeysModel$Hands") (TT := T_MH) (N := 31) (kd := (46, 0)) hx hb hts (wg_ft i_MH) hown hK hO k_h0 (nxg clo_nil k_h0 rfl) hP (fun _ h9 => h9) rfl 1 (by decide) (hts _ (wg_t kw_1433)) (fun _ h9 => h9) (cd := (3, 22, 0)) rfl dMH_verify_275 (fun v81 hv81 => ?_)
                  obtain ⟨r71, rfl, kr66⟩ := (show ∃ r : Nat, v81 = .ref r ∧ T r = some (22, 0) from hv81)
                  refine lv_aload_n hx hb dMH_verify_278 rfl (lv_at hl 1 rfl) ?_
                  refine ty_get (ci := 12) (C := "LatticeKeysModel$Hands") (TT := T_MH) (N := 31) (kd := (46, 0)) hx hb hts (wg_ft i_MH) hown hK hO k_h0 (nxg clo_nil k_h0 rfl) hP (fun _ h9 => h9) rfl 8 (by decide) (hts _ (wg_t kw_1440)) (fun _ h9 => h9) (cd := (3, 3, 7)) rfl dMH_verify_279 (fun v82 hv82 => ?_)
                  obtain ⟨r72, rfl, kr67⟩ := (show ∃ r : Nat, v82 = .ref r ∧ T r = some (3, 7) from hv82)
                  refine lv_iload hx hb dMH_verify_282 (lv_at hl 0 rfl) ?_
                  refine ty_aald3 hx hb hK hO kr67 (nxg clo_nil kr67 rfl) hP (by omega) (by decide) dMH_verify_284 (fun r73 kr68 => ?_)
                  refine lv_aload_n hx hb dMH_verify_285 rfl (lv_at hl 1 rfl) ?_
                  refine ty_get (ci := 12) (C := "LatticeKeysModel$Hands") (TT := T_MH) (N := 31) (kd := (46, 0)) hx hb hts (wg_ft i_MH) hown hK hO k_h0 (nxg clo_nil k_h0 rfl) hP (fun _ h9 => h9) rfl 9 (by decide) (hts _ (wg_t kw_1441)) (fun _ h9 => h9) (cd := (3, 3, 7)) rfl dMH_verify_286 (fun v83 hv83 => ?_)
                  obtain ⟨r74, rfl, kr69⟩ := (show ∃ r : Nat, v83 = .ref r ∧ T r = some (3, 7) from hv83)
                  refine lv_iload hx hb dMH_verify_289 (lv_at hl 0 rfl) ?_
                  refine ty_aald3 hx hb hK hO kr69 (nxg clo_nil kr69 rfl) hP (by omega) (by decide) dMH_verify_291 (fun r75 kr70 => ?_)
                  refine lv_iconst (v := nI 1) hx hb dMH_verify_292 (by decide) ?_
                  refine lv_iconst (v := nI 0) hx hb dMH_verify_293 (by decide) ?_
                  refine mp_v (cx := []) (wr := []) hP hD hS hA [] [] rfl rfl rfl (by decide) (va_runV (As := [.ref r73, .ref r75, .int (nI 1), .int (nI 0)]) (rest := []) F (t_MR_forth_22_0 l g _ T [] pl hO hU clo_nil r71 r73 r75 kr66 kr68 kr70) (cwV 4 hts (wg_app (wg_c kw_1733 (wg_c kw_1673 (wg_c kw_1674 (wg_c kw_12 wg_n)))) kw_1675) rfl rfl rfl (by decide +kernel) ⟨by decide, by decide⟩) (pp_VT (en_ok g) (ci := 10) (kd := (22, 0)) hK hO kr66 (nxg clo_nil kr66 rfl) (fun _ h9 => ko1 h9) hP hD hS hA hE [] rfl rfl rfl) rfl rfl hl.1 rfl (lv_room (Nat.le_of_ble_eq_true rfl)) dMH_verify_294 ⟨by omega, by omega⟩) (fun  pl H locs hu37 hP hD hS => ?_)
                  obtain ⟨hq37, hO⟩ := hu37
                  have hP : va_P g.1 vcl ([] ++ pl) _ := hP
                  have hD : va_D _ ([] ++ pl) := hD
                  refine W.widen (k := 0) (n := 0) (by omega) (by omega) ?_
                  refine mi_iinc (k := 0) (x := i23) (d := 1) (y := i23 + 1) (lv' := [(9, .int (nI (i23 + 1))), (0, .ref h0), (2, .ref pk)]) hx hb dMH_verify_297 hl rfl (by decide) rfl (by decide) rfl (fun ls hl => ?_)
                  refine lv_goto (tgt := 265) hx hb dMH_verify_300 (by decide) ?_
                  exact ih23 (i23 + 1) pl ls H locs (by omega) (lv_sub hl [0, 1, 2] rfl) hO hP hD hS
              exact lp23 4 0 pl ls _ _ (by omega) (lv_sub hl [0, 4, 5] rfl) hO hP hD hS
            · refine lv_iconst (v := nI 0) hx hb dMH_verify_182 (by decide) ?_
              exact mp_zret hx hb hr hlk rfl hP hD hS pl ⟨(Or.inl rfl), (hback _ hO)⟩ [] rfl rfl rfl (by omega) (by omega) dMH_verify_183
        | succ n22 ih22 =>
          intro i22 z29 az21 pl ls H locs hm22 hi21 hl hO hP hD hS
          refine lv_iload hx hb dMH_verify_65 (lv_at hl 0 rfl) ?_
          refine lv_aload_n hx hb dMH_verify_67 rfl (lv_at hl 4 rfl) ?_
          refine ty_get (ci := 12) (C := "LatticeKeysModel$Hands") (TT := T_MH) (N := 31) (kd := (46, 0)) hx hb hts (wg_ft i_MH) hown hK hO k_h0 (nxg clo_nil k_h0 rfl) hP (fun _ h9 => h9) rfl 25 (by decide) (hts _ (wg_t kw_1457)) (fun _ h9 => h9) (cd := (1, 0, 4)) rfl dMH_verify_68 (fun v84 hv84 => ?_)
          obtain rfl := (show v84 = .int (nI 4) from hv84)
          refine mi_ge (tgt := 164) hx hb dMH_verify_71 (by decide) (by omega) (by omega) (fun h37 => absurd h37 (by omega)) (fun h37 => ?_)
          refine lv_iconst (v := nI 0) hx hb dMH_verify_74 (by decide) ?_
          refine lv_istore (lv' := [(10, .int (nI 0)), (9, .int (nI i22)), (8, .int z29), (7, .int (nI az21)), (6, .int (nI 18)), (0, .ref h0), (2, .ref pk), (3, .ref b), (4, .int cl), (5, .int (nI ed))]) hx hb dMH_verify_75 hl (by decide) rfl (fun ls hl => ?_)
          have lp28 : ∀ (n28 : Nat) (i28 : Nat) (z35 : Int32) (az22 : Nat) (pl : va_W) (ls : Array Slot) (H : Heap) (locs : List Loc), n28 + i28 = 256 → (az22 = 256 + 4608 * i22 + 18 * i28) → lv_has ls 11 [(10, .int (nI i28)), (9, .int (nI i22)), (8, .int z35), (7, .int (nI az22)), (6, .int (nI 18)), (0, .ref h0), (2, .ref pk), (3, .ref b), (4, .int cl), (5, .int (nI ed))] → okx g T [] pl → va_P g.1 vcl ([] ++ pl) H → va_D A ([] ++ pl) → va_S A s.heap H locs → W p l e ({ frames := 5, cells := 0, slots := 0, locals := 124 } : Room) s m args below meth c H locs 0 0 (MQ below (va_Qi (fun (r : Int32) (u : va_W) => (r = nI 0 ∨ r = nI 1) ∧ okx g T0 [] u) (po g.1 vcl A (fun (u : va_W) => [] ++ u)) A) args s 0 0 A) (F0 m 77 ls []) := by
            intro n28
            induction n28 with
            | zero =>
              intro i28 z35 az22 pl ls H locs hm28 hi22 hl hO hP hD hS
              refine lv_iload hx hb dMH_verify_77 (lv_at hl 0 rfl) ?_
              refine lv_sipush (v := nI 256) hx hb dMH_verify_79 (by decide) ?_
              refine mi_ge (tgt := 158) hx hb dMH_verify_82 (by decide) (by omega) (by omega) (fun h38 => ?_) (fun h38 => absurd h38 (by omega))
              refine mi_iinc (k := 1) (x := i22) (d := 1) (y := i22 + 1) (lv' := [(9, .int (nI (i22 + 1))), (10, .int (nI i28)), (8, .int z35), (7, .int (nI az22)), (6, .int (nI 18)), (0, .ref h0), (2, .ref pk), (3, .ref b), (4, .int cl), (5, .int (nI ed))]) hx hb dMH_verify_158 hl rfl (by decide) rfl (by decide) rfl (fun ls hl => ?_)
              refine lv_goto (tgt := 65) hx hb dMH_verify_161 (by decide) ?_
              exact ih22 (i22 + 1) z35 az22 pl ls H locs (by omega) (by omega) (lv_sub hl [0, 2, 3, 4, 5, 6, 7, 8, 9] rfl) hO hP hD hS
            | succ n28 ih28 =>
              intro i28 z35 az22 pl ls H locs hm28 hi22 hl hO hP hD hS
              refine lv_iload hx hb dMH_verify_77 (lv_at hl 0 rfl) ?_
              refine lv_sipush (v := nI 256) hx hb dMH_verify_79 (by decide) ?_
              refine mi_ge (tgt := 158) hx hb dMH_verify_82 (by decide) (by omega) (by omega) (fun h39 => absurd h39 (by omega)) (fun h39 => ?_)
              refine lv_aload_n hx hb dMH_verify_85 rfl (lv_at hl 5 rfl) ?_
              refine ty_get (ci := 12) (C := "LatticeKeysModel$Hands") (TT := T_MH) (N := 31) (kd := (46, 0)) hx hb hts (wg_ft i_MH) hown hK hO k_h0 (nxg clo_nil k_h0 rfl) hP (fun _ h9 => h9) rfl 8 (by decide) (hts _ (wg_t kw_1440)) (fun _ h9 => h9) (cd := (3, 3, 7)) rfl dMH_verify_86 (fun v85 hv85 => ?_)
              obtain ⟨r76, rfl, kr71⟩ := (show ∃ r : Nat, v85 = .ref r ∧ T r = some (3, 7) from hv85)
              refine lv_iload hx hb dMH_verify_89 (lv_at hl 1 rfl) ?_
              refine ty_aald3 hx hb hK hO kr71 (nxg clo_nil kr71 rfl) hP (by omega) (by decide) dMH_verify_91 (fun r77 kr72 => ?_)
              refine lv_iload hx hb dMH_verify_92 (lv_at hl 0 rfl) ?_
              refine lv_aload_n hx hb dMH_verify_94 rfl (lv_at hl 5 rfl) ?_
              refine ty_get (ci := 12) (C := "LatticeKeysModel$Hands") (TT := T_MH) (N := 31) (kd := (46, 0)) hx hb hts (wg_ft i_MH) hown hK hO k_h0 (nxg clo_nil k_h0 rfl) hP (fun _ h9 => h9) rfl 27 (by decide) (hts _ (wg_t kw_1459)) (fun _ h9 => h9) (cd := (1, 0, 131072)) rfl dMH_verify_95 (fun v86 hv86 => ?_)
              obtain rfl := (show v86 = .int (nI 131072) from hv86)
              refine lv_aload_n hx hb dMH_verify_98 rfl (lv_at hl 7 rfl) ?_
              refine lv_iload hx hb dMH_verify_99 (lv_at hl 3 rfl) ?_
              refine lv_iload hx hb dMH_verify_101 (lv_at hl 4 rfl) ?_
              refine mp_i (cx := []) (wr := []) hP hD hS hA [] [] rfl rfl rfl (by decide) (va_runSN (As := [.ref b, .int (nI az22), .int (nI 18)]) (rest := [.int (nI 131072), .int (nI i28), .ref r77]) F (t_M_unpack l g _ T [] pl hO hU clo_nil b 16384 az22 18 k_b (by omega) (by omega) (by omega)) ⟨va_cnB 3 hts (wg_in kw_1667) rfl rfl rfl (hE.2.2.2.2.2.2.2.2.2.2) (hts _ (wg_t kw_9)) (by decide +kernel) ⟨by decide, by decide⟩, hts _ (wg_t kw_1666), trivial⟩ (pp_S (en_ok g) hP hD hS hA hE [] rfl rfl) rfl rfl hl.1 rfl (lv_room (Nat.le_of_ble_eq_true rfl)) dMH_verify_103 ⟨by omega, by omega⟩) (fun r78 pl H locs hu38 hP hD hS => ?_)
              obtain ⟨hq38, hO⟩ := hu38
              have hP : va_P g.1 vcl ([] ++ pl) _ := hP
              have hD : va_D _ ([] ++ pl) := hD
              refine W.widen (k := 0) (n := 0) (by omega) (by omega) ?_
              refine mp_i (cx := []) (wr := []) hP hD hS hA [] [] rfl rfl rfl (by decide) (va_runS (As := [.int (nI 131072), .int r78]) (rest := [.int (nI i28), .ref r77]) F (t_MH_minus l g _ T [] pl hO hU  (nI 131072) r78) (va_cwS 2 hts (wg_app (wg_c kw_1865 (wg_c kw_1866 (wg_c kw_13 wg_n))) kw_1867) rfl rfl rfl (by decide +kernel) ⟨by decide, by decide⟩) (pp_S (en_ok g) hP hD hS hA hE [] rfl rfl) rfl rfl hl.1 rfl (lv_room (Nat.le_of_ble_eq_true rfl)) dMH_verify_106 ⟨by omega, by omega⟩) (fun r79 pl H locs hu39 hP hD hS => ?_)
              obtain ⟨hq39, hO⟩ := hu39
              have hP : va_P g.1 vcl ([] ++ pl) _ := hP
              have hD : va_D _ ([] ++ pl) := hD
              refine W.widen (k := 0) (n := 0) (by omega) (by omega) ?_
              refine ty_iast hx hb hK hO kr72 (nxg clo_nil kr72 rfl) hP hD hS (vp_in_nI (by omega) (by decide)) dMH_verify_109 (fun pl H locs hO hP hD hS => ?_)
              refine lv_iload hx hb dMH_verify_110 (lv_at hl 2 rfl) ?_
              refine lv_aload_n hx hb dMH_verify_112 rfl (lv_at hl 5 rfl) ?_
              refine ty_get (ci := 12) (C := "LatticeKeysModel$Hands") (TT := T_MH) (N := 31) (kd := (46, 0)) hx hb hts (wg_ft i_MH) hown hK hO k_h0 (nxg clo_nil k_h0 rfl) hP (fun _ h9 => h9) rfl 8 (by decide) (hts _ (wg_t kw_1440)) (fun _ h9 => h9) (cd := (3, 3, 7)) rfl dMH_verify_113 (fun v87 hv87 => ?_)
              obtain ⟨r80, rfl, kr73⟩ := (show ∃ r : Nat, v87 = .ref r ∧ T r = some (3, 7) from hv87)
              refine lv_iload hx hb dMH_verify_116 (lv_at hl 1 rfl) ?_
              refine ty_aald3 hx hb hK hO kr73 (nxg clo_nil kr73 rfl) hP (by omega) (by decide) dMH_verify_118 (fun r81 kr74 => ?_)
              refine lv_iload hx hb dMH_verify_119 (lv_at hl 0 rfl) ?_
              refine ty_iald hx hb hK hO kr74 (nxg clo_nil kr74 rfl) hP (vp_in_nI (by omega) (by decide)) dMH_verify_121 (fun z36 => ?_)
              refine mp_i (cx := []) (wr := []) hP hD hS hA [] [] rfl rfl rfl (by decide) (va_runS (As := [.int z36]) (rest := [.int z35]) F (t_MH_norm l g _ T [] pl hO hU  z36) (va_cwS 1 hts (wg_app (wg_c kw_1905 (wg_c kw_1906 (wg_c kw_13 wg_n))) kw_1907) rfl rfl rfl (by decide +kernel) ⟨by decide, by decide⟩) (pp_S (en_ok g) hP hD hS hA hE [] rfl rfl) rfl rfl hl.1 rfl (lv_room (Nat.le_of_ble_eq_true rfl)) dMH_verify_122 ⟨by omega, by omega⟩) (fun r82 pl H locs hu40 hP hD hS => ?_)
              obtain ⟨hq40, hO⟩ := hu40
              have hP : va_P g.1 vcl ([] ++ pl) _ := hP
              have hD : va_D _ ([] ++ pl) := hD
              refine W.widen (k := 0) (n := 0) (by omega) (by omega) ?_
              refine lv_aload_n hx hb dMH_verify_125 rfl (lv_at hl 5 rfl) ?_
              refine ty_get (ci := 12) (C := "LatticeKeysModel$Hands") (TT := T_MH) (N := 31) (kd := (46, 0)) hx hb hts (wg_ft i_MH) hown hK hO k_h0 (nxg clo_nil k_h0 rfl) hP (fun _ h9 => h9) rfl 27 (by decide) (hts _ (wg_t kw_1459)) (fun _ h9 => h9) (cd := (1, 0, 131072)) rfl dMH_verify_126 (fun v88 hv88 => ?_)
              obtain rfl := (show v88 = .int (nI 131072) from hv88)
              refine lv_aload_n hx hb dMH_verify_129 rfl (lv_at hl 5 rfl) ?_
              refine ty_get (ci := 12) (C := "LatticeKeysModel$Hands") (TT := T_MH) (N := 31) (kd := (46, 0)) hx hb hts (wg_ft i_MH) hown hK hO k_h0 (nxg clo_nil k_h0 rfl) hP (fun _ h9 => h9) rfl 29 (by decide) (hts _ (wg_t kw_1461)) (fun _ h9 => h9) (cd := (1, 0, 78)) rfl dMH_verify_130 (fun v89 hv89 => ?_)
              obtain rfl := (show v89 = .int (nI 78) from hv89)
              refine mi_isub hx hb dMH_verify_133 (by omega) ?_
              refine mi_as (show nI (131072 - 78) = nI 130994 from rfl) ?_
              refine lv_icmp_ge (tgt := 141) hx hb dMH_verify_134 (by decide) (fun h40 => ?_) (fun h40 => ?_)
              · refine lv_iconst (v := nI 0) hx hb dMH_verify_141 (by decide) ?_
                refine lv_iand hx hb dMH_verify_142 ?_
                refine mi_any (fun z37 => ?_)
                refine lv_istore (lv' := [(8, .int z37), (10, .int (nI i28)), (9, .int (nI i22)), (7, .int (nI az22)), (6, .int (nI 18)), (0, .ref h0), (2, .ref pk), (3, .ref b), (4, .int cl), (5, .int (nI ed))]) hx hb dMH_verify_143 hl (by decide) rfl (fun ls hl => ?_)
                refine lv_iload hx hb dMH_verify_145 (lv_at hl 3 rfl) ?_
                refine lv_iload hx hb dMH_verify_147 (lv_at hl 4 rfl) ?_
                refine mi_iadd hx hb dMH_verify_149 ?_
                refine lv_istore (lv' := [(7, .int (nI (az22 + 18))), (8, .int z37), (10, .int (nI i28)), (9, .int (nI i22)), (6, .int (nI 18)), (0, .ref h0), (2, .ref pk), (3, .ref b), (4, .int cl), (5, .int (nI ed))]) hx hb dMH_verify_150 hl (by decide) rfl (fun ls hl => ?_)
                refine mi_iinc (k := 2) (x := i28) (d := 1) (y := i28 + 1) (lv' := [(10, .int (nI (i28 + 1))), (7, .int (nI (az22 + 18))), (8, .int z37), (9, .int (nI i22)), (6, .int (nI 18)), (0, .ref h0), (2, .ref pk), (3, .ref b), (4, .int cl), (5, .int (nI ed))]) hx hb dMH_verify_152 hl rfl (by decide) rfl (by decide) rfl (fun ls hl => ?_)
                refine lv_goto (tgt := 77) hx hb dMH_verify_155 (by decide) ?_
                exact ih28 (i28 + 1) z37 (az22 + 18) pl ls H locs (by omega) (by omega) (lv_sub hl [0, 3, 2, 1, 4, 5, 6, 7, 8, 9] rfl) hO hP hD hS
              · refine lv_iconst (v := nI 1) hx hb dMH_verify_137 (by decide) ?_
                refine lv_goto (tgt := 142) hx hb dMH_verify_138 (by decide) ?_
                refine mi_iand hx hb 1 dMH_verify_142 (by decide) (fun z38 hz21 => ?_)
                have hz21 : z38 < 2 := hz21
                refine lv_istore (lv' := [(8, .int (nI z38)), (10, .int (nI i28)), (9, .int (nI i22)), (7, .int (nI az22)), (6, .int (nI 18)), (0, .ref h0), (2, .ref pk), (3, .ref b), (4, .int cl), (5, .int (nI ed))]) hx hb dMH_verify_143 hl (by decide) rfl (fun ls hl => ?_)
                refine lv_iload hx hb dMH_verify_145 (lv_at hl 3 rfl) ?_
                refine lv_iload hx hb dMH_verify_147 (lv_at hl 4 rfl) ?_
                refine mi_iadd hx hb dMH_verify_149 ?_
                refine lv_istore (lv' := [(7, .int (nI (az22 + 18))), (8, .int (nI z38)), (10, .int (nI i28)), (9, .int (nI i22)), (6, .int (nI 18)), (0, .ref h0), (2, .ref pk), (3, .ref b), (4, .int cl), (5, .int (nI ed))]) hx hb dMH_verify_150 hl (by decide) rfl (fun ls hl => ?_)
                refine mi_iinc (k := 2) (x := i28) (d := 1) (y := i28 + 1) (lv' := [(10, .int (nI (i28 + 1))), (7, .int (nI (az22 + 18))), (8, .int (nI z38)), (9, .int (nI i22)), (6, .int (nI 18)), (0, .ref h0), (2, .ref pk), (3, .ref b), (4, .int cl), (5, .int (nI ed))]) hx hb dMH_verify_152 hl rfl (by decide) rfl (by decide) rfl (fun ls hl => ?_)
                refine lv_goto (tgt := 77) hx hb dMH_verify_155 (by decide) ?_
                exact ih28 (i28 + 1) (nI z38) (az22 + 18) pl ls H locs (by omega) (by omega) (lv_sub hl [0, 3, 2, 1, 4, 5, 6, 7, 8, 9] rfl) hO hP hD hS
          exact lp28 256 0 z29 az21 pl ls _ _ (by omega) (by omega) (lv_sub hl [0, 1, 2, 3, 4, 5, 6, 7, 8, 9] rfl) hO hP hD hS
      exact lp22 4 0 (nI 1) 256 pl ls _ _ (by omega) (by omega) (lv_sub hl [0, 1, 2, 3, 4, 5, 6, 7, 8] rfl) hO hP hD hS
    | succ n21 ih21 =>
      intro i21 pl ls H locs hm21  hl hO hP hD hS
      refine lv_iload hx hb dMH_verify_36 (lv_at hl 0 rfl) ?_
      refine lv_aload_n hx hb dMH_verify_38 rfl (lv_at hl 4 rfl) ?_
      refine ty_get (ci := 12) (C := "LatticeKeysModel$Hands") (TT := T_MH) (N := 31) (kd := (46, 0)) hx hb hts (wg_ft i_MH) hown hK hO k_h0 (nxg clo_nil k_h0 rfl) hP (fun _ h9 => h9) rfl 30 (by decide) (hts _ (wg_t kw_1462)) (fun _ h9 => h9) (cd := (1, 0, 32)) rfl dMH_verify_39 (fun v90 hv90 => ?_)
      obtain rfl := (show v90 = .int (nI 32) from hv90)
      refine mi_ge (tgt := 62) hx hb dMH_verify_42 (by decide) (by omega) (by omega) (fun h41 => absurd h41 (by omega)) (fun h41 => ?_)
      refine lv_aload_n hx hb dMH_verify_45 rfl (lv_at hl 4 rfl) ?_
      refine ty_get (ci := 12) (C := "LatticeKeysModel$Hands") (TT := T_MH) (N := 31) (kd := (46, 0)) hx hb hts (wg_ft i_MH) hown hK hO k_h0 (nxg clo_nil k_h0 rfl) hP (fun _ h9 => h9) rfl 20 (by decide) (hts _ (wg_t kw_1452)) (fun _ h9 => h9) (cd := (3, 1, 64)) rfl dMH_verify_46 (fun v91 hv91 => ?_)
      obtain ⟨r83, rfl, kr75⟩ := (show ∃ r : Nat, v91 = .ref r ∧ T r = some (1, 64) from hv91)
      refine lv_iload hx hb dMH_verify_49 (lv_at hl 0 rfl) ?_
      refine lv_aload_n hx hb dMH_verify_51 rfl (lv_at hl 6 rfl) ?_
      refine lv_iload hx hb dMH_verify_52 (lv_at hl 0 rfl) ?_
      refine ty_bald hx hb hK hO k_b (nxg clo_nil k_b rfl) hP (vp_in_nI (by omega) (by decide)) dMH_verify_54 (fun z39 => ?_)
      refine ty_bast hx hb hK hO kr75 (nxg clo_nil kr75 rfl) hP hD hS (vp_in_nI (by omega) (by decide)) dMH_verify_55 (fun pl H locs hO hP hD hS => ?_)
      refine mi_iinc (k := 0) (x := i21) (d := 1) (y := i21 + 1) (lv' := [(9, .int (nI (i21 + 1))), (8, .int (nI 1)), (7, .int (nI 256)), (6, .int (nI 18)), (0, .ref h0), (2, .ref pk), (3, .ref b), (4, .int cl), (5, .int (nI ed))]) hx hb dMH_verify_56 hl rfl (by decide) rfl (by decide) rfl (fun ls hl => ?_)
      refine lv_goto (tgt := 36) hx hb dMH_verify_59 (by decide) ?_
      exact ih21 (i21 + 1) pl ls H locs (by omega) (lv_sub hl [0, 1, 2, 3, 4, 5, 6, 7, 8] rfl) hO hP hD hS
  exact lp21 32 0 pl ls _ _ (by omega) (lv_sub hl [0, 1, 2, 3, 4, 6, 7, 8, 9] rfl) hO hP hD hS
set_option maxHeartbeats 4000000 in
set_option maxRecDepth 100000 in
theorem t_MH_verify_1 (l : Launch) (g : Gd) (sz : Nat) (T0 : Ty) (pl : va_W) (hO : okx g T0 [] pl) (hU : uni T0) (h0 pk b ed : Nat) (cl : Int32) (k_h0 : T0 h0 = some (49, 0)) (k_pk : T0 pk = some (1, 2592)) (k_b : T0 b = some (1, 16384)) (h1 : 3309 ≤ ed) (h3 : ed ≤ 16384)  : Met l y_MH_verify w_MH_verify ({ frames := 5, cells := 0, slots := 0, locals := 124 } : Room) (va_Pc [.ref h0, .int (nI 1), .ref pk, .ref b, .int cl, .int (nI ed)] (pr (en g) g.1 vcl sz ([] ++ pl))) (va_Qi (fun (r : Int32) (u : va_W) => (r = nI 0 ∨ r = nI 1) ∧ okx g T0 [] u) (po g.1 vcl (va_A ([] ++ pl) sz) (fun (u : va_W) => [] ++ u)) (va_A ([] ++ pl) sz)) 0 0 (va_A ([] ++ pl) sz) := by
  refine mc_entry (cc := c_MH_verify) (maxL := 11) (ret := (some .boolean)) (by decide) rfl (Nat.le_of_ble_eq_true rfl) ?_
  intro p e s m args below meth c ls F hr hlk hnm hsz hP hD hE hA hl
  obtain ⟨hx, hb, hml, hown, hts⟩ := id F
  have hK := hE.1
  generalize va_A ([] ++ pl) sz = A at hD hE hA ⊢
  have hS : va_S A s.heap s.heap [] := va_S.rf
  have hl : lv_has ls 11 [(0, .ref h0), (1, .int (nI 1)), (2, .ref pk), (3, .ref b), (4, .int cl), (5, .int (nI ed))] := hl
  refine lv_aload_n hx hb dMH_verify_0 rfl (lv_at hl 0 rfl) ?_
  refine lv_iload_n hx hb dMH_verify_1 rfl (lv_at hl 1 rfl) ?_
  obtain ⟨e21, pl, hP, hD, hk21, hO⟩ := open1 hP hD hO k_h0 (nxg clo_nil k_h0 (p := 11) rfl)
  obtain ⟨fs21, rfl, hf21⟩ := hk21
  obtain ⟨v21, vs21, rfl, hv21, hf22⟩ := fall_cons hf21
  obtain ⟨r21, rfl, kr21⟩ := (show ∃ r : Nat, v21 = .ref r ∧ T0 r = some (20, 0) from hv21)
  obtain ⟨v22, vs22, rfl, hv22, hf23⟩ := fall_cons hf22
  obtain ⟨r22, rfl, kr22⟩ := (show ∃ r : Nat, v22 = .ref r ∧ T0 r = some (22, 0) from hv22)
  obtain ⟨v23, vs23, rfl, hv23, hf24⟩ := fall_cons hf23
  obtain ⟨r23, rfl, kr23⟩ := (show ∃ r : Nat, v23 = .ref r ∧ T0 r = some (3, 64) from hv23)
  obtain ⟨v24, vs24, rfl, hv24, hf25⟩ := fall_cons hf24
  obtain ⟨r24, rfl, kr24⟩ := (show ∃ r : Nat, v24 = .ref r ∧ T0 r = some (3, 7) from hv24)
  obtain ⟨v25, vs25, rfl, hv25, hf26⟩ := fall_cons hf25
  obtain ⟨r25, rfl, kr25⟩ := (show ∃ r : Nat, v25 = .ref r ∧ T0 r = some (3, 8) from hv25)
  obtain ⟨v26, vs26, rfl, hv26, hf27⟩ := fall_cons hf26
  obtain ⟨r26, rfl, kr26⟩ := (show ∃ r : Nat, v26 = .ref r ∧ T0 r = some (3, 8) from hv26)
  obtain ⟨v27, vs27, rfl, hv27, hf28⟩ := fall_cons hf27
  obtain ⟨r27, rfl, kr27⟩ := (show ∃ r : Nat, v27 = .ref r ∧ T0 r = some (3, 8) from hv27)
  obtain ⟨v28, vs28, rfl, hv28, hf29⟩ := fall_cons hf28
  obtain ⟨r28, rfl, kr28⟩ := (show ∃ r : Nat, v28 = .ref r ∧ T0 r = some (3, 7) from hv28)
  obtain ⟨v29, vs29, rfl, hv29, hf30⟩ := fall_cons hf29
  obtain ⟨r29, rfl, kr29⟩ := (show ∃ r : Nat, v29 = .ref r ∧ T0 r = some (3, 7) from hv29)
  obtain ⟨v30, vs30, rfl, hv30, hf31⟩ := fall_cons hf30
  obtain ⟨r30, rfl, kr30⟩ := (show ∃ r : Nat, v30 = .ref r ∧ T0 r = some (3, 7) from hv30)
  obtain ⟨v31, vs31, rfl, hv31, hf32⟩ := fall_cons hf31
  obtain ⟨r31, rfl, kr31⟩ := (show ∃ r : Nat, v31 = .ref r ∧ T0 r = some (3, 8) from hv31)
  obtain ⟨v32, vs32, rfl, hv32, hf33⟩ := fall_cons hf32
  obtain ⟨r32, rfl, kr32⟩ := (show ∃ r : Nat, v32 = .ref r ∧ T0 r = some (3, 8) from hv32)
  obtain ⟨v33, vs33, rfl, hv33, hf34⟩ := fall_cons hf33
  obtain ⟨r33, rfl, kr33⟩ := (show ∃ r : Nat, v33 = .ref r ∧ T0 r = some (0, 256) from hv33)
  obtain ⟨v34, vs34, rfl, hv34, hf35⟩ := fall_cons hf34
  obtain ⟨r34, rfl, kr34⟩ := (show ∃ r : Nat, v34 = .ref r ∧ T0 r = some (0, 256) from hv34)
  obtain ⟨v35, vs35, rfl, hv35, hf36⟩ := fall_cons hf35
  obtain ⟨r35, rfl, kr35⟩ := (show ∃ r : Nat, v35 = .ref r ∧ T0 r = some (0, 256) from hv35)
  obtain ⟨v36, vs36, rfl, hv36, hf37⟩ := fall_cons hf36
  obtain ⟨r36, rfl, kr36⟩ := (show ∃ r : Nat, v36 = .ref r ∧ T0 r = some (2, 256) from hv36)
  obtain ⟨v37, vs37, rfl, hv37, hf38⟩ := fall_cons hf37
  obtain ⟨r37, rfl, kr37⟩ := (show ∃ r : Nat, v37 = .ref r ∧ T0 r = some (1, 128) from hv37)
  obtain ⟨v38, vs38, rfl, hv38, hf39⟩ := fall_cons hf38
  obtain ⟨r38, rfl, kr38⟩ := (show ∃ r : Nat, v38 = .ref r ∧ T0 r = some (1, 64) from hv38)
  obtain ⟨v39, vs39, rfl, hv39, hf40⟩ := fall_cons hf39
  obtain ⟨r39, rfl, kr39⟩ := (show ∃ r : Nat, v39 = .ref r ∧ T0 r = some (1, 64) from hv39)
  obtain ⟨v40, vs40, rfl, hv40, hf41⟩ := fall_cons hf40
  obtain ⟨r40, rfl, kr40⟩ := (show ∃ r : Nat, v40 = .ref r ∧ T0 r = some (1, 640) from hv40)
  obtain ⟨v41, vs41, rfl, hv41, hf42⟩ := fall_cons hf41
  obtain ⟨r41, rfl, kr41⟩ := (show ∃ r : Nat, v41 = .ref r ∧ T0 r = some (1, 64) from hv41)
  obtain ⟨v42, vs42, rfl, hv42, hf43⟩ := fall_cons hf42
  obtain ⟨r42, rfl, kr42⟩ := (show ∃ r : Nat, v42 = .ref r ∧ T0 r = some (1, 64) from hv42)
  obtain ⟨v43, vs43, rfl, hv43, hf44⟩ := fall_cons hf43
  obtain ⟨r43, rfl, kr43⟩ := (show ∃ r : Nat, v43 = .ref r ∧ T0 r = some (1, 64) from hv43)
  obtain ⟨v44, vs44, rfl, hv44, hf45⟩ := fall_cons hf44
  obtain ⟨z21, rfl⟩ := (show ∃ z : Int32, v44 = .int z from hv44)
  obtain ⟨v45, vs45, rfl, hv45, hf46⟩ := fall_cons hf45
  obtain ⟨z22, rfl⟩ := (show ∃ z : Int32, v45 = .int z from hv45)
  obtain ⟨v46, vs46, rfl, hv46, hf47⟩ := fall_cons hf46
  obtain ⟨z23, rfl⟩ := (show ∃ z : Int32, v46 = .int z from hv46)
  obtain ⟨v47, vs47, rfl, hv47, hf48⟩ := fall_cons hf47
  obtain ⟨z24, rfl⟩ := (show ∃ z : Int32, v47 = .int z from hv47)
  obtain ⟨v48, vs48, rfl, hv48, hf49⟩ := fall_cons hf48
  obtain ⟨z25, rfl⟩ := (show ∃ z : Int32, v48 = .int z from hv48)
  obtain ⟨v49, vs49, rfl, hv49, hf50⟩ := fall_cons hf49
  obtain ⟨z26, rfl⟩ := (show ∃ z : Int32, v49 = .int z from hv49)
  obtain ⟨v50, vs50, rfl, hv50, hf51⟩ := fall_cons hf50
  obtain ⟨z27, rfl⟩ := (show ∃ z : Int32, v50 = .int z from hv50)
  obtain ⟨v51, vs51, rfl, hv51, hf52⟩ := fall_cons hf51
  obtain ⟨z28, rfl⟩ := (show ∃ z : Int32, v51 = .int z from hv51)
  obtain rfl := fall_nil hf52
  have hP : va_P g.1 vcl ([(h0, .inr (12, [.ref r21, .ref r22, .ref r23, .ref r24, .ref r25, .ref r26, .ref r27, .ref r28, .ref r29, .ref r30, .ref r31, .ref r32, .ref r33, .ref r34, .ref r35, .ref r36, .ref r37, .ref r38, .ref r39, .ref r40, .ref r41, .ref r42, .ref r43, .int z21, .int z22, .int z23, .int z24, .int z25, .int z26, .int z27, .int z28]))] ++ pl) _ := hP
  have hD : va_D _ ([(h0, .inr (12, [.ref r21, .ref r22, .ref r23, .ref r24, .ref r25, .ref r26, .ref r27, .ref r28, .ref r29, .ref r30, .ref r31, .ref r32, .ref r33, .ref r34, .ref r35, .ref r36, .ref r37, .ref r38, .ref r39, .ref r40, .ref r41, .ref r42, .ref r43, .int z21, .int z22, .int z23, .int z24, .int z25, .int z26, .int z27, .int z28]))] ++ pl) := hD
  refine mp_v (cx := [(h0, .inr (12, [.ref r21, .ref r22, .ref r23, .ref r24, .ref r25, .ref r26, .ref r27, .ref r28, .ref r29, .ref r30, .ref r31, .ref r32, .ref r33, .ref r34, .ref r35, .ref r36, .ref r37, .ref r38, .ref r39, .ref r40, .ref r41, .ref r42, .ref r43, .int z21, .int z22, .int z23, .int z24, .int z25, .int z26, .int z27, .int z28]))]) (wr := []) hP hD hS hA [0] [] rfl rfl rfl (by decide) (va_runV (As := [.int (nI 1)]) (rest := []) F (t_MH_as_1 l g _ T0 (h0 :: []) pl hO hU  h0 r21 r22 r23 r24 r25 r26 r27 r28 r29 r30 r31 r32 r33 r34 r35 r36 r37 r38 r39 r40 r41 r42 r43 z21 z22 z23 z24 z25 z26 z27 z28) (cwV 1 hts (wg_app (wg_c kw_1702 (wg_c kw_1704 (wg_c ks_60 (wg_c kw_13 wg_n)))) kw_1705) rfl rfl rfl (by decide +kernel) ⟨by decide, by decide⟩) (pp_V (en_ok g) (q0 := 0) hK hP hD hS hA hE [0] rfl rfl rfl rfl) rfl rfl hl.1 rfl (lv_room (Nat.le_of_ble_eq_true rfl)) dMH_verify_2 ⟨by omega, by omega⟩) (fun  pl H locs hu21 hP hD hS => ?_)
  obtain ⟨hq21, hO⟩ := hu21
  have hP : va_P g.1 vcl ([(h0, .inr (12, [.ref r21, .ref r22, .ref r23, .ref r24, .ref r25, .ref r26, .ref r27, .ref r28, .ref r29, .ref r30, .ref r31, .ref r32, .ref r33, .ref r34, .ref r35, .ref r36, .ref r37, .ref r38, .ref r39, .ref r40, .ref r41, .ref r42, .ref r43, .int (nI 1), .int (nI 6), .int (nI 5), .int (nI 4), .int (nI 524288), .int (nI 261888), .int (nI 196), .int (nI 48)]))] ++ pl) _ := hP
  have hD : va_D _ ([(h0, .inr (12, [.ref r21, .ref r22, .ref r23, .ref r24, .ref r25, .ref r26, .ref r27, .ref r28, .ref r29, .ref r30, .ref r31, .ref r32, .ref r33, .ref r34, .ref r35, .ref r36, .ref r37, .ref r38, .ref r39, .ref r40, .ref r41, .ref r42, .ref r43, .int (nI 1), .int (nI 6), .int (nI 5), .int (nI 4), .int (nI 524288), .int (nI 261888), .int (nI 196), .int (nI 48)]))] ++ pl) := hD
  refine W.widen (k := 0) (n := 0) (by omega) (by omega) ?_
  have hO := hands_in (j := 1) (e := .inr (12, [.ref r21, .ref r22, .ref r23, .ref r24, .ref r25, .ref r26, .ref r27, .ref r28, .ref r29, .ref r30, .ref r31, .ref r32, .ref r33, .ref r34, .ref r35, .ref r36, .ref r37, .ref r38, .ref r39, .ref r40, .ref r41, .ref r42, .ref r43, .int (nI 1), .int (nI 6), .int (nI 5), .int (nI 4), .int (nI 524288), .int (nI 261888), .int (nI 196), .int (nI 48)])) hO k_h0 ⟨_, rfl, ⟨r21, rfl, kr21⟩, ⟨r22, rfl, kr22⟩, ⟨r23, rfl, kr23⟩, ⟨r24, rfl, kr24⟩, ⟨r25, rfl, kr25⟩, ⟨r26, rfl, kr26⟩, ⟨r27, rfl, kr27⟩, ⟨r28, rfl, kr28⟩, ⟨r29, rfl, kr29⟩, ⟨r30, rfl, kr30⟩, ⟨r31, rfl, kr31⟩, ⟨r32, rfl, kr32⟩, ⟨r33, rfl, kr33⟩, ⟨r34, rfl, kr34⟩, ⟨r35, rfl, kr35⟩, ⟨r36, rfl, kr36⟩, ⟨r37, rfl, kr37⟩, ⟨r38, rfl, kr38⟩, ⟨r39, rfl, kr39⟩, ⟨r40, rfl, kr40⟩, ⟨r41, rfl, kr41⟩, ⟨r42, rfl, kr42⟩, ⟨r43, rfl, kr43⟩, rfl, rfl, rfl, rfl, rfl, rfl, rfl, rfl, trivial⟩
  have hP : va_P g.1 vcl ([] ++ ((h0, .inr (12, [.ref r21, .ref r22, .ref r23, .ref r24, .ref r25, .ref r26, .ref r27, .ref r28, .ref r29, .ref r30, .ref r31, .ref r32, .ref r33, .ref r34, .ref r35, .ref r36, .ref r37, .ref r38, .ref r39, .ref r40, .ref r41, .ref r42, .ref r43, .int (nI 1), .int (nI 6), .int (nI 5), .int (nI 4), .int (nI 524288), .int (nI 261888), .int (nI 196), .int (nI 48)])) :: pl)) _ := hP
  have hD : va_D _ ([] ++ ((h0, .inr (12, [.ref r21, .ref r22, .ref r23, .ref r24, .ref r25, .ref r26, .ref r27, .ref r28, .ref r29, .ref r30, .ref r31, .ref r32, .ref r33, .ref r34, .ref r35, .ref r36, .ref r37, .ref r38, .ref r39, .ref r40, .ref r41, .ref r42, .ref r43, .int (nI 1), .int (nI 6), .int (nI 5), .int (nI 4), .int (nI 524288), .int (nI 261888), .int (nI 196), .int (nI 48)])) :: pl)) := hD
  generalize ((h0, .inr (12, [.ref r21, .ref r22, .ref r23, .ref r24, .ref r25, .ref r26, .ref r27, .ref r28, .ref r29, .ref r30, .ref r31, .ref r32, .ref r33, .ref r34, .ref r35, .ref r36, .ref r37, .ref r38, .ref r39, .ref r40, .ref r41, .ref r42, .ref r43, .int (nI 1), .int (nI 6), .int (nI 5), .int (nI 4), .int (nI 524288), .int (nI 261888), .int (nI 196), .int (nI 48)])) :: pl) = pl at hO hP hD
  have hback : ∀ pl, okx g (tyU T0 h0 (46 + 1, 0)) [] pl → okx g T0 [] pl := fun pl h9 => hands_out k_h0 (hands_wk 1 (by decide)) h9
  have hU := uni_U (a := h0) (k := (46 + 1, 0)) hU rfl
  have k_pk := tyU_k (k := (46 + 1, 0)) k_h0 k_pk (by intro h9; cases h9)
  have k_b := tyU_k (k := (46 + 1, 0)) k_h0 k_b (by intro h9; cases h9)
  have k_h0 : tyU T0 h0 (46 + 1, 0) h0 = some (46 + 1, 0) := tyU_at
  generalize tyU T0 h0 (46 + 1, 0) = T at hO hback hU k_pk k_b k_h0
  refine lv_aload_n hx hb dMH_verify_5 rfl (lv_at hl 0 rfl) ?_
  refine ty_get (ci := 12) (C := "LatticeKeysModel$Hands") (TT := T_MH) (N := 31) (kd := (47, 0)) hx hb hts (wg_ft i_MH) hown hK hO k_h0 (nxg clo_nil k_h0 rfl) hP (fun _ h9 => h9) rfl 23 (by decide) (hts _ (wg_t kw_1455)) (fun _ h9 => h9) (cd := (1, 0, 1)) rfl dMH_verify_6 (fun v52 hv52 => ?_)
  obtain rfl := (show v52 = .int (nI 1) from hv52)
  refine lv_if_ne (tgt := 17) hx hb dMH_verify_9 (by decide) (fun h21 => ?_) (fun h21 => absurd h21 (by decide))
  refine lv_bipush (v := nI 20) hx hb dMH_verify_17 (by decide) ?_
  refine lv_istore (lv' := [(6, .int (nI 20)), (0, .ref h0), (1, .int (nI 1)), (2, .ref pk), (3, .ref b), (4, .int cl), (5, .int (nI ed))]) hx hb dMH_verify_19 hl (by decide) rfl (fun ls hl => ?_)
  refine lv_bipush (v := nI 8) hx hb dMH_verify_21 (by decide) ?_
  refine lv_aload_n hx hb dMH_verify_23 rfl (lv_at hl 1 rfl) ?_
  refine ty_get (ci := 12) (C := "LatticeKeysModel$Hands") (TT := T_MH) (N := 31) (kd := (47, 0)) hx hb hts (wg_ft i_MH) hown hK hO k_h0 (nxg clo_nil k_h0 rfl) hP (fun _ h9 => h9) rfl 30 (by decide) (hts _ (wg_t kw_1462)) (fun _ h9 => h9) (cd := (1, 0, 48)) rfl dMH_verify_24 (fun v53 hv53 => ?_)
  obtain rfl := (show v53 = .int (nI 48) from hv53)
  refine mi_imul hx hb dMH_verify_27 ?_
  refine mi_as (show nI (8 * 48) = nI 384 from rfl) ?_
  refine lv_istore (lv' := [(7, .int (nI 384)), (6, .int (nI 20)), (0, .ref h0), (1, .int (nI 1)), (2, .ref pk), (3, .ref b), (4, .int cl), (5, .int (nI ed))]) hx hb dMH_verify_28 hl (by decide) rfl (fun ls hl => ?_)
  refine lv_iconst (v := nI 1) hx hb dMH_verify_30 (by decide) ?_
  refine lv_istore (lv' := [(8, .int (nI 1)), (7, .int (nI 384)), (6, .int (nI 20)), (0, .ref h0), (1, .int (nI 1)), (2, .ref pk), (3, .ref b), (4, .int cl), (5, .int (nI ed))]) hx hb dMH_verify_31 hl (by decide) rfl (fun ls hl => ?_)
  refine lv_iconst (v := nI 0) hx hb dMH_verify_33 (by decide) ?_
  refine lv_istore (lv' := [(9, .int (nI 0)), (8, .int (nI 1)), (7, .int (nI 384)), (6, .int (nI 20)), (0, .ref h0), (1, .int (nI 1)), (2, .ref pk), (3, .ref b), (4, .int cl), (5, .int (nI ed))]) hx hb dMH_verify_34 hl (by decide) rfl (fun ls hl => ?_)
  have lp21 : ∀ (n21 : Nat) (i21 : Nat) (pl : va_W) (ls : Array Slot) (H : Heap) (locs : List Loc), n21 + i21 = 48 → lv_has ls 11 [(9, .int (nI i21)), (8, .int (nI 1)), (7, .int (nI 384)), (6, .int (nI 20)), (0, .ref h0), (2, .ref pk), (3, .ref b), (4, .int cl), (5, .int (nI ed))] → okx g T [] pl → va_P g.1 vcl ([] ++ pl) H → va_D A ([] ++ pl) → va_S A s.heap H locs → W p l e ({ frames := 5, cells := 0, slots := 0, locals := 124 } : Room) s m args below meth c H locs 0 0 (MQ below (va_Qi (fun (r : Int32) (u : va_W) => (r = nI 0 ∨ r = nI 1) ∧ okx g T0 [] u) (po g.1 vcl A (fun (u : va_W) => [] ++ u)) A) args s 0 0 A) (F0 m 36 ls []) := by
    intro n21
    induction n21 with
    | zero =>
      intro i21 pl ls H locs hm21  hl hO hP hD hS
      refine lv_iload hx hb dMH_verify_36 (lv_at hl 0 rfl) ?_
      refine lv_aload_n hx hb dMH_verify_38 rfl (lv_at hl 4 rfl) ?_
      refine ty_get (ci := 12) (C := "LatticeKeysModel$Hands") (TT := T_MH) (N := 31) (kd := (47, 0)) hx hb hts (wg_ft i_MH) hown hK hO k_h0 (nxg clo_nil k_h0 rfl) hP (fun _ h9 => h9) rfl 30 (by decide) (hts _ (wg_t kw_1462)) (fun _ h9 => h9) (cd := (1, 0, 48)) rfl dMH_verify_39 (fun v54 hv54 => ?_)
      obtain rfl := (show v54 = .int (nI 48) from hv54)
      refine mi_ge (tgt := 62) hx hb dMH_verify_42 (by decide) (by omega) (by omega) (fun h22 => ?_) (fun h22 => absurd h22 (by omega))
      refine lv_iconst (v := nI 0) hx hb dMH_verify_62 (by decide) ?_
      refine lv_istore (lv' := [(9, .int (nI 0)), (8, .int (nI 1)), (7, .int (nI 384)), (6, .int (nI 20)), (0, .ref h0), (2, .ref pk), (3, .ref b), (4, .int cl), (5, .int (nI ed))]) hx hb dMH_verify_63 hl (by decide) rfl (fun ls hl => ?_)
      have lp22 : ∀ (n22 : Nat) (i22 : Nat) (z29 : Int32) (az21 : Nat) (pl : va_W) (ls : Array Slot) (H : Heap) (locs : List Loc), n22 + i22 = 5 → (az21 = 384 + 5120 * i22) → lv_has ls 11 [(9, .int (nI i22)), (8, .int z29), (7, .int (nI az21)), (6, .int (nI 20)), (0, .ref h0), (2, .ref pk), (3, .ref b), (4, .int cl), (5, .int (nI ed))] → okx g T [] pl → va_P g.1 vcl ([] ++ pl) H → va_D A ([] ++ pl) → va_S A s.heap H locs → W p l e ({ frames := 5, cells := 0, slots := 0, locals := 124 } : Room) s m args below meth c H locs 0 0 (MQ below (va_Qi (fun (r : Int32) (u : va_W) => (r = nI 0 ∨ r = nI 1) ∧ okx g T0 [] u) (po g.1 vcl A (fun (u : va_W) => [] ++ u)) A) args s 0 0 A) (F0 m 65 ls []) := by
        intro n22
        induction n22 with
        | zero =>
          intro i22 z29 az21 pl ls H locs hm22 hi21 hl hO hP hD hS
          refine lv_iload hx hb dMH_verify_65 (lv_at hl 0 rfl) ?_
          refine lv_aload_n hx hb dMH_verify_67 rfl (lv_at hl 4 rfl) ?_
          refine ty_get (ci := 12) (C := "LatticeKeysModel$Hands") (TT := T_MH) (N := 31) (kd := (47, 0)) hx hb hts (wg_ft i_MH) hown hK hO k_h0 (nxg clo_nil k_h0 rfl) hP (fun _ h9 => h9) rfl 25 (by decide) (hts _ (wg_t kw_1457)) (fun _ h9 => h9) (cd := (1, 0, 5)) rfl dMH_verify_68 (fun v55 hv55 => ?_)
          obtain rfl := (show v55 = .int (nI 5) from hv55)
          refine mi_ge (tgt := 164) hx hb dMH_verify_71 (by decide) (by omega) (by omega) (fun h23 => ?_) (fun h23 => absurd h23 (by omega))
          refine lv_iload hx hb dMH_verify_164 (lv_at hl 1 rfl) ?_
          refine lv_if_eq (tgt := 182) hx hb dMH_verify_166 (by decide) (fun h24 => ?_) (fun h24 => ?_)
          · refine lv_iconst (v := nI 0) hx hb dMH_verify_182 (by decide) ?_
            exact mp_zret hx hb hr hlk rfl hP hD hS pl ⟨(Or.inl rfl), (hback _ hO)⟩ [] rfl rfl rfl (by omega) (by omega) dMH_verify_183
          · refine lv_aload_n hx hb dMH_verify_169 rfl (lv_at hl 4 rfl) ?_
            refine lv_aload_n hx hb dMH_verify_170 rfl (lv_at hl 6 rfl) ?_
            refine lv_iload hx hb dMH_verify_171 (lv_at hl 2 rfl) ?_
            refine lv_bipush (v := nI 8) hx hb dMH_verify_173 (by decide) ?_
            refine mi_idiv hx hb dMH_verify_175 (by omega) (by omega) (by omega) ?_
            refine mp_i (cx := []) (wr := []) hP hD hS hA [] [] rfl rfl rfl (by decide) (va_runV (As := [.ref b, .int (nI (az21 / 8))]) (rest := []) F (t_MH_readHints_1 l g _ T [] pl hO hU clo_nil h0 b (az21 / 8) k_h0 k_b (by omega)) (cwV 2 hts (wg_app (wg_c kw_1929 (wg_c kw_1931 (wg_c ks_81 (wg_c kw_13 wg_n)))) kw_1932) rfl rfl rfl (by decide +kernel) ⟨by decide, by decide⟩) (pp_VT (en_ok g) (ci := 12) (kd := (47, 0)) hK hO k_h0 (nxg clo_nil k_h0 rfl) (fun _ h9 => ko1 h9) hP hD hS hA hE [] rfl rfl rfl) rfl rfl hl.1 rfl (lv_room (Nat.le_of_ble_eq_true rfl)) dMH_verify_176 ⟨by omega, by omega⟩) (fun r44 pl H locs hu22 hP hD hS => ?_)
            obtain ⟨hq22, hO⟩ := hu22
            have hP : va_P g.1 vcl ([] ++ pl) _ := hP
            have hD : va_D _ ([] ++ pl) := hD
            refine W.widen (k := 0) (n := 0) (by omega) (by omega) ?_
            refine lv_if_ne (tgt := 184) hx hb dMH_verify_179 (by decide) (fun h25 => ?_) (fun h25 => ?_)
            · refine lv_aload_n hx hb dMH_verify_184 rfl (lv_at hl 4 rfl) ?_
              refine ty_get (ci := 12) (C := "LatticeKeysModel$Hands") (TT := T_MH) (N := 31) (kd := (47, 0)) hx hb hts (wg_ft i_MH) hown hK hO k_h0 (nxg clo_nil k_h0 rfl) hP (fun _ h9 => h9) rfl 0 (by decide) (hts _ (wg_t kw_1432)) (fun _ h9 => h9) (cd := (3, 20, 0)) rfl dMH_verify_185 (fun v56 hv56 => ?_)
              obtain ⟨r45, rfl, kr44⟩ := (show ∃ r : Nat, v56 = .ref r ∧ T r = some (20, 0) from hv56)
              obtain ⟨e22, pl, hP, hD, hk22, hO⟩ := open1 hP hD hO kr44 (nxg clo_nil kr44 rfl)
              obtain ⟨am21, am22, am23, am24, am25, rt21, ps21, x21, rfl, km21, km22, km23, km24, km25, hr21, hr22, hr23⟩ := hk22
              obtain ⟨e23, pl, hP, hD, hk23, hO⟩ := open1 hP hD hO km21 (nmc (knd_ne km21 kr44 (by decide)) (nxg clo_nil km21 rfl))
              obtain ⟨f21, rfl⟩ := hk23
              obtain ⟨e24, pl, hP, hD, hk24, hO⟩ := open1 hP hD hO km22 (nmc (knd_ne km22 km21 (by decide)) (nmc (knd_ne km22 kr44 (by decide)) (nxg clo_nil km22 rfl)))
              obtain ⟨f22, rfl⟩ := hk24
              obtain ⟨e25, pl, hP, hD, hk25, hO⟩ := open1 hP hD hO km23 (nmc (knd_ne km23 km22 (by decide)) (nmc (knd_ne km23 km21 (by decide)) (nmc (knd_ne km23 kr44 (by decide)) (nxg clo_nil km23 rfl))))
              obtain ⟨f23, rfl⟩ := hk25
              obtain ⟨e26, pl, hP, hD, hk26, hO⟩ := open1 hP hD hO km24 (nmc (knd_ne km24 km23 (by decide)) (nmc (knd_ne km24 km22 (by decide)) (nmc (knd_ne km24 km21 (by decide)) (nmc (knd_ne km24 kr44 (by decide)) (nxg clo_nil km24 rfl)))))
              obtain ⟨f24, rfl⟩ := hk26
              obtain ⟨e27, pl, hP, hD, hk27, hO⟩ := open1 hP hD hO km25 (nmc (knd_ne km25 km24 (by decide)) (nmc (knd_ne km25 km23 (by decide)) (nmc (knd_ne km25 km22 (by decide)) (nmc (knd_ne km25 km21 (by decide)) (nmc (knd_ne km25 kr44 (by decide)) (nxg clo_nil km25 rfl))))))
              obtain ⟨f25, rfl⟩ := hk27
              have hP : va_P g.1 vcl ([(r45, .inr (9, [.ref am21, .ref am22, .ref am23, .ref am24, .ref am25, .int (nI rt21), .int (nI ps21), .int x21])), (am21, .inl (g.2.1 2, 25, .inr (.inl f21))), (am22, .inl (g.2.1 2, 25, .inr (.inl f22))), (am23, .inl (g.2.1 2, 5, .inr (.inl f23))), (am24, .inl (g.2.1 2, 24, .inr (.inl f24))), (am25, .inl (g.2.1 0, 25, .inl f25))] ++ pl) _ := hP
              have hD : va_D _ ([(r45, .inr (9, [.ref am21, .ref am22, .ref am23, .ref am24, .ref am25, .int (nI rt21), .int (nI ps21), .int x21])), (am21, .inl (g.2.1 2, 25, .inr (.inl f21))), (am22, .inl (g.2.1 2, 25, .inr (.inl f22))), (am23, .inl (g.2.1 2, 5, .inr (.inl f23))), (am24, .inl (g.2.1 2, 24, .inr (.inl f24))), (am25, .inl (g.2.1 0, 25, .inl f25))] ++ pl) := hD
              refine mp_v (cx := [(r45, .inr (9, [.ref am21, .ref am22, .ref am23, .ref am24, .ref am25, .int (nI rt21), .int (nI ps21), .int x21])), (am21, .inl (g.2.1 2, 25, .inr (.inl f21))), (am22, .inl (g.2.1 2, 25, .inr (.inl f22))), (am23, .inl (g.2.1 2, 5, .inr (.inl f23))), (am24, .inl (g.2.1 2, 24, .inr (.inl f24))), (am25, .inl (g.2.1 0, 25, .inl f25))]) (wr := []) hP hD hS hA [0, 1, 2, 3, 4, 5] [] rfl rfl rfl (by decide) (va_runV (As := []) (rest := []) F (t_MS_shake l g _ T (am25 :: (am24 :: (am23 :: (am22 :: (am21 :: (r45 :: [])))))) pl hO hU  r45 am21 am22 am23 am24 am25 rt21 ps21 x21 f21 f22 f23 f24 f25) (cwV 0 hts (wg_app (wg_c kw_1718 (wg_c kw_1661 (wg_c kw_1662 (wg_c kw_10 wg_n)))) kw_1663) rfl rfl rfl (by decide +kernel) ⟨by decide, by decide⟩) (pp_V (en_ok g) (q0 := 0) hK hP hD hS hA hE [0, 1, 2, 3, 4, 5] rfl rfl rfl rfl) rfl rfl hl.1 rfl (lv_room (Nat.le_of_ble_eq_true rfl)) dMH_verify_188 ⟨by omega, by omega⟩) (fun  u21 H locs hu23 hP hD hS => ?_)
              obtain ⟨u22, pl⟩ := u21
              obtain ⟨hq23, hO⟩ := hu23
              obtain ⟨ps22, f26, f27, f28⟩ := u22
              have hP : va_P g.1 vcl ([(r45, .inr (9, [.ref am21, .ref am22, .ref am23, .ref am24, .ref am25, .int (nI 136), .int (nI ps22), .int (nI 31)])), (am21, .inl (g.2.1 2, 25, .inr (.inl f26))), (am22, .inl (g.2.1 2, 25, .inr (.inl f27))), (am23, .inl (g.2.1 2, 5, .inr (.inl f28))), (am24, .inl (g.2.1 2, 24, .inr (.inl f24))), (am25, .inl (g.2.1 0, 25, .inl f25))] ++ pl) _ := hP
              have hD : va_D _ ([(r45, .inr (9, [.ref am21, .ref am22, .ref am23, .ref am24, .ref am25, .int (nI 136), .int (nI ps22), .int (nI 31)])), (am21, .inl (g.2.1 2, 25, .inr (.inl f26))), (am22, .inl (g.2.1 2, 25, .inr (.inl f27))), (am23, .inl (g.2.1 2, 5, .inr (.inl f28))), (am24, .inl (g.2.1 2, 24, .inr (.inl f24))), (am25, .inl (g.2.1 0, 25, .inl f25))] ++ pl) := hD
              have hq23 : ps22 ≤ 136 := hq23
              refine W.widen (k := 0) (n := 0) (by omega) (by omega) ?_
              refine lv_aload_n hx hb dMH_verify_191 rfl (lv_at hl 4 rfl) ?_
              refine ty_get (ci := 12) (C := "LatticeKeysModel$Hands") (TT := T_MH) (N := 31) (kd := (47, 0)) hx hb hts (wg_ft i_MH) hown hK hO k_h0 (nxg (clo_cons (clo_cons (clo_cons (clo_cons (clo_cons (clo_cons clo_nil kr44 (by decide)) km21 (by decide)) km22 (by decide)) km23 (by decide)) km24 (by decide)) km25 (by decide)) k_h0 rfl) hP (fun _ h9 => h9) rfl 0 (by decide) (hts _ (wg_t kw_1432)) (fun _ h9 => h9) (cd := (3, 20, 0)) rfl dMH_verify_192 (fun v57 hv57 => ?_)
              obtain ⟨r46, rfl, kr45⟩ := (show ∃ r : Nat, v57 = .ref r ∧ T r = some (20, 0) from hv57)
              obtain rfl : r45 = r46 := hU _ _ _ (by decide) kr44 kr45
              refine lv_aload_n hx hb dMH_verify_195 rfl (lv_at hl 5 rfl) ?_
              refine lv_iconst (v := nI 0) hx hb dMH_verify_196 (by decide) ?_
              refine lv_aload_n hx hb dMH_verify_197 rfl (lv_at hl 4 rfl) ?_
              refine ty_get (ci := 12) (C := "LatticeKeysModel$Hands") (TT := T_MH) (N := 31) (kd := (47, 0)) hx hb hts (wg_ft i_MH) hown hK hO k_h0 (nxg (clo_cons (clo_cons (clo_cons (clo_cons (clo_cons (clo_cons clo_nil kr44 (by decide)) km21 (by decide)) km22 (by decide)) km23 (by decide)) km24 (by decide)) km25 (by decide)) k_h0 rfl) hP (fun _ h9 => h9) rfl 23 (by decide) (hts _ (wg_t kw_1455)) (fun _ h9 => h9) (cd := (1, 0, 1)) rfl dMH_verify_198 (fun v58 hv58 => ?_)
              obtain rfl := (show v58 = .int (nI 1) from hv58)
              refine mp_i (cx := []) (wr := [(r45, .inr (9, [.ref am21, .ref am22, .ref am23, .ref am24, .ref am25, .int (nI 136), .int (nI ps22), .int (nI 31)])), (am21, .inl (g.2.1 2, 25, .inr (.inl f26))), (am22, .inl (g.2.1 2, 25, .inr (.inl f27))), (am23, .inl (g.2.1 2, 5, .inr (.inl f28))), (am24, .inl (g.2.1 2, 24, .inr (.inl f24))), (am25, .inl (g.2.1 0, 25, .inl f25))]) hP hD hS hA [] [0, 1, 2, 3, 4, 5] rfl rfl rfl (by decide) (va_runS (As := [.int (nI 1)]) (rest := [.int (nI 0), .ref pk, .ref r45]) F (t_MH_openSize_1 l g _ T (am25 :: (am24 :: (am23 :: (am22 :: (am21 :: (r45 :: [])))))) pl hO hU  ) (va_cwS 1 hts (wg_app (wg_c kw_1744 (wg_c kw_1745 (wg_c kw_13 wg_n))) kw_1746) rfl rfl rfl (by decide +kernel) ⟨by decide, by decide⟩) (pp_S (en_ok g) hP hD hS hA hE [] rfl rfl) rfl rfl hl.1 rfl (lv_room (Nat.le_of_ble_eq_true rfl)) dMH_verify_201 ⟨by omega, by omega⟩) (fun r47 pl H locs hu24 hP hD hS => ?_)
              obtain ⟨hq24, hO⟩ := hu24
              have hP : va_P g.1 vcl ([(r45, .inr (9, [.ref am21, .ref am22, .ref am23, .ref am24, .ref am25, .int (nI 136), .int (nI ps22), .int (nI 31)])), (am21, .inl (g.2.1 2, 25, .inr (.inl f26))), (am22, .inl (g.2.1 2, 25, .inr (.inl f27))), (am23, .inl (g.2.1 2, 5, .inr (.inl f28))), (am24, .inl (g.2.1 2, 24, .inr (.inl f24))), (am25, .inl (g.2.1 0, 25, .inl f25))] ++ pl) _ := hP
              have hD : va_D _ ([(r45, .inr (9, [.ref am21, .ref am22, .ref am23, .ref am24, .ref am25, .int (nI 136), .int (nI ps22), .int (nI 31)])), (am21, .inl (g.2.1 2, 25, .inr (.inl f26))), (am22, .inl (g.2.1 2, 25, .inr (.inl f27))), (am23, .inl (g.2.1 2, 5, .inr (.inl f28))), (am24, .inl (g.2.1 2, 24, .inr (.inl f24))), (am25, .inl (g.2.1 0, 25, .inl f25))] ++ pl) := hD
              obtain rfl := hq24
              refine W.widen (k := 0) (n := 0) (by omega) (by omega) ?_
              refine mp_v (cx := [(r45, .inr (9, [.ref am21, .ref am22, .ref am23, .ref am24, .ref am25, .int (nI 136), .int (nI ps22), .int (nI 31)])), (am21, .inl (g.2.1 2, 25, .inr (.inl f26))), (am22, .inl (g.2.1 2, 25, .inr (.inl f27))), (am23, .inl (g.2.1 2, 5, .inr (.inl f28))), (am24, .inl (g.2.1 2, 24, .inr (.inl f24))), (am25, .inl (g.2.1 0, 25, .inl f25))]) (wr := []) hP hD hS hA [0, 1, 2, 3, 4, 5] [] rfl rfl rfl (by decide) (va_runV (As := [.ref pk, .int (nI 0), .int (nI 1952)]) (rest := []) F (t_MS_puts l g _ T (am25 :: (am24 :: (am23 :: (am22 :: (am21 :: (r45 :: [])))))) pl hO hU (clo_cons (clo_cons (clo_cons (clo_cons (clo_cons (clo_cons clo_nil kr44 (by decide)) km21 (by decide)) km22 (by decide)) km23 (by decide)) km24 (by decide)) km25 (by decide)) pk 2592 0 1952 r45 am21 am22 am23 am24 am25 136 ps22 (nI 31) f26 f27 f28 f24 f25 k_pk (by omega) (by omega) (by omega) (by omega)) (cwV 3 hts (wg_app (wg_c kw_1719 (wg_c kw_1612 (wg_c kw_1613 (wg_c kw_10 wg_n)))) kw_1614) rfl rfl rfl (by decide +kernel) ⟨by decide, by decide⟩) (pp_V (en_ok g) (q0 := 0) hK hP hD hS hA hE [0, 1, 2, 3, 4, 5] rfl rfl rfl rfl) rfl rfl hl.1 rfl (lv_room (Nat.le_of_ble_eq_true rfl)) dMH_verify_204 ⟨by omega, by omega⟩) (fun  u23 H locs hu25 hP hD hS => ?_)
              obtain ⟨u24, pl⟩ := u23
              obtain ⟨hq25, hO⟩ := hu25
              obtain ⟨ps23, f29, f30, f31⟩ := u24
              have hP : va_P g.1 vcl ([(r45, .inr (9, [.ref am21, .ref am22, .ref am23, .ref am24, .ref am25, .int (nI 136), .int (nI ps23), .int (nI 31)])), (am21, .inl (g.2.1 2, 25, .inr (.inl f29))), (am22, .inl (g.2.1 2, 25, .inr (.inl f30))), (am23, .inl (g.2.1 2, 5, .inr (.inl f31))), (am24, .inl (g.2.1 2, 24, .inr (.inl f24))), (am25, .inl (g.2.1 0, 25, .inl f25))] ++ pl) _ := hP
              have hD : va_D _ ([(r45, .inr (9, [.ref am21, .ref am22, .ref am23, .ref am24, .ref am25, .int (nI 136), .int (nI ps23), .int (nI 31)])), (am21, .inl (g.2.1 2, 25, .inr (.inl f29))), (am22, .inl (g.2.1 2, 25, .inr (.inl f30))), (am23, .inl (g.2.1 2, 5, .inr (.inl f31))), (am24, .inl (g.2.1 2, 24, .inr (.inl f24))), (am25, .inl (g.2.1 0, 25, .inl f25))] ++ pl) := hD
              have hq25 : ps23 ≤ 136 := hq25
              refine W.widen (k := 0) (n := 0) (by omega) (by omega) ?_
              refine lv_aload_n hx hb dMH_verify_207 rfl (lv_at hl 4 rfl) ?_
              refine ty_get (ci := 12) (C := "LatticeKeysModel$Hands") (TT := T_MH) (N := 31) (kd := (47, 0)) hx hb hts (wg_ft i_MH) hown hK hO k_h0 (nxg (clo_cons (clo_cons (clo_cons (clo_cons (clo_cons (clo_cons clo_nil kr44 (by decide)) km21 (by decide)) km22 (by decide)) km23 (by decide)) km24 (by decide)) km25 (by decide)) k_h0 rfl) hP (fun _ h9 => h9) rfl 0 (by decide) (hts _ (wg_t kw_1432)) (fun _ h9 => h9) (cd := (3, 20, 0)) rfl dMH_verify_208 (fun v59 hv59 => ?_)
              obtain ⟨r48, rfl, kr46⟩ := (show ∃ r : Nat, v59 = .ref r ∧ T r = some (20, 0) from hv59)
              obtain rfl : r45 = r48 := hU _ _ _ (by decide) kr44 kr46
              refine mp_v (cx := [(r45, .inr (9, [.ref am21, .ref am22, .ref am23, .ref am24, .ref am25, .int (nI 136), .int (nI ps23), .int (nI 31)])), (am21, .inl (g.2.1 2, 25, .inr (.inl f29))), (am22, .inl (g.2.1 2, 25, .inr (.inl f30))), (am23, .inl (g.2.1 2, 5, .inr (.inl f31))), (am24, .inl (g.2.1 2, 24, .inr (.inl f24))), (am25, .inl (g.2.1 0, 25, .inl f25))]) (wr := []) hP hD hS hA [0, 1, 2, 3, 4, 5] [] rfl rfl rfl (by decide) (va_runV (As := []) (rest := []) F (t_MS_end l g _ T (am25 :: (am24 :: (am23 :: (am22 :: (am21 :: (r45 :: [])))))) pl hO hU  r45 am21 am22 am23 am24 am25 136 ps23 (nI 31) f29 f30 f31 f24 f25 (by omega) (by omega)) (cwV 0 hts (wg_app (wg_c kw_1721 (wg_c kw_1634 (wg_c kw_1635 (wg_c kw_10 wg_n)))) kw_1636) rfl rfl rfl (by decide +kernel) ⟨by decide, by decide⟩) (pp_V (en_ok g) (q0 := 0) hK hP hD hS hA hE [0, 1, 2, 3, 4, 5] rfl rfl rfl rfl) rfl rfl hl.1 rfl (lv_room (Nat.le_of_ble_eq_true rfl)) dMH_verify_211 ⟨by omega, by omega⟩) (fun  u25 H locs hu26 hP hD hS => ?_)
              obtain ⟨u26, pl⟩ := u25
              obtain ⟨hq26, hO⟩ := hu26
              obtain ⟨ps24, f32, f33, f34⟩ := u26
              have hP : va_P g.1 vcl ([(r45, .inr (9, [.ref am21, .ref am22, .ref am23, .ref am24, .ref am25, .int (nI 136), .int (nI ps24), .int (nI 31)])), (am21, .inl (g.2.1 2, 25, .inr (.inl f32))), (am22, .inl (g.2.1 2, 25, .inr (.inl f33))), (am23, .inl (g.2.1 2, 5, .inr (.inl f34))), (am24, .inl (g.2.1 2, 24, .inr (.inl f24))), (am25, .inl (g.2.1 0, 25, .inl f25))] ++ pl) _ := hP
              have hD : va_D _ ([(r45, .inr (9, [.ref am21, .ref am22, .ref am23, .ref am24, .ref am25, .int (nI 136), .int (nI ps24), .int (nI 31)])), (am21, .inl (g.2.1 2, 25, .inr (.inl f32))), (am22, .inl (g.2.1 2, 25, .inr (.inl f33))), (am23, .inl (g.2.1 2, 5, .inr (.inl f34))), (am24, .inl (g.2.1 2, 24, .inr (.inl f24))), (am25, .inl (g.2.1 0, 25, .inl f25))] ++ pl) := hD
              have hq26 : ps24 ≤ 136 := hq26
              refine W.widen (k := 0) (n := 0) (by omega) (by omega) ?_
              refine lv_aload_n hx hb dMH_verify_214 rfl (lv_at hl 4 rfl) ?_
              refine ty_get (ci := 12) (C := "LatticeKeysModel$Hands") (TT := T_MH) (N := 31) (kd := (47, 0)) hx hb hts (wg_ft i_MH) hown hK hO k_h0 (nxg (clo_cons (clo_cons (clo_cons (clo_cons (clo_cons (clo_cons clo_nil kr44 (by decide)) km21 (by decide)) km22 (by decide)) km23 (by decide)) km24 (by decide)) km25 (by decide)) k_h0 rfl) hP (fun _ h9 => h9) rfl 0 (by decide) (hts _ (wg_t kw_1432)) (fun _ h9 => h9) (cd := (3, 20, 0)) rfl dMH_verify_215 (fun v60 hv60 => ?_)
              obtain ⟨r49, rfl, kr47⟩ := (show ∃ r : Nat, v60 = .ref r ∧ T r = some (20, 0) from hv60)
              obtain rfl : r45 = r49 := hU _ _ _ (by decide) kr44 kr47
              refine lv_aload_n hx hb dMH_verify_218 rfl (lv_at hl 4 rfl) ?_
              refine ty_get (ci := 12) (C := "LatticeKeysModel$Hands") (TT := T_MH) (N := 31) (kd := (47, 0)) hx hb hts (wg_ft i_MH) hown hK hO k_h0 (nxg (clo_cons (clo_cons (clo_cons (clo_cons (clo_cons (clo_cons clo_nil kr44 (by decide)) km21 (by decide)) km22 (by decide)) km23 (by decide)) km24 (by decide)) km25 (by decide)) k_h0 rfl) hP (fun _ h9 => h9) rfl 22 (by decide) (hts _ (wg_t kw_1454)) (fun _ h9 => h9) (cd := (3, 1, 64)) rfl dMH_verify_219 (fun v61 hv61 => ?_)
              obtain ⟨r50, rfl, kr48⟩ := (show ∃ r : Nat, v61 = .ref r ∧ T r = some (1, 64) from hv61)
              refine lv_iconst (v := nI 0) hx hb dMH_verify_222 (by decide) ?_
              refine lv_bipush (v := nI 64) hx hb dMH_verify_223 (by decide) ?_
              refine mp_v (cx := [(r45, .inr (9, [.ref am21, .ref am22, .ref am23, .ref am24, .ref am25, .int (nI 136), .int (nI ps24), .int (nI 31)])), (am21, .inl (g.2.1 2, 25, .inr (.inl f32))), (am22, .inl (g.2.1 2, 25, .inr (.inl f33))), (am23, .inl (g.2.1 2, 5, .inr (.inl f34))), (am24, .inl (g.2.1 2, 24, .inr (.inl f24))), (am25, .inl (g.2.1 0, 25, .inl f25))]) (wr := []) hP hD hS hA [0, 1, 2, 3, 4, 5] [] rfl rfl rfl (by decide) (va_runV (As := [.ref r50, .int (nI 0), .int (nI 64)]) (rest := []) F (t_MS_take l g _ T (am25 :: (am24 :: (am23 :: (am22 :: (am21 :: (r45 :: [])))))) pl hO hU (clo_cons (clo_cons (clo_cons (clo_cons (clo_cons (clo_cons clo_nil kr44 (by decide)) km21 (by decide)) km22 (by decide)) km23 (by decide)) km24 (by decide)) km25 (by decide)) r50 64 0 64 r45 am21 am22 am23 am24 am25 136 ps24 (nI 31) f32 f33 f34 f24 f25 kr48 (by omega) (by omega) (by omega) (by omega)) (cwV 3 hts (wg_app (wg_c kw_1722 (wg_c kw_1638 (wg_c kw_1639 (wg_c kw_10 wg_n)))) kw_1640) rfl rfl rfl (by decide +kernel) ⟨by decide, by decide⟩) (pp_V (en_ok g) (q0 := 0) hK hP hD hS hA hE [0, 1, 2, 3, 4, 5] rfl rfl rfl rfl) rfl rfl hl.1 rfl (lv_room (Nat.le_of_ble_eq_true rfl)) dMH_verify_225 ⟨by omega, by omega⟩) (fun  u27 H locs hu27 hP hD hS => ?_)
              obtain ⟨u28, pl⟩ := u27
              obtain ⟨hq27, hO⟩ := hu27
              obtain ⟨ps25, f35, f36, f37⟩ := u28
              have hP : va_P g.1 vcl ([(r45, .inr (9, [.ref am21, .ref am22, .ref am23, .ref am24, .ref am25, .int (nI 136), .int (nI ps25), .int (nI 31)])), (am21, .inl (g.2.1 2, 25, .inr (.inl f35))), (am22, .inl (g.2.1 2, 25, .inr (.inl f36))), (am23, .inl (g.2.1 2, 5, .inr (.inl f37))), (am24, .inl (g.2.1 2, 24, .inr (.inl f24))), (am25, .inl (g.2.1 0, 25, .inl f25))] ++ pl) _ := hP
              have hD : va_D _ ([(r45, .inr (9, [.ref am21, .ref am22, .ref am23, .ref am24, .ref am25, .int (nI 136), .int (nI ps25), .int (nI 31)])), (am21, .inl (g.2.1 2, 25, .inr (.inl f35))), (am22, .inl (g.2.1 2, 25, .inr (.inl f36))), (am23, .inl (g.2.1 2, 5, .inr (.inl f37))), (am24, .inl (g.2.1 2, 24, .inr (.inl f24))), (am25, .inl (g.2.1 0, 25, .inl f25))] ++ pl) := hD
              have hq27 : ps25 ≤ 136 := hq27
              refine W.widen (k := 0) (n := 0) (by omega) (by omega) ?_
              refine lv_aload_n hx hb dMH_verify_228 rfl (lv_at hl 4 rfl) ?_
              refine lv_aload_n hx hb dMH_verify_229 rfl (lv_at hl 4 rfl) ?_
              refine ty_get (ci := 12) (C := "LatticeKeysModel$Hands") (TT := T_MH) (N := 31) (kd := (47, 0)) hx hb hts (wg_ft i_MH) hown hK hO k_h0 (nxg (clo_cons (clo_cons (clo_cons (clo_cons (clo_cons (clo_cons clo_nil kr44 (by decide)) km21 (by decide)) km22 (by decide)) km23 (by decide)) km24 (by decide)) km25 (by decide)) k_h0 rfl) hP (fun _ h9 => h9) rfl 22 (by decide) (hts _ (wg_t kw_1454)) (fun _ h9 => h9) (cd := (3, 1, 64)) rfl dMH_verify_230 (fun v62 hv62 => ?_)
              obtain ⟨r51, rfl, kr49⟩ := (show ∃ r : Nat, v62 = .ref r ∧ T r = some (1, 64) from hv62)
              refine lv_iconst (v := nI 0) hx hb dMH_verify_233 (by decide) ?_
              refine lv_aload_n hx hb dMH_verify_234 rfl (lv_at hl 6 rfl) ?_
              refine lv_aload_n hx hb dMH_verify_235 rfl (lv_at hl 4 rfl) ?_
              refine ty_get (ci := 12) (C := "LatticeKeysModel$Hands") (TT := T_MH) (N := 31) (kd := (47, 0)) hx hb hts (wg_ft i_MH) hown hK hO k_h0 (nxg (clo_cons (clo_cons (clo_cons (clo_cons (clo_cons (clo_cons clo_nil kr44 (by decide)) km21 (by decide)) km22 (by decide)) km23 (by decide)) km24 (by decide)) km25 (by decide)) k_h0 rfl) hP (fun _ h9 => h9) rfl 23 (by decide) (hts _ (wg_t kw_1455)) (fun _ h9 => h9) (cd := (1, 0, 1)) rfl dMH_verify_236 (fun v63 hv63 => ?_)
              obtain rfl := (show v63 = .int (nI 1) from hv63)
              refine mp_i (cx := []) (wr := [(r45, .inr (9, [.ref am21, .ref am22, .ref am23, .ref am24, .ref am25, .int (nI 136), .int (nI ps25), .int (nI 31)])), (am21, .inl (g.2.1 2, 25, .inr (.inl f35))), (am22, .inl (g.2.1 2, 25, .inr (.inl f36))), (am23, .inl (g.2.1 2, 5, .inr (.inl f37))), (am24, .inl (g.2.1 2, 24, .inr (.inl f24))), (am25, .inl (g.2.1 0, 25, .inl f25))]) hP hD hS hA [] [0, 1, 2, 3, 4, 5] rfl rfl rfl (by decide) (va_runS (As := [.int (nI 1)]) (rest := [.ref b, .int (nI 0), .ref r51, .ref h0]) F (t_MH_markSize_1 l g _ T (am25 :: (am24 :: (am23 :: (am22 :: (am21 :: (r45 :: [])))))) pl hO hU  ) (va_cwS 1 hts (wg_app (wg_c kw_1933 (wg_c kw_1919 (wg_c kw_13 wg_n))) kw_1920) rfl rfl rfl (by decide +kernel) ⟨by decide, by decide⟩) (pp_S (en_ok g) hP hD hS hA hE [] rfl rfl) rfl rfl hl.1 rfl (lv_room (Nat.le_of_ble_eq_true rfl)) dMH_verify_239 ⟨by omega, by omega⟩) (fun r52 pl H locs hu28 hP hD hS => ?_)
              obtain ⟨hq28, hO⟩ := hu28
              have hP : va_P g.1 vcl ([(r45, .inr (9, [.ref am21, .ref am22, .ref am23, .ref am24, .ref am25, .int (nI 136), .int (nI ps25), .int (nI 31)])), (am21, .inl (g.2.1 2, 25, .inr (.inl f35))), (am22, .inl (g.2.1 2, 25, .inr (.inl f36))), (am23, .inl (g.2.1 2, 5, .inr (.inl f37))), (am24, .inl (g.2.1 2, 24, .inr (.inl f24))), (am25, .inl (g.2.1 0, 25, .inl f25))] ++ pl) _ := hP
              have hD : va_D _ ([(r45, .inr (9, [.ref am21, .ref am22, .ref am23, .ref am24, .ref am25, .int (nI 136), .int (nI ps25), .int (nI 31)])), (am21, .inl (g.2.1 2, 25, .inr (.inl f35))), (am22, .inl (g.2.1 2, 25, .inr (.inl f36))), (am23, .inl (g.2.1 2, 5, .inr (.inl f37))), (am24, .inl (g.2.1 2, 24, .inr (.inl f24))), (am25, .inl (g.2.1 0, 25, .inl f25))] ++ pl) := hD
              obtain rfl := hq28
              refine W.widen (k := 0) (n := 0) (by omega) (by omega) ?_
              refine lv_iload hx hb dMH_verify_242 (lv_at hl 7 rfl) ?_
              refine lv_iload hx hb dMH_verify_244 (lv_at hl 8 rfl) ?_
              have hO := close1 (e := .inl (g.2.1 0, 25, .inl f25)) hO km25 ⟨_, rfl⟩
              have hO := close1 (e := .inl (g.2.1 2, 24, .inr (.inl f24))) hO km24 ⟨_, rfl⟩
              have hO := close1 (e := .inl (g.2.1 2, 5, .inr (.inl f37))) hO km23 ⟨_, rfl⟩
              have hO := close1 (e := .inl (g.2.1 2, 25, .inr (.inl f36))) hO km22 ⟨_, rfl⟩
              have hO := close1 (e := .inl (g.2.1 2, 25, .inr (.inl f35))) hO km21 ⟨_, rfl⟩
              have hO := close1 (e := .inr (9, [.ref am21, .ref am22, .ref am23, .ref am24, .ref am25, .int (nI 136), .int (nI ps25), .int (nI 31)])) hO kr44 ⟨_, _, _, _, _, _, _, _, rfl, km21, km22, km23, km24, km25, by omega, by omega, by omega⟩
              have hO : okx g T [] ((r45, .inr (9, [.ref am21, .ref am22, .ref am23, .ref am24, .ref am25, .int (nI 136), .int (nI ps25), .int (nI 31)])) :: (am21, .inl (g.2.1 2, 25, .inr (.inl f35))) :: (am22, .inl (g.2.1 2, 25, .inr (.inl f36))) :: (am23, .inl (g.2.1 2, 5, .inr (.inl f37))) :: (am24, .inl (g.2.1 2, 24, .inr (.inl f24))) :: (am25, .inl (g.2.1 0, 25, .inl f25)) :: pl) := hO
              have hP : va_P g.1 vcl ([] ++ ((r45, .inr (9, [.ref am21, .ref am22, .ref am23, .ref am24, .ref am25, .int (nI 136), .int (nI ps25), .int (nI 31)])) :: (am21, .inl (g.2.1 2, 25, .inr (.inl f35))) :: (am22, .inl (g.2.1 2, 25, .inr (.inl f36))) :: (am23, .inl (g.2.1 2, 5, .inr (.inl f37))) :: (am24, .inl (g.2.1 2, 24, .inr (.inl f24))) :: (am25, .inl (g.2.1 0, 25, .inl f25)) :: pl)) _ := hP
              have hD : va_D _ ([] ++ ((r45, .inr (9, [.ref am21, .ref am22, .ref am23, .ref am24, .ref am25, .int (nI 136), .int (nI ps25), .int (nI 31)])) :: (am21, .inl (g.2.1 2, 25, .inr (.inl f35))) :: (am22, .inl (g.2.1 2, 25, .inr (.inl f36))) :: (am23, .inl (g.2.1 2, 5, .inr (.inl f37))) :: (am24, .inl (g.2.1 2, 24, .inr (.inl f24))) :: (am25, .inl (g.2.1 0, 25, .inl f25)) :: pl)) := hD
              generalize ((r45, .inr (9, [.ref am21, .ref am22, .ref am23, .ref am24, .ref am25, .int (nI 136), .int (nI ps25), .int (nI 31)])) :: (am21, .inl (g.2.1 2, 25, .inr (.inl f35))) :: (am22, .inl (g.2.1 2, 25, .inr (.inl f36))) :: (am23, .inl (g.2.1 2, 5, .inr (.inl f37))) :: (am24, .inl (g.2.1 2, 24, .inr (.inl f24))) :: (am25, .inl (g.2.1 0, 25, .inl f25)) :: pl) = pl at hO hP hD
              refine mp_v (cx := []) (wr := []) hP hD hS hA [] [] rfl rfl rfl (by decide) (va_runV (As := [.ref r51, .int (nI 0), .ref b, .int (nI 3309), .int cl, .int (nI ed)]) (rest := []) F (t_MH_message_1 l g _ T [] pl hO hU clo_nil clo_nil h0 r51 b 64 16384 0 3309 ed cl k_h0 kr49 k_b (by omega) (by omega) (by omega) (by omega) (by omega)) (cwV 6 hts (wg_app (wg_c kw_1868 (wg_c kw_1870 (wg_c ks_71 (wg_c kw_13 wg_n)))) kw_1871) rfl rfl rfl (by decide +kernel) ⟨by decide, by decide⟩) (pp_VT (en_ok g) (ci := 12) (kd := (47, 0)) hK hO k_h0 (nxg clo_nil k_h0 rfl) (fun _ h9 => ko1 h9) hP hD hS hA hE [] rfl rfl rfl) rfl rfl hl.1 rfl (lv_room (Nat.le_of_ble_eq_true rfl)) dMH_verify_246 ⟨by omega, by omega⟩) (fun  pl H locs hu29 hP hD hS => ?_)
              obtain ⟨hq29, hO⟩ := hu29
              have hP : va_P g.1 vcl ([] ++ pl) _ := hP
              have hD : va_D _ ([] ++ pl) := hD
              refine W.widen (k := 0) (n := 0) (by omega) (by omega) ?_
              refine lv_aload_n hx hb dMH_verify_249 rfl (lv_at hl 4 rfl) ?_
              refine lv_aload_n hx hb dMH_verify_250 rfl (lv_at hl 5 rfl) ?_
              refine mp_v (cx := []) (wr := []) hP hD hS hA [] [] rfl rfl rfl (by decide) (va_runV (As := [.ref pk]) (rest := []) F (t_MH_expand_1 l g _ T [] pl hO hU clo_nil clo_nil h0 pk 2592 k_h0 k_pk (by omega) (by omega)) (cwV 1 hts (wg_app (wg_c kw_1723 (wg_c kw_1725 (wg_c ks_61 (wg_c kw_13 wg_n)))) kw_1726) rfl rfl rfl (by decide +kernel) ⟨by decide, by decide⟩) (pp_VT (en_ok g) (ci := 12) (kd := (47, 0)) hK hO k_h0 (nxg clo_nil k_h0 rfl) (fun _ h9 => ko1 h9) hP hD hS hA hE [] rfl rfl rfl) rfl rfl hl.1 rfl (lv_room (Nat.le_of_ble_eq_true rfl)) dMH_verify_251 ⟨by omega, by omega⟩) (fun  pl H locs hu30 hP hD hS => ?_)
              obtain ⟨hq30, hO⟩ := hu30
              have hP : va_P g.1 vcl ([] ++ pl) _ := hP
              have hD : va_D _ ([] ++ pl) := hD
              refine W.widen (k := 0) (n := 0) (by omega) (by omega) ?_
              refine lv_aload_n hx hb dMH_verify_254 rfl (lv_at hl 4 rfl) ?_
              refine lv_aload_n hx hb dMH_verify_255 rfl (lv_at hl 4 rfl) ?_
              refine ty_get (ci := 12) (C := "LatticeKeysModel$Hands") (TT := T_MH) (N := 31) (kd := (47, 0)) hx hb hts (wg_ft i_MH) hown hK hO k_h0 (nxg clo_nil k_h0 rfl) hP (fun _ h9 => h9) rfl 20 (by decide) (hts _ (wg_t kw_1452)) (fun _ h9 => h9) (cd := (3, 1, 64)) rfl dMH_verify_256 (fun v64 hv64 => ?_)
              obtain ⟨r53, rfl, kr50⟩ := (show ∃ r : Nat, v64 = .ref r ∧ T r = some (1, 64) from hv64)
              refine mp_v (cx := []) (wr := []) hP hD hS hA [] [] rfl rfl rfl (by decide) (va_runV (As := [.ref r53]) (rest := []) F (t_MH_ball_1 l g _ T [] pl hO hU clo_nil clo_nil h0 r53 k_h0 kr50) (cwV 1 hts (wg_app (wg_c kw_1893 (wg_c kw_1895 (wg_c ks_77 (wg_c kw_13 wg_n)))) kw_1896) rfl rfl rfl (by decide +kernel) ⟨by decide, by decide⟩) (pp_VT (en_ok g) (ci := 12) (kd := (47, 0)) hK hO k_h0 (nxg clo_nil k_h0 rfl) (fun _ h9 => ko1 h9) hP hD hS hA hE [] rfl rfl rfl) rfl rfl hl.1 rfl (lv_room (Nat.le_of_ble_eq_true rfl)) dMH_verify_259 ⟨by omega, by omega⟩) (fun  pl H locs hu31 hP hD hS => ?_)
              obtain ⟨hq31, hO⟩ := hu31
              have hP : va_P g.1 vcl ([] ++ pl) _ := hP
              have hD : va_D _ ([] ++ pl) := hD
              refine W.widen (k := 0) (n := 0) (by omega) (by omega) ?_
              refine lv_iconst (v := nI 0) hx hb dMH_verify_262 (by decide) ?_
              refine lv_istore (lv' := [(9, .int (nI 0)), (8, .int z29), (7, .int (nI az21)), (6, .int (nI 20)), (0, .ref h0), (2, .ref pk), (3, .ref b), (4, .int cl), (5, .int (nI ed))]) hx hb dMH_verify_263 hl (by decide) rfl (fun ls hl => ?_)
              have lp23 : ∀ (n23 : Nat) (i23 : Nat) (pl : va_W) (ls : Array Slot) (H : Heap) (locs : List Loc), n23 + i23 = 5 → lv_has ls 11 [(9, .int (nI i23)), (0, .ref h0), (2, .ref pk)] → okx g T [] pl → va_P g.1 vcl ([] ++ pl) H → va_D A ([] ++ pl) → va_S A s.heap H locs → W p l e ({ frames := 5, cells := 0, slots := 0, locals := 124 } : Room) s m args below meth c H locs 0 0 (MQ below (va_Qi (fun (r : Int32) (u : va_W) => (r = nI 0 ∨ r = nI 1) ∧ okx g T0 [] u) (po g.1 vcl A (fun (u : va_W) => [] ++ u)) A) args s 0 0 A) (F0 m 265 ls []) := by
                intro n23
                induction n23 with
                | zero =>
                  intro i23 pl ls H locs hm23  hl hO hP hD hS
                  refine lv_iload hx hb dMH_verify_265 (lv_at hl 0 rfl) ?_
                  refine lv_aload_n hx hb dMH_verify_267 rfl (lv_at hl 1 rfl) ?_
                  refine ty_get (ci := 12) (C := "LatticeKeysModel$Hands") (TT := T_MH) (N := 31) (kd := (47, 0)) hx hb hts (wg_ft i_MH) hown hK hO k_h0 (nxg clo_nil k_h0 rfl) hP (fun _ h9 => h9) rfl 25 (by decide) (hts _ (wg_t kw_1457)) (fun _ h9 => h9) (cd := (1, 0, 5)) rfl dMH_verify_268 (fun v65 hv65 => ?_)
                  obtain rfl := (show v65 = .int (nI 5) from hv65)
                  refine mi_ge (tgt := 303) hx hb dMH_verify_271 (by decide) (by omega) (by omega) (fun h26 => ?_) (fun h26 => absurd h26 (by omega))
                  refine lv_iconst (v := nI 0) hx hb dMH_verify_303 (by decide) ?_
                  refine lv_istore (lv' := [(9, .int (nI 0)), (0, .ref h0), (2, .ref pk)]) hx hb dMH_verify_304 hl (by decide) rfl (fun ls hl => ?_)
                  have lp24 : ∀ (n24 : Nat) (i24 : Nat) (pl : va_W) (ls : Array Slot) (H : Heap) (locs : List Loc), n24 + i24 = 6 → lv_has ls 11 [(9, .int (nI i24)), (0, .ref h0), (2, .ref pk)] → okx g T [] pl → va_P g.1 vcl ([] ++ pl) H → va_D A ([] ++ pl) → va_S A s.heap H locs → W p l e ({ frames := 5, cells := 0, slots := 0, locals := 124 } : Room) s m args below meth c H locs 0 0 (MQ below (va_Qi (fun (r : Int32) (u : va_W) => (r = nI 0 ∨ r = nI 1) ∧ okx g T0 [] u) (po g.1 vcl A (fun (u : va_W) => [] ++ u)) A) args s 0 0 A) (F0 m 306 ls []) := by
                    intro n24
                    induction n24 with
                    | zero =>
                      intro i24 pl ls H locs hm24  hl hO hP hD hS
                      refine lv_iload hx hb dMH_verify_306 (lv_at hl 0 rfl) ?_
                      refine lv_aload_n hx hb dMH_verify_308 rfl (lv_at hl 1 rfl) ?_
                      refine ty_get (ci := 12) (C := "LatticeKeysModel$Hands") (TT := T_MH) (N := 31) (kd := (47, 0)) hx hb hts (wg_ft i_MH) hown hK hO k_h0 (nxg clo_nil k_h0 rfl) hP (fun _ h9 => h9) rfl 24 (by decide) (hts _ (wg_t kw_1456)) (fun _ h9 => h9) (cd := (1, 0, 6)) rfl dMH_verify_309 (fun v66 hv66 => ?_)
                      obtain rfl := (show v66 = .int (nI 6) from hv66)
                      refine mi_ge (tgt := 448) hx hb dMH_verify_312 (by decide) (by omega) (by omega) (fun h27 => ?_) (fun h27 => absurd h27 (by omega))
                      refine lv_aload_n hx hb dMH_verify_448 rfl (lv_at hl 1 rfl) ?_
                      refine lv_iconst (v := nI 1) hx hb dMH_verify_449 (by decide) ?_
                      refine lv_aload_n hx hb dMH_verify_450 rfl (lv_at hl 1 rfl) ?_
                      refine ty_get (ci := 12) (C := "LatticeKeysModel$Hands") (TT := T_MH) (N := 31) (kd := (47, 0)) hx hb hts (wg_ft i_MH) hown hK hO k_h0 (nxg clo_nil k_h0 rfl) hP (fun _ h9 => h9) rfl 21 (by decide) (hts _ (wg_t kw_1453)) (fun _ h9 => h9) (cd := (3, 1, 64)) rfl dMH_verify_451 (fun v67 hv67 => ?_)
                      obtain ⟨r54, rfl, kr51⟩ := (show ∃ r : Nat, v67 = .ref r ∧ T r = some (1, 64) from hv67)
                      refine mp_v (cx := []) (wr := []) hP hD hS hA [] [] rfl rfl rfl (by decide) (va_runV (As := [.int (nI 1), .ref r54]) (rest := []) F (t_MH_marked_1 l g _ T [] pl hO hU clo_nil clo_nil h0 r54 (nI 1) k_h0 kr51) (cwV 2 hts (wg_app (wg_c kw_1876 (wg_c kw_1878 (wg_c ks_73 (wg_c kw_13 wg_n)))) kw_1879) rfl rfl rfl (by decide +kernel) ⟨by decide, by decide⟩) (pp_VT (en_ok g) (ci := 12) (kd := (47, 0)) hK hO k_h0 (nxg clo_nil k_h0 rfl) (fun _ h9 => ko1 h9) hP hD hS hA hE [] rfl rfl rfl) rfl rfl hl.1 rfl (lv_room (Nat.le_of_ble_eq_true rfl)) dMH_verify_454 ⟨by omega, by omega⟩) (fun  pl H locs hu32 hP hD hS => ?_)
                      obtain ⟨hq32, hO⟩ := hu32
                      have hP : va_P g.1 vcl ([] ++ pl) _ := hP
                      have hD : va_D _ ([] ++ pl) := hD
                      refine W.widen (k := 0) (n := 0) (by omega) (by omega) ?_
                      refine lv_iconst (v := nI 0) hx hb dMH_verify_457 (by decide) ?_
                      refine lv_istore (lv' := [(9, .int (nI 0)), (0, .ref h0), (2, .ref pk)]) hx hb dMH_verify_458 hl (by decide) rfl (fun ls hl => ?_)
                      have lp25 : ∀ (n25 : Nat) (i25 : Nat) (pl : va_W) (ls : Array Slot) (H : Heap) (locs : List Loc), n25 + i25 = 48 → lv_has ls 11 [(9, .int (nI i25)), (0, .ref h0)] → okx g T [] pl → va_P g.1 vcl ([] ++ pl) H → va_D A ([] ++ pl) → va_S A s.heap H locs → W p l e ({ frames := 5, cells := 0, slots := 0, locals := 124 } : Room) s m args below meth c H locs 0 0 (MQ below (va_Qi (fun (r : Int32) (u : va_W) => (r = nI 0 ∨ r = nI 1) ∧ okx g T0 [] u) (po g.1 vcl A (fun (u : va_W) => [] ++ u)) A) args s 0 0 A) (F0 m 460 ls []) := by
                        intro n25
                        induction n25 with
                        | zero =>
                          intro i25 pl ls H locs hm25  hl hO hP hD hS
                          refine lv_iload hx hb dMH_verify_460 (lv_at hl 0 rfl) ?_
                          refine lv_aload_n hx hb dMH_verify_462 rfl (lv_at hl 1 rfl) ?_
                          refine ty_get (ci := 12) (C := "LatticeKeysModel$Hands") (TT := T_MH) (N := 31) (kd := (47, 0)) hx hb hts (wg_ft i_MH) hown hK hO k_h0 (nxg clo_nil k_h0 rfl) hP (fun _ h9 => h9) rfl 30 (by decide) (hts _ (wg_t kw_1462)) (fun _ h9 => h9) (cd := (1, 0, 48)) rfl dMH_verify_463 (fun v68 hv68 => ?_)
                          obtain rfl := (show v68 = .int (nI 48) from hv68)
                          refine mi_ge (tgt := 494) hx hb dMH_verify_466 (by decide) (by omega) (by omega) (fun h28 => ?_) (fun h28 => absurd h28 (by omega))
                          refine lv_iconst (v := nI 1) hx hb dMH_verify_494 (by decide) ?_
                          exact mp_zret hx hb hr hlk rfl hP hD hS pl ⟨(Or.inr rfl), (hback _ hO)⟩ [] rfl rfl rfl (by omega) (by omega) dMH_verify_495
                        | succ n25 ih25 =>
                          intro i25 pl ls H locs hm25  hl hO hP hD hS
                          refine lv_iload hx hb dMH_verify_460 (lv_at hl 0 rfl) ?_
                          refine lv_aload_n hx hb dMH_verify_462 rfl (lv_at hl 1 rfl) ?_
                          refine ty_get (ci := 12) (C := "LatticeKeysModel$Hands") (TT := T_MH) (N := 31) (kd := (47, 0)) hx hb hts (wg_ft i_MH) hown hK hO k_h0 (nxg clo_nil k_h0 rfl) hP (fun _ h9 => h9) rfl 30 (by decide) (hts _ (wg_t kw_1462)) (fun _ h9 => h9) (cd := (1, 0, 48)) rfl dMH_verify_463 (fun v69 hv69 => ?_)
                          obtain rfl := (show v69 = .int (nI 48) from hv69)
                          refine mi_ge (tgt := 494) hx hb dMH_verify_466 (by decide) (by omega) (by omega) (fun h29 => absurd h29 (by omega)) (fun h29 => ?_)
                          refine lv_aload_n hx hb dMH_verify_469 rfl (lv_at hl 1 rfl) ?_
                          refine ty_get (ci := 12) (C := "LatticeKeysModel$Hands") (TT := T_MH) (N := 31) (kd := (47, 0)) hx hb hts (wg_ft i_MH) hown hK hO k_h0 (nxg clo_nil k_h0 rfl) hP (fun _ h9 => h9) rfl 21 (by decide) (hts _ (wg_t kw_1453)) (fun _ h9 => h9) (cd := (3, 1, 64)) rfl dMH_verify_470 (fun v70 hv70 => ?_)
                          obtain ⟨r55, rfl, kr52⟩ := (show ∃ r : Nat, v70 = .ref r ∧ T r = some (1, 64) from hv70)
                          refine lv_iload hx hb dMH_verify_473 (lv_at hl 0 rfl) ?_
                          refine ty_bald hx hb hK hO kr52 (nxg clo_nil kr52 rfl) hP (vp_in_nI (by omega) (by decide)) dMH_verify_475 (fun z30 => ?_)
                          refine lv_aload_n hx hb dMH_verify_476 rfl (lv_at hl 1 rfl) ?_
                          refine ty_get (ci := 12) (C := "LatticeKeysModel$Hands") (TT := T_MH) (N := 31) (kd := (47, 0)) hx hb hts (wg_ft i_MH) hown hK hO k_h0 (nxg clo_nil k_h0 rfl) hP (fun _ h9 => h9) rfl 20 (by decide) (hts _ (wg_t kw_1452)) (fun _ h9 => h9) (cd := (3, 1, 64)) rfl dMH_verify_477 (fun v71 hv71 => ?_)
                          obtain ⟨r56, rfl, kr53⟩ := (show ∃ r : Nat, v71 = .ref r ∧ T r = some (1, 64) from hv71)
                          refine lv_iload hx hb dMH_verify_480 (lv_at hl 0 rfl) ?_
                          refine ty_bald hx hb hK hO kr53 (nxg clo_nil kr53 rfl) hP (vp_in_nI (by omega) (by decide)) dMH_verify_482 (fun z31 => ?_)
                          refine lv_icmp_eq (tgt := 488) hx hb dMH_verify_483 (by decide) (fun h30 => ?_) (fun h30 => ?_)
                          · refine mi_iinc (k := 0) (x := i25) (d := 1) (y := i25 + 1) (lv' := [(9, .int (nI (i25 + 1))), (0, .ref h0)]) hx hb dMH_verify_488 hl rfl (by decide) rfl (by decide) rfl (fun ls hl => ?_)
                            refine lv_goto (tgt := 460) hx hb dMH_verify_491 (by decide) ?_
                            exact ih25 (i25 + 1) pl ls H locs (by omega) (lv_sub hl [0, 1] rfl) hO hP hD hS
                          · refine lv_iconst (v := nI 0) hx hb dMH_verify_486 (by decide) ?_
                            exact mp_zret hx hb hr hlk rfl hP hD hS pl ⟨(Or.inl rfl), (hback _ hO)⟩ [] rfl rfl rfl (by omega) (by omega) dMH_verify_487
                      exact lp25 48 0 pl ls _ _ (by omega) (lv_sub hl [0, 1] rfl) hO hP hD hS
                    | succ n24 ih24 =>
                      intro i24 pl ls H locs hm24  hl hO hP hD hS
                      refine lv_iload hx hb dMH_verify_306 (lv_at hl 0 rfl) ?_
                      refine lv_aload_n hx hb dMH_verify_308 rfl (lv_at hl 1 rfl) ?_
                      refine ty_get (ci := 12) (C := "LatticeKeysModel$Hands") (TT := T_MH) (N := 31) (kd := (47, 0)) hx hb hts (wg_ft i_MH) hown hK hO k_h0 (nxg clo_nil k_h0 rfl) hP (fun _ h9 => h9) rfl 24 (by decide) (hts _ (wg_t kw_1456)) (fun _ h9 => h9) (cd := (1, 0, 6)) rfl dMH_verify_309 (fun v72 hv72 => ?_)
                      obtain rfl := (show v72 = .int (nI 6) from hv72)
                      refine mi_ge (tgt := 448) hx hb dMH_verify_312 (by decide) (by omega) (by omega) (fun h31 => absurd h31 (by omega)) (fun h31 => ?_)
                      refine lv_aload_n hx hb dMH_verify_315 rfl (lv_at hl 1 rfl) ?_
                      refine lv_iload hx hb dMH_verify_316 (lv_at hl 0 rfl) ?_
                      refine lv_aload_n hx hb dMH_verify_318 rfl (lv_at hl 1 rfl) ?_
                      refine ty_get (ci := 12) (C := "LatticeKeysModel$Hands") (TT := T_MH) (N := 31) (kd := (47, 0)) hx hb hts (wg_ft i_MH) hown hK hO k_h0 (nxg clo_nil k_h0 rfl) hP (fun _ h9 => h9) rfl 10 (by decide) (hts _ (wg_t kw_1442)) (fun _ h9 => h9) (cd := (3, 3, 8)) rfl dMH_verify_319 (fun v73 hv73 => ?_)
                      obtain ⟨r57, rfl, kr54⟩ := (show ∃ r : Nat, v73 = .ref r ∧ T r = some (3, 8) from hv73)
                      refine lv_iload hx hb dMH_verify_322 (lv_at hl 0 rfl) ?_
                      refine ty_aald3 hx hb hK hO kr54 (nxg clo_nil kr54 rfl) hP (by omega) (by decide) dMH_verify_324 (fun r58 kr55 => ?_)
                      refine mp_v (cx := []) (wr := []) hP hD hS hA [] [] rfl rfl rfl (by decide) (va_runV (As := [.int (nI i24), .ref r58]) (rest := []) F (t_MH_rowBy_1 l g _ T [] pl hO hU clo_nil h0 r58 i24 k_h0 kr55 (by omega)) (cwV 2 hts (wg_app (wg_c kw_1734 (wg_c kw_1736 (wg_c ks_63 (wg_c kw_13 wg_n)))) kw_1737) rfl rfl rfl (by decide +kernel) ⟨by decide, by decide⟩) (pp_VT (en_ok g) (ci := 12) (kd := (47, 0)) hK hO k_h0 (nxg clo_nil k_h0 rfl) (fun _ h9 => ko1 h9) hP hD hS hA hE [] rfl rfl rfl) rfl rfl hl.1 rfl (lv_room (Nat.le_of_ble_eq_true rfl)) dMH_verify_325 ⟨by omega, by omega⟩) (fun  pl H locs hu33 hP hD hS => ?_)
                      obtain ⟨hq33, hO⟩ := hu33
                      have hP : va_P g.1 vcl ([] ++ pl) _ := hP
                      have hD : va_D _ ([] ++ pl) := hD
                      refine W.widen (k := 0) (n := 0) (by omega) (by omega) ?_
                      refine lv_iconst (v := nI 0) hx hb dMH_verify_328 (by decide) ?_
                      refine lv_istore (lv' := [(10, .int (nI 0)), (9, .int (nI i24)), (0, .ref h0), (2, .ref pk)]) hx hb dMH_verify_329 hl (by decide) rfl (fun ls hl => ?_)
                      have lp26 : ∀ (n26 : Nat) (i26 : Nat) (pl : va_W) (ls : Array Slot) (H : Heap) (locs : List Loc), n26 + i26 = 256 → lv_has ls 11 [(10, .int (nI i26)), (9, .int (nI i24)), (0, .ref h0), (2, .ref pk)] → okx g T [] pl → va_P g.1 vcl ([] ++ pl) H → va_D A ([] ++ pl) → va_S A s.heap H locs → W p l e ({ frames := 5, cells := 0, slots := 0, locals := 124 } : Room) s m args below meth c H locs 0 0 (MQ below (va_Qi (fun (r : Int32) (u : va_W) => (r = nI 0 ∨ r = nI 1) ∧ okx g T0 [] u) (po g.1 vcl A (fun (u : va_W) => [] ++ u)) A) args s 0 0 A) (F0 m 331 ls []) := by
                        intro n26
                        induction n26 with
                        | zero =>
                          intro i26 pl ls H locs hm26  hl hO hP hD hS
                          refine lv_iload hx hb dMH_verify_331 (lv_at hl 0 rfl) ?_
                          refine lv_sipush (v := nI 256) hx hb dMH_verify_333 (by decide) ?_
                          refine mi_ge (tgt := 380) hx hb dMH_verify_336 (by decide) (by omega) (by omega) (fun h32 => ?_) (fun h32 => absurd h32 (by omega))
                          refine lv_aload_n hx hb dMH_verify_380 rfl (lv_at hl 2 rfl) ?_
                          refine lv_aload_n hx hb dMH_verify_381 rfl (lv_at hl 2 rfl) ?_
                          refine ty_get (ci := 12) (C := "LatticeKeysModel$Hands") (TT := T_MH) (N := 31) (kd := (47, 0)) hx hb hts (wg_ft i_MH) hown hK hO k_h0 (nxg clo_nil k_h0 rfl) hP (fun _ h9 => h9) rfl 6 (by decide) (hts _ (wg_t kw_1438)) (fun _ h9 => h9) (cd := (3, 3, 8)) rfl dMH_verify_382 (fun v74 hv74 => ?_)
                          obtain ⟨r59, rfl, kr56⟩ := (show ∃ r : Nat, v74 = .ref r ∧ T r = some (3, 8) from hv74)
                          refine lv_iload hx hb dMH_verify_385 (lv_at hl 1 rfl) ?_
                          refine ty_aald3 hx hb hK hO kr56 (nxg clo_nil kr56 rfl) hP (by omega) (by decide) dMH_verify_387 (fun r60 kr57 => ?_)
                          refine lv_aload_n hx hb dMH_verify_388 rfl (lv_at hl 2 rfl) ?_
                          refine ty_get (ci := 12) (C := "LatticeKeysModel$Hands") (TT := T_MH) (N := 31) (kd := (47, 0)) hx hb hts (wg_ft i_MH) hown hK hO k_h0 (nxg clo_nil k_h0 rfl) hP (fun _ h9 => h9) rfl 13 (by decide) (hts _ (wg_t kw_1445)) (fun _ h9 => h9) (cd := (3, 0, 256)) rfl dMH_verify_389 (fun v75 hv75 => ?_)
                          obtain ⟨r61, rfl, kr58⟩ := (show ∃ r : Nat, v75 = .ref r ∧ T r = some (0, 256) from hv75)
                          refine mp_v (cx := []) (wr := []) hP hD hS hA [] [] rfl rfl rfl (by decide) (va_runV (As := [.ref r60, .ref r61]) (rest := []) F (t_MH_turned_1 l g _ T [] pl hO hU clo_nil h0 r60 r61 k_h0 kr57 kr58) (cwV 2 hts (wg_app (wg_c kw_1901 (wg_c kw_1903 (wg_c ks_79 (wg_c kw_13 wg_n)))) kw_1904) rfl rfl rfl (by decide +kernel) ⟨by decide, by decide⟩) (pp_VT (en_ok g) (ci := 12) (kd := (47, 0)) hK hO k_h0 (nxg clo_nil k_h0 rfl) (fun _ h9 => ko1 h9) hP hD hS hA hE [] rfl rfl rfl) rfl rfl hl.1 rfl (lv_room (Nat.le_of_ble_eq_true rfl)) dMH_verify_392 ⟨by omega, by omega⟩) (fun  pl H locs hu34 hP hD hS => ?_)
                          obtain ⟨hq34, hO⟩ := hu34
                          have hP : va_P g.1 vcl ([] ++ pl) _ := hP
                          have hD : va_D _ ([] ++ pl) := hD
                          refine W.widen (k := 0) (n := 0) (by omega) (by omega) ?_
                          refine lv_iconst (v := nI 0) hx hb dMH_verify_395 (by decide) ?_
                          refine lv_istore (lv' := [(10, .int (nI 0)), (9, .int (nI i24)), (0, .ref h0), (2, .ref pk)]) hx hb dMH_verify_396 hl (by decide) rfl (fun ls hl => ?_)
                          have lp27 : ∀ (n27 : Nat) (i27 : Nat) (pl : va_W) (ls : Array Slot) (H : Heap) (locs : List Loc), n27 + i27 = 256 → lv_has ls 11 [(10, .int (nI i27)), (9, .int (nI i24)), (0, .ref h0), (2, .ref pk)] → okx g T [] pl → va_P g.1 vcl ([] ++ pl) H → va_D A ([] ++ pl) → va_S A s.heap H locs → W p l e ({ frames := 5, cells := 0, slots := 0, locals := 124 } : Room) s m args below meth c H locs 0 0 (MQ below (va_Qi (fun (r : Int32) (u : va_W) => (r = nI 0 ∨ r = nI 1) ∧ okx g T0 [] u) (po g.1 vcl A (fun (u : va_W) => [] ++ u)) A) args s 0 0 A) (F0 m 398 ls []) := by
                            intro n27
                            induction n27 with
                            | zero =>
                              intro i27 pl ls H locs hm27  hl hO hP hD hS
                              refine lv_iload hx hb dMH_verify_398 (lv_at hl 0 rfl) ?_
                              refine lv_sipush (v := nI 256) hx hb dMH_verify_400 (by decide) ?_
                              refine mi_ge (tgt := 442) hx hb dMH_verify_403 (by decide) (by omega) (by omega) (fun h33 => ?_) (fun h33 => absurd h33 (by omega))
                              refine mi_iinc (k := 1) (x := i24) (d := 1) (y := i24 + 1) (lv' := [(9, .int (nI (i24 + 1))), (10, .int (nI i27)), (0, .ref h0), (2, .ref pk)]) hx hb dMH_verify_442 hl rfl (by decide) rfl (by decide) rfl (fun ls hl => ?_)
                              refine lv_goto (tgt := 306) hx hb dMH_verify_445 (by decide) ?_
                              exact ih24 (i24 + 1) pl ls H locs (by omega) (lv_sub hl [0, 2, 3] rfl) hO hP hD hS
                            | succ n27 ih27 =>
                              intro i27 pl ls H locs hm27  hl hO hP hD hS
                              refine lv_iload hx hb dMH_verify_398 (lv_at hl 0 rfl) ?_
                              refine lv_sipush (v := nI 256) hx hb dMH_verify_400 (by decide) ?_
                              refine mi_ge (tgt := 442) hx hb dMH_verify_403 (by decide) (by omega) (by omega) (fun h34 => absurd h34 (by omega)) (fun h34 => ?_)
                              refine lv_aload_n hx hb dMH_verify_406 rfl (lv_at hl 2 rfl) ?_
                              refine ty_get (ci := 12) (C := "LatticeKeysModel$Hands") (TT := T_MH) (N := 31) (kd := (47, 0)) hx hb hts (wg_ft i_MH) hown hK hO k_h0 (nxg clo_nil k_h0 rfl) hP (fun _ h9 => h9) rfl 10 (by decide) (hts _ (wg_t kw_1442)) (fun _ h9 => h9) (cd := (3, 3, 8)) rfl dMH_verify_407 (fun v76 hv76 => ?_)
                              obtain ⟨r62, rfl, kr59⟩ := (show ∃ r : Nat, v76 = .ref r ∧ T r = some (3, 8) from hv76)
                              refine lv_iload hx hb dMH_verify_410 (lv_at hl 1 rfl) ?_
                              refine ty_aald3 hx hb hK hO kr59 (nxg clo_nil kr59 rfl) hP (by omega) (by decide) dMH_verify_412 (fun r63 kr60 => ?_)
                              refine lv_iload hx hb dMH_verify_413 (lv_at hl 0 rfl) ?_
                              refine lv_aload_n hx hb dMH_verify_415 rfl (lv_at hl 2 rfl) ?_
                              refine ty_get (ci := 12) (C := "LatticeKeysModel$Hands") (TT := T_MH) (N := 31) (kd := (47, 0)) hx hb hts (wg_ft i_MH) hown hK hO k_h0 (nxg clo_nil k_h0 rfl) hP (fun _ h9 => h9) rfl 10 (by decide) (hts _ (wg_t kw_1442)) (fun _ h9 => h9) (cd := (3, 3, 8)) rfl dMH_verify_416 (fun v77 hv77 => ?_)
                              obtain ⟨r64, rfl, kr61⟩ := (show ∃ r : Nat, v77 = .ref r ∧ T r = some (3, 8) from hv77)
                              refine lv_iload hx hb dMH_verify_419 (lv_at hl 1 rfl) ?_
                              refine ty_aald3 hx hb hK hO kr61 (nxg clo_nil kr61 rfl) hP (by omega) (by decide) dMH_verify_421 (fun r65 kr62 => ?_)
                              refine lv_iload hx hb dMH_verify_422 (lv_at hl 0 rfl) ?_
                              refine ty_iald hx hb hK hO kr62 (nxg clo_nil kr62 rfl) hP (vp_in_nI (by omega) (by decide)) dMH_verify_424 (fun z32 => ?_)
                              refine lv_aload_n hx hb dMH_verify_425 rfl (lv_at hl 2 rfl) ?_
                              refine ty_get (ci := 12) (C := "LatticeKeysModel$Hands") (TT := T_MH) (N := 31) (kd := (47, 0)) hx hb hts (wg_ft i_MH) hown hK hO k_h0 (nxg clo_nil k_h0 rfl) hP (fun _ h9 => h9) rfl 13 (by decide) (hts _ (wg_t kw_1445)) (fun _ h9 => h9) (cd := (3, 0, 256)) rfl dMH_verify_426 (fun v78 hv78 => ?_)
                              obtain ⟨r66, rfl, kr63⟩ := (show ∃ r : Nat, v78 = .ref r ∧ T r = some (0, 256) from hv78)
                              refine lv_iload hx hb dMH_verify_429 (lv_at hl 0 rfl) ?_
                              refine ty_iald hx hb hK hO kr63 (nxg clo_nil kr63 rfl) hP (vp_in_nI (by omega) (by decide)) dMH_verify_431 (fun z33 => ?_)
                              refine mp_i (cx := []) (wr := []) hP hD hS hA [] [] rfl rfl rfl (by decide) (va_runS (As := [.int z32, .int z33]) (rest := [.int (nI i27), .ref r63]) F (t_MH_minus l g _ T [] pl hO hU  z32 z33) (va_cwS 2 hts (wg_app (wg_c kw_1865 (wg_c kw_1866 (wg_c kw_13 wg_n))) kw_1867) rfl rfl rfl (by decide +kernel) ⟨by decide, by decide⟩) (pp_S (en_ok g) hP hD hS hA hE [] rfl rfl) rfl rfl hl.1 rfl (lv_room (Nat.le_of_ble_eq_true rfl)) dMH_verify_432 ⟨by omega, by omega⟩) (fun r67 pl H locs hu35 hP hD hS => ?_)
                              obtain ⟨hq35, hO⟩ := hu35
                              have hP : va_P g.1 vcl ([] ++ pl) _ := hP
                              have hD : va_D _ ([] ++ pl) := hD
                              refine W.widen (k := 0) (n := 0) (by omega) (by omega) ?_
                              refine ty_iast hx hb hK hO kr60 (nxg clo_nil kr60 rfl) hP hD hS (vp_in_nI (by omega) (by decide)) dMH_verify_435 (fun pl H locs hO hP hD hS => ?_)
                              refine mi_iinc (k := 0) (x := i27) (d := 1) (y := i27 + 1) (lv' := [(10, .int (nI (i27 + 1))), (9, .int (nI i24)), (0, .ref h0), (2, .ref pk)]) hx hb dMH_verify_436 hl rfl (by decide) rfl (by decide) rfl (fun ls hl => ?_)
                              refine lv_goto (tgt := 398) hx hb dMH_verify_439 (by decide) ?_
                              exact ih27 (i27 + 1) pl ls H locs (by omega) (lv_sub hl [0, 1, 2, 3] rfl) hO hP hD hS
                          exact lp27 256 0 pl ls _ _ (by omega) (lv_sub hl [0, 1, 2, 3] rfl) hO hP hD hS
                        | succ n26 ih26 =>
                          intro i26 pl ls H locs hm26  hl hO hP hD hS
                          refine lv_iload hx hb dMH_verify_331 (lv_at hl 0 rfl) ?_
                          refine lv_sipush (v := nI 256) hx hb dMH_verify_333 (by decide) ?_
                          refine mi_ge (tgt := 380) hx hb dMH_verify_336 (by decide) (by omega) (by omega) (fun h35 => absurd h35 (by omega)) (fun h35 => ?_)
                          refine lv_aload_n hx hb dMH_verify_339 rfl (lv_at hl 2 rfl) ?_
                          refine ty_get (ci := 12) (C := "LatticeKeysModel$Hands") (TT := T_MH) (N := 31) (kd := (47, 0)) hx hb hts (wg_ft i_MH) hown hK hO k_h0 (nxg clo_nil k_h0 rfl) hP (fun _ h9 => h9) rfl 6 (by decide) (hts _ (wg_t kw_1438)) (fun _ h9 => h9) (cd := (3, 3, 8)) rfl dMH_verify_340 (fun v79 hv79 => ?_)
                          obtain ⟨r68, rfl, kr64⟩ := (show ∃ r : Nat, v79 = .ref r ∧ T r = some (3, 8) from hv79)
                          refine lv_iload hx hb dMH_verify_343 (lv_at hl 1 rfl) ?_
                          refine ty_aald3 hx hb hK hO kr64 (nxg clo_nil kr64 rfl) hP (by omega) (by decide) dMH_verify_345 (fun r69 kr65 => ?_)
                          refine lv_iload hx hb dMH_verify_346 (lv_at hl 0 rfl) ?_
                          refine lv_aload_n hx hb dMH_verify_348 rfl (lv_at hl 3 rfl) ?_
                          refine lv_sipush (v := nI 256) hx hb dMH_verify_349 (by decide) ?_
                          refine lv_sipush (v := nI 2560) hx hb dMH_verify_352 (by decide) ?_
                          refine lv_iload hx hb dMH_verify_355 (lv_at hl 1 rfl) ?_
                          refine mi_imul hx hb dMH_verify_357 ?_
                          refine mi_iadd hx hb dMH_verify_358 ?_
                          refine lv_bipush (v := nI 10) hx hb dMH_verify_359 (by decide) ?_
                          refine lv_iload hx hb dMH_verify_361 (lv_at hl 0 rfl) ?_
                          refine mi_imul hx hb dMH_verify_363 ?_
                          refine mi_iadd hx hb dMH_verify_364 ?_
                          refine lv_bipush (v := nI 10) hx hb dMH_verify_365 (by decide) ?_
                          refine mp_i (cx := []) (wr := []) hP hD hS hA [] [] rfl rfl rfl (by decide) (va_runSN (As := [.ref pk, .int (nI ((256 + (2560 * i24)) + (10 * i26))), .int (nI 10)]) (rest := [.int (nI i26), .ref r69]) F (t_M_unpack l g _ T [] pl hO hU clo_nil pk 2592 ((256 + (2560 * i24)) + (10 * i26)) 10 k_pk (by omega) (by omega) (by omega)) ⟨va_cnB 3 hts (wg_in kw_1667) rfl rfl rfl (hE.2.2.2.2.2.2.2.2.2.2) (hts _ (wg_t kw_9)) (by decide +kernel) ⟨by decide, by decide⟩, hts _ (wg_t kw_1666), trivial⟩ (pp_S (en_ok g) hP hD hS hA hE [] rfl rfl) rfl rfl hl.1 rfl (lv_room (Nat.le_of_ble_eq_true rfl)) dMH_verify_367 ⟨by omega, by omega⟩) (fun r70 pl H locs hu36 hP hD hS => ?_)
                          obtain ⟨hq36, hO⟩ := hu36
                          have hP : va_P g.1 vcl ([] ++ pl) _ := hP
                          have hD : va_D _ ([] ++ pl) := hD
                          refine W.widen (k := 0) (n := 0) (by omega) (by omega) ?_
                          refine lv_bipush (v := nI 13) hx hb dMH_verify_370 (by decide) ?_
                          refine lv_ishl hx hb dMH_verify_372 ?_
                          refine mi_any (fun z34 => ?_)
                          refine ty_iast hx hb hK hO kr65 (nxg clo_nil kr65 rfl) hP hD hS (vp_in_nI (by omega) (by decide)) dMH_verify_373 (fun pl H locs hO hP hD hS => ?_)
                          refine mi_iinc (k := 0) (x := i26) (d := 1) (y := i26 + 1) (lv' := [(10, .int (nI (i26 + 1))), (9, .int (nI i24)), (0, .ref h0), (2, .ref pk)]) hx hb dMH_verify_374 hl rfl (by decide) rfl (by decide) rfl (fun ls hl => ?_)
                          refine lv_goto (tgt := 331) hx hb dMH_verify_377 (by decide) ?_
                          exact ih26 (i26 + 1) pl ls H locs (by omega) (lv_sub hl [0, 1, 2, 3] rfl) hO hP hD hS
                      exact lp26 256 0 pl ls _ _ (by omega) (lv_sub hl [0, 1, 2, 3] rfl) hO hP hD hS
                  exact lp24 6 0 pl ls _ _ (by omega) (lv_sub hl [0, 1, 2] rfl) hO hP hD hS
                | succ n23 ih23 =>
                  intro i23 pl ls H locs hm23  hl hO hP hD hS
                  refine lv_iload hx hb dMH_verify_265 (lv_at hl 0 rfl) ?_
                  refine lv_aload_n hx hb dMH_verify_267 rfl (lv_at hl 1 rfl) ?_
                  refine ty_get (ci := 12) (C := "LatticeKeysModel$Hands") (TT := T_MH) (N := 31) (kd := (47, 0)) hx hb hts (wg_ft i_MH) hown hK hO k_h0 (nxg clo_nil k_h0 rfl) hP (fun _ h9 => h9) rfl 25 (by decide) (hts _ (wg_t kw_1457)) (fun _ h9 => h9) (cd := (1, 0, 5)) rfl dMH_verify_268 (fun v80 hv80 => ?_)
                  obtain rfl := (show v80 = .int (nI 5) from hv80)
                  refine mi_ge (tgt := 303) hx hb dMH_verify_271 (by decide) (by omega) (by omega) (fun h36 => absurd h36 (by omega)) (fun h36 => ?_)
                  refine lv_aload_n hx hb dMH_verify_274 rfl (lv_at hl 1 rfl) ?_
                  refine ty_get (ci := 12) (C := "LatticeKeysModel$Hands") (TT := T_MH) (N := 31) (kd := (47, 0)) hx hb hts (wg_ft i_MH) hown hK hO k_h0 (nxg clo_nil k_h0 rfl) hP (fun _ h9 => h9) rfl 1 (by decide) (hts _ (wg_t kw_1433)) (fun _ h9 => h9) (cd := (3, 22, 0)) rfl dMH_verify_275 (fun v81 hv81 => ?_)
                  obtain ⟨r71, rfl, kr66⟩ := (show ∃ r : Nat, v81 = .ref r ∧ T r = some (22, 0) from hv81)
                  refine lv_aload_n hx hb dMH_verify_278 rfl (lv_at hl 1 rfl) ?_
                  refine ty_get (ci := 12) (C := "LatticeKeysModel$Hands") (TT := T_MH) (N := 31) (kd := (47, 0)) hx hb hts (wg_ft i_MH) hown hK hO k_h0 (nxg clo_nil k_h0 rfl) hP (fun _ h9 => h9) rfl 8 (by decide) (hts _ (wg_t kw_1440)) (fun _ h9 => h9) (cd := (3, 3, 7)) rfl dMH_verify_279 (fun v82 hv82 => ?_)
                  obtain ⟨r72, rfl, kr67⟩ := (show ∃ r : Nat, v82 = .ref r ∧ T r = some (3, 7) from hv82)
                  refine lv_iload hx hb dMH_verify_282 (lv_at hl 0 rfl) ?_
                  refine ty_aald3 hx hb hK hO kr67 (nxg clo_nil kr67 rfl) hP (by omega) (by decide) dMH_verify_284 (fun r73 kr68 => ?_)
                  refine lv_aload_n hx hb dMH_verify_285 rfl (lv_at hl 1 rfl) ?_
                  refine ty_get (ci := 12) (C := "LatticeKeysModel$Hands") (TT := T_MH) (N := 31) (kd := (47, 0)) hx hb hts (wg_ft i_MH) hown hK hO k_h0 (nxg clo_nil k_h0 rfl) hP (fun _ h9 => h9) rfl 9 (by decide) (hts _ (wg_t kw_1441)) (fun _ h9 => h9) (cd := (3, 3, 7)) rfl dMH_verify_286 (fun v83 hv83 => ?_)
                  obtain ⟨r74, rfl, kr69⟩ := (show ∃ r : Nat, v83 = .ref r ∧ T r = some (3, 7) from hv83)
                  refine lv_iload hx hb dMH_verify_289 (lv_at hl 0 rfl) ?_
                  refine ty_aald3 hx hb hK hO kr69 (nxg clo_nil kr69 rfl) hP (by omega) (by decide) dMH_verify_291 (fun r75 kr70 => ?_)
                  refine lv_iconst (v := nI 1) hx hb dMH_verify_292 (by decide) ?_
                  refine lv_iconst (v := nI 0) hx hb dMH_verify_293 (by decide) ?_
                  refine mp_v (cx := []) (wr := []) hP hD hS hA [] [] rfl rfl rfl (by decide) (va_runV (As := [.ref r73, .ref r75, .int (nI 1), .int (nI 0)]) (rest := []) F (t_MR_forth_22_0 l g _ T [] pl hO hU clo_nil r71 r73 r75 kr66 kr68 kr70) (cwV 4 hts (wg_app (wg_c kw_1733 (wg_c kw_1673 (wg_c kw_1674 (wg_c kw_12 wg_n)))) kw_1675) rfl rfl rfl (by decide +kernel) ⟨by decide, by decide⟩) (pp_VT (en_ok g) (ci := 10) (kd := (22, 0)) hK hO kr66 (nxg clo_nil kr66 rfl) (fun _ h9 => ko1 h9) hP hD hS hA hE [] rfl rfl rfl) rfl rfl hl.1 rfl (lv_room (Nat.le_of_ble_eq_true rfl)) dMH_verify_294 ⟨by omega, by omega⟩) (fun  pl H locs hu37 hP hD hS => ?_)
                  obtain ⟨hq37, hO⟩ := hu37
                  have hP : va_P g.1 vcl ([] ++ pl) _ := hP
                  have hD : va_D _ ([] ++ pl) := hD
                  refine W.widen (k := 0) (n := 0) (by omega) (by omega) ?_
                  refine mi_iinc (k := 0) (x := i23) (d := 1) (y := i23 + 1) (lv' := [(9, .int (nI (i23 + 1))), (0, .ref h0), (2, .ref pk)]) hx hb dMH_verify_297 hl rfl (by decide) rfl (by decide) rfl (fun ls hl => ?_)
                  refine lv_goto (tgt := 265) hx hb dMH_verify_300 (by decide) ?_
                  exact ih23 (i23 + 1) pl ls H locs (by omega) (lv_sub hl [0, 1, 2] rfl) hO hP hD hS
              exact lp23 5 0 pl ls _ _ (by omega) (lv_sub hl [0, 4, 5] rfl) hO hP hD hS
            · refine lv_iconst (v := nI 0) hx hb dMH_verify_182 (by decide) ?_
              exact mp_zret hx hb hr hlk rfl hP hD hS pl ⟨(Or.inl rfl), (hback _ hO)⟩ [] rfl rfl rfl (by omega) (by omega) dMH_verify_183
        | succ n22 ih22 =>
          intro i22 z29 az21 pl ls H locs hm22 hi21 hl hO hP hD hS
          refine lv_iload hx hb dMH_verify_65 (lv_at hl 0 rfl) ?_
          refine lv_aload_n hx hb dMH_verify_67 rfl (lv_at hl 4 rfl) ?_
          refine ty_get (ci := 12) (C := "LatticeKeysModel$Hands") (TT := T_MH) (N := 31) (kd := (47, 0)) hx hb hts (wg_ft i_MH) hown hK hO k_h0 (nxg clo_nil k_h0 rfl) hP (fun _ h9 => h9) rfl 25 (by decide) (hts _ (wg_t kw_1457)) (fun _ h9 => h9) (cd := (1, 0, 5)) rfl dMH_verify_68 (fun v84 hv84 => ?_)
          obtain rfl := (show v84 = .int (nI 5) from hv84)
          refine mi_ge (tgt := 164) hx hb dMH_verify_71 (by decide) (by omega) (by omega) (fun h37 => absurd h37 (by omega)) (fun h37 => ?_)
          refine lv_iconst (v := nI 0) hx hb dMH_verify_74 (by decide) ?_
          refine lv_istore (lv' := [(10, .int (nI 0)), (9, .int (nI i22)), (8, .int z29), (7, .int (nI az21)), (6, .int (nI 20)), (0, .ref h0), (2, .ref pk), (3, .ref b), (4, .int cl), (5, .int (nI ed))]) hx hb dMH_verify_75 hl (by decide) rfl (fun ls hl => ?_)
          have lp28 : ∀ (n28 : Nat) (i28 : Nat) (z35 : Int32) (az22 : Nat) (pl : va_W) (ls : Array Slot) (H : Heap) (locs : List Loc), n28 + i28 = 256 → (az22 = 384 + 5120 * i22 + 20 * i28) → lv_has ls 11 [(10, .int (nI i28)), (9, .int (nI i22)), (8, .int z35), (7, .int (nI az22)), (6, .int (nI 20)), (0, .ref h0), (2, .ref pk), (3, .ref b), (4, .int cl), (5, .int (nI ed))] → okx g T [] pl → va_P g.1 vcl ([] ++ pl) H → va_D A ([] ++ pl) → va_S A s.heap H locs → W p l e ({ frames := 5, cells := 0, slots := 0, locals := 124 } : Room) s m args below meth c H locs 0 0 (MQ below (va_Qi (fun (r : Int32) (u : va_W) => (r = nI 0 ∨ r = nI 1) ∧ okx g T0 [] u) (po g.1 vcl A (fun (u : va_W) => [] ++ u)) A) args s 0 0 A) (F0 m 77 ls []) := by
            intro n28
            induction n28 with
            | zero =>
              intro i28 z35 az22 pl ls H locs hm28 hi22 hl hO hP hD hS
              refine lv_iload hx hb dMH_verify_77 (lv_at hl 0 rfl) ?_
              refine lv_sipush (v := nI 256) hx hb dMH_verify_79 (by decide) ?_
              refine mi_ge (tgt := 158) hx hb dMH_verify_82 (by decide) (by omega) (by omega) (fun h38 => ?_) (fun h38 => absurd h38 (by omega))
              refine mi_iinc (k := 1) (x := i22) (d := 1) (y := i22 + 1) (lv' := [(9, .int (nI (i22 + 1))), (10, .int (nI i28)), (8, .int z35), (7, .int (nI az22)), (6, .int (nI 20)), (0, .ref h0), (2, .ref pk), (3, .ref b), (4, .int cl), (5, .int (nI ed))]) hx hb dMH_verify_158 hl rfl (by decide) rfl (by decide) rfl (fun ls hl => ?_)
              refine lv_goto (tgt := 65) hx hb dMH_verify_161 (by decide) ?_
              exact ih22 (i22 + 1) z35 az22 pl ls H locs (by omega) (by omega) (lv_sub hl [0, 2, 3, 4, 5, 6, 7, 8, 9] rfl) hO hP hD hS
            | succ n28 ih28 =>
              intro i28 z35 az22 pl ls H locs hm28 hi22 hl hO hP hD hS
              refine lv_iload hx hb dMH_verify_77 (lv_at hl 0 rfl) ?_
              refine lv_sipush (v := nI 256) hx hb dMH_verify_79 (by decide) ?_
              refine mi_ge (tgt := 158) hx hb dMH_verify_82 (by decide) (by omega) (by omega) (fun h39 => absurd h39 (by omega)) (fun h39 => ?_)
              refine lv_aload_n hx hb dMH_verify_85 rfl (lv_at hl 5 rfl) ?_
              refine ty_get (ci := 12) (C := "LatticeKeysModel$Hands") (TT := T_MH) (N := 31) (kd := (47, 0)) hx hb hts (wg_ft i_MH) hown hK hO k_h0 (nxg clo_nil k_h0 rfl) hP (fun _ h9 => h9) rfl 8 (by decide) (hts _ (wg_t kw_1440)) (fun _ h9 => h9) (cd := (3, 3, 7)) rfl dMH_verify_86 (fun v85 hv85 => ?_)
              obtain ⟨r76, rfl, kr71⟩ := (show ∃ r : Nat, v85 = .ref r ∧ T r = some (3, 7) from hv85)
              refine lv_iload hx hb dMH_verify_89 (lv_at hl 1 rfl) ?_
              refine ty_aald3 hx hb hK hO kr71 (nxg clo_nil kr71 rfl) hP (by omega) (by decide) dMH_verify_91 (fun r77 kr72 => ?_)
              refine lv_iload hx hb dMH_verify_92 (lv_at hl 0 rfl) ?_
              refine lv_aload_n hx hb dMH_verify_94 rfl (lv_at hl 5 rfl) ?_
              refine ty_get (ci := 12) (C := "LatticeKeysModel$Hands") (TT := T_MH) (N := 31) (kd := (47, 0)) hx hb hts (wg_ft i_MH) hown hK hO k_h0 (nxg clo_nil k_h0 rfl) hP (fun _ h9 => h9) rfl 27 (by decide) (hts _ (wg_t kw_1459)) (fun _ h9 => h9) (cd := (1, 0, 524288)) rfl dMH_verify_95 (fun v86 hv86 => ?_)
              obtain rfl := (show v86 = .int (nI 524288) from hv86)
              refine lv_aload_n hx hb dMH_verify_98 rfl (lv_at hl 7 rfl) ?_
              refine lv_iload hx hb dMH_verify_99 (lv_at hl 3 rfl) ?_
              refine lv_iload hx hb dMH_verify_101 (lv_at hl 4 rfl) ?_
              refine mp_i (cx := []) (wr := []) hP hD hS hA [] [] rfl rfl rfl (by decide) (va_runSN (As := [.ref b, .int (nI az22), .int (nI 20)]) (rest := [.int (nI 524288), .int (nI i28), .ref r77]) F (t_M_unpack l g _ T [] pl hO hU clo_nil b 16384 az22 20 k_b (by omega) (by omega) (by omega)) ⟨va_cnB 3 hts (wg_in kw_1667) rfl rfl rfl (hE.2.2.2.2.2.2.2.2.2.2) (hts _ (wg_t kw_9)) (by decide +kernel) ⟨by decide, by decide⟩, hts _ (wg_t kw_1666), trivial⟩ (pp_S (en_ok g) hP hD hS hA hE [] rfl rfl) rfl rfl hl.1 rfl (lv_room (Nat.le_of_ble_eq_true rfl)) dMH_verify_103 ⟨by omega, by omega⟩) (fun r78 pl H locs hu38 hP hD hS => ?_)
              obtain ⟨hq38, hO⟩ := hu38
              have hP : va_P g.1 vcl ([] ++ pl) _ := hP
              have hD : va_D _ ([] ++ pl) := hD
              refine W.widen (k := 0) (n := 0) (by omega) (by omega) ?_
              refine mp_i (cx := []) (wr := []) hP hD hS hA [] [] rfl rfl rfl (by decide) (va_runS (As := [.int (nI 524288), .int r78]) (rest := [.int (nI i28), .ref r77]) F (t_MH_minus l g _ T [] pl hO hU  (nI 524288) r78) (va_cwS 2 hts (wg_app (wg_c kw_1865 (wg_c kw_1866 (wg_c kw_13 wg_n))) kw_1867) rfl rfl rfl (by decide +kernel) ⟨by decide, by decide⟩) (pp_S (en_ok g) hP hD hS hA hE [] rfl rfl) rfl rfl hl.1 rfl (lv_room (Nat.le_of_ble_eq_true rfl)) dMH_verify_106 ⟨by omega, by omega⟩) (fun r79 pl H locs hu39 hP hD hS => ?_)
              obtain ⟨hq39, hO⟩ := hu39
              have hP : va_P g.1 vcl ([] ++ pl) _ := hP
              have hD : va_D _ ([] ++ pl) := hD
              refine W.widen (k := 0) (n := 0) (by omega) (by omega) ?_
              refine ty_iast hx hb hK hO kr72 (nxg clo_nil kr72 rfl) hP hD hS (vp_in_nI (by omega) (by decide)) dMH_verify_109 (fun pl H locs hO hP hD hS => ?_)
              refine lv_iload hx hb dMH_verify_110 (lv_at hl 2 rfl) ?_
              refine lv_aload_n hx hb dMH_verify_112 rfl (lv_at hl 5 rfl) ?_
              refine ty_get (ci := 12) (C := "LatticeKeysModel$Hands") (TT := T_MH) (N := 31) (kd := (47, 0)) hx hb hts (wg_ft i_MH) hown hK hO k_h0 (nxg clo_nil k_h0 rfl) hP (fun _ h9 => h9) rfl 8 (by decide) (hts _ (wg_t kw_1440)) (fun _ h9 => h9) (cd := (3, 3, 7)) rfl dMH_verify_113 (fun v87 hv87 => ?_)
              obtain ⟨r80, rfl, kr73⟩ := (show ∃ r : Nat, v87 = .ref r ∧ T r = some (3, 7) from hv87)
              refine lv_iload hx hb dMH_verify_116 (lv_at hl 1 rfl) ?_
              refine ty_aald3 hx hb hK hO kr73 (nxg clo_nil kr73 rfl) hP (by omega) (by decide) dMH_verify_118 (fun r81 kr74 => ?_)
              refine lv_iload hx hb dMH_verify_119 (lv_at hl 0 rfl) ?_
              refine ty_iald hx hb hK hO kr74 (nxg clo_nil kr74 rfl) hP (vp_in_nI (by omega) (by decide)) dMH_verify_121 (fun z36 => ?_)
              refine mp_i (cx := []) (wr := []) hP hD hS hA [] [] rfl rfl rfl (by decide) (va_runS (As := [.int z36]) (rest := [.int z35]) F (t_MH_norm l g _ T [] pl hO hU  z36) (va_cwS 1 hts (wg_app (wg_c kw_1905 (wg_c kw_1906 (wg_c kw_13 wg_n))) kw_1907) rfl rfl rfl (by decide +kernel) ⟨by decide, by decide⟩) (pp_S (en_ok g) hP hD hS hA hE [] rfl rfl) rfl rfl hl.1 rfl (lv_room (Nat.le_of_ble_eq_true rfl)) dMH_verify_122 ⟨by omega, by omega⟩) (fun r82 pl H locs hu40 hP hD hS => ?_)
              obtain ⟨hq40, hO⟩ := hu40
              have hP : va_P g.1 vcl ([] ++ pl) _ := hP
              have hD : va_D _ ([] ++ pl) := hD
              refine W.widen (k := 0) (n := 0) (by omega) (by omega) ?_
              refine lv_aload_n hx hb dMH_verify_125 rfl (lv_at hl 5 rfl) ?_
              refine ty_get (ci := 12) (C := "LatticeKeysModel$Hands") (TT := T_MH) (N := 31) (kd := (47, 0)) hx hb hts (wg_ft i_MH) hown hK hO k_h0 (nxg clo_nil k_h0 rfl) hP (fun _ h9 => h9) rfl 27 (by decide) (hts _ (wg_t kw_1459)) (fun _ h9 => h9) (cd := (1, 0, 524288)) rfl dMH_verify_126 (fun v88 hv88 => ?_)
              obtain rfl := (show v88 = .int (nI 524288) from hv88)
              refine lv_aload_n hx hb dMH_verify_129 rfl (lv_at hl 5 rfl) ?_
              refine ty_get (ci := 12) (C := "LatticeKeysModel$Hands") (TT := T_MH) (N := 31) (kd := (47, 0)) hx hb hts (wg_ft i_MH) hown hK hO k_h0 (nxg clo_nil k_h0 rfl) hP (fun _ h9 => h9) rfl 29 (by decide) (hts _ (wg_t kw_1461)) (fun _ h9 => h9) (cd := (1, 0, 196)) rfl dMH_verify_130 (fun v89 hv89 => ?_)
              obtain rfl := (show v89 = .int (nI 196) from hv89)
              refine mi_isub hx hb dMH_verify_133 (by omega) ?_
              refine mi_as (show nI (524288 - 196) = nI 524092 from rfl) ?_
              refine lv_icmp_ge (tgt := 141) hx hb dMH_verify_134 (by decide) (fun h40 => ?_) (fun h40 => ?_)
              · refine lv_iconst (v := nI 0) hx hb dMH_verify_141 (by decide) ?_
                refine lv_iand hx hb dMH_verify_142 ?_
                refine mi_any (fun z37 => ?_)
                refine lv_istore (lv' := [(8, .int z37), (10, .int (nI i28)), (9, .int (nI i22)), (7, .int (nI az22)), (6, .int (nI 20)), (0, .ref h0), (2, .ref pk), (3, .ref b), (4, .int cl), (5, .int (nI ed))]) hx hb dMH_verify_143 hl (by decide) rfl (fun ls hl => ?_)
                refine lv_iload hx hb dMH_verify_145 (lv_at hl 3 rfl) ?_
                refine lv_iload hx hb dMH_verify_147 (lv_at hl 4 rfl) ?_
                refine mi_iadd hx hb dMH_verify_149 ?_
                refine lv_istore (lv' := [(7, .int (nI (az22 + 20))), (8, .int z37), (10, .int (nI i28)), (9, .int (nI i22)), (6, .int (nI 20)), (0, .ref h0), (2, .ref pk), (3, .ref b), (4, .int cl), (5, .int (nI ed))]) hx hb dMH_verify_150 hl (by decide) rfl (fun ls hl => ?_)
                refine mi_iinc (k := 2) (x := i28) (d := 1) (y := i28 + 1) (lv' := [(10, .int (nI (i28 + 1))), (7, .int (nI (az22 + 20))), (8, .int z37), (9, .int (nI i22)), (6, .int (nI 20)), (0, .ref h0), (2, .ref pk), (3, .ref b), (4, .int cl), (5, .int (nI ed))]) hx hb dMH_verify_152 hl rfl (by decide) rfl (by decide) rfl (fun ls hl => ?_)
                refine lv_goto (tgt := 77) hx hb dMH_verify_155 (by decide) ?_
                exact ih28 (i28 + 1) z37 (az22 + 20) pl ls H locs (by omega) (by omega) (lv_sub hl [0, 3, 2, 1, 4, 5, 6, 7, 8, 9] rfl) hO hP hD hS
              · refine lv_iconst (v := nI 1) hx hb dMH_verify_137 (by decide) ?_
                refine lv_goto (tgt := 142) hx hb dMH_verify_138 (by decide) ?_
                refine mi_iand hx hb 1 dMH_verify_142 (by decide) (fun z38 hz21 => ?_)
                have hz21 : z38 < 2 := hz21
                refine lv_istore (lv' := [(8, .int (nI z38)), (10, .int (nI i28)), (9, .int (nI i22)), (7, .int (nI az22)), (6, .int (nI 20)), (0, .ref h0), (2, .ref pk), (3, .ref b), (4, .int cl), (5, .int (nI ed))]) hx hb dMH_verify_143 hl (by decide) rfl (fun ls hl => ?_)
                refine lv_iload hx hb dMH_verify_145 (lv_at hl 3 rfl) ?_
                refine lv_iload hx hb dMH_verify_147 (lv_at hl 4 rfl) ?_
                refine mi_iadd hx hb dMH_verify_149 ?_
                refine lv_istore (lv' := [(7, .int (nI (az22 + 20))), (8, .int (nI z38)), (10, .int (nI i28)), (9, .int (nI i22)), (6, .int (nI 20)), (0, .ref h0), (2, .ref pk), (3, .ref b), (4, .int cl), (5, .int (nI ed))]) hx hb dMH_verify_150 hl (by decide) rfl (fun ls hl => ?_)
                refine mi_iinc (k := 2) (x := i28) (d := 1) (y := i28 + 1) (lv' := [(10, .int (nI (i28 + 1))), (7, .int (nI (az22 + 20))), (8, .int (nI z38)), (9, .int (nI i22)), (6, .int (nI 20)), (0, .ref h0), (2, .ref pk), (3, .ref b), (4, .int cl), (5, .int (nI ed))]) hx hb dMH_verify_152 hl rfl (by decide) rfl (by decide) rfl (fun ls hl => ?_)
                refine lv_goto (tgt := 77) hx hb dMH_verify_155 (by decide) ?_
                exact ih28 (i28 + 1) (nI z38) (az22 + 20) pl ls H locs (by omega) (by omega) (lv_sub hl [0, 3, 2, 1, 4, 5, 6, 7, 8, 9] rfl) hO hP hD hS
          exact lp28 256 0 z29 az21 pl ls _ _ (by omega) (by omega) (lv_sub hl [0, 1, 2, 3, 4, 5, 6, 7, 8, 9] rfl) hO hP hD hS
      exact lp22 5 0 (nI 1) 384 pl ls _ _ (by omega) (by omega) (lv_sub hl [0, 1, 2, 3, 4, 5, 6, 7, 8] rfl) hO hP hD hS
    | succ n21 ih21 =>
      intro i21 pl ls H locs hm21  hl hO hP hD hS
      refine lv_iload hx hb dMH_verify_36 (lv_at hl 0 rfl) ?_
      refine lv_aload_n hx hb dMH_verify_38 rfl (lv_at hl 4 rfl) ?_
      refine ty_get (ci := 12) (C := "LatticeKeysModel$Hands") (TT := T_MH) (N := 31) (kd := (47, 0)) hx hb hts (wg_ft i_MH) hown hK hO k_h0 (nxg clo_nil k_h0 rfl) hP (fun _ h9 => h9) rfl 30 (by decide) (hts _ (wg_t kw_1462)) (fun _ h9 => h9) (cd := (1, 0, 48)) rfl dMH_verify_39 (fun v90 hv90 => ?_)
      obtain rfl := (show v90 = .int (nI 48) from hv90)
      refine mi_ge (tgt := 62) hx hb dMH_verify_42 (by decide) (by omega) (by omega) (fun h41 => absurd h41 (by omega)) (fun h41 => ?_)
      refine lv_aload_n hx hb dMH_verify_45 rfl (lv_at hl 4 rfl) ?_
      refine ty_get (ci := 12) (C := "LatticeKeysModel$Hands") (TT := T_MH) (N := 31) (kd := (47, 0)) hx hb hts (wg_ft i_MH) hown hK hO k_h0 (nxg clo_nil k_h0 rfl) hP (fun _ h9 => h9) rfl 20 (by decide) (hts _ (wg_t kw_1452)) (fun _ h9 => h9) (cd := (3, 1, 64)) rfl dMH_verify_46 (fun v91 hv91 => ?_)
      obtain ⟨r83, rfl, kr75⟩ := (show ∃ r : Nat, v91 = .ref r ∧ T r = some (1, 64) from hv91)
      refine lv_iload hx hb dMH_verify_49 (lv_at hl 0 rfl) ?_
      refine lv_aload_n hx hb dMH_verify_51 rfl (lv_at hl 6 rfl) ?_
      refine lv_iload hx hb dMH_verify_52 (lv_at hl 0 rfl) ?_
      refine ty_bald hx hb hK hO k_b (nxg clo_nil k_b rfl) hP (vp_in_nI (by omega) (by decide)) dMH_verify_54 (fun z39 => ?_)
      refine ty_bast hx hb hK hO kr75 (nxg clo_nil kr75 rfl) hP hD hS (vp_in_nI (by omega) (by decide)) dMH_verify_55 (fun pl H locs hO hP hD hS => ?_)
      refine mi_iinc (k := 0) (x := i21) (d := 1) (y := i21 + 1) (lv' := [(9, .int (nI (i21 + 1))), (8, .int (nI 1)), (7, .int (nI 384)), (6, .int (nI 20)), (0, .ref h0), (2, .ref pk), (3, .ref b), (4, .int cl), (5, .int (nI ed))]) hx hb dMH_verify_56 hl rfl (by decide) rfl (by decide) rfl (fun ls hl => ?_)
      refine lv_goto (tgt := 36) hx hb dMH_verify_59 (by decide) ?_
      exact ih21 (i21 + 1) pl ls H locs (by omega) (lv_sub hl [0, 1, 2, 3, 4, 5, 6, 7, 8] rfl) hO hP hD hS
  exact lp21 48 0 pl ls _ _ (by omega) (lv_sub hl [0, 1, 2, 3, 4, 6, 7, 8, 9] rfl) hO hP hD hS
set_option maxHeartbeats 4000000 in
set_option maxRecDepth 100000 in
theorem t_MH_verify_2 (l : Launch) (g : Gd) (sz : Nat) (T0 : Ty) (pl : va_W) (hO : okx g T0 [] pl) (hU : uni T0) (h0 pk b ed : Nat) (cl : Int32) (k_h0 : T0 h0 = some (49, 0)) (k_pk : T0 pk = some (1, 2592)) (k_b : T0 b = some (1, 16384)) (h1 : 4627 ≤ ed) (h3 : ed ≤ 16384)  : Met l y_MH_verify w_MH_verify ({ frames := 5, cells := 0, slots := 0, locals := 124 } : Room) (va_Pc [.ref h0, .int (nI 2), .ref pk, .ref b, .int cl, .int (nI ed)] (pr (en g) g.1 vcl sz ([] ++ pl))) (va_Qi (fun (r : Int32) (u : va_W) => (r = nI 0 ∨ r = nI 1) ∧ okx g T0 [] u) (po g.1 vcl (va_A ([] ++ pl) sz) (fun (u : va_W) => [] ++ u)) (va_A ([] ++ pl) sz)) 0 0 (va_A ([] ++ pl) sz) := by
  refine mc_entry (cc := c_MH_verify) (maxL := 11) (ret := (some .boolean)) (by decide) rfl (Nat.le_of_ble_eq_true rfl) ?_
  intro p e s m args below meth c ls F hr hlk hnm hsz hP hD hE hA hl
  obtain ⟨hx, hb, hml, hown, hts⟩ := id F
  have hK := hE.1
  generalize va_A ([] ++ pl) sz = A at hD hE hA ⊢
  have hS : va_S A s.heap s.heap [] := va_S.rf
  have hl : lv_has ls 11 [(0, .ref h0), (1, .int (nI 2)), (2, .ref pk), (3, .ref b), (4, .int cl), (5, .int (nI ed))] := hl
  refine lv_aload_n hx hb dMH_verify_0 rfl (lv_at hl 0 rfl) ?_
  refine lv_iload_n hx hb dMH_verify_1 rfl (lv_at hl 1 rfl) ?_
  obtain ⟨e21, pl, hP, hD, hk21, hO⟩ := open1 hP hD hO k_h0 (nxg clo_nil k_h0 (p := 11) rfl)
  obtain ⟨fs21, rfl, hf21⟩ := hk21
  obtain ⟨v21, vs21, rfl, hv21, hf22⟩ := fall_cons hf21
  obtain ⟨r21, rfl, kr21⟩ := (show ∃ r : Nat, v21 = .ref r ∧ T0 r = some (20, 0) from hv21)
  obtain ⟨v22, vs22, rfl, hv22, hf23⟩ := fall_cons hf22
  obtain ⟨r22, rfl, kr22⟩ := (show ∃ r : Nat, v22 = .ref r ∧ T0 r = some (22, 0) from hv22)
  obtain ⟨v23, vs23, rfl, hv23, hf24⟩ := fall_cons hf23
  obtain ⟨r23, rfl, kr23⟩ := (show ∃ r : Nat, v23 = .ref r ∧ T0 r = some (3, 64) from hv23)
  obtain ⟨v24, vs24, rfl, hv24, hf25⟩ := fall_cons hf24
  obtain ⟨r24, rfl, kr24⟩ := (show ∃ r : Nat, v24 = .ref r ∧ T0 r = some (3, 7) from hv24)
  obtain ⟨v25, vs25, rfl, hv25, hf26⟩ := fall_cons hf25
  obtain ⟨r25, rfl, kr25⟩ := (show ∃ r : Nat, v25 = .ref r ∧ T0 r = some (3, 8) from hv25)
  obtain ⟨v26, vs26, rfl, hv26, hf27⟩ := fall_cons hf26
  obtain ⟨r26, rfl, kr26⟩ := (show ∃ r : Nat, v26 = .ref r ∧ T0 r = some (3, 8) from hv26)
  obtain ⟨v27, vs27, rfl, hv27, hf28⟩ := fall_cons hf27
  obtain ⟨r27, rfl, kr27⟩ := (show ∃ r : Nat, v27 = .ref r ∧ T0 r = some (3, 8) from hv27)
  obtain ⟨v28, vs28, rfl, hv28, hf29⟩ := fall_cons hf28
  obtain ⟨r28, rfl, kr28⟩ := (show ∃ r : Nat, v28 = .ref r ∧ T0 r = some (3, 7) from hv28)
  obtain ⟨v29, vs29, rfl, hv29, hf30⟩ := fall_cons hf29
  obtain ⟨r29, rfl, kr29⟩ := (show ∃ r : Nat, v29 = .ref r ∧ T0 r = some (3, 7) from hv29)
  obtain ⟨v30, vs30, rfl, hv30, hf31⟩ := fall_cons hf30
  obtain ⟨r30, rfl, kr30⟩ := (show ∃ r : Nat, v30 = .ref r ∧ T0 r = some (3, 7) from hv30)
  obtain ⟨v31, vs31, rfl, hv31, hf32⟩ := fall_cons hf31
  obtain ⟨r31, rfl, kr31⟩ := (show ∃ r : Nat, v31 = .ref r ∧ T0 r = some (3, 8) from hv31)
  obtain ⟨v32, vs32, rfl, hv32, hf33⟩ := fall_cons hf32
  obtain ⟨r32, rfl, kr32⟩ := (show ∃ r : Nat, v32 = .ref r ∧ T0 r = some (3, 8) from hv32)
  obtain ⟨v33, vs33, rfl, hv33, hf34⟩ := fall_cons hf33
  obtain ⟨r33, rfl, kr33⟩ := (show ∃ r : Nat, v33 = .ref r ∧ T0 r = some (0, 256) from hv33)
  obtain ⟨v34, vs34, rfl, hv34, hf35⟩ := fall_cons hf34
  obtain ⟨r34, rfl, kr34⟩ := (show ∃ r : Nat, v34 = .ref r ∧ T0 r = some (0, 256) from hv34)
  obtain ⟨v35, vs35, rfl, hv35, hf36⟩ := fall_cons hf35
  obtain ⟨r35, rfl, kr35⟩ := (show ∃ r : Nat, v35 = .ref r ∧ T0 r = some (0, 256) from hv35)
  obtain ⟨v36, vs36, rfl, hv36, hf37⟩ := fall_cons hf36
  obtain ⟨r36, rfl, kr36⟩ := (show ∃ r : Nat, v36 = .ref r ∧ T0 r = some (2, 256) from hv36)
  obtain ⟨v37, vs37, rfl, hv37, hf38⟩ := fall_cons hf37
  obtain ⟨r37, rfl, kr37⟩ := (show ∃ r : Nat, v37 = .ref r ∧ T0 r = some (1, 128) from hv37)
  obtain ⟨v38, vs38, rfl, hv38, hf39⟩ := fall_cons hf38
  obtain ⟨r38, rfl, kr38⟩ := (show ∃ r : Nat, v38 = .ref r ∧ T0 r = some (1, 64) from hv38)
  obtain ⟨v39, vs39, rfl, hv39, hf40⟩ := fall_cons hf39
  obtain ⟨r39, rfl, kr39⟩ := (show ∃ r : Nat, v39 = .ref r ∧ T0 r = some (1, 64) from hv39)
  obtain ⟨v40, vs40, rfl, hv40, hf41⟩ := fall_cons hf40
  obtain ⟨r40, rfl, kr40⟩ := (show ∃ r : Nat, v40 = .ref r ∧ T0 r = some (1, 640) from hv40)
  obtain ⟨v41, vs41, rfl, hv41, hf42⟩ := fall_cons hf41
  obtain ⟨r41, rfl, kr41⟩ := (show ∃ r : Nat, v41 = .ref r ∧ T0 r = some (1, 64) from hv41)
  obtain ⟨v42, vs42, rfl, hv42, hf43⟩ := fall_cons hf42
  obtain ⟨r42, rfl, kr42⟩ := (show ∃ r : Nat, v42 = .ref r ∧ T0 r = some (1, 64) from hv42)
  obtain ⟨v43, vs43, rfl, hv43, hf44⟩ := fall_cons hf43
  obtain ⟨r43, rfl, kr43⟩ := (show ∃ r : Nat, v43 = .ref r ∧ T0 r = some (1, 64) from hv43)
  obtain ⟨v44, vs44, rfl, hv44, hf45⟩ := fall_cons hf44
  obtain ⟨z21, rfl⟩ := (show ∃ z : Int32, v44 = .int z from hv44)
  obtain ⟨v45, vs45, rfl, hv45, hf46⟩ := fall_cons hf45
  obtain ⟨z22, rfl⟩ := (show ∃ z : Int32, v45 = .int z from hv45)
  obtain ⟨v46, vs46, rfl, hv46, hf47⟩ := fall_cons hf46
  obtain ⟨z23, rfl⟩ := (show ∃ z : Int32, v46 = .int z from hv46)
  obtain ⟨v47, vs47, rfl, hv47, hf48⟩ := fall_cons hf47
  obtain ⟨z24, rfl⟩ := (show ∃ z : Int32, v47 = .int z from hv47)
  obtain ⟨v48, vs48, rfl, hv48, hf49⟩ := fall_cons hf48
  obtain ⟨z25, rfl⟩ := (show ∃ z : Int32, v48 = .int z from hv48)
  obtain ⟨v49, vs49, rfl, hv49, hf50⟩ := fall_cons hf49
  obtain ⟨z26, rfl⟩ := (show ∃ z : Int32, v49 = .int z from hv49)
  obtain ⟨v50, vs50, rfl, hv50, hf51⟩ := fall_cons hf50
  obtain ⟨z27, rfl⟩ := (show ∃ z : Int32, v50 = .int z from hv50)
  obtain ⟨v51, vs51, rfl, hv51, hf52⟩ := fall_cons hf51
  obtain ⟨z28, rfl⟩ := (show ∃ z : Int32, v51 = .int z from hv51)
  obtain rfl := fall_nil hf52
  have hP : va_P g.1 vcl ([(h0, .inr (12, [.ref r21, .ref r22, .ref r23, .ref r24, .ref r25, .ref r26, .ref r27, .ref r28, .ref r29, .ref r30, .ref r31, .ref r32, .ref r33, .ref r34, .ref r35, .ref r36, .ref r37, .ref r38, .ref r39, .ref r40, .ref r41, .ref r42, .ref r43, .int z21, .int z22, .int z23, .int z24, .int z25, .int z26, .int z27, .int z28]))] ++ pl) _ := hP
  have hD : va_D _ ([(h0, .inr (12, [.ref r21, .ref r22, .ref r23, .ref r24, .ref r25, .ref r26, .ref r27, .ref r28, .ref r29, .ref r30, .ref r31, .ref r32, .ref r33, .ref r34, .ref r35, .ref r36, .ref r37, .ref r38, .ref r39, .ref r40, .ref r41, .ref r42, .ref r43, .int z21, .int z22, .int z23, .int z24, .int z25, .int z26, .int z27, .int z28]))] ++ pl) := hD
  refine mp_v (cx := [(h0, .inr (12, [.ref r21, .ref r22, .ref r23, .ref r24, .ref r25, .ref r26, .ref r27, .ref r28, .ref r29, .ref r30, .ref r31, .ref r32, .ref r33, .ref r34, .ref r35, .ref r36, .ref r37, .ref r38, .ref r39, .ref r40, .ref r41, .ref r42, .ref r43, .int z21, .int z22, .int z23, .int z24, .int z25, .int z26, .int z27, .int z28]))]) (wr := []) hP hD hS hA [0] [] rfl rfl rfl (by decide) (va_runV (As := [.int (nI 2)]) (rest := []) F (t_MH_as_2 l g _ T0 (h0 :: []) pl hO hU  h0 r21 r22 r23 r24 r25 r26 r27 r28 r29 r30 r31 r32 r33 r34 r35 r36 r37 r38 r39 r40 r41 r42 r43 z21 z22 z23 z24 z25 z26 z27 z28) (cwV 1 hts (wg_app (wg_c kw_1702 (wg_c kw_1704 (wg_c ks_60 (wg_c kw_13 wg_n)))) kw_1705) rfl rfl rfl (by decide +kernel) ⟨by decide, by decide⟩) (pp_V (en_ok g) (q0 := 0) hK hP hD hS hA hE [0] rfl rfl rfl rfl) rfl rfl hl.1 rfl (lv_room (Nat.le_of_ble_eq_true rfl)) dMH_verify_2 ⟨by omega, by omega⟩) (fun  pl H locs hu21 hP hD hS => ?_)
  obtain ⟨hq21, hO⟩ := hu21
  have hP : va_P g.1 vcl ([(h0, .inr (12, [.ref r21, .ref r22, .ref r23, .ref r24, .ref r25, .ref r26, .ref r27, .ref r28, .ref r29, .ref r30, .ref r31, .ref r32, .ref r33, .ref r34, .ref r35, .ref r36, .ref r37, .ref r38, .ref r39, .ref r40, .ref r41, .ref r42, .ref r43, .int (nI 2), .int (nI 8), .int (nI 7), .int (nI 2), .int (nI 524288), .int (nI 261888), .int (nI 120), .int (nI 64)]))] ++ pl) _ := hP
  have hD : va_D _ ([(h0, .inr (12, [.ref r21, .ref r22, .ref r23, .ref r24, .ref r25, .ref r26, .ref r27, .ref r28, .ref r29, .ref r30, .ref r31, .ref r32, .ref r33, .ref r34, .ref r35, .ref r36, .ref r37, .ref r38, .ref r39, .ref r40, .ref r41, .ref r42, .ref r43, .int (nI 2), .int (nI 8), .int (nI 7), .int (nI 2), .int (nI 524288), .int (nI 261888), .int (nI 120), .int (nI 64)]))] ++ pl) := hD
  refine W.widen (k := 0) (n := 0) (by omega) (by omega) ?_
  have hO := hands_in (j := 2) (e := .inr (12, [.ref r21, .ref r22, .ref r23, .ref r24, .ref r25, .ref r26, .ref r27, .ref r28, .ref r29, .ref r30, .ref r31, .ref r32, .ref r33, .ref r34, .ref r35, .ref r36, .ref r37, .ref r38, .ref r39, .ref r40, .ref r41, .ref r42, .ref r43, .int (nI 2), .int (nI 8), .int (nI 7), .int (nI 2), .int (nI 524288), .int (nI 261888), .int (nI 120), .int (nI 64)])) hO k_h0 ⟨_, rfl, ⟨r21, rfl, kr21⟩, ⟨r22, rfl, kr22⟩, ⟨r23, rfl, kr23⟩, ⟨r24, rfl, kr24⟩, ⟨r25, rfl, kr25⟩, ⟨r26, rfl, kr26⟩, ⟨r27, rfl, kr27⟩, ⟨r28, rfl, kr28⟩, ⟨r29, rfl, kr29⟩, ⟨r30, rfl, kr30⟩, ⟨r31, rfl, kr31⟩, ⟨r32, rfl, kr32⟩, ⟨r33, rfl, kr33⟩, ⟨r34, rfl, kr34⟩, ⟨r35, rfl, kr35⟩, ⟨r36, rfl, kr36⟩, ⟨r37, rfl, kr37⟩, ⟨r38, rfl, kr38⟩, ⟨r39, rfl, kr39⟩, ⟨r40, rfl, kr40⟩, ⟨r41, rfl, kr41⟩, ⟨r42, rfl, kr42⟩, ⟨r43, rfl, kr43⟩, rfl, rfl, rfl, rfl, rfl, rfl, rfl, rfl, trivial⟩
  have hP : va_P g.1 vcl ([] ++ ((h0, .inr (12, [.ref r21, .ref r22, .ref r23, .ref r24, .ref r25, .ref r26, .ref r27, .ref r28, .ref r29, .ref r30, .ref r31, .ref r32, .ref r33, .ref r34, .ref r35, .ref r36, .ref r37, .ref r38, .ref r39, .ref r40, .ref r41, .ref r42, .ref r43, .int (nI 2), .int (nI 8), .int (nI 7), .int (nI 2), .int (nI 524288), .int (nI 261888), .int (nI 120), .int (nI 64)])) :: pl)) _ := hP
  have hD : va_D _ ([] ++ ((h0, .inr (12, [.ref r21, .ref r22, .ref r23, .ref r24, .ref r25, .ref r26, .ref r27, .ref r28, .ref r29, .ref r30, .ref r31, .ref r32, .ref r33, .ref r34, .ref r35, .ref r36, .ref r37, .ref r38, .ref r39, .ref r40, .ref r41, .ref r42, .ref r43, .int (nI 2), .int (nI 8), .int (nI 7), .int (nI 2), .int (nI 524288), .int (nI 261888), .int (nI 120), .int (nI 64)])) :: pl)) := hD
  generalize ((h0, .inr (12, [.ref r21, .ref r22, .ref r23, .ref r24, .ref r25, .ref r26, .ref r27, .ref r28, .ref r29, .ref r30, .ref r31, .ref r32, .ref r33, .ref r34, .ref r35, .ref r36, .ref r37, .ref r38, .ref r39, .ref r40, .ref r41, .ref r42, .ref r43, .int (nI 2), .int (nI 8), .int (nI 7), .int (nI 2), .int (nI 524288), .int (nI 261888), .int (nI 120), .int (nI 64)])) :: pl) = pl at hO hP hD
  have hback : ∀ pl, okx g (tyU T0 h0 (46 + 2, 0)) [] pl → okx g T0 [] pl := fun pl h9 => hands_out k_h0 (hands_wk 2 (by decide)) h9
  have hU := uni_U (a := h0) (k := (46 + 2, 0)) hU rfl
  have k_pk := tyU_k (k := (46 + 2, 0)) k_h0 k_pk (by intro h9; cases h9)
  have k_b := tyU_k (k := (46 + 2, 0)) k_h0 k_b (by intro h9; cases h9)
  have k_h0 : tyU T0 h0 (46 + 2, 0) h0 = some (46 + 2, 0) := tyU_at
  generalize tyU T0 h0 (46 + 2, 0) = T at hO hback hU k_pk k_b k_h0
  refine lv_aload_n hx hb dMH_verify_5 rfl (lv_at hl 0 rfl) ?_
  refine ty_get (ci := 12) (C := "LatticeKeysModel$Hands") (TT := T_MH) (N := 31) (kd := (48, 0)) hx hb hts (wg_ft i_MH) hown hK hO k_h0 (nxg clo_nil k_h0 rfl) hP (fun _ h9 => h9) rfl 23 (by decide) (hts _ (wg_t kw_1455)) (fun _ h9 => h9) (cd := (1, 0, 2)) rfl dMH_verify_6 (fun v52 hv52 => ?_)
  obtain rfl := (show v52 = .int (nI 2) from hv52)
  refine lv_if_ne (tgt := 17) hx hb dMH_verify_9 (by decide) (fun h21 => ?_) (fun h21 => absurd h21 (by decide))
  refine lv_bipush (v := nI 20) hx hb dMH_verify_17 (by decide) ?_
  refine lv_istore (lv' := [(6, .int (nI 20)), (0, .ref h0), (1, .int (nI 2)), (2, .ref pk), (3, .ref b), (4, .int cl), (5, .int (nI ed))]) hx hb dMH_verify_19 hl (by decide) rfl (fun ls hl => ?_)
  refine lv_bipush (v := nI 8) hx hb dMH_verify_21 (by decide) ?_
  refine lv_aload_n hx hb dMH_verify_23 rfl (lv_at hl 1 rfl) ?_
  refine ty_get (ci := 12) (C := "LatticeKeysModel$Hands") (TT := T_MH) (N := 31) (kd := (48, 0)) hx hb hts (wg_ft i_MH) hown hK hO k_h0 (nxg clo_nil k_h0 rfl) hP (fun _ h9 => h9) rfl 30 (by decide) (hts _ (wg_t kw_1462)) (fun _ h9 => h9) (cd := (1, 0, 64)) rfl dMH_verify_24 (fun v53 hv53 => ?_)
  obtain rfl := (show v53 = .int (nI 64) from hv53)
  refine mi_imul hx hb dMH_verify_27 ?_
  refine mi_as (show nI (8 * 64) = nI 512 from rfl) ?_
  refine lv_istore (lv' := [(7, .int (nI 512)), (6, .int (nI 20)), (0, .ref h0), (1, .int (nI 2)), (2, .ref pk), (3, .ref b), (4, .int cl), (5, .int (nI ed))]) hx hb dMH_verify_28 hl (by decide) rfl (fun ls hl => ?_)
  refine lv_iconst (v := nI 1) hx hb dMH_verify_30 (by decide) ?_
  refine lv_istore (lv' := [(8, .int (nI 1)), (7, .int (nI 512)), (6, .int (nI 20)), (0, .ref h0), (1, .int (nI 2)), (2, .ref pk), (3, .ref b), (4, .int cl), (5, .int (nI ed))]) hx hb dMH_verify_31 hl (by decide) rfl (fun ls hl => ?_)
  refine lv_iconst (v := nI 0) hx hb dMH_verify_33 (by decide) ?_
  refine lv_istore (lv' := [(9, .int (nI 0)), (8, .int (nI 1)), (7, .int (nI 512)), (6, .int (nI 20)), (0, .ref h0), (1, .int (nI 2)), (2, .ref pk), (3, .ref b), (4, .int cl), (5, .int (nI ed))]) hx hb dMH_verify_34 hl (by decide) rfl (fun ls hl => ?_)
  have lp21 : ∀ (n21 : Nat) (i21 : Nat) (pl : va_W) (ls : Array Slot) (H : Heap) (locs : List Loc), n21 + i21 = 64 → lv_has ls 11 [(9, .int (nI i21)), (8, .int (nI 1)), (7, .int (nI 512)), (6, .int (nI 20)), (0, .ref h0), (2, .ref pk), (3, .ref b), (4, .int cl), (5, .int (nI ed))] → okx g T [] pl → va_P g.1 vcl ([] ++ pl) H → va_D A ([] ++ pl) → va_S A s.heap H locs → W p l e ({ frames := 5, cells := 0, slots := 0, locals := 124 } : Room) s m args below meth c H locs 0 0 (MQ below (va_Qi (fun (r : Int32) (u : va_W) => (r = nI 0 ∨ r = nI 1) ∧ okx g T0 [] u) (po g.1 vcl A (fun (u : va_W) => [] ++ u)) A) args s 0 0 A) (F0 m 36 ls []) := by
    intro n21
    induction n21 with
    | zero =>
      intro i21 pl ls H locs hm21  hl hO hP hD hS
      refine lv_iload hx hb dMH_verify_36 (lv_at hl 0 rfl) ?_
      refine lv_aload_n hx hb dMH_verify_38 rfl (lv_at hl 4 rfl) ?_
      refine ty_get (ci := 12) (C := "LatticeKeysModel$Hands") (TT := T_MH) (N := 31) (kd := (48, 0)) hx hb hts (wg_ft i_MH) hown hK hO k_h0 (nxg clo_nil k_h0 rfl) hP (fun _ h9 => h9) rfl 30 (by decide) (hts _ (wg_t kw_1462)) (fun _ h9 => h9) (cd := (1, 0, 64)) rfl dMH_verify_39 (fun v54 hv54 => ?_)
      obtain rfl := (show v54 = .int (nI 64) from hv54)
      refine mi_ge (tgt := 62) hx hb dMH_verify_42 (by decide) (by omega) (by omega) (fun h22 => ?_) (fun h22 => absurd h22 (by omega))
      refine lv_iconst (v := nI 0) hx hb dMH_verify_62 (by decide) ?_
      refine lv_istore (lv' := [(9, .int (nI 0)), (8, .int (nI 1)), (7, .int (nI 512)), (6, .int (nI 20)), (0, .ref h0), (2, .ref pk), (3, .ref b), (4, .int cl), (5, .int (nI ed))]) hx hb dMH_verify_63 hl (by decide) rfl (fun ls hl => ?_)
      have lp22 : ∀ (n22 : Nat) (i22 : Nat) (z29 : Int32) (az21 : Nat) (pl : va_W) (ls : Array Slot) (H : Heap) (locs : List Loc), n22 + i22 = 7 → (az21 = 512 + 5120 * i22) → lv_has ls 11 [(9, .int (nI i22)), (8, .int z29), (7, .int (nI az21)), (6, .int (nI 20)), (0, .ref h0), (2, .ref pk), (3, .ref b), (4, .int cl), (5, .int (nI ed))] → okx g T [] pl → va_P g.1 vcl ([] ++ pl) H → va_D A ([] ++ pl) → va_S A s.heap H locs → W p l e ({ frames := 5, cells := 0, slots := 0, locals := 124 } : Room) s m args below meth c H locs 0 0 (MQ below (va_Qi (fun (r : Int32) (u : va_W) => (r = nI 0 ∨ r = nI 1) ∧ okx g T0 [] u) (po g.1 vcl A (fun (u : va_W) => [] ++ u)) A) args s 0 0 A) (F0 m 65 ls []) := by
        intro n22
        induction n22 with
        | zero =>
          intro i22 z29 az21 pl ls H locs hm22 hi21 hl hO hP hD hS
          refine lv_iload hx hb dMH_verify_65 (lv_at hl 0 rfl) ?_
          refine lv_aload_n hx hb dMH_verify_67 rfl (lv_at hl 4 rfl) ?_
          refine ty_get (ci := 12) (C := "LatticeKeysModel$Hands") (TT := T_MH) (N := 31) (kd := (48, 0)) hx hb hts (wg_ft i_MH) hown hK hO k_h0 (nxg clo_nil k_h0 rfl) hP (fun _ h9 => h9) rfl 25 (by decide) (hts _ (wg_t kw_1457)) (fun _ h9 => h9) (cd := (1, 0, 7)) rfl dMH_verify_68 (fun v55 hv55 => ?_)
          obtain rfl := (show v55 = .int (nI 7) from hv55)
          refine mi_ge (tgt := 164) hx hb dMH_verify_71 (by decide) (by omega) (by omega) (fun h23 => ?_) (fun h23 => absurd h23 (by omega))
          refine lv_iload hx hb dMH_verify_164 (lv_at hl 1 rfl) ?_
          refine lv_if_eq (tgt := 182) hx hb dMH_verify_166 (by decide) (fun h24 => ?_) (fun h24 => ?_)
          · refine lv_iconst (v := nI 0) hx hb dMH_verify_182 (by decide) ?_
            exact mp_zret hx hb hr hlk rfl hP hD hS pl ⟨(Or.inl rfl), (hback _ hO)⟩ [] rfl rfl rfl (by omega) (by omega) dMH_verify_183
          · refine lv_aload_n hx hb dMH_verify_169 rfl (lv_at hl 4 rfl) ?_
            refine lv_aload_n hx hb dMH_verify_170 rfl (lv_at hl 6 rfl) ?_
            refine lv_iload hx hb dMH_verify_171 (lv_at hl 2 rfl) ?_
            refine lv_bipush (v := nI 8) hx hb dMH_verify_173 (by decide) ?_
            refine mi_idiv hx hb dMH_verify_175 (by omega) (by omega) (by omega) ?_
            refine mp_i (cx := []) (wr := []) hP hD hS hA [] [] rfl rfl rfl (by decide) (va_runV (As := [.ref b, .int (nI (az21 / 8))]) (rest := []) F (t_MH_readHints_2 l g _ T [] pl hO hU clo_nil h0 b (az21 / 8) k_h0 k_b (by omega)) (cwV 2 hts (wg_app (wg_c kw_1929 (wg_c kw_1931 (wg_c ks_81 (wg_c kw_13 wg_n)))) kw_1932) rfl rfl rfl (by decide +kernel) ⟨by decide, by decide⟩) (pp_VT (en_ok g) (ci := 12) (kd := (48, 0)) hK hO k_h0 (nxg clo_nil k_h0 rfl) (fun _ h9 => ko1 h9) hP hD hS hA hE [] rfl rfl rfl) rfl rfl hl.1 rfl (lv_room (Nat.le_of_ble_eq_true rfl)) dMH_verify_176 ⟨by omega, by omega⟩) (fun r44 pl H locs hu22 hP hD hS => ?_)
            obtain ⟨hq22, hO⟩ := hu22
            have hP : va_P g.1 vcl ([] ++ pl) _ := hP
            have hD : va_D _ ([] ++ pl) := hD
            refine W.widen (k := 0) (n := 0) (by omega) (by omega) ?_
            refine lv_if_ne (tgt := 184) hx hb dMH_verify_179 (by decide) (fun h25 => ?_) (fun h25 => ?_)
            · refine lv_aload_n hx hb dMH_verify_184 rfl (lv_at hl 4 rfl) ?_
              refine ty_get (ci := 12) (C := "LatticeKeysModel$Hands") (TT := T_MH) (N := 31) (kd := (48, 0)) hx hb hts (wg_ft i_MH) hown hK hO k_h0 (nxg clo_nil k_h0 rfl) hP (fun _ h9 => h9) rfl 0 (by decide) (hts _ (wg_t kw_1432)) (fun _ h9 => h9) (cd := (3, 20, 0)) rfl dMH_verify_185 (fun v56 hv56 => ?_)
              obtain ⟨r45, rfl, kr44⟩ := (show ∃ r : Nat, v56 = .ref r ∧ T r = some (20, 0) from hv56)
              obtain ⟨e22, pl, hP, hD, hk22, hO⟩ := open1 hP hD hO kr44 (nxg clo_nil kr44 rfl)
              obtain ⟨am21, am22, am23, am24, am25, rt21, ps21, x21, rfl, km21, km22, km23, km24, km25, hr21, hr22, hr23⟩ := hk22
              obtain ⟨e23, pl, hP, hD, hk23, hO⟩ := open1 hP hD hO km21 (nmc (knd_ne km21 kr44 (by decide)) (nxg clo_nil km21 rfl))
              obtain ⟨f21, rfl⟩ := hk23
              obtain ⟨e24, pl, hP, hD, hk24, hO⟩ := open1 hP hD hO km22 (nmc (knd_ne km22 km21 (by decide)) (nmc (knd_ne km22 kr44 (by decide)) (nxg clo_nil km22 rfl)))
              obtain ⟨f22, rfl⟩ := hk24
              obtain ⟨e25, pl, hP, hD, hk25, hO⟩ := open1 hP hD hO km23 (nmc (knd_ne km23 km22 (by decide)) (nmc (knd_ne km23 km21 (by decide)) (nmc (knd_ne km23 kr44 (by decide)) (nxg clo_nil km23 rfl))))
              obtain ⟨f23, rfl⟩ := hk25
              obtain ⟨e26, pl, hP, hD, hk26, hO⟩ := open1 hP hD hO km24 (nmc (knd_ne km24 km23 (by decide)) (nmc (knd_ne km24 km22 (by decide)) (nmc (knd_ne km24 km21 (by decide)) (nmc (knd_ne km24 kr44 (by decide)) (nxg clo_nil km24 rfl)))))
              obtain ⟨f24, rfl⟩ := hk26
              obtain ⟨e27, pl, hP, hD, hk27, hO⟩ := open1 hP hD hO km25 (nmc (knd_ne km25 km24 (by decide)) (nmc (knd_ne km25 km23 (by decide)) (nmc (knd_ne km25 km22 (by decide)) (nmc (knd_ne km25 km21 (by decide)) (nmc (knd_ne km25 kr44 (by decide)) (nxg clo_nil km25 rfl))))))
              obtain ⟨f25, rfl⟩ := hk27
              have hP : va_P g.1 vcl ([(r45, .inr (9, [.ref am21, .ref am22, .ref am23, .ref am24, .ref am25, .int (nI rt21), .int (nI ps21), .int x21])), (am21, .inl (g.2.1 2, 25, .inr (.inl f21))), (am22, .inl (g.2.1 2, 25, .inr (.inl f22))), (am23, .inl (g.2.1 2, 5, .inr (.inl f23))), (am24, .inl (g.2.1 2, 24, .inr (.inl f24))), (am25, .inl (g.2.1 0, 25, .inl f25))] ++ pl) _ := hP
              have hD : va_D _ ([(r45, .inr (9, [.ref am21, .ref am22, .ref am23, .ref am24, .ref am25, .int (nI rt21), .int (nI ps21), .int x21])), (am21, .inl (g.2.1 2, 25, .inr (.inl f21))), (am22, .inl (g.2.1 2, 25, .inr (.inl f22))), (am23, .inl (g.2.1 2, 5, .inr (.inl f23))), (am24, .inl (g.2.1 2, 24, .inr (.inl f24))), (am25, .inl (g.2.1 0, 25, .inl f25))] ++ pl) := hD
              refine mp_v (cx := [(r45, .inr (9, [.ref am21, .ref am22, .ref am23, .ref am24, .ref am25, .int (nI rt21), .int (nI ps21), .int x21])), (am21, .inl (g.2.1 2, 25, .inr (.inl f21))), (am22, .inl (g.2.1 2, 25, .inr (.inl f22))), (am23, .inl (g.2.1 2, 5, .inr (.inl f23))), (am24, .inl (g.2.1 2, 24, .inr (.inl f24))), (am25, .inl (g.2.1 0, 25, .inl f25))]) (wr := []) hP hD hS hA [0, 1, 2, 3, 4, 5] [] rfl rfl rfl (by decide) (va_runV (As := []) (rest := []) F (t_MS_shake l g _ T (am25 :: (am24 :: (am23 :: (am22 :: (am21 :: (r45 :: [])))))) pl hO hU  r45 am21 am22 am23 am24 am25 rt21 ps21 x21 f21 f22 f23 f24 f25) (cwV 0 hts (wg_app (wg_c kw_1718 (wg_c kw_1661 (wg_c kw_1662 (wg_c kw_10 wg_n)))) kw_1663) rfl rfl rfl (by decide +kernel) ⟨by decide, by decide⟩) (pp_V (en_ok g) (q0 := 0) hK hP hD hS hA hE [0, 1, 2, 3, 4, 5] rfl rfl rfl rfl) rfl rfl hl.1 rfl (lv_room (Nat.le_of_ble_eq_true rfl)) dMH_verify_188 ⟨by omega, by omega⟩) (fun  u21 H locs hu23 hP hD hS => ?_)
              obtain ⟨u22, pl⟩ := u21
              obtain ⟨hq23, hO⟩ := hu23
              obtain ⟨ps22, f26, f27, f28⟩ := u22
              have hP : va_P g.1 vcl ([(r45, .inr (9, [.ref am21, .ref am22, .ref am23, .ref am24, .ref am25, .int (nI 136), .int (nI ps22), .int (nI 31)])), (am21, .inl (g.2.1 2, 25, .inr (.inl f26))), (am22, .inl (g.2.1 2, 25, .inr (.inl f27))), (am23, .inl (g.2.1 2, 5, .inr (.inl f28))), (am24, .inl (g.2.1 2, 24, .inr (.inl f24))), (am25, .inl (g.2.1 0, 25, .inl f25))] ++ pl) _ := hP
              have hD : va_D _ ([(r45, .inr (9, [.ref am21, .ref am22, .ref am23, .ref am24, .ref am25, .int (nI 136), .int (nI ps22), .int (nI 31)])), (am21, .inl (g.2.1 2, 25, .inr (.inl f26))), (am22, .inl (g.2.1 2, 25, .inr (.inl f27))), (am23, .inl (g.2.1 2, 5, .inr (.inl f28))), (am24, .inl (g.2.1 2, 24, .inr (.inl f24))), (am25, .inl (g.2.1 0, 25, .inl f25))] ++ pl) := hD
              have hq23 : ps22 ≤ 136 := hq23
              refine W.widen (k := 0) (n := 0) (by omega) (by omega) ?_
              refine lv_aload_n hx hb dMH_verify_191 rfl (lv_at hl 4 rfl) ?_
              refine ty_get (ci := 12) (C := "LatticeKeysModel$Hands") (TT := T_MH) (N := 31) (kd := (48, 0)) hx hb hts (wg_ft i_MH) hown hK hO k_h0 (nxg (clo_cons (clo_cons (clo_cons (clo_cons (clo_cons (clo_cons clo_nil kr44 (by decide)) km21 (by decide)) km22 (by decide)) km23 (by decide)) km24 (by decide)) km25 (by decide)) k_h0 rfl) hP (fun _ h9 => h9) rfl 0 (by decide) (hts _ (wg_t kw_1432)) (fun _ h9 => h9) (cd := (3, 20, 0)) rfl dMH_verify_192 (fun v57 hv57 => ?_)
              obtain ⟨r46, rfl, kr45⟩ := (show ∃ r : Nat, v57 = .ref r ∧ T r = some (20, 0) from hv57)
              obtain rfl : r45 = r46 := hU _ _ _ (by decide) kr44 kr45
              refine lv_aload_n hx hb dMH_verify_195 rfl (lv_at hl 5 rfl) ?_
              refine lv_iconst (v := nI 0) hx hb dMH_verify_196 (by decide) ?_
              refine lv_aload_n hx hb dMH_verify_197 rfl (lv_at hl 4 rfl) ?_
              refine ty_get (ci := 12) (C := "LatticeKeysModel$Hands") (TT := T_MH) (N := 31) (kd := (48, 0)) hx hb hts (wg_ft i_MH) hown hK hO k_h0 (nxg (clo_cons (clo_cons (clo_cons (clo_cons (clo_cons (clo_cons clo_nil kr44 (by decide)) km21 (by decide)) km22 (by decide)) km23 (by decide)) km24 (by decide)) km25 (by decide)) k_h0 rfl) hP (fun _ h9 => h9) rfl 23 (by decide) (hts _ (wg_t kw_1455)) (fun _ h9 => h9) (cd := (1, 0, 2)) rfl dMH_verify_198 (fun v58 hv58 => ?_)
              obtain rfl := (show v58 = .int (nI 2) from hv58)
              refine mp_i (cx := []) (wr := [(r45, .inr (9, [.ref am21, .ref am22, .ref am23, .ref am24, .ref am25, .int (nI 136), .int (nI ps22), .int (nI 31)])), (am21, .inl (g.2.1 2, 25, .inr (.inl f26))), (am22, .inl (g.2.1 2, 25, .inr (.inl f27))), (am23, .inl (g.2.1 2, 5, .inr (.inl f28))), (am24, .inl (g.2.1 2, 24, .inr (.inl f24))), (am25, .inl (g.2.1 0, 25, .inl f25))]) hP hD hS hA [] [0, 1, 2, 3, 4, 5] rfl rfl rfl (by decide) (va_runS (As := [.int (nI 2)]) (rest := [.int (nI 0), .ref pk, .ref r45]) F (t_MH_openSize_2 l g _ T (am25 :: (am24 :: (am23 :: (am22 :: (am21 :: (r45 :: [])))))) pl hO hU  ) (va_cwS 1 hts (wg_app (wg_c kw_1744 (wg_c kw_1745 (wg_c kw_13 wg_n))) kw_1746) rfl rfl rfl (by decide +kernel) ⟨by decide, by decide⟩) (pp_S (en_ok g) hP hD hS hA hE [] rfl rfl) rfl rfl hl.1 rfl (lv_room (Nat.le_of_ble_eq_true rfl)) dMH_verify_201 ⟨by omega, by omega⟩) (fun r47 pl H locs hu24 hP hD hS => ?_)
              obtain ⟨hq24, hO⟩ := hu24
              have hP : va_P g.1 vcl ([(r45, .inr (9, [.ref am21, .ref am22, .ref am23, .ref am24, .ref am25, .int (nI 136), .int (nI ps22), .int (nI 31)])), (am21, .inl (g.2.1 2, 25, .inr (.inl f26))), (am22, .inl (g.2.1 2, 25, .inr (.inl f27))), (am23, .inl (g.2.1 2, 5, .inr (.inl f28))), (am24, .inl (g.2.1 2, 24, .inr (.inl f24))), (am25, .inl (g.2.1 0, 25, .inl f25))] ++ pl) _ := hP
              have hD : va_D _ ([(r45, .inr (9, [.ref am21, .ref am22, .ref am23, .ref am24, .ref am25, .int (nI 136), .int (nI ps22), .int (nI 31)])), (am21, .inl (g.2.1 2, 25, .inr (.inl f26))), (am22, .inl (g.2.1 2, 25, .inr (.inl f27))), (am23, .inl (g.2.1 2, 5, .inr (.inl f28))), (am24, .inl (g.2.1 2, 24, .inr (.inl f24))), (am25, .inl (g.2.1 0, 25, .inl f25))] ++ pl) := hD
              obtain rfl := hq24
              refine W.widen (k := 0) (n := 0) (by omega) (by omega) ?_
              refine mp_v (cx := [(r45, .inr (9, [.ref am21, .ref am22, .ref am23, .ref am24, .ref am25, .int (nI 136), .int (nI ps22), .int (nI 31)])), (am21, .inl (g.2.1 2, 25, .inr (.inl f26))), (am22, .inl (g.2.1 2, 25, .inr (.inl f27))), (am23, .inl (g.2.1 2, 5, .inr (.inl f28))), (am24, .inl (g.2.1 2, 24, .inr (.inl f24))), (am25, .inl (g.2.1 0, 25, .inl f25))]) (wr := []) hP hD hS hA [0, 1, 2, 3, 4, 5] [] rfl rfl rfl (by decide) (va_runV (As := [.ref pk, .int (nI 0), .int (nI 2592)]) (rest := []) F (t_MS_puts l g _ T (am25 :: (am24 :: (am23 :: (am22 :: (am21 :: (r45 :: [])))))) pl hO hU (clo_cons (clo_cons (clo_cons (clo_cons (clo_cons (clo_cons clo_nil kr44 (by decide)) km21 (by decide)) km22 (by decide)) km23 (by decide)) km24 (by decide)) km25 (by decide)) pk 2592 0 2592 r45 am21 am22 am23 am24 am25 136 ps22 (nI 31) f26 f27 f28 f24 f25 k_pk (by omega) (by omega) (by omega) (by omega)) (cwV 3 hts (wg_app (wg_c kw_1719 (wg_c kw_1612 (wg_c kw_1613 (wg_c kw_10 wg_n)))) kw_1614) rfl rfl rfl (by decide +kernel) ⟨by decide, by decide⟩) (pp_V (en_ok g) (q0 := 0) hK hP hD hS hA hE [0, 1, 2, 3, 4, 5] rfl rfl rfl rfl) rfl rfl hl.1 rfl (lv_room (Nat.le_of_ble_eq_true rfl)) dMH_verify_204 ⟨by omega, by omega⟩) (fun  u23 H locs hu25 hP hD hS => ?_)
              obtain ⟨u24, pl⟩ := u23
              obtain ⟨hq25, hO⟩ := hu25
              obtain ⟨ps23, f29, f30, f31⟩ := u24
              have hP : va_P g.1 vcl ([(r45, .inr (9, [.ref am21, .ref am22, .ref am23, .ref am24, .ref am25, .int (nI 136), .int (nI ps23), .int (nI 31)])), (am21, .inl (g.2.1 2, 25, .inr (.inl f29))), (am22, .inl (g.2.1 2, 25, .inr (.inl f30))), (am23, .inl (g.2.1 2, 5, .inr (.inl f31))), (am24, .inl (g.2.1 2, 24, .inr (.inl f24))), (am25, .inl (g.2.1 0, 25, .inl f25))] ++ pl) _ := hP
              have hD : va_D _ ([(r45, .inr (9, [.ref am21, .ref am22, .ref am23, .ref am24, .ref am25, .int (nI 136), .int (nI ps23), .int (nI 31)])), (am21, .inl (g.2.1 2, 25, .inr (.inl f29))), (am22, .inl (g.2.1 2, 25, .inr (.inl f30))), (am23, .inl (g.2.1 2, 5, .inr (.inl f31))), (am24, .inl (g.2.1 2, 24, .inr (.inl f24))), (am25, .inl (g.2.1 0, 25, .inl f25))] ++ pl) := hD
              have hq25 : ps23 ≤ 136 := hq25
              refine W.widen (k := 0) (n := 0) (by omega) (by omega) ?_
              refine lv_aload_n hx hb dMH_verify_207 rfl (lv_at hl 4 rfl) ?_
              refine ty_get (ci := 12) (C := "LatticeKeysModel$Hands") (TT := T_MH) (N := 31) (kd := (48, 0)) hx hb hts (wg_ft i_MH) hown hK hO k_h0 (nxg (clo_cons (clo_cons (clo_cons (clo_cons (clo_cons (clo_cons clo_nil kr44 (by decide)) km21 (by decide)) km22 (by decide)) km23 (by decide)) km24 (by decide)) km25 (by decide)) k_h0 rfl) hP (fun _ h9 => h9) rfl 0 (by decide) (hts _ (wg_t kw_1432)) (fun _ h9 => h9) (cd := (3, 20, 0)) rfl dMH_verify_208 (fun v59 hv59 => ?_)
              obtain ⟨r48, rfl, kr46⟩ := (show ∃ r : Nat, v59 = .ref r ∧ T r = some (20, 0) from hv59)
              obtain rfl : r45 = r48 := hU _ _ _ (by decide) kr44 kr46
              refine mp_v (cx := [(r45, .inr (9, [.ref am21, .ref am22, .ref am23, .ref am24, .ref am25, .int (nI 136), .int (nI ps23), .int (nI 31)])), (am21, .inl (g.2.1 2, 25, .inr (.inl f29))), (am22, .inl (g.2.1 2, 25, .inr (.inl f30))), (am23, .inl (g.2.1 2, 5, .inr (.inl f31))), (am24, .inl (g.2.1 2, 24, .inr (.inl f24))), (am25, .inl (g.2.1 0, 25, .inl f25))]) (wr := []) hP hD hS hA [0, 1, 2, 3, 4, 5] [] rfl rfl rfl (by decide) (va_runV (As := []) (rest := []) F (t_MS_end l g _ T (am25 :: (am24 :: (am23 :: (am22 :: (am21 :: (r45 :: [])))))) pl hO hU  r45 am21 am22 am23 am24 am25 136 ps23 (nI 31) f29 f30 f31 f24 f25 (by omega) (by omega)) (cwV 0 hts (wg_app (wg_c kw_1721 (wg_c kw_1634 (wg_c kw_1635 (wg_c kw_10 wg_n)))) kw_1636) rfl rfl rfl (by decide +kernel) ⟨by decide, by decide⟩) (pp_V (en_ok g) (q0 := 0) hK hP hD hS hA hE [0, 1, 2, 3, 4, 5] rfl rfl rfl rfl) rfl rfl hl.1 rfl (lv_room (Nat.le_of_ble_eq_true rfl)) dMH_verify_211 ⟨by omega, by omega⟩) (fun  u25 H locs hu26 hP hD hS => ?_)
              obtain ⟨u26, pl⟩ := u25
              obtain ⟨hq26, hO⟩ := hu26
              obtain ⟨ps24, f32, f33, f34⟩ := u26
              have hP : va_P g.1 vcl ([(r45, .inr (9, [.ref am21, .ref am22, .ref am23, .ref am24, .ref am25, .int (nI 136), .int (nI ps24), .int (nI 31)])), (am21, .inl (g.2.1 2, 25, .inr (.inl f32))), (am22, .inl (g.2.1 2, 25, .inr (.inl f33))), (am23, .inl (g.2.1 2, 5, .inr (.inl f34))), (am24, .inl (g.2.1 2, 24, .inr (.inl f24))), (am25, .inl (g.2.1 0, 25, .inl f25))] ++ pl) _ := hP
              have hD : va_D _ ([(r45, .inr (9, [.ref am21, .ref am22, .ref am23, .ref am24, .ref am25, .int (nI 136), .int (nI ps24), .int (nI 31)])), (am21, .inl (g.2.1 2, 25, .inr (.inl f32))), (am22, .inl (g.2.1 2, 25, .inr (.inl f33))), (am23, .inl (g.2.1 2, 5, .inr (.inl f34))), (am24, .inl (g.2.1 2, 24, .inr (.inl f24))), (am25, .inl (g.2.1 0, 25, .inl f25))] ++ pl) := hD
              have hq26 : ps24 ≤ 136 := hq26
              refine W.widen (k := 0) (n := 0) (by omega) (by omega) ?_
              refine lv_aload_n hx hb dMH_verify_214 rfl (lv_at hl 4 rfl) ?_
              refine ty_get (ci := 12) (C := "LatticeKeysModel$Hands") (TT := T_MH) (N := 31) (kd := (48, 0)) hx hb hts (wg_ft i_MH) hown hK hO k_h0 (nxg (clo_cons (clo_cons (clo_cons (clo_cons (clo_cons (clo_cons clo_nil kr44 (by decide)) km21 (by decide)) km22 (by decide)) km23 (by decide)) km24 (by decide)) km25 (by decide)) k_h0 rfl) hP (fun _ h9 => h9) rfl 0 (by decide) (hts _ (wg_t kw_1432)) (fun _ h9 => h9) (cd := (3, 20, 0)) rfl dMH_verify_215 (fun v60 hv60 => ?_)
              obtain ⟨r49, rfl, kr47⟩ := (show ∃ r : Nat, v60 = .ref r ∧ T r = some (20, 0) from hv60)
              obtain rfl : r45 = r49 := hU _ _ _ (by decide) kr44 kr47
              refine lv_aload_n hx hb dMH_verify_218 rfl (lv_at hl 4 rfl) ?_
              refine ty_get (ci := 12) (C := "LatticeKeysModel$Hands") (TT := T_MH) (N := 31) (kd := (48, 0)) hx hb hts (wg_ft i_MH) hown hK hO k_h0 (nxg (clo_cons (clo_cons (clo_cons (clo_cons (clo_cons (clo_cons clo_nil kr44 (by decide)) km21 (by decide)) km22 (by decide)) km23 (by decide)) km24 (by decide)) km25 (by decide)) k_h0 rfl) hP (fun _ h9 => h9) rfl 22 (by decide) (hts _ (wg_t kw_1454)) (fun _ h9 => h9) (cd := (3, 1, 64)) rfl dMH_verify_219 (fun v61 hv61 => ?_)
              obtain ⟨r50, rfl, kr48⟩ := (show ∃ r : Nat, v61 = .ref r ∧ T r = some (1, 64) from hv61)
              refine lv_iconst (v := nI 0) hx hb dMH_verify_222 (by decide) ?_
              refine lv_bipush (v := nI 64) hx hb dMH_verify_223 (by decide) ?_
              refine mp_v (cx := [(r45, .inr (9, [.ref am21, .ref am22, .ref am23, .ref am24, .ref am25, .int (nI 136), .int (nI ps24), .int (nI 31)])), (am21, .inl (g.2.1 2, 25, .inr (.inl f32))), (am22, .inl (g.2.1 2, 25, .inr (.inl f33))), (am23, .inl (g.2.1 2, 5, .inr (.inl f34))), (am24, .inl (g.2.1 2, 24, .inr (.inl f24))), (am25, .inl (g.2.1 0, 25, .inl f25))]) (wr := []) hP hD hS hA [0, 1, 2, 3, 4, 5] [] rfl rfl rfl (by decide) (va_runV (As := [.ref r50, .int (nI 0), .int (nI 64)]) (rest := []) F (t_MS_take l g _ T (am25 :: (am24 :: (am23 :: (am22 :: (am21 :: (r45 :: [])))))) pl hO hU (clo_cons (clo_cons (clo_cons (clo_cons (clo_cons (clo_cons clo_nil kr44 (by decide)) km21 (by decide)) km22 (by decide)) km23 (by decide)) km24 (by decide)) km25 (by decide)) r50 64 0 64 r45 am21 am22 am23 am24 am25 136 ps24 (nI 31) f32 f33 f34 f24 f25 kr48 (by omega) (by omega) (by omega) (by omega)) (cwV 3 hts (wg_app (wg_c kw_1722 (wg_c kw_1638 (wg_c kw_1639 (wg_c kw_10 wg_n)))) kw_1640) rfl rfl rfl (by decide +kernel) ⟨by decide, by decide⟩) (pp_V (en_ok g) (q0 := 0) hK hP hD hS hA hE [0, 1, 2, 3, 4, 5] rfl rfl rfl rfl) rfl rfl hl.1 rfl (lv_room (Nat.le_of_ble_eq_true rfl)) dMH_verify_225 ⟨by omega, by omega⟩) (fun  u27 H locs hu27 hP hD hS => ?_)
              obtain ⟨u28, pl⟩ := u27
              obtain ⟨hq27, hO⟩ := hu27
              obtain ⟨ps25, f35, f36, f37⟩ := u28
              have hP : va_P g.1 vcl ([(r45, .inr (9, [.ref am21, .ref am22, .ref am23, .ref am24, .ref am25, .int (nI 136), .int (nI ps25), .int (nI 31)])), (am21, .inl (g.2.1 2, 25, .inr (.inl f35))), (am22, .inl (g.2.1 2, 25, .inr (.inl f36))), (am23, .inl (g.2.1 2, 5, .inr (.inl f37))), (am24, .inl (g.2.1 2, 24, .inr (.inl f24))), (am25, .inl (g.2.1 0, 25, .inl f25))] ++ pl) _ := hP
              have hD : va_D _ ([(r45, .inr (9, [.ref am21, .ref am22, .ref am23, .ref am24, .ref am25, .int (nI 136), .int (nI ps25), .int (nI 31)])), (am21, .inl (g.2.1 2, 25, .inr (.inl f35))), (am22, .inl (g.2.1 2, 25, .inr (.inl f36))), (am23, .inl (g.2.1 2, 5, .inr (.inl f37))), (am24, .inl (g.2.1 2, 24, .inr (.inl f24))), (am25, .inl (g.2.1 0, 25, .inl f25))] ++ pl) := hD
              have hq27 : ps25 ≤ 136 := hq27
              refine W.widen (k := 0) (n := 0) (by omega) (by omega) ?_
              refine lv_aload_n hx hb dMH_verify_228 rfl (lv_at hl 4 rfl) ?_
              refine lv_aload_n hx hb dMH_verify_229 rfl (lv_at hl 4 rfl) ?_
              refine ty_get (ci := 12) (C := "LatticeKeysModel$Hands") (TT := T_MH) (N := 31) (kd := (48, 0)) hx hb hts (wg_ft i_MH) hown hK hO k_h0 (nxg (clo_cons (clo_cons (clo_cons (clo_cons (clo_cons (clo_cons clo_nil kr44 (by decide)) km21 (by decide)) km22 (by decide)) km23 (by decide)) km24 (by decide)) km25 (by decide)) k_h0 rfl) hP (fun _ h9 => h9) rfl 22 (by decide) (hts _ (wg_t kw_1454)) (fun _ h9 => h9) (cd := (3, 1, 64)) rfl dMH_verify_230 (fun v62 hv62 => ?_)
              obtain ⟨r51, rfl, kr49⟩ := (show ∃ r : Nat, v62 = .ref r ∧ T r = some (1, 64) from hv62)
              refine lv_iconst (v := nI 0) hx hb dMH_verify_233 (by decide) ?_
              refine lv_aload_n hx hb dMH_verify_234 rfl (lv_at hl 6 rfl) ?_
              refine lv_aload_n hx hb dMH_verify_235 rfl (lv_at hl 4 rfl) ?_
              refine ty_get (ci := 12) (C := "LatticeKeysModel$Hands") (TT := T_MH) (N := 31) (kd := (48, 0)) hx hb hts (wg_ft i_MH) hown hK hO k_h0 (nxg (clo_cons (clo_cons (clo_cons (clo_cons (clo_cons (clo_cons clo_nil kr44 (by decide)) km21 (by decide)) km22 (by decide)) km23 (by decide)) km24 (by decide)) km25 (by decide)) k_h0 rfl) hP (fun _ h9 => h9) rfl 23 (by decide) (hts _ (wg_t kw_1455)) (fun _ h9 => h9) (cd := (1, 0, 2)) rfl dMH_verify_236 (fun v63 hv63 => ?_)
              obtain rfl := (show v63 = .int (nI 2) from hv63)
              refine mp_i (cx := []) (wr := [(r45, .inr (9, [.ref am21, .ref am22, .ref am23, .ref am24, .ref am25, .int (nI 136), .int (nI ps25), .int (nI 31)])), (am21, .inl (g.2.1 2, 25, .inr (.inl f35))), (am22, .inl (g.2.1 2, 25, .inr (.inl f36))), (am23, .inl (g.2.1 2, 5, .inr (.inl f37))), (am24, .inl (g.2.1 2, 24, .inr (.inl f24))), (am25, .inl (g.2.1 0, 25, .inl f25))]) hP hD hS hA [] [0, 1, 2, 3, 4, 5] rfl rfl rfl (by decide) (va_runS (As := [.int (nI 2)]) (rest := [.ref b, .int (nI 0), .ref r51, .ref h0]) F (t_MH_markSize_2 l g _ T (am25 :: (am24 :: (am23 :: (am22 :: (am21 :: (r45 :: [])))))) pl hO hU  ) (va_cwS 1 hts (wg_app (wg_c kw_1933 (wg_c kw_1919 (wg_c kw_13 wg_n))) kw_1920) rfl rfl rfl (by decide +kernel) ⟨by decide, by decide⟩) (pp_S (en_ok g) hP hD hS hA hE [] rfl rfl) rfl rfl hl.1 rfl (lv_room (Nat.le_of_ble_eq_true rfl)) dMH_verify_239 ⟨by omega, by omega⟩) (fun r52 pl H locs hu28 hP hD hS => ?_)
              obtain ⟨hq28, hO⟩ := hu28
              have hP : va_P g.1 vcl ([(r45, .inr (9, [.ref am21, .ref am22, .ref am23, .ref am24, .ref am25, .int (nI 136), .int (nI ps25), .int (nI 31)])), (am21, .inl (g.2.1 2, 25, .inr (.inl f35))), (am22, .inl (g.2.1 2, 25, .inr (.inl f36))), (am23, .inl (g.2.1 2, 5, .inr (.inl f37))), (am24, .inl (g.2.1 2, 24, .inr (.inl f24))), (am25, .inl (g.2.1 0, 25, .inl f25))] ++ pl) _ := hP
              have hD : va_D _ ([(r45, .inr (9, [.ref am21, .ref am22, .ref am23, .ref am24, .ref am25, .int (nI 136), .int (nI ps25), .int (nI 31)])), (am21, .inl (g.2.1 2, 25, .inr (.inl f35))), (am22, .inl (g.2.1 2, 25, .inr (.inl f36))), (am23, .inl (g.2.1 2, 5, .inr (.inl f37))), (am24, .inl (g.2.1 2, 24, .inr (.inl f24))), (am25, .inl (g.2.1 0, 25, .inl f25))] ++ pl) := hD
              obtain rfl := hq28
              refine W.widen (k := 0) (n := 0) (by omega) (by omega) ?_
              refine lv_iload hx hb dMH_verify_242 (lv_at hl 7 rfl) ?_
              refine lv_iload hx hb dMH_verify_244 (lv_at hl 8 rfl) ?_
              have hO := close1 (e := .inl (g.2.1 0, 25, .inl f25)) hO km25 ⟨_, rfl⟩
              have hO := close1 (e := .inl (g.2.1 2, 24, .inr (.inl f24))) hO km24 ⟨_, rfl⟩
              have hO := close1 (e := .inl (g.2.1 2, 5, .inr (.inl f37))) hO km23 ⟨_, rfl⟩
              have hO := close1 (e := .inl (g.2.1 2, 25, .inr (.inl f36))) hO km22 ⟨_, rfl⟩
              have hO := close1 (e := .inl (g.2.1 2, 25, .inr (.inl f35))) hO km21 ⟨_, rfl⟩
              have hO := close1 (e := .inr (9, [.ref am21, .ref am22, .ref am23, .ref am24, .ref am25, .int (nI 136), .int (nI ps25), .int (nI 31)])) hO kr44 ⟨_, _, _, _, _, _, _, _, rfl, km21, km22, km23, km24, km25, by omega, by omega, by omega⟩
              have hO : okx g T [] ((r45, .inr (9, [.ref am21, .ref am22, .ref am23, .ref am24, .ref am25, .int (nI 136), .int (nI ps25), .int (nI 31)])) :: (am21, .inl (g.2.1 2, 25, .inr (.inl f35))) :: (am22, .inl (g.2.1 2, 25, .inr (.inl f36))) :: (am23, .inl (g.2.1 2, 5, .inr (.inl f37))) :: (am24, .inl (g.2.1 2, 24, .inr (.inl f24))) :: (am25, .inl (g.2.1 0, 25, .inl f25)) :: pl) := hO
              have hP : va_P g.1 vcl ([] ++ ((r45, .inr (9, [.ref am21, .ref am22, .ref am23, .ref am24, .ref am25, .int (nI 136), .int (nI ps25), .int (nI 31)])) :: (am21, .inl (g.2.1 2, 25, .inr (.inl f35))) :: (am22, .inl (g.2.1 2, 25, .inr (.inl f36))) :: (am23, .inl (g.2.1 2, 5, .inr (.inl f37))) :: (am24, .inl (g.2.1 2, 24, .inr (.inl f24))) :: (am25, .inl (g.2.1 0, 25, .inl f25)) :: pl)) _ := hP
              have hD : va_D _ ([] ++ ((r45, .inr (9, [.ref am21, .ref am22, .ref am23, .ref am24, .ref am25, .int (nI 136), .int (nI ps25), .int (nI 31)])) :: (am21, .inl (g.2.1 2, 25, .inr (.inl f35))) :: (am22, .inl (g.2.1 2, 25, .inr (.inl f36))) :: (am23, .inl (g.2.1 2, 5, .inr (.inl f37))) :: (am24, .inl (g.2.1 2, 24, .inr (.inl f24))) :: (am25, .inl (g.2.1 0, 25, .inl f25)) :: pl)) := hD
              generalize ((r45, .inr (9, [.ref am21, .ref am22, .ref am23, .ref am24, .ref am25, .int (nI 136), .int (nI ps25), .int (nI 31)])) :: (am21, .inl (g.2.1 2, 25, .inr (.inl f35))) :: (am22, .inl (g.2.1 2, 25, .inr (.inl f36))) :: (am23, .inl (g.2.1 2, 5, .inr (.inl f37))) :: (am24, .inl (g.2.1 2, 24, .inr (.inl f24))) :: (am25, .inl (g.2.1 0, 25, .inl f25)) :: pl) = pl at hO hP hD
              refine mp_v (cx := []) (wr := []) hP hD hS hA [] [] rfl rfl rfl (by decide) (va_runV (As := [.ref r51, .int (nI 0), .ref b, .int (nI 4627), .int cl, .int (nI ed)]) (rest := []) F (t_MH_message_2 l g _ T [] pl hO hU clo_nil clo_nil h0 r51 b 64 16384 0 4627 ed cl k_h0 kr49 k_b (by omega) (by omega) (by omega) (by omega) (by omega)) (cwV 6 hts (wg_app (wg_c kw_1868 (wg_c kw_1870 (wg_c ks_71 (wg_c kw_13 wg_n)))) kw_1871) rfl rfl rfl (by decide +kernel) ⟨by decide, by decide⟩) (pp_VT (en_ok g) (ci := 12) (kd := (48, 0)) hK hO k_h0 (nxg clo_nil k_h0 rfl) (fun _ h9 => ko1 h9) hP hD hS hA hE [] rfl rfl rfl) rfl rfl hl.1 rfl (lv_room (Nat.le_of_ble_eq_true rfl)) dMH_verify_246 ⟨by omega, by omega⟩) (fun  pl H locs hu29 hP hD hS => ?_)
              obtain ⟨hq29, hO⟩ := hu29
              have hP : va_P g.1 vcl ([] ++ pl) _ := hP
              have hD : va_D _ ([] ++ pl) := hD
              refine W.widen (k := 0) (n := 0) (by omega) (by omega) ?_
              refine lv_aload_n hx hb dMH_verify_249 rfl (lv_at hl 4 rfl) ?_
              refine lv_aload_n hx hb dMH_verify_250 rfl (lv_at hl 5 rfl) ?_
              refine mp_v (cx := []) (wr := []) hP hD hS hA [] [] rfl rfl rfl (by decide) (va_runV (As := [.ref pk]) (rest := []) F (t_MH_expand_2 l g _ T [] pl hO hU clo_nil clo_nil h0 pk 2592 k_h0 k_pk (by omega) (by omega)) (cwV 1 hts (wg_app (wg_c kw_1723 (wg_c kw_1725 (wg_c ks_61 (wg_c kw_13 wg_n)))) kw_1726) rfl rfl rfl (by decide +kernel) ⟨by decide, by decide⟩) (pp_VT (en_ok g) (ci := 12) (kd := (48, 0)) hK hO k_h0 (nxg clo_nil k_h0 rfl) (fun _ h9 => ko1 h9) hP hD hS hA hE [] rfl rfl rfl) rfl rfl hl.1 rfl (lv_room (Nat.le_of_ble_eq_true rfl)) dMH_verify_251 ⟨by omega, by omega⟩) (fun  pl H locs hu30 hP hD hS => ?_)
              obtain ⟨hq30, hO⟩ := hu30
              have hP : va_P g.1 vcl ([] ++ pl) _ := hP
              have hD : va_D _ ([] ++ pl) := hD
              refine W.widen (k := 0) (n := 0) (by omega) (by omega) ?_
              refine lv_aload_n hx hb dMH_verify_254 rfl (lv_at hl 4 rfl) ?_
              refine lv_aload_n hx hb dMH_verify_255 rfl (lv_at hl 4 rfl) ?_
              refine ty_get (ci := 12) (C := "LatticeKeysModel$Hands") (TT := T_MH) (N := 31) (kd := (48, 0)) hx hb hts (wg_ft i_MH) hown hK hO k_h0 (nxg clo_nil k_h0 rfl) hP (fun _ h9 => h9) rfl 20 (by decide) (hts _ (wg_t kw_1452)) (fun _ h9 => h9) (cd := (3, 1, 64)) rfl dMH_verify_256 (fun v64 hv64 => ?_)
              obtain ⟨r53, rfl, kr50⟩ := (show ∃ r : Nat, v64 = .ref r ∧ T r = some (1, 64) from hv64)
              refine mp_v (cx := []) (wr := []) hP hD hS hA [] [] rfl rfl rfl (by decide) (va_runV (As := [.ref r53]) (rest := []) F (t_MH_ball_2 l g _ T [] pl hO hU clo_nil clo_nil h0 r53 k_h0 kr50) (cwV 1 hts (wg_app (wg_c kw_1893 (wg_c kw_1895 (wg_c ks_77 (wg_c kw_13 wg_n)))) kw_1896) rfl rfl rfl (by decide +kernel) ⟨by decide, by decide⟩) (pp_VT (en_ok g) (ci := 12) (kd := (48, 0)) hK hO k_h0 (nxg clo_nil k_h0 rfl) (fun _ h9 => ko1 h9) hP hD hS hA hE [] rfl rfl rfl) rfl rfl hl.1 rfl (lv_room (Nat.le_of_ble_eq_true rfl)) dMH_verify_259 ⟨by omega, by omega⟩) (fun  pl H locs hu31 hP hD hS => ?_)
              obtain ⟨hq31, hO⟩ := hu31
              have hP : va_P g.1 vcl ([] ++ pl) _ := hP
              have hD : va_D _ ([] ++ pl) := hD
              refine W.widen (k := 0) (n := 0) (by omega) (by omega) ?_
              refine lv_iconst (v := nI 0) hx hb dMH_verify_262 (by decide) ?_
              refine lv_istore (lv' := [(9, .int (nI 0)), (8, .int z29), (7, .int (nI az21)), (6, .int (nI 20)), (0, .ref h0), (2, .ref pk), (3, .ref b), (4, .int cl), (5, .int (nI ed))]) hx hb dMH_verify_263 hl (by decide) rfl (fun ls hl => ?_)
              have lp23 : ∀ (n23 : Nat) (i23 : Nat) (pl : va_W) (ls : Array Slot) (H : Heap) (locs : List Loc), n23 + i23 = 7 → lv_has ls 11 [(9, .int (nI i23)), (0, .ref h0), (2, .ref pk)] → okx g T [] pl → va_P g.1 vcl ([] ++ pl) H → va_D A ([] ++ pl) → va_S A s.heap H locs → W p l e ({ frames := 5, cells := 0, slots := 0, locals := 124 } : Room) s m args below meth c H locs 0 0 (MQ below (va_Qi (fun (r : Int32) (u : va_W) => (r = nI 0 ∨ r = nI 1) ∧ okx g T0 [] u) (po g.1 vcl A (fun (u : va_W) => [] ++ u)) A) args s 0 0 A) (F0 m 265 ls []) := by
                intro n23
                induction n23 with
                | zero =>
                  intro i23 pl ls H locs hm23  hl hO hP hD hS
                  refine lv_iload hx hb dMH_verify_265 (lv_at hl 0 rfl) ?_
                  refine lv_aload_n hx hb dMH_verify_267 rfl (lv_at hl 1 rfl) ?_
                  refine ty_get (ci := 12) (C := "LatticeKeysModel$Hands") (TT := T_MH) (N := 31) (kd := (48, 0)) hx hb hts (wg_ft i_MH) hown hK hO k_h0 (nxg clo_nil k_h0 rfl) hP (fun _ h9 => h9) rfl 25 (by decide) (hts _ (wg_t kw_1457)) (fun _ h9 => h9) (cd := (1, 0, 7)) rfl dMH_verify_268 (fun v65 hv65 => ?_)
                  obtain rfl := (show v65 = .int (nI 7) from hv65)
                  refine mi_ge (tgt := 303) hx hb dMH_verify_271 (by decide) (by omega) (by omega) (fun h26 => ?_) (fun h26 => absurd h26 (by omega))
                  refine lv_iconst (v := nI 0) hx hb dMH_verify_303 (by decide) ?_
                  refine lv_istore (lv' := [(9, .int (nI 0)), (0, .ref h0), (2, .ref pk)]) hx hb dMH_verify_304 hl (by decide) rfl (fun ls hl => ?_)
                  have lp24 : ∀ (n24 : Nat) (i24 : Nat) (pl : va_W) (ls : Array Slot) (H : Heap) (locs : List Loc), n24 + i24 = 8 → lv_has ls 11 [(9, .int (nI i24)), (0, .ref h0), (2, .ref pk)] → okx g T [] pl → va_P g.1 vcl ([] ++ pl) H → va_D A ([] ++ pl) → va_S A s.heap H locs → W p l e ({ frames := 5, cells := 0, slots := 0, locals := 124 } : Room) s m args below meth c H locs 0 0 (MQ below (va_Qi (fun (r : Int32) (u : va_W) => (r = nI 0 ∨ r = nI 1) ∧ okx g T0 [] u) (po g.1 vcl A (fun (u : va_W) => [] ++ u)) A) args s 0 0 A) (F0 m 306 ls []) := by
                    intro n24
                    induction n24 with
                    | zero =>
                      intro i24 pl ls H locs hm24  hl hO hP hD hS
                      refine lv_iload hx hb dMH_verify_306 (lv_at hl 0 rfl) ?_
                      refine lv_aload_n hx hb dMH_verify_308 rfl (lv_at hl 1 rfl) ?_
                      refine ty_get (ci := 12) (C := "LatticeKeysModel$Hands") (TT := T_MH) (N := 31) (kd := (48, 0)) hx hb hts (wg_ft i_MH) hown hK hO k_h0 (nxg clo_nil k_h0 rfl) hP (fun _ h9 => h9) rfl 24 (by decide) (hts _ (wg_t kw_1456)) (fun _ h9 => h9) (cd := (1, 0, 8)) rfl dMH_verify_309 (fun v66 hv66 => ?_)
                      obtain rfl := (show v66 = .int (nI 8) from hv66)
                      refine mi_ge (tgt := 448) hx hb dMH_verify_312 (by decide) (by omega) (by omega) (fun h27 => ?_) (fun h27 => absurd h27 (by omega))
                      refine lv_aload_n hx hb dMH_verify_448 rfl (lv_at hl 1 rfl) ?_
                      refine lv_iconst (v := nI 1) hx hb dMH_verify_449 (by decide) ?_
                      refine lv_aload_n hx hb dMH_verify_450 rfl (lv_at hl 1 rfl) ?_
                      refine ty_get (ci := 12) (C := "LatticeKeysModel$Hands") (TT := T_MH) (N := 31) (kd := (48, 0)) hx hb hts (wg_ft i_MH) hown hK hO k_h0 (nxg clo_nil k_h0 rfl) hP (fun _ h9 => h9) rfl 21 (by decide) (hts _ (wg_t kw_1453)) (fun _ h9 => h9) (cd := (3, 1, 64)) rfl dMH_verify_451 (fun v67 hv67 => ?_)
                      obtain ⟨r54, rfl, kr51⟩ := (show ∃ r : Nat, v67 = .ref r ∧ T r = some (1, 64) from hv67)
                      refine mp_v (cx := []) (wr := []) hP hD hS hA [] [] rfl rfl rfl (by decide) (va_runV (As := [.int (nI 1), .ref r54]) (rest := []) F (t_MH_marked_2 l g _ T [] pl hO hU clo_nil clo_nil h0 r54 (nI 1) k_h0 kr51) (cwV 2 hts (wg_app (wg_c kw_1876 (wg_c kw_1878 (wg_c ks_73 (wg_c kw_13 wg_n)))) kw_1879) rfl rfl rfl (by decide +kernel) ⟨by decide, by decide⟩) (pp_VT (en_ok g) (ci := 12) (kd := (48, 0)) hK hO k_h0 (nxg clo_nil k_h0 rfl) (fun _ h9 => ko1 h9) hP hD hS hA hE [] rfl rfl rfl) rfl rfl hl.1 rfl (lv_room (Nat.le_of_ble_eq_true rfl)) dMH_verify_454 ⟨by omega, by omega⟩) (fun  pl H locs hu32 hP hD hS => ?_)
                      obtain ⟨hq32, hO⟩ := hu32
                      have hP : va_P g.1 vcl ([] ++ pl) _ := hP
                      have hD : va_D _ ([] ++ pl) := hD
                      refine W.widen (k := 0) (n := 0) (by omega) (by omega) ?_
                      refine lv_iconst (v := nI 0) hx hb dMH_verify_457 (by decide) ?_
                      refine lv_istore (lv' := [(9, .int (nI 0)), (0, .ref h0), (2, .ref pk)]) hx hb dMH_verify_458 hl (by decide) rfl (fun ls hl => ?_)
                      have lp25 : ∀ (n25 : Nat) (i25 : Nat) (pl : va_W) (ls : Array Slot) (H : Heap) (locs : List Loc), n25 + i25 = 64 → lv_has ls 11 [(9, .int (nI i25)), (0, .ref h0)] → okx g T [] pl → va_P g.1 vcl ([] ++ pl) H → va_D A ([] ++ pl) → va_S A s.heap H locs → W p l e ({ frames := 5, cells := 0, slots := 0, locals := 124 } : Room) s m args below meth c H locs 0 0 (MQ below (va_Qi (fun (r : Int32) (u : va_W) => (r = nI 0 ∨ r = nI 1) ∧ okx g T0 [] u) (po g.1 vcl A (fun (u : va_W) => [] ++ u)) A) args s 0 0 A) (F0 m 460 ls []) := by
                        intro n25
                        induction n25 with
                        | zero =>
                          intro i25 pl ls H locs hm25  hl hO hP hD hS
                          refine lv_iload hx hb dMH_verify_460 (lv_at hl 0 rfl) ?_
                          refine lv_aload_n hx hb dMH_verify_462 rfl (lv_at hl 1 rfl) ?_
                          refine ty_get (ci := 12) (C := "LatticeKeysModel$Hands") (TT := T_MH) (N := 31) (kd := (48, 0)) hx hb hts (wg_ft i_MH) hown hK hO k_h0 (nxg clo_nil k_h0 rfl) hP (fun _ h9 => h9) rfl 30 (by decide) (hts _ (wg_t kw_1462)) (fun _ h9 => h9) (cd := (1, 0, 64)) rfl dMH_verify_463 (fun v68 hv68 => ?_)
                          obtain rfl := (show v68 = .int (nI 64) from hv68)
                          refine mi_ge (tgt := 494) hx hb dMH_verify_466 (by decide) (by omega) (by omega) (fun h28 => ?_) (fun h28 => absurd h28 (by omega))
                          refine lv_iconst (v := nI 1) hx hb dMH_verify_494 (by decide) ?_
                          exact mp_zret hx hb hr hlk rfl hP hD hS pl ⟨(Or.inr rfl), (hback _ hO)⟩ [] rfl rfl rfl (by omega) (by omega) dMH_verify_495
                        | succ n25 ih25 =>
                          intro i25 pl ls H locs hm25  hl hO hP hD hS
                          refine lv_iload hx hb dMH_verify_460 (lv_at hl 0 rfl) ?_
                          refine lv_aload_n hx hb dMH_verify_462 rfl (lv_at hl 1 rfl) ?_
                          refine ty_get (ci := 12) (C := "LatticeKeysModel$Hands") (TT := T_MH) (N := 31) (kd := (48, 0)) hx hb hts (wg_ft i_MH) hown hK hO k_h0 (nxg clo_nil k_h0 rfl) hP (fun _ h9 => h9) rfl 30 (by decide) (hts _ (wg_t kw_1462)) (fun _ h9 => h9) (cd := (1, 0, 64)) rfl dMH_verify_463 (fun v69 hv69 => ?_)
                          obtain rfl := (show v69 = .int (nI 64) from hv69)
                          refine mi_ge (tgt := 494) hx hb dMH_verify_466 (by decide) (by omega) (by omega) (fun h29 => absurd h29 (by omega)) (fun h29 => ?_)
                          refine lv_aload_n hx hb dMH_verify_469 rfl (lv_at hl 1 rfl) ?_
                          refine ty_get (ci := 12) (C := "LatticeKeysModel$Hands") (TT := T_MH) (N := 31) (kd := (48, 0)) hx hb hts (wg_ft i_MH) hown hK hO k_h0 (nxg clo_nil k_h0 rfl) hP (fun _ h9 => h9) rfl 21 (by decide) (hts _ (wg_t kw_1453)) (fun _ h9 => h9) (cd := (3, 1, 64)) rfl dMH_verify_470 (fun v70 hv70 => ?_)
                          obtain ⟨r55, rfl, kr52⟩ := (show ∃ r : Nat, v70 = .ref r ∧ T r = some (1, 64) from hv70)
                          refine lv_iload hx hb dMH_verify_473 (lv_at hl 0 rfl) ?_
                          refine ty_bald hx hb hK hO kr52 (nxg clo_nil kr52 rfl) hP (vp_in_nI (by omega) (by decide)) dMH_verify_475 (fun z30 => ?_)
                          refine lv_aload_n hx hb dMH_verify_476 rfl (lv_at hl 1 rfl) ?_
                          refine ty_get (ci := 12) (C := "LatticeKeysModel$Hands") (TT := T_MH) (N := 31) (kd := (48, 0)) hx hb hts (wg_ft i_MH) hown hK hO k_h0 (nxg clo_nil k_h0 rfl) hP (fun _ h9 => h9) rfl 20 (by decide) (hts _ (wg_t kw_1452)) (fun _ h9 => h9) (cd := (3, 1, 64)) rfl dMH_verify_477 (fun v71 hv71 => ?_)
                          obtain ⟨r56, rfl, kr53⟩ := (show ∃ r : Nat, v71 = .ref r ∧ T r = some (1, 64) from hv71)
                          refine lv_iload hx hb dMH_verify_480 (lv_at hl 0 rfl) ?_
                          refine ty_bald hx hb hK hO kr53 (nxg clo_nil kr53 rfl) hP (vp_in_nI (by omega) (by decide)) dMH_verify_482 (fun z31 => ?_)
                          refine lv_icmp_eq (tgt := 488) hx hb dMH_verify_483 (by decide) (fun h30 => ?_) (fun h30 => ?_)
                          · refine mi_iinc (k := 0) (x := i25) (d := 1) (y := i25 + 1) (lv' := [(9, .int (nI (i25 + 1))), (0, .ref h0)]) hx hb dMH_verify_488 hl rfl (by decide) rfl (by decide) rfl (fun ls hl => ?_)
                            refine lv_goto (tgt := 460) hx hb dMH_verify_491 (by decide) ?_
                            exact ih25 (i25 + 1) pl ls H locs (by omega) (lv_sub hl [0, 1] rfl) hO hP hD hS
                          · refine lv_iconst (v := nI 0) hx hb dMH_verify_486 (by decide) ?_
                            exact mp_zret hx hb hr hlk rfl hP hD hS pl ⟨(Or.inl rfl), (hback _ hO)⟩ [] rfl rfl rfl (by omega) (by omega) dMH_verify_487
                      exact lp25 64 0 pl ls _ _ (by omega) (lv_sub hl [0, 1] rfl) hO hP hD hS
                    | succ n24 ih24 =>
                      intro i24 pl ls H locs hm24  hl hO hP hD hS
                      refine lv_iload hx hb dMH_verify_306 (lv_at hl 0 rfl) ?_
                      refine lv_aload_n hx hb dMH_verify_308 rfl (lv_at hl 1 rfl) ?_
                      refine ty_get (ci := 12) (C := "LatticeKeysModel$Hands") (TT := T_MH) (N := 31) (kd := (48, 0)) hx hb hts (wg_ft i_MH) hown hK hO k_h0 (nxg clo_nil k_h0 rfl) hP (fun _ h9 => h9) rfl 24 (by decide) (hts _ (wg_t kw_1456)) (fun _ h9 => h9) (cd := (1, 0, 8)) rfl dMH_verify_309 (fun v72 hv72 => ?_)
                      obtain rfl := (show v72 = .int (nI 8) from hv72)
                      refine mi_ge (tgt := 448) hx hb dMH_verify_312 (by decide) (by omega) (by omega) (fun h31 => absurd h31 (by omega)) (fun h31 => ?_)
                      refine lv_aload_n hx hb dMH_verify_315 rfl (lv_at hl 1 rfl) ?_
                      refine lv_iload hx hb dMH_verify_316 (lv_at hl 0 rfl) ?_
                      refine lv_aload_n hx hb dMH_verify_318 rfl (lv_at hl 1 rfl) ?_
                      refine ty_get (ci := 12) (C := "LatticeKeysModel$Hands") (TT := T_MH) (N := 31) (kd := (48, 0)) hx hb hts (wg_ft i_MH) hown hK hO k_h0 (nxg clo_nil k_h0 rfl) hP (fun _ h9 => h9) rfl 10 (by decide) (hts _ (wg_t kw_1442)) (fun _ h9 => h9) (cd := (3, 3, 8)) rfl dMH_verify_319 (fun v73 hv73 => ?_)
                      obtain ⟨r57, rfl, kr54⟩ := (show ∃ r : Nat, v73 = .ref r ∧ T r = some (3, 8) from hv73)
                      refine lv_iload hx hb dMH_verify_322 (lv_at hl 0 rfl) ?_
                      refine ty_aald3 hx hb hK hO kr54 (nxg clo_nil kr54 rfl) hP (by omega) (by decide) dMH_verify_324 (fun r58 kr55 => ?_)
                      refine mp_v (cx := []) (wr := []) hP hD hS hA [] [] rfl rfl rfl (by decide) (va_runV (As := [.int (nI i24), .ref r58]) (rest := []) F (t_MH_rowBy_2 l g _ T [] pl hO hU clo_nil h0 r58 i24 k_h0 kr55 (by omega)) (cwV 2 hts (wg_app (wg_c kw_1734 (wg_c kw_1736 (wg_c ks_63 (wg_c kw_13 wg_n)))) kw_1737) rfl rfl rfl (by decide +kernel) ⟨by decide, by decide⟩) (pp_VT (en_ok g) (ci := 12) (kd := (48, 0)) hK hO k_h0 (nxg clo_nil k_h0 rfl) (fun _ h9 => ko1 h9) hP hD hS hA hE [] rfl rfl rfl) rfl rfl hl.1 rfl (lv_room (Nat.le_of_ble_eq_true rfl)) dMH_verify_325 ⟨by omega, by omega⟩) (fun  pl H locs hu33 hP hD hS => ?_)
                      obtain ⟨hq33, hO⟩ := hu33
                      have hP : va_P g.1 vcl ([] ++ pl) _ := hP
                      have hD : va_D _ ([] ++ pl) := hD
                      refine W.widen (k := 0) (n := 0) (by omega) (by omega) ?_
                      refine lv_iconst (v := nI 0) hx hb dMH_verify_328 (by decide) ?_
                      refine lv_istore (lv' := [(10, .int (nI 0)), (9, .int (nI i24)), (0, .ref h0), (2, .ref pk)]) hx hb dMH_verify_329 hl (by decide) rfl (fun ls hl => ?_)
                      have lp26 : ∀ (n26 : Nat) (i26 : Nat) (pl : va_W) (ls : Array Slot) (H : Heap) (locs : List Loc), n26 + i26 = 256 → lv_has ls 11 [(10, .int (nI i26)), (9, .int (nI i24)), (0, .ref h0), (2, .ref pk)] → okx g T [] pl → va_P g.1 vcl ([] ++ pl) H → va_D A ([] ++ pl) → va_S A s.heap H locs → W p l e ({ frames := 5, cells := 0, slots := 0, locals := 124 } : Room) s m args below meth c H locs 0 0 (MQ below (va_Qi (fun (r : Int32) (u : va_W) => (r = nI 0 ∨ r = nI 1) ∧ okx g T0 [] u) (po g.1 vcl A (fun (u : va_W) => [] ++ u)) A) args s 0 0 A) (F0 m 331 ls []) := by
                        intro n26
                        induction n26 with
                        | zero =>
                          intro i26 pl ls H locs hm26  hl hO hP hD hS
                          refine lv_iload hx hb dMH_verify_331 (lv_at hl 0 rfl) ?_
                          refine lv_sipush (v := nI 256) hx hb dMH_verify_333 (by decide) ?_
                          refine mi_ge (tgt := 380) hx hb dMH_verify_336 (by decide) (by omega) (by omega) (fun h32 => ?_) (fun h32 => absurd h32 (by omega))
                          refine lv_aload_n hx hb dMH_verify_380 rfl (lv_at hl 2 rfl) ?_
                          refine lv_aload_n hx hb dMH_verify_381 rfl (lv_at hl 2 rfl) ?_
                          refine ty_get (ci := 12) (C := "LatticeKeysModel$Hands") (TT := T_MH) (N := 31) (kd := (48, 0)) hx hb hts (wg_ft i_MH) hown hK hO k_h0 (nxg clo_nil k_h0 rfl) hP (fun _ h9 => h9) rfl 6 (by decide) (hts _ (wg_t kw_1438)) (fun _ h9 => h9) (cd := (3, 3, 8)) rfl dMH_verify_382 (fun v74 hv74 => ?_)
                          obtain ⟨r59, rfl, kr56⟩ := (show ∃ r : Nat, v74 = .ref r ∧ T r = some (3, 8) from hv74)
                          refine lv_iload hx hb dMH_verify_385 (lv_at hl 1 rfl) ?_
                          refine ty_aald3 hx hb hK hO kr56 (nxg clo_nil kr56 rfl) hP (by omega) (by decide) dMH_verify_387 (fun r60 kr57 => ?_)
                          refine lv_aload_n hx hb dMH_verify_388 rfl (lv_at hl 2 rfl) ?_
                          refine ty_get (ci := 12) (C := "LatticeKeysModel$Hands") (TT := T_MH) (N := 31) (kd := (48, 0)) hx hb hts (wg_ft i_MH) hown hK hO k_h0 (nxg clo_nil k_h0 rfl) hP (fun _ h9 => h9) rfl 13 (by decide) (hts _ (wg_t kw_1445)) (fun _ h9 => h9) (cd := (3, 0, 256)) rfl dMH_verify_389 (fun v75 hv75 => ?_)
                          obtain ⟨r61, rfl, kr58⟩ := (show ∃ r : Nat, v75 = .ref r ∧ T r = some (0, 256) from hv75)
                          refine mp_v (cx := []) (wr := []) hP hD hS hA [] [] rfl rfl rfl (by decide) (va_runV (As := [.ref r60, .ref r61]) (rest := []) F (t_MH_turned_2 l g _ T [] pl hO hU clo_nil h0 r60 r61 k_h0 kr57 kr58) (cwV 2 hts (wg_app (wg_c kw_1901 (wg_c kw_1903 (wg_c ks_79 (wg_c kw_13 wg_n)))) kw_1904) rfl rfl rfl (by decide +kernel) ⟨by decide, by decide⟩) (pp_VT (en_ok g) (ci := 12) (kd := (48, 0)) hK hO k_h0 (nxg clo_nil k_h0 rfl) (fun _ h9 => ko1 h9) hP hD hS hA hE [] rfl rfl rfl) rfl rfl hl.1 rfl (lv_room (Nat.le_of_ble_eq_true rfl)) dMH_verify_392 ⟨by omega, by omega⟩) (fun  pl H locs hu34 hP hD hS => ?_)
                          obtain ⟨hq34, hO⟩ := hu34
                          have hP : va_P g.1 vcl ([] ++ pl) _ := hP
                          have hD : va_D _ ([] ++ pl) := hD
                          refine W.widen (k := 0) (n := 0) (by omega) (by omega) ?_
                          refine lv_iconst (v := nI 0) hx hb dMH_verify_395 (by decide) ?_
                          refine lv_istore (lv' := [(10, .int (nI 0)), (9, .int (nI i24)), (0, .ref h0), (2, .ref pk)]) hx hb dMH_verify_396 hl (by decide) rfl (fun ls hl => ?_)
                          have lp27 : ∀ (n27 : Nat) (i27 : Nat) (pl : va_W) (ls : Array Slot) (H : Heap) (locs : List Loc), n27 + i27 = 256 → lv_has ls 11 [(10, .int (nI i27)), (9, .int (nI i24)), (0, .ref h0), (2, .ref pk)] → okx g T [] pl → va_P g.1 vcl ([] ++ pl) H → va_D A ([] ++ pl) → va_S A s.heap H locs → W p l e ({ frames := 5, cells := 0, slots := 0, locals := 124 } : Room) s m args below meth c H locs 0 0 (MQ below (va_Qi (fun (r : Int32) (u : va_W) => (r = nI 0 ∨ r = nI 1) ∧ okx g T0 [] u) (po g.1 vcl A (fun (u : va_W) => [] ++ u)) A) args s 0 0 A) (F0 m 398 ls []) := by
                            intro n27
                            induction n27 with
                            | zero =>
                              intro i27 pl ls H locs hm27  hl hO hP hD hS
                              refine lv_iload hx hb dMH_verify_398 (lv_at hl 0 rfl) ?_
                              refine lv_sipush (v := nI 256) hx hb dMH_verify_400 (by decide) ?_
                              refine mi_ge (tgt := 442) hx hb dMH_verify_403 (by decide) (by omega) (by omega) (fun h33 => ?_) (fun h33 => absurd h33 (by omega))
                              refine mi_iinc (k := 1) (x := i24) (d := 1) (y := i24 + 1) (lv' := [(9, .int (nI (i24 + 1))), (10, .int (nI i27)), (0, .ref h0), (2, .ref pk)]) hx hb dMH_verify_442 hl rfl (by decide) rfl (by decide) rfl (fun ls hl => ?_)
                              refine lv_goto (tgt := 306) hx hb dMH_verify_445 (by decide) ?_
                              exact ih24 (i24 + 1) pl ls H locs (by omega) (lv_sub hl [0, 2, 3] rfl) hO hP hD hS
                            | succ n27 ih27 =>
                              intro i27 pl ls H locs hm27  hl hO hP hD hS
                              refine lv_iload hx hb dMH_verify_398 (lv_at hl 0 rfl) ?_
                              refine lv_sipush (v := nI 256) hx hb dMH_verify_400 (by decide) ?_
                              refine mi_ge (tgt := 442) hx hb dMH_verify_403 (by decide) (by omega) (by omega) (fun h34 => absurd h34 (by omega)) (fun h34 => ?_)
                              refine lv_aload_n hx hb dMH_verify_406 rfl (lv_at hl 2 rfl) ?_
                              refine ty_get (ci := 12) (C := "LatticeKeysModel$Hands") (TT := T_MH) (N := 31) (kd := (48, 0)) hx hb hts (wg_ft i_MH) hown hK hO k_h0 (nxg clo_nil k_h0 rfl) hP (fun _ h9 => h9) rfl 10 (by decide) (hts _ (wg_t kw_1442)) (fun _ h9 => h9) (cd := (3, 3, 8)) rfl dMH_verify_407 (fun v76 hv76 => ?_)
                              obtain ⟨r62, rfl, kr59⟩ := (show ∃ r : Nat, v76 = .ref r ∧ T r = some (3, 8) from hv76)
                              refine lv_iload hx hb dMH_verify_410 (lv_at hl 1 rfl) ?_
                              refine ty_aald3 hx hb hK hO kr59 (nxg clo_nil kr59 rfl) hP (by omega) (by decide) dMH_verify_412 (fun r63 kr60 => ?_)
                              refine lv_iload hx hb dMH_verify_413 (lv_at hl 0 rfl) ?_
                              refine lv_aload_n hx hb dMH_verify_415 rfl (lv_at hl 2 rfl) ?_
                              refine ty_get (ci := 12) (C := "LatticeKeysModel$Hands") (TT := T_MH) (N := 31) (kd := (48, 0)) hx hb hts (wg_ft i_MH) hown hK hO k_h0 (nxg clo_nil k_h0 rfl) hP (fun _ h9 => h9) rfl 10 (by decide) (hts _ (wg_t kw_1442)) (fun _ h9 => h9) (cd := (3, 3, 8)) rfl dMH_verify_416 (fun v77 hv77 => ?_)
                              obtain ⟨r64, rfl, kr61⟩ := (show ∃ r : Nat, v77 = .ref r ∧ T r = some (3, 8) from hv77)
                              refine lv_iload hx hb dMH_verify_419 (lv_at hl 1 rfl) ?_
                              refine ty_aald3 hx hb hK hO kr61 (nxg clo_nil kr61 rfl) hP (by omega) (by decide) dMH_verify_421 (fun r65 kr62 => ?_)
                              refine lv_iload hx hb dMH_verify_422 (lv_at hl 0 rfl) ?_
                              refine ty_iald hx hb hK hO kr62 (nxg clo_nil kr62 rfl) hP (vp_in_nI (by omega) (by decide)) dMH_verify_424 (fun z32 => ?_)
                              refine lv_aload_n hx hb dMH_verify_425 rfl (lv_at hl 2 rfl) ?_
                              refine ty_get (ci := 12) (C := "LatticeKeysModel$Hands") (TT := T_MH) (N := 31) (kd := (48, 0)) hx hb hts (wg_ft i_MH) hown hK hO k_h0 (nxg clo_nil k_h0 rfl) hP (fun _ h9 => h9) rfl 13 (by decide) (hts _ (wg_t kw_1445)) (fun _ h9 => h9) (cd := (3, 0, 256)) rfl dMH_verify_426 (fun v78 hv78 => ?_)
                              obtain ⟨r66, rfl, kr63⟩ := (show ∃ r : Nat, v78 = .ref r ∧ T r = some (0, 256) from hv78)
                              refine lv_iload hx hb dMH_verify_429 (lv_at hl 0 rfl) ?_
                              refine ty_iald hx hb hK hO kr63 (nxg clo_nil kr63 rfl) hP (vp_in_nI (by omega) (by decide)) dMH_verify_431 (fun z33 => ?_)
                              refine mp_i (cx := []) (wr := []) hP hD hS hA [] [] rfl rfl rfl (by decide) (va_runS (As := [.int z32, .int z33]) (rest := [.int (nI i27), .ref r63]) F (t_MH_minus l g _ T [] pl hO hU  z32 z33) (va_cwS 2 hts (wg_app (wg_c kw_1865 (wg_c kw_1866 (wg_c kw_13 wg_n))) kw_1867) rfl rfl rfl (by decide +kernel) ⟨by decide, by decide⟩) (pp_S (en_ok g) hP hD hS hA hE [] rfl rfl) rfl rfl hl.1 rfl (lv_room (Nat.le_of_ble_eq_true rfl)) dMH_verify_432 ⟨by omega, by omega⟩) (fun r67 pl H locs hu35 hP hD hS => ?_)
                              obtain ⟨hq35, hO⟩ := hu35
                              have hP : va_P g.1 vcl ([] ++ pl) _ := hP
                              have hD : va_D _ ([] ++ pl) := hD
                              refine W.widen (k := 0) (n := 0) (by omega) (by omega) ?_
                              refine ty_iast hx hb hK hO kr60 (nxg clo_nil kr60 rfl) hP hD hS (vp_in_nI (by omega) (by decide)) dMH_verify_435 (fun pl H locs hO hP hD hS => ?_)
                              refine mi_iinc (k := 0) (x := i27) (d := 1) (y := i27 + 1) (lv' := [(10, .int (nI (i27 + 1))), (9, .int (nI i24)), (0, .ref h0), (2, .ref pk)]) hx hb dMH_verify_436 hl rfl (by decide) rfl (by decide) rfl (fun ls hl => ?_)
                              refine lv_goto (tgt := 398) hx hb dMH_verify_439 (by decide) ?_
                              exact ih27 (i27 + 1) pl ls H locs (by omega) (lv_sub hl [0, 1, 2, 3] rfl) hO hP hD hS
                          exact lp27 256 0 pl ls _ _ (by omega) (lv_sub hl [0, 1, 2, 3] rfl) hO hP hD hS
                        | succ n26 ih26 =>
                          intro i26 pl ls H locs hm26  hl hO hP hD hS
                          refine lv_iload hx hb dMH_verify_331 (lv_at hl 0 rfl) ?_
                          refine lv_sipush (v := nI 256) hx hb dMH_verify_333 (by decide) ?_
                          refine mi_ge (tgt := 380) hx hb dMH_verify_336 (by decide) (by omega) (by omega) (fun h35 => absurd h35 (by omega)) (fun h35 => ?_)
                          refine lv_aload_n hx hb dMH_verify_339 rfl (lv_at hl 2 rfl) ?_
                          refine ty_get (ci := 12) (C := "LatticeKeysModel$Hands") (TT := T_MH) (N := 31) (kd := (48, 0)) hx hb hts (wg_ft i_MH) hown hK hO k_h0 (nxg clo_nil k_h0 rfl) hP (fun _ h9 => h9) rfl 6 (by decide) (hts _ (wg_t kw_1438)) (fun _ h9 => h9) (cd := (3, 3, 8)) rfl dMH_verify_340 (fun v79 hv79 => ?_)
                          obtain ⟨r68, rfl, kr64⟩ := (show ∃ r : Nat, v79 = .ref r ∧ T r = some (3, 8) from hv79)
                          refine lv_iload hx hb dMH_verify_343 (lv_at hl 1 rfl) ?_
                          refine ty_aald3 hx hb hK hO kr64 (nxg clo_nil kr64 rfl) hP (by omega) (by decide) dMH_verify_345 (fun r69 kr65 => ?_)
                          refine lv_iload hx hb dMH_verify_346 (lv_at hl 0 rfl) ?_
                          refine lv_aload_n hx hb dMH_verify_348 rfl (lv_at hl 3 rfl) ?_
                          refine lv_sipush (v := nI 256) hx hb dMH_verify_349 (by decide) ?_
                          refine lv_sipush (v := nI 2560) hx hb dMH_verify_352 (by decide) ?_
                          refine lv_iload hx hb dMH_verify_355 (lv_at hl 1 rfl) ?_
                          refine mi_imul hx hb dMH_verify_357 ?_
                          refine mi_iadd hx hb dMH_verify_358 ?_
                          refine lv_bipush (v := nI 10) hx hb dMH_verify_359 (by decide) ?_
                          refine lv_iload hx hb dMH_verify_361 (lv_at hl 0 rfl) ?_
                          refine mi_imul hx hb dMH_verify_363 ?_
                          refine mi_iadd hx hb dMH_verify_364 ?_
                          refine lv_bipush (v := nI 10) hx hb dMH_verify_365 (by decide) ?_
                          refine mp_i (cx := []) (wr := []) hP hD hS hA [] [] rfl rfl rfl (by decide) (va_runSN (As := [.ref pk, .int (nI ((256 + (2560 * i24)) + (10 * i26))), .int (nI 10)]) (rest := [.int (nI i26), .ref r69]) F (t_M_unpack l g _ T [] pl hO hU clo_nil pk 2592 ((256 + (2560 * i24)) + (10 * i26)) 10 k_pk (by omega) (by omega) (by omega)) ⟨va_cnB 3 hts (wg_in kw_1667) rfl rfl rfl (hE.2.2.2.2.2.2.2.2.2.2) (hts _ (wg_t kw_9)) (by decide +kernel) ⟨by decide, by decide⟩, hts _ (wg_t kw_1666), trivial⟩ (pp_S (en_ok g) hP hD hS hA hE [] rfl rfl) rfl rfl hl.1 rfl (lv_room (Nat.le_of_ble_eq_true rfl)) dMH_verify_367 ⟨by omega, by omega⟩) (fun r70 pl H locs hu36 hP hD hS => ?_)
                          obtain ⟨hq36, hO⟩ := hu36
                          have hP : va_P g.1 vcl ([] ++ pl) _ := hP
                          have hD : va_D _ ([] ++ pl) := hD
                          refine W.widen (k := 0) (n := 0) (by omega) (by omega) ?_
                          refine lv_bipush (v := nI 13) hx hb dMH_verify_370 (by decide) ?_
                          refine lv_ishl hx hb dMH_verify_372 ?_
                          refine mi_any (fun z34 => ?_)
                          refine ty_iast hx hb hK hO kr65 (nxg clo_nil kr65 rfl) hP hD hS (vp_in_nI (by omega) (by decide)) dMH_verify_373 (fun pl H locs hO hP hD hS => ?_)
                          refine mi_iinc (k := 0) (x := i26) (d := 1) (y := i26 + 1) (lv' := [(10, .int (nI (i26 + 1))), (9, .int (nI i24)), (0, .ref h0), (2, .ref pk)]) hx hb dMH_verify_374 hl rfl (by decide) rfl (by decide) rfl (fun ls hl => ?_)
                          refine lv_goto (tgt := 331) hx hb dMH_verify_377 (by decide) ?_
                          exact ih26 (i26 + 1) pl ls H locs (by omega) (lv_sub hl [0, 1, 2, 3] rfl) hO hP hD hS
                      exact lp26 256 0 pl ls _ _ (by omega) (lv_sub hl [0, 1, 2, 3] rfl) hO hP hD hS
                  exact lp24 8 0 pl ls _ _ (by omega) (lv_sub hl [0, 1, 2] rfl) hO hP hD hS
                | succ n23 ih23 =>
                  intro i23 pl ls H locs hm23  hl hO hP hD hS
                  refine lv_iload hx hb dMH_verify_265 (lv_at hl 0 rfl) ?_
                  refine lv_aload_n hx hb dMH_verify_267 rfl (lv_at hl 1 rfl) ?_
                  refine ty_get (ci := 12) (C := "LatticeKeysModel$Hands") (TT := T_MH) (N := 31) (kd := (48, 0)) hx hb hts (wg_ft i_MH) hown hK hO k_h0 (nxg clo_nil k_h0 rfl) hP (fun _ h9 => h9) rfl 25 (by decide) (hts _ (wg_t kw_1457)) (fun _ h9 => h9) (cd := (1, 0, 7)) rfl dMH_verify_268 (fun v80 hv80 => ?_)
                  obtain rfl := (show v80 = .int (nI 7) from hv80)
                  refine mi_ge (tgt := 303) hx hb dMH_verify_271 (by decide) (by omega) (by omega) (fun h36 => absurd h36 (by omega)) (fun h36 => ?_)
                  refine lv_aload_n hx hb dMH_verify_274 rfl (lv_at hl 1 rfl) ?_
                  refine ty_get (ci := 12) (C := "LatticeKeysModel$Hands") (TT := T_MH) (N := 31) (kd := (48, 0)) hx hb hts (wg_ft i_MH) hown hK hO k_h0 (nxg clo_nil k_h0 rfl) hP (fun _ h9 => h9) rfl 1 (by decide) (hts _ (wg_t kw_1433)) (fun _ h9 => h9) (cd := (3, 22, 0)) rfl dMH_verify_275 (fun v81 hv81 => ?_)
                  obtain ⟨r71, rfl, kr66⟩ := (show ∃ r : Nat, v81 = .ref r ∧ T r = some (22, 0) from hv81)
                  refine lv_aload_n hx hb dMH_verify_278 rfl (lv_at hl 1 rfl) ?_
                  refine ty_get (ci := 12) (C := "LatticeKeysModel$Hands") (TT := T_MH) (N := 31) (kd := (48, 0)) hx hb hts (wg_ft i_MH) hown hK hO k_h0 (nxg clo_nil k_h0 rfl) hP (fun _ h9 => h9) rfl 8 (by decide) (hts _ (wg_t kw_1440)) (fun _ h9 => h9) (cd := (3, 3, 7)) rfl dMH_verify_279 (fun v82 hv82 => ?_)
                  obtain ⟨r72, rfl, kr67⟩ := (show ∃ r : Nat, v82 = .ref r ∧ T r = some (3, 7) from hv82)
                  refine lv_iload hx hb dMH_verify_282 (lv_at hl 0 rfl) ?_
                  refine ty_aald3 hx hb hK hO kr67 (nxg clo_nil kr67 rfl) hP (by omega) (by decide) dMH_verify_284 (fun r73 kr68 => ?_)
                  refine lv_aload_n hx hb dMH_verify_285 rfl (lv_at hl 1 rfl) ?_
                  refine ty_get (ci := 12) (C := "LatticeKeysModel$Hands") (TT := T_MH) (N := 31) (kd := (48, 0)) hx hb hts (wg_ft i_MH) hown hK hO k_h0 (nxg clo_nil k_h0 rfl) hP (fun _ h9 => h9) rfl 9 (by decide) (hts _ (wg_t kw_1441)) (fun _ h9 => h9) (cd := (3, 3, 7)) rfl dMH_verify_286 (fun v83 hv83 => ?_)
                  obtain ⟨r74, rfl, kr69⟩ := (show ∃ r : Nat, v83 = .ref r ∧ T r = some (3, 7) from hv83)
                  refine lv_iload hx hb dMH_verify_289 (lv_at hl 0 rfl) ?_
                  refine ty_aald3 hx hb hK hO kr69 (nxg clo_nil kr69 rfl) hP (by omega) (by decide) dMH_verify_291 (fun r75 kr70 => ?_)
                  refine lv_iconst (v := nI 1) hx hb dMH_verify_292 (by decide) ?_
                  refine lv_iconst (v := nI 0) hx hb dMH_verify_293 (by decide) ?_
                  refine mp_v (cx := []) (wr := []) hP hD hS hA [] [] rfl rfl rfl (by decide) (va_runV (As := [.ref r73, .ref r75, .int (nI 1), .int (nI 0)]) (rest := []) F (t_MR_forth_22_0 l g _ T [] pl hO hU clo_nil r71 r73 r75 kr66 kr68 kr70) (cwV 4 hts (wg_app (wg_c kw_1733 (wg_c kw_1673 (wg_c kw_1674 (wg_c kw_12 wg_n)))) kw_1675) rfl rfl rfl (by decide +kernel) ⟨by decide, by decide⟩) (pp_VT (en_ok g) (ci := 10) (kd := (22, 0)) hK hO kr66 (nxg clo_nil kr66 rfl) (fun _ h9 => ko1 h9) hP hD hS hA hE [] rfl rfl rfl) rfl rfl hl.1 rfl (lv_room (Nat.le_of_ble_eq_true rfl)) dMH_verify_294 ⟨by omega, by omega⟩) (fun  pl H locs hu37 hP hD hS => ?_)
                  obtain ⟨hq37, hO⟩ := hu37
                  have hP : va_P g.1 vcl ([] ++ pl) _ := hP
                  have hD : va_D _ ([] ++ pl) := hD
                  refine W.widen (k := 0) (n := 0) (by omega) (by omega) ?_
                  refine mi_iinc (k := 0) (x := i23) (d := 1) (y := i23 + 1) (lv' := [(9, .int (nI (i23 + 1))), (0, .ref h0), (2, .ref pk)]) hx hb dMH_verify_297 hl rfl (by decide) rfl (by decide) rfl (fun ls hl => ?_)
                  refine lv_goto (tgt := 265) hx hb dMH_verify_300 (by decide) ?_
                  exact ih23 (i23 + 1) pl ls H locs (by omega) (lv_sub hl [0, 1, 2] rfl) hO hP hD hS
              exact lp23 7 0 pl ls _ _ (by omega) (lv_sub hl [0, 4, 5] rfl) hO hP hD hS
            · refine lv_iconst (v := nI 0) hx hb dMH_verify_182 (by decide) ?_
              exact mp_zret hx hb hr hlk rfl hP hD hS pl ⟨(Or.inl rfl), (hback _ hO)⟩ [] rfl rfl rfl (by omega) (by omega) dMH_verify_183
        | succ n22 ih22 =>
          intro i22 z29 az21 pl ls H locs hm22 hi21 hl hO hP hD hS
          refine lv_iload hx hb dMH_verify_65 (lv_at hl 0 rfl) ?_
          refine lv_aload_n hx hb dMH_verify_67 rfl (lv_at hl 4 rfl) ?_
          refine ty_get (ci := 12) (C := "LatticeKeysModel$Hands") (TT := T_MH) (N := 31) (kd := (48, 0)) hx hb hts (wg_ft i_MH) hown hK hO k_h0 (nxg clo_nil k_h0 rfl) hP (fun _ h9 => h9) rfl 25 (by decide) (hts _ (wg_t kw_1457)) (fun _ h9 => h9) (cd := (1, 0, 7)) rfl dMH_verify_68 (fun v84 hv84 => ?_)
          obtain rfl := (show v84 = .int (nI 7) from hv84)
          refine mi_ge (tgt := 164) hx hb dMH_verify_71 (by decide) (by omega) (by omega) (fun h37 => absurd h37 (by omega)) (fun h37 => ?_)
          refine lv_iconst (v := nI 0) hx hb dMH_verify_74 (by decide) ?_
          refine lv_istore (lv' := [(10, .int (nI 0)), (9, .int (nI i22)), (8, .int z29), (7, .int (nI az21)), (6, .int (nI 20)), (0, .ref h0), (2, .ref pk), (3, .ref b), (4, .int cl), (5, .int (nI ed))]) hx hb dMH_verify_75 hl (by decide) rfl (fun ls hl => ?_)
          have lp28 : ∀ (n28 : Nat) (i28 : Nat) (z35 : Int32) (az22 : Nat) (pl : va_W) (ls : Array Slot) (H : Heap) (locs : List Loc), n28 + i28 = 256 → (az22 = 512 + 5120 * i22 + 20 * i28) → lv_has ls 11 [(10, .int (nI i28)), (9, .int (nI i22)), (8, .int z35), (7, .int (nI az22)), (6, .int (nI 20)), (0, .ref h0), (2, .ref pk), (3, .ref b), (4, .int cl), (5, .int (nI ed))] → okx g T [] pl → va_P g.1 vcl ([] ++ pl) H → va_D A ([] ++ pl) → va_S A s.heap H locs → W p l e ({ frames := 5, cells := 0, slots := 0, locals := 124 } : Room) s m args below meth c H locs 0 0 (MQ below (va_Qi (fun (r : Int32) (u : va_W) => (r = nI 0 ∨ r = nI 1) ∧ okx g T0 [] u) (po g.1 vcl A (fun (u : va_W) => [] ++ u)) A) args s 0 0 A) (F0 m 77 ls []) := by
            intro n28
            induction n28 with
            | zero =>
              intro i28 z35 az22 pl ls H locs hm28 hi22 hl hO hP hD hS
              refine lv_iload hx hb dMH_verify_77 (lv_at hl 0 rfl) ?_
              refine lv_sipush (v := nI 256) hx hb dMH_verify_79 (by decide) ?_
              refine mi_ge (tgt := 158) hx hb dMH_verify_82 (by decide) (by omega) (by omega) (fun h38 => ?_) (fun h38 => absurd h38 (by omega))
              refine mi_iinc (k := 1) (x := i22) (d := 1) (y := i22 + 1) (lv' := [(9, .int (nI (i22 + 1))), (10, .int (nI i28)), (8, .int z35), (7, .int (nI az22)), (6, .int (nI 20)), (0, .ref h0), (2, .ref pk), (3, .ref b), (4, .int cl), (5, .int (nI ed))]) hx hb dMH_verify_158 hl rfl (by decide) rfl (by decide) rfl (fun ls hl => ?_)
              refine lv_goto (tgt := 65) hx hb dMH_verify_161 (by decide) ?_
              exact ih22 (i22 + 1) z35 az22 pl ls H locs (by omega) (by omega) (lv_sub hl [0, 2, 3, 4, 5, 6, 7, 8, 9] rfl) hO hP hD hS
            | succ n28 ih28 =>
              intro i28 z35 az22 pl ls H locs hm28 hi22 hl hO hP hD hS
              refine lv_iload hx hb dMH_verify_77 (lv_at hl 0 rfl) ?_
              refine lv_sipush (v := nI 256) hx hb dMH_verify_79 (by decide) ?_
              refine mi_ge (tgt := 158) hx hb dMH_verify_82 (by decide) (by omega) (by omega) (fun h39 => absurd h39 (by omega)) (fun h39 => ?_)
              refine lv_aload_n hx hb dMH_verify_85 rfl (lv_at hl 5 rfl) ?_
              refine ty_get (ci := 12) (C := "LatticeKeysModel$Hands") (TT := T_MH) (N := 31) (kd := (48, 0)) hx hb hts (wg_ft i_MH) hown hK hO k_h0 (nxg clo_nil k_h0 rfl) hP (fun _ h9 => h9) rfl 8 (by decide) (hts _ (wg_t kw_1440)) (fun _ h9 => h9) (cd := (3, 3, 7)) rfl dMH_verify_86 (fun v85 hv85 => ?_)
              obtain ⟨r76, rfl, kr71⟩ := (show ∃ r : Nat, v85 = .ref r ∧ T r = some (3, 7) from hv85)
              refine lv_iload hx hb dMH_verify_89 (lv_at hl 1 rfl) ?_
              refine ty_aald3 hx hb hK hO kr71 (nxg clo_nil kr71 rfl) hP (by omega) (by decide) dMH_verify_91 (fun r77 kr72 => ?_)
              refine lv_iload hx hb dMH_verify_92 (lv_at hl 0 rfl) ?_
              refine lv_aload_n hx hb dMH_verify_94 rfl (lv_at hl 5 rfl) ?_
              refine ty_get (ci := 12) (C := "LatticeKeysModel$Hands") (TT := T_MH) (N := 31) (kd := (48, 0)) hx hb hts (wg_ft i_MH) hown hK hO k_h0 (nxg clo_nil k_h0 rfl) hP (fun _ h9 => h9) rfl 27 (by decide) (hts _ (wg_t kw_1459)) (fun _ h9 => h9) (cd := (1, 0, 524288)) rfl dMH_verify_95 (fun v86 hv86 => ?_)
              obtain rfl := (show v86 = .int (nI 524288) from hv86)
              refine lv_aload_n hx hb dMH_verify_98 rfl (lv_at hl 7 rfl) ?_
              refine lv_iload hx hb dMH_verify_99 (lv_at hl 3 rfl) ?_
              refine lv_iload hx hb dMH_verify_101 (lv_at hl 4 rfl) ?_
              refine mp_i (cx := []) (wr := []) hP hD hS hA [] [] rfl rfl rfl (by decide) (va_runSN (As := [.ref b, .int (nI az22), .int (nI 20)]) (rest := [.int (nI 524288), .int (nI i28), .ref r77]) F (t_M_unpack l g _ T [] pl hO hU clo_nil b 16384 az22 20 k_b (by omega) (by omega) (by omega)) ⟨va_cnB 3 hts (wg_in kw_1667) rfl rfl rfl (hE.2.2.2.2.2.2.2.2.2.2) (hts _ (wg_t kw_9)) (by decide +kernel) ⟨by decide, by decide⟩, hts _ (wg_t kw_1666), trivial⟩ (pp_S (en_ok g) hP hD hS hA hE [] rfl rfl) rfl rfl hl.1 rfl (lv_room (Nat.le_of_ble_eq_true rfl)) dMH_verify_103 ⟨by omega, by omega⟩) (fun r78 pl H locs hu38 hP hD hS => ?_)
              obtain ⟨hq38, hO⟩ := hu38
              have hP : va_P g.1 vcl ([] ++ pl) _ := hP
              have hD : va_D _ ([] ++ pl) := hD
              refine W.widen (k := 0) (n := 0) (by omega) (by omega) ?_
              refine mp_i (cx := []) (wr := []) hP hD hS hA [] [] rfl rfl rfl (by decide) (va_runS (As := [.int (nI 524288), .int r78]) (rest := [.int (nI i28), .ref r77]) F (t_MH_minus l g _ T [] pl hO hU  (nI 524288) r78) (va_cwS 2 hts (wg_app (wg_c kw_1865 (wg_c kw_1866 (wg_c kw_13 wg_n))) kw_1867) rfl rfl rfl (by decide +kernel) ⟨by decide, by decide⟩) (pp_S (en_ok g) hP hD hS hA hE [] rfl rfl) rfl rfl hl.1 rfl (lv_room (Nat.le_of_ble_eq_true rfl)) dMH_verify_106 ⟨by omega, by omega⟩) (fun r79 pl H locs hu39 hP hD hS => ?_)
              obtain ⟨hq39, hO⟩ := hu39
              have hP : va_P g.1 vcl ([] ++ pl) _ := hP
              have hD : va_D _ ([] ++ pl) := hD
              refine W.widen (k := 0) (n := 0) (by omega) (by omega) ?_
              refine ty_iast hx hb hK hO kr72 (nxg clo_nil kr72 rfl) hP hD hS (vp_in_nI (by omega) (by decide)) dMH_verify_109 (fun pl H locs hO hP hD hS => ?_)
              refine lv_iload hx hb dMH_verify_110 (lv_at hl 2 rfl) ?_
              refine lv_aload_n hx hb dMH_verify_112 rfl (lv_at hl 5 rfl) ?_
              refine ty_get (ci := 12) (C := "LatticeKeysModel$Hands") (TT := T_MH) (N := 31) (kd := (48, 0)) hx hb hts (wg_ft i_MH) hown hK hO k_h0 (nxg clo_nil k_h0 rfl) hP (fun _ h9 => h9) rfl 8 (by decide) (hts _ (wg_t kw_1440)) (fun _ h9 => h9) (cd := (3, 3, 7)) rfl dMH_verify_113 (fun v87 hv87 => ?_)
              obtain ⟨r80, rfl, kr73⟩ := (show ∃ r : Nat, v87 = .ref r ∧ T r = some (3, 7) from hv87)
              refine lv_iload hx hb dMH_verify_116 (lv_at hl 1 rfl) ?_
              refine ty_aald3 hx hb hK hO kr73 (nxg clo_nil kr73 rfl) hP (by omega) (by decide) dMH_verify_118 (fun r81 kr74 => ?_)
              refine lv_iload hx hb dMH_verify_119 (lv_at hl 0 rfl) ?_
              refine ty_iald hx hb hK hO kr74 (nxg clo_nil kr74 rfl) hP (vp_in_nI (by omega) (by decide)) dMH_verify_121 (fun z36 => ?_)
              refine mp_i (cx := []) (wr := []) hP hD hS hA [] [] rfl rfl rfl (by decide) (va_runS (As := [.int z36]) (rest := [.int z35]) F (t_MH_norm l g _ T [] pl hO hU  z36) (va_cwS 1 hts (wg_app (wg_c kw_1905 (wg_c kw_1906 (wg_c kw_13 wg_n))) kw_1907) rfl rfl rfl (by decide +kernel) ⟨by decide, by decide⟩) (pp_S (en_ok g) hP hD hS hA hE [] rfl rfl) rfl rfl hl.1 rfl (lv_room (Nat.le_of_ble_eq_true rfl)) dMH_verify_122 ⟨by omega, by omega⟩) (fun r82 pl H locs hu40 hP hD hS => ?_)
              obtain ⟨hq40, hO⟩ := hu40
              have hP : va_P g.1 vcl ([] ++ pl) _ := hP
              have hD : va_D _ ([] ++ pl) := hD
              refine W.widen (k := 0) (n := 0) (by omega) (by omega) ?_
              refine lv_aload_n hx hb dMH_verify_125 rfl (lv_at hl 5 rfl) ?_
              refine ty_get (ci := 12) (C := "LatticeKeysModel$Hands") (TT := T_MH) (N := 31) (kd := (48, 0)) hx hb hts (wg_ft i_MH) hown hK hO k_h0 (nxg clo_nil k_h0 rfl) hP (fun _ h9 => h9) rfl 27 (by decide) (hts _ (wg_t kw_1459)) (fun _ h9 => h9) (cd := (1, 0, 524288)) rfl dMH_verify_126 (fun v88 hv88 => ?_)
              obtain rfl := (show v88 = .int (nI 524288) from hv88)
              refine lv_aload_n hx hb dMH_verify_129 rfl (lv_at hl 5 rfl) ?_
              refine ty_get (ci := 12) (C := "LatticeKeysModel$Hands") (TT := T_MH) (N := 31) (kd := (48, 0)) hx hb hts (wg_ft i_MH) hown hK hO k_h0 (nxg clo_nil k_h0 rfl) hP (fun _ h9 => h9) rfl 29 (by decide) (hts _ (wg_t kw_1461)) (fun _ h9 => h9) (cd := (1, 0, 120)) rfl dMH_verify_130 (fun v89 hv89 => ?_)
              obtain rfl := (show v89 = .int (nI 120) from hv89)
              refine mi_isub hx hb dMH_verify_133 (by omega) ?_
              refine mi_as (show nI (524288 - 120) = nI 524168 from rfl) ?_
              refine lv_icmp_ge (tgt := 141) hx hb dMH_verify_134 (by decide) (fun h40 => ?_) (fun h40 => ?_)
              · refine lv_iconst (v := nI 0) hx hb dMH_verify_141 (by decide) ?_
                refine lv_iand hx hb dMH_verify_142 ?_
                refine mi_any (fun z37 => ?_)
                refine lv_istore (lv' := [(8, .int z37), (10, .int (nI i28)), (9, .int (nI i22)), (7, .int (nI az22)), (6, .int (nI 20)), (0, .ref h0), (2, .ref pk), (3, .ref b), (4, .int cl), (5, .int (nI ed))]) hx hb dMH_verify_143 hl (by decide) rfl (fun ls hl => ?_)
                refine lv_iload hx hb dMH_verify_145 (lv_at hl 3 rfl) ?_
                refine lv_iload hx hb dMH_verify_147 (lv_at hl 4 rfl) ?_
                refine mi_iadd hx hb dMH_verify_149 ?_
                refine lv_istore (lv' := [(7, .int (nI (az22 + 20))), (8, .int z37), (10, .int (nI i28)), (9, .int (nI i22)), (6, .int (nI 20)), (0, .ref h0), (2, .ref pk), (3, .ref b), (4, .int cl), (5, .int (nI ed))]) hx hb dMH_verify_150 hl (by decide) rfl (fun ls hl => ?_)
                refine mi_iinc (k := 2) (x := i28) (d := 1) (y := i28 + 1) (lv' := [(10, .int (nI (i28 + 1))), (7, .int (nI (az22 + 20))), (8, .int z37), (9, .int (nI i22)), (6, .int (nI 20)), (0, .ref h0), (2, .ref pk), (3, .ref b), (4, .int cl), (5, .int (nI ed))]) hx hb dMH_verify_152 hl rfl (by decide) rfl (by decide) rfl (fun ls hl => ?_)
                refine lv_goto (tgt := 77) hx hb dMH_verify_155 (by decide) ?_
                exact ih28 (i28 + 1) z37 (az22 + 20) pl ls H locs (by omega) (by omega) (lv_sub hl [0, 3, 2, 1, 4, 5, 6, 7, 8, 9] rfl) hO hP hD hS
              · refine lv_iconst (v := nI 1) hx hb dMH_verify_137 (by decide) ?_
                refine lv_goto (tgt := 142) hx hb dMH_verify_138 (by decide) ?_
                refine mi_iand hx hb 1 dMH_verify_142 (by decide) (fun z38 hz21 => ?_)
                have hz21 : z38 < 2 := hz21
                refine lv_istore (lv' := [(8, .int (nI z38)), (10, .int (nI i28)), (9, .int (nI i22)), (7, .int (nI az22)), (6, .int (nI 20)), (0, .ref h0), (2, .ref pk), (3, .ref b), (4, .int cl), (5, .int (nI ed))]) hx hb dMH_verify_143 hl (by decide) rfl (fun ls hl => ?_)
                refine lv_iload hx hb dMH_verify_145 (lv_at hl 3 rfl) ?_
                refine lv_iload hx hb dMH_verify_147 (lv_at hl 4 rfl) ?_
                refine mi_iadd hx hb dMH_verify_149 ?_
                refine lv_istore (lv' := [(7, .int (nI (az22 + 20))), (8, .int (nI z38)), (10, .int (nI i28)), (9, .int (nI i22)), (6, .int (nI 20)), (0, .ref h0), (2, .ref pk), (3, .ref b), (4, .int cl), (5, .int (nI ed))]) hx hb dMH_verify_150 hl (by decide) rfl (fun ls hl => ?_)
                refine mi_iinc (k := 2) (x := i28) (d := 1) (y := i28 + 1) (lv' := [(10, .int (nI (i28 + 1))), (7, .int (nI (az22 + 20))), (8, .int (nI z38)), (9, .int (nI i22)), (6, .int (nI 20)), (0, .ref h0), (2, .ref pk), (3, .ref b), (4, .int cl), (5, .int (nI ed))]) hx hb dMH_verify_152 hl rfl (by decide) rfl (by decide) rfl (fun ls hl => ?_)
                refine lv_goto (tgt := 77) hx hb dMH_verify_155 (by decide) ?_
                exact ih28 (i28 + 1) (nI z38) (az22 + 20) pl ls H locs (by omega) (by omega) (lv_sub hl [0, 3, 2, 1, 4, 5, 6, 7, 8, 9] rfl) hO hP hD hS
          exact lp28 256 0 z29 az21 pl ls _ _ (by omega) (by omega) (lv_sub hl [0, 1, 2, 3, 4, 5, 6, 7, 8, 9] rfl) hO hP hD hS
      exact lp22 7 0 (nI 1) 512 pl ls _ _ (by omega) (by omega) (lv_sub hl [0, 1, 2, 3, 4, 5, 6, 7, 8] rfl) hO hP hD hS
    | succ n21 ih21 =>
      intro i21 pl ls H locs hm21  hl hO hP hD hS
      refine lv_iload hx hb dMH_verify_36 (lv_at hl 0 rfl) ?_
      refine lv_aload_n hx hb dMH_verify_38 rfl (lv_at hl 4 rfl) ?_
      refine ty_get (ci := 12) (C := "LatticeKeysModel$Hands") (TT := T_MH) (N := 31) (kd := (48, 0)) hx hb hts (wg_ft i_MH) hown hK hO k_h0 (nxg clo_nil k_h0 rfl) hP (fun _ h9 => h9) rfl 30 (by decide) (hts _ (wg_t kw_1462)) (fun _ h9 => h9) (cd := (1, 0, 64)) rfl dMH_verify_39 (fun v90 hv90 => ?_)
      obtain rfl := (show v90 = .int (nI 64) from hv90)
      refine mi_ge (tgt := 62) hx hb dMH_verify_42 (by decide) (by omega) (by omega) (fun h41 => absurd h41 (by omega)) (fun h41 => ?_)
      refine lv_aload_n hx hb dMH_verify_45 rfl (lv_at hl 4 rfl) ?_
      refine ty_get (ci := 12) (C := "LatticeKeysModel$Hands") (TT := T_MH) (N := 31) (kd := (48, 0)) hx hb hts (wg_ft i_MH) hown hK hO k_h0 (nxg clo_nil k_h0 rfl) hP (fun _ h9 => h9) rfl 20 (by decide) (hts _ (wg_t kw_1452)) (fun _ h9 => h9) (cd := (3, 1, 64)) rfl dMH_verify_46 (fun v91 hv91 => ?_)
      obtain ⟨r83, rfl, kr75⟩ := (show ∃ r : Nat, v91 = .ref r ∧ T r = some (1, 64) from hv91)
      refine lv_iload hx hb dMH_verify_49 (lv_at hl 0 rfl) ?_
      refine lv_aload_n hx hb dMH_verify_51 rfl (lv_at hl 6 rfl) ?_
      refine lv_iload hx hb dMH_verify_52 (lv_at hl 0 rfl) ?_
      refine ty_bald hx hb hK hO k_b (nxg clo_nil k_b rfl) hP (vp_in_nI (by omega) (by decide)) dMH_verify_54 (fun z39 => ?_)
      refine ty_bast hx hb hK hO kr75 (nxg clo_nil kr75 rfl) hP hD hS (vp_in_nI (by omega) (by decide)) dMH_verify_55 (fun pl H locs hO hP hD hS => ?_)
      refine mi_iinc (k := 0) (x := i21) (d := 1) (y := i21 + 1) (lv' := [(9, .int (nI (i21 + 1))), (8, .int (nI 1)), (7, .int (nI 512)), (6, .int (nI 20)), (0, .ref h0), (2, .ref pk), (3, .ref b), (4, .int cl), (5, .int (nI ed))]) hx hb dMH_verify_56 hl rfl (by decide) rfl (by decide) rfl (fun ls hl => ?_)
      refine lv_goto (tgt := 36) hx hb dMH_verify_59 (by decide) ?_
      exact ih21 (i21 + 1) pl ls H locs (by omega) (lv_sub hl [0, 1, 2, 3, 4, 5, 6, 7, 8] rfl) hO hP hD hS
  exact lp21 64 0 pl ls _ _ (by omega) (lv_sub hl [0, 1, 2, 3, 4, 6, 7, 8, 9] rfl) hO hP hD hS
