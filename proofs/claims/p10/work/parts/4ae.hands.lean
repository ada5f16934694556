set_option linter.all false
abbrev c_MH_as : ByteArray := prog_13_method_5_code
abbrev y_MH_as : MethodName := ⟨"LatticeKeysModel$Hands", "as", "(I)V"⟩
abbrev w_MH_as : List Cond := Cond.code y_MH_as c_MH_as 2 none :: WG
theorem dMH_as_0 : decode c_MH_as 0 = .ok (.aload_n 0, 1) := by decide +kernel
theorem dMH_as_1 : decode c_MH_as 1 = .ok (.iload_n 1, 1) := by decide +kernel
theorem dMH_as_2 : decode c_MH_as 2 = .ok (.putfield 103, 3) := by decide +kernel
theorem dMH_as_5 : decode c_MH_as 5 = .ok (.aload_n 0, 1) := by decide +kernel
theorem dMH_as_6 : decode c_MH_as 6 = .ok (.getstatic 91, 3) := by decide +kernel
theorem dMH_as_9 : decode c_MH_as 9 = .ok (.aload_n 0, 1) := by decide +kernel
theorem dMH_as_10 : decode c_MH_as 10 = .ok (.getfield 103, 3) := by decide +kernel
theorem dMH_as_13 : decode c_MH_as 13 = .ok (.iaload, 1) := by decide +kernel
theorem dMH_as_14 : decode c_MH_as 14 = .ok (.putfield 107, 3) := by decide +kernel
theorem dMH_as_17 : decode c_MH_as 17 = .ok (.aload_n 0, 1) := by decide +kernel
theorem dMH_as_18 : decode c_MH_as 18 = .ok (.getstatic 97, 3) := by decide +kernel
theorem dMH_as_21 : decode c_MH_as 21 = .ok (.aload_n 0, 1) := by decide +kernel
theorem dMH_as_22 : decode c_MH_as 22 = .ok (.getfield 103, 3) := by decide +kernel
theorem dMH_as_25 : decode c_MH_as 25 = .ok (.iaload, 1) := by decide +kernel
theorem dMH_as_26 : decode c_MH_as 26 = .ok (.putfield 110, 3) := by decide +kernel
theorem dMH_as_29 : decode c_MH_as 29 = .ok (.aload_n 0, 1) := by decide +kernel
theorem dMH_as_30 : decode c_MH_as 30 = .ok (.getstatic 94, 3) := by decide +kernel
theorem dMH_as_33 : decode c_MH_as 33 = .ok (.aload_n 0, 1) := by decide +kernel
theorem dMH_as_34 : decode c_MH_as 34 = .ok (.getfield 103, 3) := by decide +kernel
theorem dMH_as_37 : decode c_MH_as 37 = .ok (.iaload, 1) := by decide +kernel
theorem dMH_as_38 : decode c_MH_as 38 = .ok (.putfield 113, 3) := by decide +kernel
theorem dMH_as_41 : decode c_MH_as 41 = .ok (.aload_n 0, 1) := by decide +kernel
theorem dMH_as_42 : decode c_MH_as 42 = .ok (.aload_n 0, 1) := by decide +kernel
theorem dMH_as_43 : decode c_MH_as 43 = .ok (.getfield 103, 3) := by decide +kernel
theorem dMH_as_46 : decode c_MH_as 46 = .ok (.ifCond .ne 8, 3) := by decide +kernel
theorem dMH_as_49 : decode c_MH_as 49 = .ok (.ldc 116, 2) := by decide +kernel
theorem dMH_as_51 : decode c_MH_as 51 = .ok (.goto 5, 3) := by decide +kernel
theorem dMH_as_54 : decode c_MH_as 54 = .ok (.ldc 117, 2) := by decide +kernel
theorem dMH_as_56 : decode c_MH_as 56 = .ok (.putfield 118, 3) := by decide +kernel
theorem dMH_as_59 : decode c_MH_as 59 = .ok (.aload_n 0, 1) := by decide +kernel
theorem dMH_as_60 : decode c_MH_as 60 = .ok (.aload_n 0, 1) := by decide +kernel
theorem dMH_as_61 : decode c_MH_as 61 = .ok (.getfield 103, 3) := by decide +kernel
theorem dMH_as_64 : decode c_MH_as 64 = .ok (.ifCond .ne 8, 3) := by decide +kernel
theorem dMH_as_67 : decode c_MH_as 67 = .ok (.ldc 121, 2) := by decide +kernel
theorem dMH_as_69 : decode c_MH_as 69 = .ok (.goto 5, 3) := by decide +kernel
theorem dMH_as_72 : decode c_MH_as 72 = .ok (.ldc 122, 2) := by decide +kernel
theorem dMH_as_74 : decode c_MH_as 74 = .ok (.putfield 123, 3) := by decide +kernel
theorem dMH_as_77 : decode c_MH_as 77 = .ok (.aload_n 0, 1) := by decide +kernel
theorem dMH_as_78 : decode c_MH_as 78 = .ok (.aload_n 0, 1) := by decide +kernel
theorem dMH_as_79 : decode c_MH_as 79 = .ok (.getfield 113, 3) := by decide +kernel
theorem dMH_as_82 : decode c_MH_as 82 = .ok (.getstatic 126, 3) := by decide +kernel
theorem dMH_as_85 : decode c_MH_as 85 = .ok (.aload_n 0, 1) := by decide +kernel
theorem dMH_as_86 : decode c_MH_as 86 = .ok (.getfield 103, 3) := by decide +kernel
theorem dMH_as_89 : decode c_MH_as 89 = .ok (.iaload, 1) := by decide +kernel
theorem dMH_as_90 : decode c_MH_as 90 = .ok (.imul, 1) := by decide +kernel
theorem dMH_as_91 : decode c_MH_as 91 = .ok (.putfield 129, 3) := by decide +kernel
theorem dMH_as_94 : decode c_MH_as 94 = .ok (.aload_n 0, 1) := by decide +kernel
theorem dMH_as_95 : decode c_MH_as 95 = .ok (.bipush 32, 2) := by decide +kernel
theorem dMH_as_97 : decode c_MH_as 97 = .ok (.bipush 16, 2) := by decide +kernel
theorem dMH_as_99 : decode c_MH_as 99 = .ok (.aload_n 0, 1) := by decide +kernel
theorem dMH_as_100 : decode c_MH_as 100 = .ok (.getfield 103, 3) := by decide +kernel
theorem dMH_as_103 : decode c_MH_as 103 = .ok (.imul, 1) := by decide +kernel
theorem dMH_as_104 : decode c_MH_as 104 = .ok (.iadd, 1) := by decide +kernel
theorem dMH_as_105 : decode c_MH_as 105 = .ok (.putfield 132, 3) := by decide +kernel
theorem dMH_as_108 : decode c_MH_as 108 = .ok (.return_, 1) := by decide +kernel
abbrev c_MH_keys : ByteArray := prog_13_method_14_code
abbrev y_MH_keys : MethodName := ⟨"LatticeKeysModel$Hands", "keys", "(I[B[B[B)V"⟩
abbrev w_MH_keys : List Cond := Cond.code y_MH_keys c_MH_keys 10 none :: WG
theorem dMH_keys_0 : decode c_MH_keys 0 = .ok (.aload_n 0, 1) := by decide +kernel
theorem dMH_keys_1 : decode c_MH_keys 1 = .ok (.iload_n 1, 1) := by decide +kernel
theorem dMH_keys_2 : decode c_MH_keys 2 = .ok (.invokevirtual 166, 3) := by decide +kernel
theorem dMH_keys_5 : decode c_MH_keys 5 = .ok (.aload_n 0, 1) := by decide +kernel
theorem dMH_keys_6 : decode c_MH_keys 6 = .ok (.getfield 87, 3) := by decide +kernel
theorem dMH_keys_9 : decode c_MH_keys 9 = .ok (.invokevirtual 156, 3) := by decide +kernel
theorem dMH_keys_12 : decode c_MH_keys 12 = .ok (.aload_n 0, 1) := by decide +kernel
theorem dMH_keys_13 : decode c_MH_keys 13 = .ok (.getfield 87, 3) := by decide +kernel
theorem dMH_keys_16 : decode c_MH_keys 16 = .ok (.aload_n 2, 1) := by decide +kernel
theorem dMH_keys_17 : decode c_MH_keys 17 = .ok (.iconst 0, 1) := by decide +kernel
theorem dMH_keys_18 : decode c_MH_keys 18 = .ok (.bipush 32, 2) := by decide +kernel
theorem dMH_keys_20 : decode c_MH_keys 20 = .ok (.invokevirtual 142, 3) := by decide +kernel
theorem dMH_keys_23 : decode c_MH_keys 23 = .ok (.aload_n 0, 1) := by decide +kernel
theorem dMH_keys_24 : decode c_MH_keys 24 = .ok (.getfield 87, 3) := by decide +kernel
theorem dMH_keys_27 : decode c_MH_keys 27 = .ok (.aload_n 0, 1) := by decide +kernel
theorem dMH_keys_28 : decode c_MH_keys 28 = .ok (.getfield 107, 3) := by decide +kernel
theorem dMH_keys_31 : decode c_MH_keys 31 = .ok (.invokevirtual 146, 3) := by decide +kernel
theorem dMH_keys_34 : decode c_MH_keys 34 = .ok (.aload_n 0, 1) := by decide +kernel
theorem dMH_keys_35 : decode c_MH_keys 35 = .ok (.getfield 87, 3) := by decide +kernel
theorem dMH_keys_38 : decode c_MH_keys 38 = .ok (.aload_n 0, 1) := by decide +kernel
theorem dMH_keys_39 : decode c_MH_keys 39 = .ok (.getfield 110, 3) := by decide +kernel
theorem dMH_keys_42 : decode c_MH_keys 42 = .ok (.invokevirtual 146, 3) := by decide +kernel
theorem dMH_keys_45 : decode c_MH_keys 45 = .ok (.aload_n 0, 1) := by decide +kernel
theorem dMH_keys_46 : decode c_MH_keys 46 = .ok (.getfield 87, 3) := by decide +kernel
theorem dMH_keys_49 : decode c_MH_keys 49 = .ok (.invokevirtual 149, 3) := by decide +kernel
theorem dMH_keys_52 : decode c_MH_keys 52 = .ok (.aload_n 0, 1) := by decide +kernel
theorem dMH_keys_53 : decode c_MH_keys 53 = .ok (.getfield 87, 3) := by decide +kernel
theorem dMH_keys_56 : decode c_MH_keys 56 = .ok (.aload_n 0, 1) := by decide +kernel
theorem dMH_keys_57 : decode c_MH_keys 57 = .ok (.getfield 65, 3) := by decide +kernel
theorem dMH_keys_60 : decode c_MH_keys 60 = .ok (.iconst 0, 1) := by decide +kernel
theorem dMH_keys_61 : decode c_MH_keys 61 = .ok (.sipush 128, 3) := by decide +kernel
theorem dMH_keys_64 : decode c_MH_keys 64 = .ok (.invokevirtual 169, 3) := by decide +kernel
theorem dMH_keys_67 : decode c_MH_keys 67 = .ok (.aload_n 0, 1) := by decide +kernel
theorem dMH_keys_68 : decode c_MH_keys 68 = .ok (.aload_n 0, 1) := by decide +kernel
theorem dMH_keys_69 : decode c_MH_keys 69 = .ok (.getfield 65, 3) := by decide +kernel
theorem dMH_keys_72 : decode c_MH_keys 72 = .ok (.invokevirtual 172, 3) := by decide +kernel
theorem dMH_keys_75 : decode c_MH_keys 75 = .ok (.iconst 0, 1) := by decide +kernel
theorem dMH_keys_76 : decode c_MH_keys 76 = .ok (.istore 5, 2) := by decide +kernel
theorem dMH_keys_78 : decode c_MH_keys 78 = .ok (.iload 5, 2) := by decide +kernel
theorem dMH_keys_80 : decode c_MH_keys 80 = .ok (.aload_n 0, 1) := by decide +kernel
theorem dMH_keys_81 : decode c_MH_keys 81 = .ok (.getfield 110, 3) := by decide +kernel
theorem dMH_keys_84 : decode c_MH_keys 84 = .ok (.if_icmp .ge 51, 3) := by decide +kernel
theorem dMH_keys_87 : decode c_MH_keys 87 = .ok (.aload_n 0, 1) := by decide +kernel
theorem dMH_keys_88 : decode c_MH_keys 88 = .ok (.aload_n 0, 1) := by decide +kernel
theorem dMH_keys_89 : decode c_MH_keys 89 = .ok (.getfield 24, 3) := by decide +kernel
theorem dMH_keys_92 : decode c_MH_keys 92 = .ok (.iload 5, 2) := by decide +kernel
theorem dMH_keys_94 : decode c_MH_keys 94 = .ok (.aaload, 1) := by decide +kernel
theorem dMH_keys_95 : decode c_MH_keys 95 = .ok (.aload_n 0, 1) := by decide +kernel
theorem dMH_keys_96 : decode c_MH_keys 96 = .ok (.getfield 65, 3) := by decide +kernel
theorem dMH_keys_99 : decode c_MH_keys 99 = .ok (.bipush 32, 2) := by decide +kernel
theorem dMH_keys_101 : decode c_MH_keys 101 = .ok (.iload 5, 2) := by decide +kernel
theorem dMH_keys_103 : decode c_MH_keys 103 = .ok (.invokevirtual 176, 3) := by decide +kernel
theorem dMH_keys_106 : decode c_MH_keys 106 = .ok (.aload_n 0, 1) := by decide +kernel
theorem dMH_keys_107 : decode c_MH_keys 107 = .ok (.getfield 15, 3) := by decide +kernel
theorem dMH_keys_110 : decode c_MH_keys 110 = .ok (.aload_n 0, 1) := by decide +kernel
theorem dMH_keys_111 : decode c_MH_keys 111 = .ok (.getfield 24, 3) := by decide +kernel
theorem dMH_keys_114 : decode c_MH_keys 114 = .ok (.iload 5, 2) := by decide +kernel
theorem dMH_keys_116 : decode c_MH_keys 116 = .ok (.aaload, 1) := by decide +kernel
theorem dMH_keys_117 : decode c_MH_keys 117 = .ok (.aload_n 0, 1) := by decide +kernel
theorem dMH_keys_118 : decode c_MH_keys 118 = .ok (.getfield 42, 3) := by decide +kernel
theorem dMH_keys_121 : decode c_MH_keys 121 = .ok (.iload 5, 2) := by decide +kernel
theorem dMH_keys_123 : decode c_MH_keys 123 = .ok (.aaload, 1) := by decide +kernel
theorem dMH_keys_124 : decode c_MH_keys 124 = .ok (.iconst 1, 1) := by decide +kernel
theorem dMH_keys_125 : decode c_MH_keys 125 = .ok (.iconst 0, 1) := by decide +kernel
theorem dMH_keys_126 : decode c_MH_keys 126 = .ok (.invokevirtual 180, 3) := by decide +kernel
theorem dMH_keys_129 : decode c_MH_keys 129 = .ok (.iinc 5 1, 3) := by decide +kernel
theorem dMH_keys_132 : decode c_MH_keys 132 = .ok (.goto (-54), 3) := by decide +kernel
theorem dMH_keys_135 : decode c_MH_keys 135 = .ok (.iconst 0, 1) := by decide +kernel
theorem dMH_keys_136 : decode c_MH_keys 136 = .ok (.istore 5, 2) := by decide +kernel
theorem dMH_keys_138 : decode c_MH_keys 138 = .ok (.iload 5, 2) := by decide +kernel
theorem dMH_keys_140 : decode c_MH_keys 140 = .ok (.aload_n 0, 1) := by decide +kernel
theorem dMH_keys_141 : decode c_MH_keys 141 = .ok (.getfield 107, 3) := by decide +kernel
theorem dMH_keys_144 : decode c_MH_keys 144 = .ok (.if_icmp .ge 136, 3) := by decide +kernel
theorem dMH_keys_147 : decode c_MH_keys 147 = .ok (.aload_n 0, 1) := by decide +kernel
theorem dMH_keys_148 : decode c_MH_keys 148 = .ok (.aload_n 0, 1) := by decide +kernel
theorem dMH_keys_149 : decode c_MH_keys 149 = .ok (.getfield 27, 3) := by decide +kernel
theorem dMH_keys_152 : decode c_MH_keys 152 = .ok (.iload 5, 2) := by decide +kernel
theorem dMH_keys_154 : decode c_MH_keys 154 = .ok (.aaload, 1) := by decide +kernel
theorem dMH_keys_155 : decode c_MH_keys 155 = .ok (.aload_n 0, 1) := by decide +kernel
theorem dMH_keys_156 : decode c_MH_keys 156 = .ok (.getfield 65, 3) := by decide +kernel
theorem dMH_keys_159 : decode c_MH_keys 159 = .ok (.bipush 32, 2) := by decide +kernel
theorem dMH_keys_161 : decode c_MH_keys 161 = .ok (.iload 5, 2) := by decide +kernel
theorem dMH_keys_163 : decode c_MH_keys 163 = .ok (.aload_n 0, 1) := by decide +kernel
theorem dMH_keys_164 : decode c_MH_keys 164 = .ok (.getfield 110, 3) := by decide +kernel
theorem dMH_keys_167 : decode c_MH_keys 167 = .ok (.iadd, 1) := by decide +kernel
theorem dMH_keys_168 : decode c_MH_keys 168 = .ok (.invokevirtual 176, 3) := by decide +kernel
theorem dMH_keys_171 : decode c_MH_keys 171 = .ok (.aload_n 0, 1) := by decide +kernel
theorem dMH_keys_172 : decode c_MH_keys 172 = .ok (.iload 5, 2) := by decide +kernel
theorem dMH_keys_174 : decode c_MH_keys 174 = .ok (.aload_n 0, 1) := by decide +kernel
theorem dMH_keys_175 : decode c_MH_keys 175 = .ok (.getfield 55, 3) := by decide +kernel
theorem dMH_keys_178 : decode c_MH_keys 178 = .ok (.invokevirtual 183, 3) := by decide +kernel
theorem dMH_keys_181 : decode c_MH_keys 181 = .ok (.iconst 0, 1) := by decide +kernel
theorem dMH_keys_182 : decode c_MH_keys 182 = .ok (.istore 6, 2) := by decide +kernel
theorem dMH_keys_184 : decode c_MH_keys 184 = .ok (.iload 6, 2) := by decide +kernel
theorem dMH_keys_186 : decode c_MH_keys 186 = .ok (.sipush 256, 3) := by decide +kernel
theorem dMH_keys_189 : decode c_MH_keys 189 = .ok (.if_icmp .ge 85, 3) := by decide +kernel
theorem dMH_keys_192 : decode c_MH_keys 192 = .ok (.aload_n 0, 1) := by decide +kernel
theorem dMH_keys_193 : decode c_MH_keys 193 = .ok (.getfield 55, 3) := by decide +kernel
theorem dMH_keys_196 : decode c_MH_keys 196 = .ok (.iload 6, 2) := by decide +kernel
theorem dMH_keys_198 : decode c_MH_keys 198 = .ok (.iaload, 1) := by decide +kernel
theorem dMH_keys_199 : decode c_MH_keys 199 = .ok (.aload_n 0, 1) := by decide +kernel
theorem dMH_keys_200 : decode c_MH_keys 200 = .ok (.getfield 27, 3) := by decide +kernel
theorem dMH_keys_203 : decode c_MH_keys 203 = .ok (.iload 5, 2) := by decide +kernel
theorem dMH_keys_205 : decode c_MH_keys 205 = .ok (.aaload, 1) := by decide +kernel
theorem dMH_keys_206 : decode c_MH_keys 206 = .ok (.iload 6, 2) := by decide +kernel
theorem dMH_keys_208 : decode c_MH_keys 208 = .ok (.iaload, 1) := by decide +kernel
theorem dMH_keys_209 : decode c_MH_keys 209 = .ok (.iadd, 1) := by decide +kernel
theorem dMH_keys_210 : decode c_MH_keys 210 = .ok (.ldc 11, 2) := by decide +kernel
theorem dMH_keys_212 : decode c_MH_keys 212 = .ok (.irem, 1) := by decide +kernel
theorem dMH_keys_213 : decode c_MH_keys 213 = .ok (.istore 7, 2) := by decide +kernel
theorem dMH_keys_215 : decode c_MH_keys 215 = .ok (.iload 7, 2) := by decide +kernel
theorem dMH_keys_217 : decode c_MH_keys 217 = .ok (.sipush 8192, 3) := by decide +kernel
theorem dMH_keys_220 : decode c_MH_keys 220 = .ok (.irem, 1) := by decide +kernel
theorem dMH_keys_221 : decode c_MH_keys 221 = .ok (.istore 8, 2) := by decide +kernel
theorem dMH_keys_223 : decode c_MH_keys 223 = .ok (.iload 8, 2) := by decide +kernel
theorem dMH_keys_225 : decode c_MH_keys 225 = .ok (.sipush 4096, 3) := by decide +kernel
theorem dMH_keys_228 : decode c_MH_keys 228 = .ok (.if_icmp .le 9, 3) := by decide +kernel
theorem dMH_keys_231 : decode c_MH_keys 231 = .ok (.iinc 8 (-8192), 6) := by decide +kernel
theorem dMH_keys_237 : decode c_MH_keys 237 = .ok (.aload_n 0, 1) := by decide +kernel
theorem dMH_keys_238 : decode c_MH_keys 238 = .ok (.getfield 30, 3) := by decide +kernel
theorem dMH_keys_241 : decode c_MH_keys 241 = .ok (.iload 5, 2) := by decide +kernel
theorem dMH_keys_243 : decode c_MH_keys 243 = .ok (.aaload, 1) := by decide +kernel
theorem dMH_keys_244 : decode c_MH_keys 244 = .ok (.iload 6, 2) := by decide +kernel
theorem dMH_keys_246 : decode c_MH_keys 246 = .ok (.iload 8, 2) := by decide +kernel
theorem dMH_keys_248 : decode c_MH_keys 248 = .ok (.iastore, 1) := by decide +kernel
theorem dMH_keys_249 : decode c_MH_keys 249 = .ok (.aload_n 0, 1) := by decide +kernel
theorem dMH_keys_250 : decode c_MH_keys 250 = .ok (.getfield 33, 3) := by decide +kernel
theorem dMH_keys_253 : decode c_MH_keys 253 = .ok (.iload 5, 2) := by decide +kernel
theorem dMH_keys_255 : decode c_MH_keys 255 = .ok (.aaload, 1) := by decide +kernel
theorem dMH_keys_256 : decode c_MH_keys 256 = .ok (.iload 6, 2) := by decide +kernel
theorem dMH_keys_258 : decode c_MH_keys 258 = .ok (.iload 7, 2) := by decide +kernel
theorem dMH_keys_260 : decode c_MH_keys 260 = .ok (.iload 8, 2) := by decide +kernel
theorem dMH_keys_262 : decode c_MH_keys 262 = .ok (.isub, 1) := by decide +kernel
theorem dMH_keys_263 : decode c_MH_keys 263 = .ok (.sipush 8192, 3) := by decide +kernel
theorem dMH_keys_266 : decode c_MH_keys 266 = .ok (.idiv, 1) := by decide +kernel
theorem dMH_keys_267 : decode c_MH_keys 267 = .ok (.iastore, 1) := by decide +kernel
theorem dMH_keys_268 : decode c_MH_keys 268 = .ok (.iinc 6 1, 3) := by decide +kernel
theorem dMH_keys_271 : decode c_MH_keys 271 = .ok (.goto (-87), 3) := by decide +kernel
theorem dMH_keys_274 : decode c_MH_keys 274 = .ok (.iinc 5 1, 3) := by decide +kernel
theorem dMH_keys_277 : decode c_MH_keys 277 = .ok (.goto (-139), 3) := by decide +kernel
theorem dMH_keys_280 : decode c_MH_keys 280 = .ok (.iconst 0, 1) := by decide +kernel
theorem dMH_keys_281 : decode c_MH_keys 281 = .ok (.istore 5, 2) := by decide +kernel
theorem dMH_keys_283 : decode c_MH_keys 283 = .ok (.iload 5, 2) := by decide +kernel
theorem dMH_keys_285 : decode c_MH_keys 285 = .ok (.bipush 32, 2) := by decide +kernel
theorem dMH_keys_287 : decode c_MH_keys 287 = .ok (.if_icmp .ge 50, 3) := by decide +kernel
theorem dMH_keys_290 : decode c_MH_keys 290 = .ok (.aload_n 3, 1) := by decide +kernel
theorem dMH_keys_291 : decode c_MH_keys 291 = .ok (.iload 5, 2) := by decide +kernel
theorem dMH_keys_293 : decode c_MH_keys 293 = .ok (.aload_n 0, 1) := by decide +kernel
theorem dMH_keys_294 : decode c_MH_keys 294 = .ok (.getfield 65, 3) := by decide +kernel
theorem dMH_keys_297 : decode c_MH_keys 297 = .ok (.iload 5, 2) := by decide +kernel
theorem dMH_keys_299 : decode c_MH_keys 299 = .ok (.baload, 1) := by decide +kernel
theorem dMH_keys_300 : decode c_MH_keys 300 = .ok (.bastore, 1) := by decide +kernel
theorem dMH_keys_301 : decode c_MH_keys 301 = .ok (.aload 4, 2) := by decide +kernel
theorem dMH_keys_303 : decode c_MH_keys 303 = .ok (.iload 5, 2) := by decide +kernel
theorem dMH_keys_305 : decode c_MH_keys 305 = .ok (.aload_n 0, 1) := by decide +kernel
theorem dMH_keys_306 : decode c_MH_keys 306 = .ok (.getfield 65, 3) := by decide +kernel
theorem dMH_keys_309 : decode c_MH_keys 309 = .ok (.iload 5, 2) := by decide +kernel
theorem dMH_keys_311 : decode c_MH_keys 311 = .ok (.baload, 1) := by decide +kernel
theorem dMH_keys_312 : decode c_MH_keys 312 = .ok (.bastore, 1) := by decide +kernel
theorem dMH_keys_313 : decode c_MH_keys 313 = .ok (.aload 4, 2) := by decide +kernel
theorem dMH_keys_315 : decode c_MH_keys 315 = .ok (.bipush 32, 2) := by decide +kernel
theorem dMH_keys_317 : decode c_MH_keys 317 = .ok (.iload 5, 2) := by decide +kernel
theorem dMH_keys_319 : decode c_MH_keys 319 = .ok (.iadd, 1) := by decide +kernel
theorem dMH_keys_320 : decode c_MH_keys 320 = .ok (.aload_n 0, 1) := by decide +kernel
theorem dMH_keys_321 : decode c_MH_keys 321 = .ok (.getfield 65, 3) := by decide +kernel
theorem dMH_keys_324 : decode c_MH_keys 324 = .ok (.bipush 96, 2) := by decide +kernel
theorem dMH_keys_326 : decode c_MH_keys 326 = .ok (.iload 5, 2) := by decide +kernel
theorem dMH_keys_328 : decode c_MH_keys 328 = .ok (.iadd, 1) := by decide +kernel
theorem dMH_keys_329 : decode c_MH_keys 329 = .ok (.baload, 1) := by decide +kernel
theorem dMH_keys_330 : decode c_MH_keys 330 = .ok (.bastore, 1) := by decide +kernel
theorem dMH_keys_331 : decode c_MH_keys 331 = .ok (.iinc 5 1, 3) := by decide +kernel
theorem dMH_keys_334 : decode c_MH_keys 334 = .ok (.goto (-51), 3) := by decide +kernel
theorem dMH_keys_337 : decode c_MH_keys 337 = .ok (.iconst 0, 1) := by decide +kernel
theorem dMH_keys_338 : decode c_MH_keys 338 = .ok (.istore 5, 2) := by decide +kernel
theorem dMH_keys_340 : decode c_MH_keys 340 = .ok (.iload 5, 2) := by decide +kernel
theorem dMH_keys_342 : decode c_MH_keys 342 = .ok (.aload_n 0, 1) := by decide +kernel
theorem dMH_keys_343 : decode c_MH_keys 343 = .ok (.getfield 107, 3) := by decide +kernel
theorem dMH_keys_346 : decode c_MH_keys 346 = .ok (.if_icmp .ge 58, 3) := by decide +kernel
theorem dMH_keys_349 : decode c_MH_keys 349 = .ok (.iconst 0, 1) := by decide +kernel
theorem dMH_keys_350 : decode c_MH_keys 350 = .ok (.istore 6, 2) := by decide +kernel
theorem dMH_keys_352 : decode c_MH_keys 352 = .ok (.iload 6, 2) := by decide +kernel
theorem dMH_keys_354 : decode c_MH_keys 354 = .ok (.sipush 256, 3) := by decide +kernel
theorem dMH_keys_357 : decode c_MH_keys 357 = .ok (.if_icmp .ge 41, 3) := by decide +kernel
theorem dMH_keys_360 : decode c_MH_keys 360 = .ok (.aload_n 3, 1) := by decide +kernel
theorem dMH_keys_361 : decode c_MH_keys 361 = .ok (.sipush 256, 3) := by decide +kernel
theorem dMH_keys_364 : decode c_MH_keys 364 = .ok (.sipush 2560, 3) := by decide +kernel
theorem dMH_keys_367 : decode c_MH_keys 367 = .ok (.iload 5, 2) := by decide +kernel
theorem dMH_keys_369 : decode c_MH_keys 369 = .ok (.imul, 1) := by decide +kernel
theorem dMH_keys_370 : decode c_MH_keys 370 = .ok (.iadd, 1) := by decide +kernel
theorem dMH_keys_371 : decode c_MH_keys 371 = .ok (.bipush 10, 2) := by decide +kernel
theorem dMH_keys_373 : decode c_MH_keys 373 = .ok (.iload 6, 2) := by decide +kernel
theorem dMH_keys_375 : decode c_MH_keys 375 = .ok (.imul, 1) := by decide +kernel
theorem dMH_keys_376 : decode c_MH_keys 376 = .ok (.iadd, 1) := by decide +kernel
theorem dMH_keys_377 : decode c_MH_keys 377 = .ok (.bipush 10, 2) := by decide +kernel
theorem dMH_keys_379 : decode c_MH_keys 379 = .ok (.aload_n 0, 1) := by decide +kernel
theorem dMH_keys_380 : decode c_MH_keys 380 = .ok (.getfield 33, 3) := by decide +kernel
theorem dMH_keys_383 : decode c_MH_keys 383 = .ok (.iload 5, 2) := by decide +kernel
theorem dMH_keys_385 : decode c_MH_keys 385 = .ok (.aaload, 1) := by decide +kernel
theorem dMH_keys_386 : decode c_MH_keys 386 = .ok (.iload 6, 2) := by decide +kernel
theorem dMH_keys_388 : decode c_MH_keys 388 = .ok (.iaload, 1) := by decide +kernel
theorem dMH_keys_389 : decode c_MH_keys 389 = .ok (.invokestatic 187, 3) := by decide +kernel
theorem dMH_keys_392 : decode c_MH_keys 392 = .ok (.iinc 6 1, 3) := by decide +kernel
theorem dMH_keys_395 : decode c_MH_keys 395 = .ok (.goto (-43), 3) := by decide +kernel
theorem dMH_keys_398 : decode c_MH_keys 398 = .ok (.iinc 5 1, 3) := by decide +kernel
theorem dMH_keys_401 : decode c_MH_keys 401 = .ok (.goto (-61), 3) := by decide +kernel
theorem dMH_keys_404 : decode c_MH_keys 404 = .ok (.aload_n 0, 1) := by decide +kernel
theorem dMH_keys_405 : decode c_MH_keys 405 = .ok (.getfield 87, 3) := by decide +kernel
theorem dMH_keys_408 : decode c_MH_keys 408 = .ok (.invokevirtual 156, 3) := by decide +kernel
theorem dMH_keys_411 : decode c_MH_keys 411 = .ok (.aload_n 0, 1) := by decide +kernel
theorem dMH_keys_412 : decode c_MH_keys 412 = .ok (.getfield 87, 3) := by decide +kernel
theorem dMH_keys_415 : decode c_MH_keys 415 = .ok (.aload_n 3, 1) := by decide +kernel
theorem dMH_keys_416 : decode c_MH_keys 416 = .ok (.iconst 0, 1) := by decide +kernel
theorem dMH_keys_417 : decode c_MH_keys 417 = .ok (.aload_n 0, 1) := by decide +kernel
theorem dMH_keys_418 : decode c_MH_keys 418 = .ok (.getfield 103, 3) := by decide +kernel
theorem dMH_keys_421 : decode c_MH_keys 421 = .ok (.invokestatic 193, 3) := by decide +kernel
theorem dMH_keys_424 : decode c_MH_keys 424 = .ok (.invokevirtual 142, 3) := by decide +kernel
theorem dMH_keys_427 : decode c_MH_keys 427 = .ok (.aload_n 0, 1) := by decide +kernel
theorem dMH_keys_428 : decode c_MH_keys 428 = .ok (.getfield 87, 3) := by decide +kernel
theorem dMH_keys_431 : decode c_MH_keys 431 = .ok (.invokevirtual 149, 3) := by decide +kernel
theorem dMH_keys_434 : decode c_MH_keys 434 = .ok (.aload_n 0, 1) := by decide +kernel
theorem dMH_keys_435 : decode c_MH_keys 435 = .ok (.getfield 87, 3) := by decide +kernel
theorem dMH_keys_438 : decode c_MH_keys 438 = .ok (.aload 4, 2) := by decide +kernel
theorem dMH_keys_440 : decode c_MH_keys 440 = .ok (.bipush 64, 2) := by decide +kernel
theorem dMH_keys_442 : decode c_MH_keys 442 = .ok (.bipush 64, 2) := by decide +kernel
theorem dMH_keys_444 : decode c_MH_keys 444 = .ok (.invokevirtual 169, 3) := by decide +kernel
theorem dMH_keys_447 : decode c_MH_keys 447 = .ok (.aload_n 0, 1) := by decide +kernel
theorem dMH_keys_448 : decode c_MH_keys 448 = .ok (.getfield 113, 3) := by decide +kernel
theorem dMH_keys_451 : decode c_MH_keys 451 = .ok (.iconst 2, 1) := by decide +kernel
theorem dMH_keys_452 : decode c_MH_keys 452 = .ok (.if_icmp .ne 7, 3) := by decide +kernel
theorem dMH_keys_455 : decode c_MH_keys 455 = .ok (.iconst 3, 1) := by decide +kernel
theorem dMH_keys_456 : decode c_MH_keys 456 = .ok (.goto 4, 3) := by decide +kernel
theorem dMH_keys_459 : decode c_MH_keys 459 = .ok (.iconst 4, 1) := by decide +kernel
theorem dMH_keys_460 : decode c_MH_keys 460 = .ok (.istore 5, 2) := by decide +kernel
theorem dMH_keys_462 : decode c_MH_keys 462 = .ok (.sipush 1024, 3) := by decide +kernel
theorem dMH_keys_465 : decode c_MH_keys 465 = .ok (.istore 6, 2) := by decide +kernel
theorem dMH_keys_467 : decode c_MH_keys 467 = .ok (.iconst 0, 1) := by decide +kernel
theorem dMH_keys_468 : decode c_MH_keys 468 = .ok (.istore 7, 2) := by decide +kernel
theorem dMH_keys_470 : decode c_MH_keys 470 = .ok (.iload 7, 2) := by decide +kernel
theorem dMH_keys_472 : decode c_MH_keys 472 = .ok (.aload_n 0, 1) := by decide +kernel
theorem dMH_keys_473 : decode c_MH_keys 473 = .ok (.getfield 107, 3) := by decide +kernel
theorem dMH_keys_476 : decode c_MH_keys 476 = .ok (.aload_n 0, 1) := by decide +kernel
theorem dMH_keys_477 : decode c_MH_keys 477 = .ok (.getfield 110, 3) := by decide +kernel
theorem dMH_keys_480 : decode c_MH_keys 480 = .ok (.iadd, 1) := by decide +kernel
theorem dMH_keys_481 : decode c_MH_keys 481 = .ok (.if_icmp .ge 110, 3) := by decide +kernel
theorem dMH_keys_484 : decode c_MH_keys 484 = .ok (.iconst 0, 1) := by decide +kernel
theorem dMH_keys_485 : decode c_MH_keys 485 = .ok (.istore 8, 2) := by decide +kernel
theorem dMH_keys_487 : decode c_MH_keys 487 = .ok (.iload 8, 2) := by decide +kernel
theorem dMH_keys_489 : decode c_MH_keys 489 = .ok (.sipush 256, 3) := by decide +kernel
theorem dMH_keys_492 : decode c_MH_keys 492 = .ok (.if_icmp .ge 93, 3) := by decide +kernel
theorem dMH_keys_495 : decode c_MH_keys 495 = .ok (.iload 7, 2) := by decide +kernel
theorem dMH_keys_497 : decode c_MH_keys 497 = .ok (.aload_n 0, 1) := by decide +kernel
theorem dMH_keys_498 : decode c_MH_keys 498 = .ok (.getfield 110, 3) := by decide +kernel
theorem dMH_keys_501 : decode c_MH_keys 501 = .ok (.if_icmp .ge 16, 3) := by decide +kernel
theorem dMH_keys_504 : decode c_MH_keys 504 = .ok (.aload_n 0, 1) := by decide +kernel
theorem dMH_keys_505 : decode c_MH_keys 505 = .ok (.getfield 24, 3) := by decide +kernel
theorem dMH_keys_508 : decode c_MH_keys 508 = .ok (.iload 7, 2) := by decide +kernel
theorem dMH_keys_510 : decode c_MH_keys 510 = .ok (.aaload, 1) := by decide +kernel
theorem dMH_keys_511 : decode c_MH_keys 511 = .ok (.iload 8, 2) := by decide +kernel
theorem dMH_keys_513 : decode c_MH_keys 513 = .ok (.iaload, 1) := by decide +kernel
theorem dMH_keys_514 : decode c_MH_keys 514 = .ok (.goto 18, 3) := by decide +kernel
theorem dMH_keys_517 : decode c_MH_keys 517 = .ok (.aload_n 0, 1) := by decide +kernel
theorem dMH_keys_518 : decode c_MH_keys 518 = .ok (.getfield 27, 3) := by decide +kernel
theorem dMH_keys_521 : decode c_MH_keys 521 = .ok (.iload 7, 2) := by decide +kernel
theorem dMH_keys_523 : decode c_MH_keys 523 = .ok (.aload_n 0, 1) := by decide +kernel
theorem dMH_keys_524 : decode c_MH_keys 524 = .ok (.getfield 110, 3) := by decide +kernel
theorem dMH_keys_527 : decode c_MH_keys 527 = .ok (.isub, 1) := by decide +kernel
theorem dMH_keys_528 : decode c_MH_keys 528 = .ok (.aaload, 1) := by decide +kernel
theorem dMH_keys_529 : decode c_MH_keys 529 = .ok (.iload 8, 2) := by decide +kernel
theorem dMH_keys_531 : decode c_MH_keys 531 = .ok (.iaload, 1) := by decide +kernel
theorem dMH_keys_532 : decode c_MH_keys 532 = .ok (.istore 9, 2) := by decide +kernel
theorem dMH_keys_534 : decode c_MH_keys 534 = .ok (.aload 4, 2) := by decide +kernel
theorem dMH_keys_536 : decode c_MH_keys 536 = .ok (.iload 6, 2) := by decide +kernel
theorem dMH_keys_538 : decode c_MH_keys 538 = .ok (.iload 5, 2) := by decide +kernel
theorem dMH_keys_540 : decode c_MH_keys 540 = .ok (.iload 9, 2) := by decide +kernel
theorem dMH_keys_542 : decode c_MH_keys 542 = .ok (.aload_n 0, 1) := by decide +kernel
theorem dMH_keys_543 : decode c_MH_keys 543 = .ok (.getfield 113, 3) := by decide +kernel
theorem dMH_keys_546 : decode c_MH_keys 546 = .ok (.if_icmp .le 16, 3) := by decide +kernel
theorem dMH_keys_549 : decode c_MH_keys 549 = .ok (.aload_n 0, 1) := by decide +kernel
theorem dMH_keys_550 : decode c_MH_keys 550 = .ok (.getfield 113, 3) := by decide +kernel
theorem dMH_keys_553 : decode c_MH_keys 553 = .ok (.iload 9, 2) := by decide +kernel
theorem dMH_keys_555 : decode c_MH_keys 555 = .ok (.isub, 1) := by decide +kernel
theorem dMH_keys_556 : decode c_MH_keys 556 = .ok (.ldc 11, 2) := by decide +kernel
theorem dMH_keys_558 : decode c_MH_keys 558 = .ok (.iadd, 1) := by decide +kernel
theorem dMH_keys_559 : decode c_MH_keys 559 = .ok (.goto 10, 3) := by decide +kernel
theorem dMH_keys_562 : decode c_MH_keys 562 = .ok (.aload_n 0, 1) := by decide +kernel
theorem dMH_keys_563 : decode c_MH_keys 563 = .ok (.getfield 113, 3) := by decide +kernel
theorem dMH_keys_566 : decode c_MH_keys 566 = .ok (.iload 9, 2) := by decide +kernel
theorem dMH_keys_568 : decode c_MH_keys 568 = .ok (.isub, 1) := by decide +kernel
theorem dMH_keys_569 : decode c_MH_keys 569 = .ok (.invokestatic 187, 3) := by decide +kernel
theorem dMH_keys_572 : decode c_MH_keys 572 = .ok (.iload 6, 2) := by decide +kernel
theorem dMH_keys_574 : decode c_MH_keys 574 = .ok (.iload 5, 2) := by decide +kernel
theorem dMH_keys_576 : decode c_MH_keys 576 = .ok (.iadd, 1) := by decide +kernel
theorem dMH_keys_577 : decode c_MH_keys 577 = .ok (.istore 6, 2) := by decide +kernel
theorem dMH_keys_579 : decode c_MH_keys 579 = .ok (.iinc 8 1, 3) := by decide +kernel
theorem dMH_keys_582 : decode c_MH_keys 582 = .ok (.goto (-95), 3) := by decide +kernel
theorem dMH_keys_585 : decode c_MH_keys 585 = .ok (.iinc 7 1, 3) := by decide +kernel
theorem dMH_keys_588 : decode c_MH_keys 588 = .ok (.goto (-118), 3) := by decide +kernel
theorem dMH_keys_591 : decode c_MH_keys 591 = .ok (.iconst 0, 1) := by decide +kernel
theorem dMH_keys_592 : decode c_MH_keys 592 = .ok (.istore 7, 2) := by decide +kernel
theorem dMH_keys_594 : decode c_MH_keys 594 = .ok (.iload 7, 2) := by decide +kernel
theorem dMH_keys_596 : decode c_MH_keys 596 = .ok (.aload_n 0, 1) := by decide +kernel
theorem dMH_keys_597 : decode c_MH_keys 597 = .ok (.getfield 107, 3) := by decide +kernel
theorem dMH_keys_600 : decode c_MH_keys 600 = .ok (.if_icmp .ge 52, 3) := by decide +kernel
theorem dMH_keys_603 : decode c_MH_keys 603 = .ok (.iconst 0, 1) := by decide +kernel
theorem dMH_keys_604 : decode c_MH_keys 604 = .ok (.istore 8, 2) := by decide +kernel
theorem dMH_keys_606 : decode c_MH_keys 606 = .ok (.iload 8, 2) := by decide +kernel
theorem dMH_keys_608 : decode c_MH_keys 608 = .ok (.sipush 256, 3) := by decide +kernel
theorem dMH_keys_611 : decode c_MH_keys 611 = .ok (.if_icmp .ge 35, 3) := by decide +kernel
theorem dMH_keys_614 : decode c_MH_keys 614 = .ok (.aload 4, 2) := by decide +kernel
theorem dMH_keys_616 : decode c_MH_keys 616 = .ok (.iload 6, 2) := by decide +kernel
theorem dMH_keys_618 : decode c_MH_keys 618 = .ok (.bipush 13, 2) := by decide +kernel
theorem dMH_keys_620 : decode c_MH_keys 620 = .ok (.sipush 4096, 3) := by decide +kernel
theorem dMH_keys_623 : decode c_MH_keys 623 = .ok (.aload_n 0, 1) := by decide +kernel
theorem dMH_keys_624 : decode c_MH_keys 624 = .ok (.getfield 30, 3) := by decide +kernel
theorem dMH_keys_627 : decode c_MH_keys 627 = .ok (.iload 7, 2) := by decide +kernel
theorem dMH_keys_629 : decode c_MH_keys 629 = .ok (.aaload, 1) := by decide +kernel
theorem dMH_keys_630 : decode c_MH_keys 630 = .ok (.iload 8, 2) := by decide +kernel
theorem dMH_keys_632 : decode c_MH_keys 632 = .ok (.iaload, 1) := by decide +kernel
theorem dMH_keys_633 : decode c_MH_keys 633 = .ok (.isub, 1) := by decide +kernel
theorem dMH_keys_634 : decode c_MH_keys 634 = .ok (.invokestatic 187, 3) := by decide +kernel
theorem dMH_keys_637 : decode c_MH_keys 637 = .ok (.iinc 6 13, 3) := by decide +kernel
theorem dMH_keys_640 : decode c_MH_keys 640 = .ok (.iinc 8 1, 3) := by decide +kernel
theorem dMH_keys_643 : decode c_MH_keys 643 = .ok (.goto (-37), 3) := by decide +kernel
theorem dMH_keys_646 : decode c_MH_keys 646 = .ok (.iinc 7 1, 3) := by decide +kernel
theorem dMH_keys_649 : decode c_MH_keys 649 = .ok (.goto (-55), 3) := by decide +kernel
theorem dMH_keys_652 : decode c_MH_keys 652 = .ok (.return_, 1) := by decide +kernel
abbrev c_MH_sign : ByteArray := prog_13_method_22_code
abbrev y_MH_sign : MethodName := ⟨"LatticeKeysModel$Hands", "sign", "(I[B[BII[B)I"⟩
abbrev w_MH_sign : List Cond := Cond.code y_MH_sign c_MH_sign 9 (some .int) :: WG
theorem dMH_sign_0 : decode c_MH_sign 0 = .ok (.aload_n 0, 1) := by decide +kernel
theorem dMH_sign_1 : decode c_MH_sign 1 = .ok (.iload_n 1, 1) := by decide +kernel
theorem dMH_sign_2 : decode c_MH_sign 2 = .ok (.invokevirtual 166, 3) := by decide +kernel
theorem dMH_sign_5 : decode c_MH_sign 5 = .ok (.aload_n 0, 1) := by decide +kernel
theorem dMH_sign_6 : decode c_MH_sign 6 = .ok (.aload_n 2, 1) := by decide +kernel
theorem dMH_sign_7 : decode c_MH_sign 7 = .ok (.invokevirtual 226, 3) := by decide +kernel
theorem dMH_sign_10 : decode c_MH_sign 10 = .ok (.aload_n 0, 1) := by decide +kernel
theorem dMH_sign_11 : decode c_MH_sign 11 = .ok (.aload_n 2, 1) := by decide +kernel
theorem dMH_sign_12 : decode c_MH_sign 12 = .ok (.invokevirtual 172, 3) := by decide +kernel
theorem dMH_sign_15 : decode c_MH_sign 15 = .ok (.aload_n 0, 1) := by decide +kernel
theorem dMH_sign_16 : decode c_MH_sign 16 = .ok (.aload_n 2, 1) := by decide +kernel
theorem dMH_sign_17 : decode c_MH_sign 17 = .ok (.bipush 64, 2) := by decide +kernel
theorem dMH_sign_19 : decode c_MH_sign 19 = .ok (.aload_n 3, 1) := by decide +kernel
theorem dMH_sign_20 : decode c_MH_sign 20 = .ok (.bipush 32, 2) := by decide +kernel
theorem dMH_sign_22 : decode c_MH_sign 22 = .ok (.iload 4, 2) := by decide +kernel
theorem dMH_sign_24 : decode c_MH_sign 24 = .ok (.iload 5, 2) := by decide +kernel
theorem dMH_sign_26 : decode c_MH_sign 26 = .ok (.invokevirtual 229, 3) := by decide +kernel
theorem dMH_sign_29 : decode c_MH_sign 29 = .ok (.aload_n 0, 1) := by decide +kernel
theorem dMH_sign_30 : decode c_MH_sign 30 = .ok (.getfield 87, 3) := by decide +kernel
theorem dMH_sign_33 : decode c_MH_sign 33 = .ok (.invokevirtual 156, 3) := by decide +kernel
theorem dMH_sign_36 : decode c_MH_sign 36 = .ok (.aload_n 0, 1) := by decide +kernel
theorem dMH_sign_37 : decode c_MH_sign 37 = .ok (.getfield 87, 3) := by decide +kernel
theorem dMH_sign_40 : decode c_MH_sign 40 = .ok (.aload_n 2, 1) := by decide +kernel
theorem dMH_sign_41 : decode c_MH_sign 41 = .ok (.bipush 32, 2) := by decide +kernel
theorem dMH_sign_43 : decode c_MH_sign 43 = .ok (.bipush 32, 2) := by decide +kernel
theorem dMH_sign_45 : decode c_MH_sign 45 = .ok (.invokevirtual 142, 3) := by decide +kernel
theorem dMH_sign_48 : decode c_MH_sign 48 = .ok (.aload_n 0, 1) := by decide +kernel
theorem dMH_sign_49 : decode c_MH_sign 49 = .ok (.getfield 87, 3) := by decide +kernel
theorem dMH_sign_52 : decode c_MH_sign 52 = .ok (.aload_n 3, 1) := by decide +kernel
theorem dMH_sign_53 : decode c_MH_sign 53 = .ok (.iconst 0, 1) := by decide +kernel
theorem dMH_sign_54 : decode c_MH_sign 54 = .ok (.bipush 32, 2) := by decide +kernel
theorem dMH_sign_56 : decode c_MH_sign 56 = .ok (.invokevirtual 142, 3) := by decide +kernel
theorem dMH_sign_59 : decode c_MH_sign 59 = .ok (.aload_n 0, 1) := by decide +kernel
theorem dMH_sign_60 : decode c_MH_sign 60 = .ok (.getfield 87, 3) := by decide +kernel
theorem dMH_sign_63 : decode c_MH_sign 63 = .ok (.aload_n 0, 1) := by decide +kernel
theorem dMH_sign_64 : decode c_MH_sign 64 = .ok (.getfield 69, 3) := by decide +kernel
theorem dMH_sign_67 : decode c_MH_sign 67 = .ok (.iconst 0, 1) := by decide +kernel
theorem dMH_sign_68 : decode c_MH_sign 68 = .ok (.bipush 64, 2) := by decide +kernel
theorem dMH_sign_70 : decode c_MH_sign 70 = .ok (.invokevirtual 142, 3) := by decide +kernel
theorem dMH_sign_73 : decode c_MH_sign 73 = .ok (.aload_n 0, 1) := by decide +kernel
theorem dMH_sign_74 : decode c_MH_sign 74 = .ok (.getfield 87, 3) := by decide +kernel
theorem dMH_sign_77 : decode c_MH_sign 77 = .ok (.invokevirtual 149, 3) := by decide +kernel
theorem dMH_sign_80 : decode c_MH_sign 80 = .ok (.aload_n 0, 1) := by decide +kernel
theorem dMH_sign_81 : decode c_MH_sign 81 = .ok (.getfield 87, 3) := by decide +kernel
theorem dMH_sign_84 : decode c_MH_sign 84 = .ok (.aload_n 0, 1) := by decide +kernel
theorem dMH_sign_85 : decode c_MH_sign 85 = .ok (.getfield 72, 3) := by decide +kernel
theorem dMH_sign_88 : decode c_MH_sign 88 = .ok (.iconst 0, 1) := by decide +kernel
theorem dMH_sign_89 : decode c_MH_sign 89 = .ok (.bipush 64, 2) := by decide +kernel
theorem dMH_sign_91 : decode c_MH_sign 91 = .ok (.invokevirtual 169, 3) := by decide +kernel
theorem dMH_sign_94 : decode c_MH_sign 94 = .ok (.iconst 1, 1) := by decide +kernel
theorem dMH_sign_95 : decode c_MH_sign 95 = .ok (.istore 7, 2) := by decide +kernel
theorem dMH_sign_97 : decode c_MH_sign 97 = .ok (.iload 7, 2) := by decide +kernel
theorem dMH_sign_99 : decode c_MH_sign 99 = .ok (.sipush 200, 3) := by decide +kernel
theorem dMH_sign_102 : decode c_MH_sign 102 = .ok (.if_icmp .gt 130, 3) := by decide +kernel
theorem dMH_sign_105 : decode c_MH_sign 105 = .ok (.aload_n 0, 1) := by decide +kernel
theorem dMH_sign_106 : decode c_MH_sign 106 = .ok (.iload 7, 2) := by decide +kernel
theorem dMH_sign_108 : decode c_MH_sign 108 = .ok (.iconst 1, 1) := by decide +kernel
theorem dMH_sign_109 : decode c_MH_sign 109 = .ok (.isub, 1) := by decide +kernel
theorem dMH_sign_110 : decode c_MH_sign 110 = .ok (.aload_n 0, 1) := by decide +kernel
theorem dMH_sign_111 : decode c_MH_sign 111 = .ok (.getfield 110, 3) := by decide +kernel
theorem dMH_sign_114 : decode c_MH_sign 114 = .ok (.imul, 1) := by decide +kernel
theorem dMH_sign_115 : decode c_MH_sign 115 = .ok (.invokevirtual 233, 3) := by decide +kernel
theorem dMH_sign_118 : decode c_MH_sign 118 = .ok (.iconst 0, 1) := by decide +kernel
theorem dMH_sign_119 : decode c_MH_sign 119 = .ok (.istore 8, 2) := by decide +kernel
theorem dMH_sign_121 : decode c_MH_sign 121 = .ok (.iload 8, 2) := by decide +kernel
theorem dMH_sign_123 : decode c_MH_sign 123 = .ok (.aload_n 0, 1) := by decide +kernel
theorem dMH_sign_124 : decode c_MH_sign 124 = .ok (.getfield 110, 3) := by decide +kernel
theorem dMH_sign_127 : decode c_MH_sign 127 = .ok (.if_icmp .ge 32, 3) := by decide +kernel
theorem dMH_sign_130 : decode c_MH_sign 130 = .ok (.aload_n 0, 1) := by decide +kernel
theorem dMH_sign_131 : decode c_MH_sign 131 = .ok (.getfield 15, 3) := by decide +kernel
theorem dMH_sign_134 : decode c_MH_sign 134 = .ok (.aload_n 0, 1) := by decide +kernel
theorem dMH_sign_135 : decode c_MH_sign 135 = .ok (.getfield 36, 3) := by decide +kernel
theorem dMH_sign_138 : decode c_MH_sign 138 = .ok (.iload 8, 2) := by decide +kernel
theorem dMH_sign_140 : decode c_MH_sign 140 = .ok (.aaload, 1) := by decide +kernel
theorem dMH_sign_141 : decode c_MH_sign 141 = .ok (.aload_n 0, 1) := by decide +kernel
theorem dMH_sign_142 : decode c_MH_sign 142 = .ok (.getfield 42, 3) := by decide +kernel
theorem dMH_sign_145 : decode c_MH_sign 145 = .ok (.iload 8, 2) := by decide +kernel
theorem dMH_sign_147 : decode c_MH_sign 147 = .ok (.aaload, 1) := by decide +kernel
theorem dMH_sign_148 : decode c_MH_sign 148 = .ok (.iconst 1, 1) := by decide +kernel
theorem dMH_sign_149 : decode c_MH_sign 149 = .ok (.iconst 0, 1) := by decide +kernel
theorem dMH_sign_150 : decode c_MH_sign 150 = .ok (.invokevirtual 180, 3) := by decide +kernel
theorem dMH_sign_153 : decode c_MH_sign 153 = .ok (.iinc 8 1, 3) := by decide +kernel
theorem dMH_sign_156 : decode c_MH_sign 156 = .ok (.goto (-35), 3) := by decide +kernel
theorem dMH_sign_159 : decode c_MH_sign 159 = .ok (.iconst 0, 1) := by decide +kernel
theorem dMH_sign_160 : decode c_MH_sign 160 = .ok (.istore 8, 2) := by decide +kernel
theorem dMH_sign_162 : decode c_MH_sign 162 = .ok (.iload 8, 2) := by decide +kernel
theorem dMH_sign_164 : decode c_MH_sign 164 = .ok (.aload_n 0, 1) := by decide +kernel
theorem dMH_sign_165 : decode c_MH_sign 165 = .ok (.getfield 107, 3) := by decide +kernel
theorem dMH_sign_168 : decode c_MH_sign 168 = .ok (.if_icmp .ge 22, 3) := by decide +kernel
theorem dMH_sign_171 : decode c_MH_sign 171 = .ok (.aload_n 0, 1) := by decide +kernel
theorem dMH_sign_172 : decode c_MH_sign 172 = .ok (.iload 8, 2) := by decide +kernel
theorem dMH_sign_174 : decode c_MH_sign 174 = .ok (.aload_n 0, 1) := by decide +kernel
theorem dMH_sign_175 : decode c_MH_sign 175 = .ok (.getfield 45, 3) := by decide +kernel
theorem dMH_sign_178 : decode c_MH_sign 178 = .ok (.iload 8, 2) := by decide +kernel
theorem dMH_sign_180 : decode c_MH_sign 180 = .ok (.aaload, 1) := by decide +kernel
theorem dMH_sign_181 : decode c_MH_sign 181 = .ok (.invokevirtual 183, 3) := by decide +kernel
theorem dMH_sign_184 : decode c_MH_sign 184 = .ok (.iinc 8 1, 3) := by decide +kernel
theorem dMH_sign_187 : decode c_MH_sign 187 = .ok (.goto (-25), 3) := by decide +kernel
theorem dMH_sign_190 : decode c_MH_sign 190 = .ok (.aload_n 0, 1) := by decide +kernel
theorem dMH_sign_191 : decode c_MH_sign 191 = .ok (.iconst 0, 1) := by decide +kernel
theorem dMH_sign_192 : decode c_MH_sign 192 = .ok (.aload_n 0, 1) := by decide +kernel
theorem dMH_sign_193 : decode c_MH_sign 193 = .ok (.getfield 78, 3) := by decide +kernel
theorem dMH_sign_196 : decode c_MH_sign 196 = .ok (.invokevirtual 236, 3) := by decide +kernel
theorem dMH_sign_199 : decode c_MH_sign 199 = .ok (.aload_n 0, 1) := by decide +kernel
theorem dMH_sign_200 : decode c_MH_sign 200 = .ok (.aload_n 0, 1) := by decide +kernel
theorem dMH_sign_201 : decode c_MH_sign 201 = .ok (.getfield 78, 3) := by decide +kernel
theorem dMH_sign_204 : decode c_MH_sign 204 = .ok (.invokevirtual 240, 3) := by decide +kernel
theorem dMH_sign_207 : decode c_MH_sign 207 = .ok (.aload_n 0, 1) := by decide +kernel
theorem dMH_sign_208 : decode c_MH_sign 208 = .ok (.invokevirtual 243, 3) := by decide +kernel
theorem dMH_sign_211 : decode c_MH_sign 211 = .ok (.ifCond .ne 6, 3) := by decide +kernel
theorem dMH_sign_214 : decode c_MH_sign 214 = .ok (.goto 12, 3) := by decide +kernel
theorem dMH_sign_217 : decode c_MH_sign 217 = .ok (.aload_n 0, 1) := by decide +kernel
theorem dMH_sign_218 : decode c_MH_sign 218 = .ok (.aload 6, 2) := by decide +kernel
theorem dMH_sign_220 : decode c_MH_sign 220 = .ok (.invokevirtual 247, 3) := by decide +kernel
theorem dMH_sign_223 : decode c_MH_sign 223 = .ok (.iload 7, 2) := by decide +kernel
theorem dMH_sign_225 : decode c_MH_sign 225 = .ok (.ireturn, 1) := by decide +kernel
theorem dMH_sign_226 : decode c_MH_sign 226 = .ok (.iinc 7 1, 3) := by decide +kernel
theorem dMH_sign_229 : decode c_MH_sign 229 = .ok (.goto (-132), 3) := by decide +kernel
theorem dMH_sign_232 : decode c_MH_sign 232 = .ok (.iconst 0, 1) := by decide +kernel
theorem dMH_sign_233 : decode c_MH_sign 233 = .ok (.ireturn, 1) := by decide +kernel
abbrev c_MH_verify : ByteArray := prog_13_method_25_code
abbrev y_MH_verify : MethodName := ⟨"LatticeKeysModel$Hands", "verify", "(I[B[BII)Z"⟩
abbrev w_MH_verify : List Cond := Cond.code y_MH_verify c_MH_verify 11 (some .boolean) :: WG
theorem dMH_verify_0 : decode c_MH_verify 0 = .ok (.aload_n 0, 1) := by decide +kernel
theorem dMH_verify_1 : decode c_MH_verify 1 = .ok (.iload_n 1, 1) := by decide +kernel
theorem dMH_verify_2 : decode c_MH_verify 2 = .ok (.invokevirtual 166, 3) := by decide +kernel
theorem dMH_verify_5 : decode c_MH_verify 5 = .ok (.aload_n 0, 1) := by decide +kernel
theorem dMH_verify_6 : decode c_MH_verify 6 = .ok (.getfield 103, 3) := by decide +kernel
theorem dMH_verify_9 : decode c_MH_verify 9 = .ok (.ifCond .ne 8, 3) := by decide +kernel
theorem dMH_verify_12 : decode c_MH_verify 12 = .ok (.bipush 18, 2) := by decide +kernel
theorem dMH_verify_14 : decode c_MH_verify 14 = .ok (.goto 5, 3) := by decide +kernel
theorem dMH_verify_17 : decode c_MH_verify 17 = .ok (.bipush 20, 2) := by decide +kernel
theorem dMH_verify_19 : decode c_MH_verify 19 = .ok (.istore 6, 2) := by decide +kernel
theorem dMH_verify_21 : decode c_MH_verify 21 = .ok (.bipush 8, 2) := by decide +kernel
theorem dMH_verify_23 : decode c_MH_verify 23 = .ok (.aload_n 0, 1) := by decide +kernel
theorem dMH_verify_24 : decode c_MH_verify 24 = .ok (.getfield 132, 3) := by decide +kernel
theorem dMH_verify_27 : decode c_MH_verify 27 = .ok (.imul, 1) := by decide +kernel
theorem dMH_verify_28 : decode c_MH_verify 28 = .ok (.istore 7, 2) := by decide +kernel
theorem dMH_verify_30 : decode c_MH_verify 30 = .ok (.iconst 1, 1) := by decide +kernel
theorem dMH_verify_31 : decode c_MH_verify 31 = .ok (.istore 8, 2) := by decide +kernel
theorem dMH_verify_33 : decode c_MH_verify 33 = .ok (.iconst 0, 1) := by decide +kernel
theorem dMH_verify_34 : decode c_MH_verify 34 = .ok (.istore 9, 2) := by decide +kernel
theorem dMH_verify_36 : decode c_MH_verify 36 = .ok (.iload 9, 2) := by decide +kernel
theorem dMH_verify_38 : decode c_MH_verify 38 = .ok (.aload_n 0, 1) := by decide +kernel
theorem dMH_verify_39 : decode c_MH_verify 39 = .ok (.getfield 132, 3) := by decide +kernel
theorem dMH_verify_42 : decode c_MH_verify 42 = .ok (.if_icmp .ge 20, 3) := by decide +kernel
theorem dMH_verify_45 : decode c_MH_verify 45 = .ok (.aload_n 0, 1) := by decide +kernel
theorem dMH_verify_46 : decode c_MH_verify 46 = .ok (.getfield 78, 3) := by decide +kernel
theorem dMH_verify_49 : decode c_MH_verify 49 = .ok (.iload 9, 2) := by decide +kernel
theorem dMH_verify_51 : decode c_MH_verify 51 = .ok (.aload_n 3, 1) := by decide +kernel
theorem dMH_verify_52 : decode c_MH_verify 52 = .ok (.iload 9, 2) := by decide +kernel
theorem dMH_verify_54 : decode c_MH_verify 54 = .ok (.baload, 1) := by decide +kernel
theorem dMH_verify_55 : decode c_MH_verify 55 = .ok (.bastore, 1) := by decide +kernel
theorem dMH_verify_56 : decode c_MH_verify 56 = .ok (.iinc 9 1, 3) := by decide +kernel
theorem dMH_verify_59 : decode c_MH_verify 59 = .ok (.goto (-23), 3) := by decide +kernel
theorem dMH_verify_62 : decode c_MH_verify 62 = .ok (.iconst 0, 1) := by decide +kernel
theorem dMH_verify_63 : decode c_MH_verify 63 = .ok (.istore 9, 2) := by decide +kernel
theorem dMH_verify_65 : decode c_MH_verify 65 = .ok (.iload 9, 2) := by decide +kernel
theorem dMH_verify_67 : decode c_MH_verify 67 = .ok (.aload_n 0, 1) := by decide +kernel
theorem dMH_verify_68 : decode c_MH_verify 68 = .ok (.getfield 110, 3) := by decide +kernel
theorem dMH_verify_71 : decode c_MH_verify 71 = .ok (.if_icmp .ge 93, 3) := by decide +kernel
theorem dMH_verify_74 : decode c_MH_verify 74 = .ok (.iconst 0, 1) := by decide +kernel
theorem dMH_verify_75 : decode c_MH_verify 75 = .ok (.istore 10, 2) := by decide +kernel
theorem dMH_verify_77 : decode c_MH_verify 77 = .ok (.iload 10, 2) := by decide +kernel
theorem dMH_verify_79 : decode c_MH_verify 79 = .ok (.sipush 256, 3) := by decide +kernel
theorem dMH_verify_82 : decode c_MH_verify 82 = .ok (.if_icmp .ge 76, 3) := by decide +kernel
theorem dMH_verify_85 : decode c_MH_verify 85 = .ok (.aload_n 0, 1) := by decide +kernel
theorem dMH_verify_86 : decode c_MH_verify 86 = .ok (.getfield 39, 3) := by decide +kernel
theorem dMH_verify_89 : decode c_MH_verify 89 = .ok (.iload 9, 2) := by decide +kernel
theorem dMH_verify_91 : decode c_MH_verify 91 = .ok (.aaload, 1) := by decide +kernel
theorem dMH_verify_92 : decode c_MH_verify 92 = .ok (.iload 10, 2) := by decide +kernel
theorem dMH_verify_94 : decode c_MH_verify 94 = .ok (.aload_n 0, 1) := by decide +kernel
theorem dMH_verify_95 : decode c_MH_verify 95 = .ok (.getfield 118, 3) := by decide +kernel
theorem dMH_verify_98 : decode c_MH_verify 98 = .ok (.aload_n 3, 1) := by decide +kernel
theorem dMH_verify_99 : decode c_MH_verify 99 = .ok (.iload 7, 2) := by decide +kernel
theorem dMH_verify_101 : decode c_MH_verify 101 = .ok (.iload 6, 2) := by decide +kernel
theorem dMH_verify_103 : decode c_MH_verify 103 = .ok (.invokestatic 197, 3) := by decide +kernel
theorem dMH_verify_106 : decode c_MH_verify 106 = .ok (.invokestatic 201, 3) := by decide +kernel
theorem dMH_verify_109 : decode c_MH_verify 109 = .ok (.iastore, 1) := by decide +kernel
theorem dMH_verify_110 : decode c_MH_verify 110 = .ok (.iload 8, 2) := by decide +kernel
theorem dMH_verify_112 : decode c_MH_verify 112 = .ok (.aload_n 0, 1) := by decide +kernel
theorem dMH_verify_113 : decode c_MH_verify 113 = .ok (.getfield 39, 3) := by decide +kernel
theorem dMH_verify_116 : decode c_MH_verify 116 = .ok (.iload 9, 2) := by decide +kernel
theorem dMH_verify_118 : decode c_MH_verify 118 = .ok (.aaload, 1) := by decide +kernel
theorem dMH_verify_119 : decode c_MH_verify 119 = .ok (.iload 10, 2) := by decide +kernel
theorem dMH_verify_121 : decode c_MH_verify 121 = .ok (.iaload, 1) := by decide +kernel
theorem dMH_verify_122 : decode c_MH_verify 122 = .ok (.invokestatic 218, 3) := by decide +kernel
theorem dMH_verify_125 : decode c_MH_verify 125 = .ok (.aload_n 0, 1) := by decide +kernel
theorem dMH_verify_126 : decode c_MH_verify 126 = .ok (.getfield 118, 3) := by decide +kernel
theorem dMH_verify_129 : decode c_MH_verify 129 = .ok (.aload_n 0, 1) := by decide +kernel
theorem dMH_verify_130 : decode c_MH_verify 130 = .ok (.getfield 129, 3) := by decide +kernel
theorem dMH_verify_133 : decode c_MH_verify 133 = .ok (.isub, 1) := by decide +kernel
theorem dMH_verify_134 : decode c_MH_verify 134 = .ok (.if_icmp .ge 7, 3) := by decide +kernel
theorem dMH_verify_137 : decode c_MH_verify 137 = .ok (.iconst 1, 1) := by decide +kernel
theorem dMH_verify_138 : decode c_MH_verify 138 = .ok (.goto 4, 3) := by decide +kernel
theorem dMH_verify_141 : decode c_MH_verify 141 = .ok (.iconst 0, 1) := by decide +kernel
theorem dMH_verify_142 : decode c_MH_verify 142 = .ok (.iand, 1) := by decide +kernel
theorem dMH_verify_143 : decode c_MH_verify 143 = .ok (.istore 8, 2) := by decide +kernel
theorem dMH_verify_145 : decode c_MH_verify 145 = .ok (.iload 7, 2) := by decide +kernel
theorem dMH_verify_147 : decode c_MH_verify 147 = .ok (.iload 6, 2) := by decide +kernel
theorem dMH_verify_149 : decode c_MH_verify 149 = .ok (.iadd, 1) := by decide +kernel
theorem dMH_verify_150 : decode c_MH_verify 150 = .ok (.istore 7, 2) := by decide +kernel
theorem dMH_verify_152 : decode c_MH_verify 152 = .ok (.iinc 10 1, 3) := by decide +kernel
theorem dMH_verify_155 : decode c_MH_verify 155 = .ok (.goto (-78), 3) := by decide +kernel
theorem dMH_verify_158 : decode c_MH_verify 158 = .ok (.iinc 9 1, 3) := by decide +kernel
theorem dMH_verify_161 : decode c_MH_verify 161 = .ok (.goto (-96), 3) := by decide +kernel
theorem dMH_verify_164 : decode c_MH_verify 164 = .ok (.iload 8, 2) := by decide +kernel
theorem dMH_verify_166 : decode c_MH_verify 166 = .ok (.ifCond .eq 16, 3) := by decide +kernel
theorem dMH_verify_169 : decode c_MH_verify 169 = .ok (.aload_n 0, 1) := by decide +kernel
theorem dMH_verify_170 : decode c_MH_verify 170 = .ok (.aload_n 3, 1) := by decide +kernel
theorem dMH_verify_171 : decode c_MH_verify 171 = .ok (.iload 7, 2) := by decide +kernel
theorem dMH_verify_173 : decode c_MH_verify 173 = .ok (.bipush 8, 2) := by decide +kernel
theorem dMH_verify_175 : decode c_MH_verify 175 = .ok (.idiv, 1) := by decide +kernel
theorem dMH_verify_176 : decode c_MH_verify 176 = .ok (.invokevirtual 250, 3) := by decide +kernel
theorem dMH_verify_179 : decode c_MH_verify 179 = .ok (.ifCond .ne 5, 3) := by decide +kernel
theorem dMH_verify_182 : decode c_MH_verify 182 = .ok (.iconst 0, 1) := by decide +kernel
theorem dMH_verify_183 : decode c_MH_verify 183 = .ok (.ireturn, 1) := by decide +kernel
theorem dMH_verify_184 : decode c_MH_verify 184 = .ok (.aload_n 0, 1) := by decide +kernel
theorem dMH_verify_185 : decode c_MH_verify 185 = .ok (.getfield 87, 3) := by decide +kernel
theorem dMH_verify_188 : decode c_MH_verify 188 = .ok (.invokevirtual 156, 3) := by decide +kernel
theorem dMH_verify_191 : decode c_MH_verify 191 = .ok (.aload_n 0, 1) := by decide +kernel
theorem dMH_verify_192 : decode c_MH_verify 192 = .ok (.getfield 87, 3) := by decide +kernel
theorem dMH_verify_195 : decode c_MH_verify 195 = .ok (.aload_n 2, 1) := by decide +kernel
theorem dMH_verify_196 : decode c_MH_verify 196 = .ok (.iconst 0, 1) := by decide +kernel
theorem dMH_verify_197 : decode c_MH_verify 197 = .ok (.aload_n 0, 1) := by decide +kernel
theorem dMH_verify_198 : decode c_MH_verify 198 = .ok (.getfield 103, 3) := by decide +kernel
theorem dMH_verify_201 : decode c_MH_verify 201 = .ok (.invokestatic 193, 3) := by decide +kernel
theorem dMH_verify_204 : decode c_MH_verify 204 = .ok (.invokevirtual 142, 3) := by decide +kernel
theorem dMH_verify_207 : decode c_MH_verify 207 = .ok (.aload_n 0, 1) := by decide +kernel
theorem dMH_verify_208 : decode c_MH_verify 208 = .ok (.getfield 87, 3) := by decide +kernel
theorem dMH_verify_211 : decode c_MH_verify 211 = .ok (.invokevirtual 149, 3) := by decide +kernel
theorem dMH_verify_214 : decode c_MH_verify 214 = .ok (.aload_n 0, 1) := by decide +kernel
theorem dMH_verify_215 : decode c_MH_verify 215 = .ok (.getfield 87, 3) := by decide +kernel
theorem dMH_verify_218 : decode c_MH_verify 218 = .ok (.aload_n 0, 1) := by decide +kernel
theorem dMH_verify_219 : decode c_MH_verify 219 = .ok (.getfield 84, 3) := by decide +kernel
theorem dMH_verify_222 : decode c_MH_verify 222 = .ok (.iconst 0, 1) := by decide +kernel
theorem dMH_verify_223 : decode c_MH_verify 223 = .ok (.bipush 64, 2) := by decide +kernel
theorem dMH_verify_225 : decode c_MH_verify 225 = .ok (.invokevirtual 169, 3) := by decide +kernel
theorem dMH_verify_228 : decode c_MH_verify 228 = .ok (.aload_n 0, 1) := by decide +kernel
theorem dMH_verify_229 : decode c_MH_verify 229 = .ok (.aload_n 0, 1) := by decide +kernel
theorem dMH_verify_230 : decode c_MH_verify 230 = .ok (.getfield 84, 3) := by decide +kernel
theorem dMH_verify_233 : decode c_MH_verify 233 = .ok (.iconst 0, 1) := by decide +kernel
theorem dMH_verify_234 : decode c_MH_verify 234 = .ok (.aload_n 3, 1) := by decide +kernel
theorem dMH_verify_235 : decode c_MH_verify 235 = .ok (.aload_n 0, 1) := by decide +kernel
theorem dMH_verify_236 : decode c_MH_verify 236 = .ok (.getfield 103, 3) := by decide +kernel
theorem dMH_verify_239 : decode c_MH_verify 239 = .ok (.invokestatic 254, 3) := by decide +kernel
theorem dMH_verify_242 : decode c_MH_verify 242 = .ok (.iload 4, 2) := by decide +kernel
theorem dMH_verify_244 : decode c_MH_verify 244 = .ok (.iload 5, 2) := by decide +kernel
theorem dMH_verify_246 : decode c_MH_verify 246 = .ok (.invokevirtual 229, 3) := by decide +kernel
theorem dMH_verify_249 : decode c_MH_verify 249 = .ok (.aload_n 0, 1) := by decide +kernel
theorem dMH_verify_250 : decode c_MH_verify 250 = .ok (.aload_n 2, 1) := by decide +kernel
theorem dMH_verify_251 : decode c_MH_verify 251 = .ok (.invokevirtual 172, 3) := by decide +kernel
theorem dMH_verify_254 : decode c_MH_verify 254 = .ok (.aload_n 0, 1) := by decide +kernel
theorem dMH_verify_255 : decode c_MH_verify 255 = .ok (.aload_n 0, 1) := by decide +kernel
theorem dMH_verify_256 : decode c_MH_verify 256 = .ok (.getfield 78, 3) := by decide +kernel
theorem dMH_verify_259 : decode c_MH_verify 259 = .ok (.invokevirtual 240, 3) := by decide +kernel
theorem dMH_verify_262 : decode c_MH_verify 262 = .ok (.iconst 0, 1) := by decide +kernel
theorem dMH_verify_263 : decode c_MH_verify 263 = .ok (.istore 9, 2) := by decide +kernel
theorem dMH_verify_265 : decode c_MH_verify 265 = .ok (.iload 9, 2) := by decide +kernel
theorem dMH_verify_267 : decode c_MH_verify 267 = .ok (.aload_n 0, 1) := by decide +kernel
theorem dMH_verify_268 : decode c_MH_verify 268 = .ok (.getfield 110, 3) := by decide +kernel
theorem dMH_verify_271 : decode c_MH_verify 271 = .ok (.if_icmp .ge 32, 3) := by decide +kernel
theorem dMH_verify_274 : decode c_MH_verify 274 = .ok (.aload_n 0, 1) := by decide +kernel
theorem dMH_verify_275 : decode c_MH_verify 275 = .ok (.getfield 15, 3) := by decide +kernel
theorem dMH_verify_278 : decode c_MH_verify 278 = .ok (.aload_n 0, 1) := by decide +kernel
theorem dMH_verify_279 : decode c_MH_verify 279 = .ok (.getfield 39, 3) := by decide +kernel
theorem dMH_verify_282 : decode c_MH_verify 282 = .ok (.iload 9, 2) := by decide +kernel
theorem dMH_verify_284 : decode c_MH_verify 284 = .ok (.aaload, 1) := by decide +kernel
theorem dMH_verify_285 : decode c_MH_verify 285 = .ok (.aload_n 0, 1) := by decide +kernel
theorem dMH_verify_286 : decode c_MH_verify 286 = .ok (.getfield 42, 3) := by decide +kernel
theorem dMH_verify_289 : decode c_MH_verify 289 = .ok (.iload 9, 2) := by decide +kernel
theorem dMH_verify_291 : decode c_MH_verify 291 = .ok (.aaload, 1) := by decide +kernel
theorem dMH_verify_292 : decode c_MH_verify 292 = .ok (.iconst 1, 1) := by decide +kernel
theorem dMH_verify_293 : decode c_MH_verify 293 = .ok (.iconst 0, 1) := by decide +kernel
theorem dMH_verify_294 : decode c_MH_verify 294 = .ok (.invokevirtual 180, 3) := by decide +kernel
theorem dMH_verify_297 : decode c_MH_verify 297 = .ok (.iinc 9 1, 3) := by decide +kernel
theorem dMH_verify_300 : decode c_MH_verify 300 = .ok (.goto (-35), 3) := by decide +kernel
theorem dMH_verify_303 : decode c_MH_verify 303 = .ok (.iconst 0, 1) := by decide +kernel
theorem dMH_verify_304 : decode c_MH_verify 304 = .ok (.istore 9, 2) := by decide +kernel
theorem dMH_verify_306 : decode c_MH_verify 306 = .ok (.iload 9, 2) := by decide +kernel
theorem dMH_verify_308 : decode c_MH_verify 308 = .ok (.aload_n 0, 1) := by decide +kernel
theorem dMH_verify_309 : decode c_MH_verify 309 = .ok (.getfield 107, 3) := by decide +kernel
theorem dMH_verify_312 : decode c_MH_verify 312 = .ok (.if_icmp .ge 136, 3) := by decide +kernel
theorem dMH_verify_315 : decode c_MH_verify 315 = .ok (.aload_n 0, 1) := by decide +kernel
theorem dMH_verify_316 : decode c_MH_verify 316 = .ok (.iload 9, 2) := by decide +kernel
theorem dMH_verify_318 : decode c_MH_verify 318 = .ok (.aload_n 0, 1) := by decide +kernel
theorem dMH_verify_319 : decode c_MH_verify 319 = .ok (.getfield 45, 3) := by decide +kernel
theorem dMH_verify_322 : decode c_MH_verify 322 = .ok (.iload 9, 2) := by decide +kernel
theorem dMH_verify_324 : decode c_MH_verify 324 = .ok (.aaload, 1) := by decide +kernel
theorem dMH_verify_325 : decode c_MH_verify 325 = .ok (.invokevirtual 183, 3) := by decide +kernel
theorem dMH_verify_328 : decode c_MH_verify 328 = .ok (.iconst 0, 1) := by decide +kernel
theorem dMH_verify_329 : decode c_MH_verify 329 = .ok (.istore 10, 2) := by decide +kernel
theorem dMH_verify_331 : decode c_MH_verify 331 = .ok (.iload 10, 2) := by decide +kernel
theorem dMH_verify_333 : decode c_MH_verify 333 = .ok (.sipush 256, 3) := by decide +kernel
theorem dMH_verify_336 : decode c_MH_verify 336 = .ok (.if_icmp .ge 44, 3) := by decide +kernel
theorem dMH_verify_339 : decode c_MH_verify 339 = .ok (.aload_n 0, 1) := by decide +kernel
theorem dMH_verify_340 : decode c_MH_verify 340 = .ok (.getfield 33, 3) := by decide +kernel
theorem dMH_verify_343 : decode c_MH_verify 343 = .ok (.iload 9, 2) := by decide +kernel
theorem dMH_verify_345 : decode c_MH_verify 345 = .ok (.aaload, 1) := by decide +kernel
theorem dMH_verify_346 : decode c_MH_verify 346 = .ok (.iload 10, 2) := by decide +kernel
theorem dMH_verify_348 : decode c_MH_verify 348 = .ok (.aload_n 2, 1) := by decide +kernel
theorem dMH_verify_349 : decode c_MH_verify 349 = .ok (.sipush 256, 3) := by decide +kernel
theorem dMH_verify_352 : decode c_MH_verify 352 = .ok (.sipush 2560, 3) := by decide +kernel
theorem dMH_verify_355 : decode c_MH_verify 355 = .ok (.iload 9, 2) := by decide +kernel
theorem dMH_verify_357 : decode c_MH_verify 357 = .ok (.imul, 1) := by decide +kernel
theorem dMH_verify_358 : decode c_MH_verify 358 = .ok (.iadd, 1) := by decide +kernel
theorem dMH_verify_359 : decode c_MH_verify 359 = .ok (.bipush 10, 2) := by decide +kernel
theorem dMH_verify_361 : decode c_MH_verify 361 = .ok (.iload 10, 2) := by decide +kernel
theorem dMH_verify_363 : decode c_MH_verify 363 = .ok (.imul, 1) := by decide +kernel
theorem dMH_verify_364 : decode c_MH_verify 364 = .ok (.iadd, 1) := by decide +kernel
theorem dMH_verify_365 : decode c_MH_verify 365 = .ok (.bipush 10, 2) := by decide +kernel
theorem dMH_verify_367 : decode c_MH_verify 367 = .ok (.invokestatic 197, 3) := by decide +kernel
theorem dMH_verify_370 : decode c_MH_verify 370 = .ok (.bipush 13, 2) := by decide +kernel
theorem dMH_verify_372 : decode c_MH_verify 372 = .ok (.ishl, 1) := by decide +kernel
theorem dMH_verify_373 : decode c_MH_verify 373 = .ok (.iastore, 1) := by decide +kernel
theorem dMH_verify_374 : decode c_MH_verify 374 = .ok (.iinc 10 1, 3) := by decide +kernel
theorem dMH_verify_377 : decode c_MH_verify 377 = .ok (.goto (-46), 3) := by decide +kernel
theorem dMH_verify_380 : decode c_MH_verify 380 = .ok (.aload_n 0, 1) := by decide +kernel
theorem dMH_verify_381 : decode c_MH_verify 381 = .ok (.aload_n 0, 1) := by decide +kernel
theorem dMH_verify_382 : decode c_MH_verify 382 = .ok (.getfield 33, 3) := by decide +kernel
theorem dMH_verify_385 : decode c_MH_verify 385 = .ok (.iload 9, 2) := by decide +kernel
theorem dMH_verify_387 : decode c_MH_verify 387 = .ok (.aaload, 1) := by decide +kernel
theorem dMH_verify_388 : decode c_MH_verify 388 = .ok (.aload_n 0, 1) := by decide +kernel
theorem dMH_verify_389 : decode c_MH_verify 389 = .ok (.getfield 55, 3) := by decide +kernel
theorem dMH_verify_392 : decode c_MH_verify 392 = .ok (.invokevirtual 214, 3) := by decide +kernel
theorem dMH_verify_395 : decode c_MH_verify 395 = .ok (.iconst 0, 1) := by decide +kernel
theorem dMH_verify_396 : decode c_MH_verify 396 = .ok (.istore 10, 2) := by decide +kernel
theorem dMH_verify_398 : decode c_MH_verify 398 = .ok (.iload 10, 2) := by decide +kernel
theorem dMH_verify_400 : decode c_MH_verify 400 = .ok (.sipush 256, 3) := by decide +kernel
theorem dMH_verify_403 : decode c_MH_verify 403 = .ok (.if_icmp .ge 39, 3) := by decide +kernel
theorem dMH_verify_406 : decode c_MH_verify 406 = .ok (.aload_n 0, 1) := by decide +kernel
theorem dMH_verify_407 : decode c_MH_verify 407 = .ok (.getfield 45, 3) := by decide +kernel
theorem dMH_verify_410 : decode c_MH_verify 410 = .ok (.iload 9, 2) := by decide +kernel
theorem dMH_verify_412 : decode c_MH_verify 412 = .ok (.aaload, 1) := by decide +kernel
theorem dMH_verify_413 : decode c_MH_verify 413 = .ok (.iload 10, 2) := by decide +kernel
theorem dMH_verify_415 : decode c_MH_verify 415 = .ok (.aload_n 0, 1) := by decide +kernel
theorem dMH_verify_416 : decode c_MH_verify 416 = .ok (.getfield 45, 3) := by decide +kernel
theorem dMH_verify_419 : decode c_MH_verify 419 = .ok (.iload 9, 2) := by decide +kernel
theorem dMH_verify_421 : decode c_MH_verify 421 = .ok (.aaload, 1) := by decide +kernel
theorem dMH_verify_422 : decode c_MH_verify 422 = .ok (.iload 10, 2) := by decide +kernel
theorem dMH_verify_424 : decode c_MH_verify 424 = .ok (.iaload, 1) := by decide +kernel
theorem dMH_verify_425 : decode c_MH_verify 425 = .ok (.aload_n 0, 1) := by decide +kernel
theorem dMH_verify_426 : decode c_MH_verify 426 = .ok (.getfield 55, 3) := by decide +kernel
theorem dMH_verify_429 : decode c_MH_verify 429 = .ok (.iload 10, 2) := by decide +kernel
theorem dMH_verify_431 : decode c_MH_verify 431 = .ok (.iaload, 1) := by decide +kernel
theorem dMH_verify_432 : decode c_MH_verify 432 = .ok (.invokestatic 201, 3) := by decide +kernel
theorem dMH_verify_435 : decode c_MH_verify 435 = .ok (.iastore, 1) := by decide +kernel
theorem dMH_verify_436 : decode c_MH_verify 436 = .ok (.iinc 10 1, 3) := by decide +kernel
theorem dMH_verify_439 : decode c_MH_verify 439 = .ok (.goto (-41), 3) := by decide +kernel
theorem dMH_verify_442 : decode c_MH_verify 442 = .ok (.iinc 9 1, 3) := by decide +kernel
theorem dMH_verify_445 : decode c_MH_verify 445 = .ok (.goto (-139), 3) := by decide +kernel
theorem dMH_verify_448 : decode c_MH_verify 448 = .ok (.aload_n 0, 1) := by decide +kernel
theorem dMH_verify_449 : decode c_MH_verify 449 = .ok (.iconst 1, 1) := by decide +kernel
theorem dMH_verify_450 : decode c_MH_verify 450 = .ok (.aload_n 0, 1) := by decide +kernel
theorem dMH_verify_451 : decode c_MH_verify 451 = .ok (.getfield 81, 3) := by decide +kernel
theorem dMH_verify_454 : decode c_MH_verify 454 = .ok (.invokevirtual 236, 3) := by decide +kernel
theorem dMH_verify_457 : decode c_MH_verify 457 = .ok (.iconst 0, 1) := by decide +kernel
theorem dMH_verify_458 : decode c_MH_verify 458 = .ok (.istore 9, 2) := by decide +kernel
theorem dMH_verify_460 : decode c_MH_verify 460 = .ok (.iload 9, 2) := by decide +kernel
theorem dMH_verify_462 : decode c_MH_verify 462 = .ok (.aload_n 0, 1) := by decide +kernel
theorem dMH_verify_463 : decode c_MH_verify 463 = .ok (.getfield 132, 3) := by decide +kernel
theorem dMH_verify_466 : decode c_MH_verify 466 = .ok (.if_icmp .ge 28, 3) := by decide +kernel
theorem dMH_verify_469 : decode c_MH_verify 469 = .ok (.aload_n 0, 1) := by decide +kernel
theorem dMH_verify_470 : decode c_MH_verify 470 = .ok (.getfield 81, 3) := by decide +kernel
theorem dMH_verify_473 : decode c_MH_verify 473 = .ok (.iload 9, 2) := by decide +kernel
theorem dMH_verify_475 : decode c_MH_verify 475 = .ok (.baload, 1) := by decide +kernel
theorem dMH_verify_476 : decode c_MH_verify 476 = .ok (.aload_n 0, 1) := by decide +kernel
theorem dMH_verify_477 : decode c_MH_verify 477 = .ok (.getfield 78, 3) := by decide +kernel
theorem dMH_verify_480 : decode c_MH_verify 480 = .ok (.iload 9, 2) := by decide +kernel
theorem dMH_verify_482 : decode c_MH_verify 482 = .ok (.baload, 1) := by decide +kernel
theorem dMH_verify_483 : decode c_MH_verify 483 = .ok (.if_icmp .eq 5, 3) := by decide +kernel
theorem dMH_verify_486 : decode c_MH_verify 486 = .ok (.iconst 0, 1) := by decide +kernel
theorem dMH_verify_487 : decode c_MH_verify 487 = .ok (.ireturn, 1) := by decide +kernel
theorem dMH_verify_488 : decode c_MH_verify 488 = .ok (.iinc 9 1, 3) := by decide +kernel
theorem dMH_verify_491 : decode c_MH_verify 491 = .ok (.goto (-31), 3) := by decide +kernel
theorem dMH_verify_494 : decode c_MH_verify 494 = .ok (.iconst 1, 1) := by decide +kernel
theorem dMH_verify_495 : decode c_MH_verify 495 = .ok (.ireturn, 1) := by decide +kernel
def M_MH_as_0 (k : Nat) : Prop := k = 225 ∨ (0 : Nat) = 1
noncomputable def F_MH_as_0 (s : Sto) : Sto := bnd (sI s 225 23 (nI 0)) fun s21 => bnd ((s21.1 225 23).toNatClampNeg) fun z21 => bnd (sI s21 225 24 (nI 4)) fun s22 => bnd ((s22.1 225 23).toNatClampNeg) fun z22 => bnd (sI s22 225 25 (nI 4)) fun s23 => bnd ((s23.1 225 23).toNatClampNeg) fun z23 => bnd (sI s23 225 26 (nI 2)) fun s24 => bnd ((s24.1 225 23).toNatClampNeg) fun z24 => bnd (sI s24 225 27 (nI 131072)) fun s25 => bnd ((s25.1 225 23).toNatClampNeg) fun z25 => bnd (sI s25 225 28 (nI 95232)) fun s26 => bnd ((s26.1 225 26).toNatClampNeg) fun z26 => bnd ((s26.1 225 23).toNatClampNeg) fun z27 => bnd (sI s26 225 29 (nI 78)) fun s27 => bnd ((s27.1 225 23).toNatClampNeg) fun z28 => bnd (sI s27 225 30 (nI 32)) fun s28 => s28
set_option maxHeartbeats 8000000 in
set_option maxRecDepth 100000 in
theorem N_MH_as_0 (l : Launch) (g : Gd) (sz : Nat) (T : TyN) (s : Sto) (pl : va_W) (hO : okn g T s pl) (hU : inj T) (h0 : Nat) (k_h0 : T h0 = some 225)  : Met l y_MH_as w_MH_as ({ frames := 0, cells := 0, slots := 0, locals := 0 } : Room) (va_Pc [.ref h0, .int (nI 0)] (pr (en g) g.1 vcl sz ([] ++ pl))) (va_Qv (fun (u : (Sto) × va_W) => (u.1 = F_MH_as_0 s ∧ frm (M_MH_as_0) s u.1 ∧ (∃ x : Nat, u.1.1 225 23 = nI x ∧ x = 0) ∧ (∃ x : Nat, u.1.1 225 24 = nI x ∧ x = 4) ∧ (∃ x : Nat, u.1.1 225 25 = nI x ∧ x = 4) ∧ (∃ x : Nat, u.1.1 225 26 = nI x ∧ x = 2) ∧ (∃ x : Nat, u.1.1 225 27 = nI x ∧ x = 131072) ∧ (∃ x : Nat, u.1.1 225 28 = nI x ∧ x = 95232) ∧ (∃ x : Nat, u.1.1 225 29 = nI x ∧ x = 78) ∧ (∃ x : Nat, u.1.1 225 30 = nI x ∧ x = 32) ∧ True) ∧ okn g T u.1 u.2) (po g.1 vcl (va_A ([] ++ pl) sz) (fun (u : (Sto) × va_W) => [] ++ u.2)) (va_A ([] ++ pl) sz)) 0 0 (va_A ([] ++ pl) sz) := by
  refine mc_entry (cc := c_MH_as) (maxL := 2) (ret := none) (by decide) rfl (Nat.le_of_ble_eq_true rfl) ?_
  intro p e s0 m args below meth c ls F hr hlk hnm hsz hP hD hE hA hl
  obtain ⟨hx, hb, hml, hown, hts⟩ := id F
  have hK := hE.1
  generalize va_A ([] ++ pl) sz = A at hD hE hA ⊢
  have hS : va_S A s0.heap s0.heap [] := va_S.rf
  have hl : lv_has ls 2 [(0, .ref h0), (1, .int (nI 0))] := hl
  have hR : F_MH_as_0 s = F_MH_as_0 s := rfl
  have hF : frm (M_MH_as_0) s s := frm_rf
  refine lv_aload_n hx hb dMH_as_0 rfl (lv_at hl 0 rfl) ?_
  refine lv_iload_n hx hb dMH_as_1 rfl (lv_at hl 1 rfl) ?_
  refine nw_put (C := "LatticeKeysModel$Hands") (TT := T_MH) (N := 31) hx hb hts (wg_ft i_MH) ty_MH k_MH n_MH hown hK hO hU k_h0 (kn := 225) (ci := 12) (fl := [(3, 172), (3, 181), (3, 226), (3, 291), (3, 299), (3, 308), (3, 317), (3, 326), (3, 334), (3, 342), (3, 350), (3, 359), (3, 368), (3, 369), (3, 370), (3, 371), (3, 372), (3, 373), (3, 374), (3, 375), (3, 376), (3, 377), (3, 378), (0, 0), (0, 0), (0, 0), (0, 0), (0, 0), (0, 0), (0, 0), (0, 0)]) rfl hP hD hS rfl 23 (by decide) (hts _ (wg_t kw_1455)) (fun _ h9 => h9) rfl (by decide +kernel) rfl dMH_as_2 (fun s21 pl H locs es21 hO hP hD hS => ?_)
  replace hR := bnd_step hR es21
  have hF := frm_sI hF es21 (by unfold M_MH_as_0; omega)
  have hf21 : s21.1 225 23 = nI 0 := fc_eq es21
  refine lv_aload_n hx hb dMH_as_5 rfl (lv_at hl 0 rfl) ?_
  refine va_gets hx hb (hE.2.1 23 _ rfl).1 hS hown (hts _ (wg_t kw_1706)) (fun _ h9 => h9) dMH_as_6 ?_
  refine lv_aload_n hx hb dMH_as_9 rfl (lv_at hl 0 rfl) ?_
  refine nw_get (C := "LatticeKeysModel$Hands") (TT := T_MH) (N := 31) hx hb hts (wg_ft i_MH) hown hK hO k_h0 (kn := 225) (ci := 12) (fl := [(3, 172), (3, 181), (3, 226), (3, 291), (3, 299), (3, 308), (3, 317), (3, 326), (3, 334), (3, 342), (3, 350), (3, 359), (3, 368), (3, 369), (3, 370), (3, 371), (3, 372), (3, 373), (3, 374), (3, 375), (3, 376), (3, 377), (3, 378), (0, 0), (0, 0), (0, 0), (0, 0), (0, 0), (0, 0), (0, 0), (0, 0)]) rfl hP rfl 23 (by decide) (hts _ (wg_t kw_1455)) (fun _ h9 => h9) (cd := (0, 0)) rfl dMH_as_10 (fun v21 hv21 => ?_)
  obtain rfl := (show v21 = .int (s21.1 225 23) from hv21)
  obtain ⟨z21, ez21, hz21, hz22⟩ := cl_of (b := 2147483648) hf21 (by omega) (by decide)
  replace hR := bnd_step hR ez21
  refine mi_as hz21 ?_
  subst hz22
  refine va_ti (v := .int (nI 4)) hx hb (hE.2.1 23 _ rfl).2 hS (vp_in_nI (by decide) (by decide)) (by decide +kernel) dMH_as_13 ?_
  refine nw_put (C := "LatticeKeysModel$Hands") (TT := T_MH) (N := 31) hx hb hts (wg_ft i_MH) ty_MH k_MH n_MH hown hK hO hU k_h0 (kn := 225) (ci := 12) (fl := [(3, 172), (3, 181), (3, 226), (3, 291), (3, 299), (3, 308), (3, 317), (3, 326), (3, 334), (3, 342), (3, 350), (3, 359), (3, 368), (3, 369), (3, 370), (3, 371), (3, 372), (3, 373), (3, 374), (3, 375), (3, 376), (3, 377), (3, 378), (0, 0), (0, 0), (0, 0), (0, 0), (0, 0), (0, 0), (0, 0), (0, 0)]) rfl hP hD hS rfl 24 (by decide) (hts _ (wg_t kw_1456)) (fun _ h9 => h9) rfl (by decide +kernel) rfl dMH_as_14 (fun s22 pl H locs es22 hO hP hD hS => ?_)
  replace hR := bnd_step hR es22
  have hF := frm_sI hF es22 (by unfold M_MH_as_0; omega)
  have hf22 : s22.1 225 23 = nI 0 := fc_ne hf21 es22 (by omega)
  have hf23 : s22.1 225 24 = nI 4 := fc_eq es22
  refine lv_aload_n hx hb dMH_as_17 rfl (lv_at hl 0 rfl) ?_
  refine va_gets hx hb (hE.2.1 24 _ rfl).1 hS hown (hts _ (wg_t kw_1708)) (fun _ h9 => h9) dMH_as_18 ?_
  refine lv_aload_n hx hb dMH_as_21 rfl (lv_at hl 0 rfl) ?_
  refine nw_get (C := "LatticeKeysModel$Hands") (TT := T_MH) (N := 31) hx hb hts (wg_ft i_MH) hown hK hO k_h0 (kn := 225) (ci := 12) (fl := [(3, 172), (3, 181), (3, 226), (3, 291), (3, 299), (3, 308), (3, 317), (3, 326), (3, 334), (3, 342), (3, 350), (3, 359), (3, 368), (3, 369), (3, 370), (3, 371), (3, 372), (3, 373), (3, 374), (3, 375), (3, 376), (3, 377), (3, 378), (0, 0), (0, 0), (0, 0), (0, 0), (0, 0), (0, 0), (0, 0), (0, 0)]) rfl hP rfl 23 (by decide) (hts _ (wg_t kw_1455)) (fun _ h9 => h9) (cd := (0, 0)) rfl dMH_as_22 (fun v22 hv22 => ?_)
  obtain rfl := (show v22 = .int (s22.1 225 23) from hv22)
  obtain ⟨z22, ez22, hz23, hz24⟩ := cl_of (b := 2147483648) hf22 (by omega) (by decide)
  replace hR := bnd_step hR ez22
  refine mi_as hz23 ?_
  subst hz24
  refine va_ti (v := .int (nI 4)) hx hb (hE.2.1 24 _ rfl).2 hS (vp_in_nI (by decide) (by decide)) (by decide +kernel) dMH_as_25 ?_
  refine nw_put (C := "LatticeKeysModel$Hands") (TT := T_MH) (N := 31) hx hb hts (wg_ft i_MH) ty_MH k_MH n_MH hown hK hO hU k_h0 (kn := 225) (ci := 12) (fl := [(3, 172), (3, 181), (3, 226), (3, 291), (3, 299), (3, 308), (3, 317), (3, 326), (3, 334), (3, 342), (3, 350), (3, 359), (3, 368), (3, 369), (3, 370), (3, 371), (3, 372), (3, 373), (3, 374), (3, 375), (3, 376), (3, 377), (3, 378), (0, 0), (0, 0), (0, 0), (0, 0), (0, 0), (0, 0), (0, 0), (0, 0)]) rfl hP hD hS rfl 25 (by decide) (hts _ (wg_t kw_1457)) (fun _ h9 => h9) rfl (by decide +kernel) rfl dMH_as_26 (fun s23 pl H locs es23 hO hP hD hS => ?_)
  replace hR := bnd_step hR es23
  have hF := frm_sI hF es23 (by unfold M_MH_as_0; omega)
  have hf24 : s23.1 225 23 = nI 0 := fc_ne hf22 es23 (by omega)
  have hf25 : s23.1 225 24 = nI 4 := fc_ne hf23 es23 (by omega)
  have hf26 : s23.1 225 25 = nI 4 := fc_eq es23
  refine lv_aload_n hx hb dMH_as_29 rfl (lv_at hl 0 rfl) ?_
  refine va_gets hx hb (hE.2.1 25 _ rfl).1 hS hown (hts _ (wg_t kw_1710)) (fun _ h9 => h9) dMH_as_30 ?_
  refine lv_aload_n hx hb dMH_as_33 rfl (lv_at hl 0 rfl) ?_
  refine nw_get (C := "LatticeKeysModel$Hands") (TT := T_MH) (N := 31) hx hb hts (wg_ft i_MH) hown hK hO k_h0 (kn := 225) (ci := 12) (fl := [(3, 172), (3, 181), (3, 226), (3, 291), (3, 299), (3, 308), (3, 317), (3, 326), (3, 334), (3, 342), (3, 350), (3, 359), (3, 368), (3, 369), (3, 370), (3, 371), (3, 372), (3, 373), (3, 374), (3, 375), (3, 376), (3, 377), (3, 378), (0, 0), (0, 0), (0, 0), (0, 0), (0, 0), (0, 0), (0, 0), (0, 0)]) rfl hP rfl 23 (by decide) (hts _ (wg_t kw_1455)) (fun _ h9 => h9) (cd := (0, 0)) rfl dMH_as_34 (fun v23 hv23 => ?_)
  obtain rfl := (show v23 = .int (s23.1 225 23) from hv23)
  obtain ⟨z23, ez23, hz25, hz26⟩ := cl_of (b := 2147483648) hf24 (by omega) (by decide)
  replace hR := bnd_step hR ez23
  refine mi_as hz25 ?_
  subst hz26
  refine va_ti (v := .int (nI 2)) hx hb (hE.2.1 25 _ rfl).2 hS (vp_in_nI (by decide) (by decide)) (by decide +kernel) dMH_as_37 ?_
  refine nw_put (C := "LatticeKeysModel$Hands") (TT := T_MH) (N := 31) hx hb hts (wg_ft i_MH) ty_MH k_MH n_MH hown hK hO hU k_h0 (kn := 225) (ci := 12) (fl := [(3, 172), (3, 181), (3, 226), (3, 291), (3, 299), (3, 308), (3, 317), (3, 326), (3, 334), (3, 342), (3, 350), (3, 359), (3, 368), (3, 369), (3, 370), (3, 371), (3, 372), (3, 373), (3, 374), (3, 375), (3, 376), (3, 377), (3, 378), (0, 0), (0, 0), (0, 0), (0, 0), (0, 0), (0, 0), (0, 0), (0, 0)]) rfl hP hD hS rfl 26 (by decide) (hts _ (wg_t kw_1458)) (fun _ h9 => h9) rfl (by decide +kernel) rfl dMH_as_38 (fun s24 pl H locs es24 hO hP hD hS => ?_)
  replace hR := bnd_step hR es24
  have hF := frm_sI hF es24 (by unfold M_MH_as_0; omega)
  have hf27 : s24.1 225 23 = nI 0 := fc_ne hf24 es24 (by omega)
  have hf28 : s24.1 225 24 = nI 4 := fc_ne hf25 es24 (by omega)
  have hf29 : s24.1 225 25 = nI 4 := fc_ne hf26 es24 (by omega)
  have hf30 : s24.1 225 26 = nI 2 := fc_eq es24
  refine lv_aload_n hx hb dMH_as_41 rfl (lv_at hl 0 rfl) ?_
  refine lv_aload_n hx hb dMH_as_42 rfl (lv_at hl 0 rfl) ?_
  refine nw_get (C := "LatticeKeysModel$Hands") (TT := T_MH) (N := 31) hx hb hts (wg_ft i_MH) hown hK hO k_h0 (kn := 225) (ci := 12) (fl := [(3, 172), (3, 181), (3, 226), (3, 291), (3, 299), (3, 308), (3, 317), (3, 326), (3, 334), (3, 342), (3, 350), (3, 359), (3, 368), (3, 369), (3, 370), (3, 371), (3, 372), (3, 373), (3, 374), (3, 375), (3, 376), (3, 377), (3, 378), (0, 0), (0, 0), (0, 0), (0, 0), (0, 0), (0, 0), (0, 0), (0, 0)]) rfl hP rfl 23 (by decide) (hts _ (wg_t kw_1455)) (fun _ h9 => h9) (cd := (0, 0)) rfl dMH_as_43 (fun v24 hv24 => ?_)
  obtain rfl := (show v24 = .int (s24.1 225 23) from hv24)
  obtain ⟨z24, ez24, hz27, hz28⟩ := cl_of (b := 2147483648) hf27 (by omega) (by decide)
  replace hR := bnd_step hR ez24
  refine mi_as hz27 ?_
  subst hz28
  refine lv_if_ne (tgt := 54) hx hb dMH_as_46 (by decide) (fun h21 => absurd h21 (by decide)) (fun h21 => ?_)
  refine lv_ldc (v := 131072) hx hb hown (hts _ (wg_t kw_1712)) dMH_as_49 ?_
  refine mi_as (show (131072 : Int32) = nI 131072 by decide) ?_
  refine lv_goto (tgt := 56) hx hb dMH_as_51 (by decide) ?_
  refine nw_put (C := "LatticeKeysModel$Hands") (TT := T_MH) (N := 31) hx hb hts (wg_ft i_MH) ty_MH k_MH n_MH hown hK hO hU k_h0 (kn := 225) (ci := 12) (fl := [(3, 172), (3, 181), (3, 226), (3, 291), (3, 299), (3, 308), (3, 317), (3, 326), (3, 334), (3, 342), (3, 350), (3, 359), (3, 368), (3, 369), (3, 370), (3, 371), (3, 372), (3, 373), (3, 374), (3, 375), (3, 376), (3, 377), (3, 378), (0, 0), (0, 0), (0, 0), (0, 0), (0, 0), (0, 0), (0, 0), (0, 0)]) rfl hP hD hS rfl 27 (by decide) (hts _ (wg_t kw_1459)) (fun _ h9 => h9) rfl (by decide +kernel) rfl dMH_as_56 (fun s25 pl H locs es25 hO hP hD hS => ?_)
  replace hR := bnd_step hR es25
  have hF := frm_sI hF es25 (by unfold M_MH_as_0; omega)
  have hf31 : s25.1 225 23 = nI 0 := fc_ne hf27 es25 (by omega)
  have hf32 : s25.1 225 24 = nI 4 := fc_ne hf28 es25 (by omega)
  have hf33 : s25.1 225 25 = nI 4 := fc_ne hf29 es25 (by omega)
  have hf34 : s25.1 225 26 = nI 2 := fc_ne hf30 es25 (by omega)
  have hf35 : s25.1 225 27 = nI 131072 := fc_eq es25
  refine lv_aload_n hx hb dMH_as_59 rfl (lv_at hl 0 rfl) ?_
  refine lv_aload_n hx hb dMH_as_60 rfl (lv_at hl 0 rfl) ?_
  refine nw_get (C := "LatticeKeysModel$Hands") (TT := T_MH) (N := 31) hx hb hts (wg_ft i_MH) hown hK hO k_h0 (kn := 225) (ci := 12) (fl := [(3, 172), (3, 181), (3, 226), (3, 291), (3, 299), (3, 308), (3, 317), (3, 326), (3, 334), (3, 342), (3, 350), (3, 359), (3, 368), (3, 369), (3, 370), (3, 371), (3, 372), (3, 373), (3, 374), (3, 375), (3, 376), (3, 377), (3, 378), (0, 0), (0, 0), (0, 0), (0, 0), (0, 0), (0, 0), (0, 0), (0, 0)]) rfl hP rfl 23 (by decide) (hts _ (wg_t kw_1455)) (fun _ h9 => h9) (cd := (0, 0)) rfl dMH_as_61 (fun v25 hv25 => ?_)
  obtain rfl := (show v25 = .int (s25.1 225 23) from hv25)
  obtain ⟨z25, ez25, hz29, hz30⟩ := cl_of (b := 2147483648) hf31 (by omega) (by decide)
  replace hR := bnd_step hR ez25
  refine mi_as hz29 ?_
  subst hz30
  refine lv_if_ne (tgt := 72) hx hb dMH_as_64 (by decide) (fun h22 => absurd h22 (by decide)) (fun h22 => ?_)
  refine lv_ldc (v := 95232) hx hb hown (hts _ (wg_t kw_1714)) dMH_as_67 ?_
  refine mi_as (show (95232 : Int32) = nI 95232 by decide) ?_
  refine lv_goto (tgt := 74) hx hb dMH_as_69 (by decide) ?_
  refine nw_put (C := "LatticeKeysModel$Hands") (TT := T_MH) (N := 31) hx hb hts (wg_ft i_MH) ty_MH k_MH n_MH hown hK hO hU k_h0 (kn := 225) (ci := 12) (fl := [(3, 172), (3, 181), (3, 226), (3, 291), (3, 299), (3, 308), (3, 317), (3, 326), (3, 334), (3, 342), (3, 350), (3, 359), (3, 368), (3, 369), (3, 370), (3, 371), (3, 372), (3, 373), (3, 374), (3, 375), (3, 376), (3, 377), (3, 378), (0, 0), (0, 0), (0, 0), (0, 0), (0, 0), (0, 0), (0, 0), (0, 0)]) rfl hP hD hS rfl 28 (by decide) (hts _ (wg_t kw_1460)) (fun _ h9 => h9) rfl (by decide +kernel) rfl dMH_as_74 (fun s26 pl H locs es26 hO hP hD hS => ?_)
  replace hR := bnd_step hR es26
  have hF := frm_sI hF es26 (by unfold M_MH_as_0; omega)
  have hf36 : s26.1 225 23 = nI 0 := fc_ne hf31 es26 (by omega)
  have hf37 : s26.1 225 24 = nI 4 := fc_ne hf32 es26 (by omega)
  have hf38 : s26.1 225 25 = nI 4 := fc_ne hf33 es26 (by omega)
  have hf39 : s26.1 225 26 = nI 2 := fc_ne hf34 es26 (by omega)
  have hf40 : s26.1 225 27 = nI 131072 := fc_ne hf35 es26 (by omega)
  have hf41 : s26.1 225 28 = nI 95232 := fc_eq es26
  refine lv_aload_n hx hb dMH_as_77 rfl (lv_at hl 0 rfl) ?_
  refine lv_aload_n hx hb dMH_as_78 rfl (lv_at hl 0 rfl) ?_
  refine nw_get (C := "LatticeKeysModel$Hands") (TT := T_MH) (N := 31) hx hb hts (wg_ft i_MH) hown hK hO k_h0 (kn := 225) (ci := 12) (fl := [(3, 172), (3, 181), (3, 226), (3, 291), (3, 299), (3, 308), (3, 317), (3, 326), (3, 334), (3, 342), (3, 350), (3, 359), (3, 368), (3, 369), (3, 370), (3, 371), (3, 372), (3, 373), (3, 374), (3, 375), (3, 376), (3, 377), (3, 378), (0, 0), (0, 0), (0, 0), (0, 0), (0, 0), (0, 0), (0, 0), (0, 0)]) rfl hP rfl 26 (by decide) (hts _ (wg_t kw_1458)) (fun _ h9 => h9) (cd := (0, 0)) rfl dMH_as_79 (fun v26 hv26 => ?_)
  obtain rfl := (show v26 = .int (s26.1 225 26) from hv26)
  obtain ⟨z26, ez26, hz31, hz32⟩ := cl_of (b := 2147483648) hf39 (by omega) (by decide)
  replace hR := bnd_step hR ez26
  refine mi_as hz31 ?_
  subst hz32
  refine va_gets hx hb (hE.2.1 26 _ rfl).1 hS hown (hts _ (wg_t kw_1716)) (fun _ h9 => h9) dMH_as_82 ?_
  refine lv_aload_n hx hb dMH_as_85 rfl (lv_at hl 0 rfl) ?_
  refine nw_get (C := "LatticeKeysModel$Hands") (TT := T_MH) (N := 31) hx hb hts (wg_ft i_MH) hown hK hO k_h0 (kn := 225) (ci := 12) (fl := [(3, 172), (3, 181), (3, 226), (3, 291), (3, 299), (3, 308), (3, 317), (3, 326), (3, 334), (3, 342), (3, 350), (3, 359), (3, 368), (3, 369), (3, 370), (3, 371), (3, 372), (3, 373), (3, 374), (3, 375), (3, 376), (3, 377), (3, 378), (0, 0), (0, 0), (0, 0), (0, 0), (0, 0), (0, 0), (0, 0), (0, 0)]) rfl hP rfl 23 (by decide) (hts _ (wg_t kw_1455)) (fun _ h9 => h9) (cd := (0, 0)) rfl dMH_as_86 (fun v27 hv27 => ?_)
  obtain rfl := (show v27 = .int (s26.1 225 23) from hv27)
  obtain ⟨z27, ez27, hz33, hz34⟩ := cl_of (b := 2147483648) hf36 (by omega) (by decide)
  replace hR := bnd_step hR ez27
  refine mi_as hz33 ?_
  subst hz34
  refine va_ti (v := .int (nI 39)) hx hb (hE.2.1 26 _ rfl).2 hS (vp_in_nI (by decide) (by decide)) (by decide +kernel) dMH_as_89 ?_
  refine mi_imul hx hb dMH_as_90 ?_
  refine mi_as (show nI (2 * 39) = nI 78 from rfl) ?_
  refine nw_put (C := "LatticeKeysModel$Hands") (TT := T_MH) (N := 31) hx hb hts (wg_ft i_MH) ty_MH k_MH n_MH hown hK hO hU k_h0 (kn := 225) (ci := 12) (fl := [(3, 172), (3, 181), (3, 226), (3, 291), (3, 299), (3, 308), (3, 317), (3, 326), (3, 334), (3, 342), (3, 350), (3, 359), (3, 368), (3, 369), (3, 370), (3, 371), (3, 372), (3, 373), (3, 374), (3, 375), (3, 376), (3, 377), (3, 378), (0, 0), (0, 0), (0, 0), (0, 0), (0, 0), (0, 0), (0, 0), (0, 0)]) rfl hP hD hS rfl 29 (by decide) (hts _ (wg_t kw_1461)) (fun _ h9 => h9) rfl (by decide +kernel) rfl dMH_as_91 (fun s27 pl H locs es27 hO hP hD hS => ?_)
  replace hR := bnd_step hR es27
  have hF := frm_sI hF es27 (by unfold M_MH_as_0; omega)
  have hf42 : s27.1 225 23 = nI 0 := fc_ne hf36 es27 (by omega)
  have hf43 : s27.1 225 24 = nI 4 := fc_ne hf37 es27 (by omega)
  have hf44 : s27.1 225 25 = nI 4 := fc_ne hf38 es27 (by omega)
  have hf45 : s27.1 225 26 = nI 2 := fc_ne hf39 es27 (by omega)
  have hf46 : s27.1 225 27 = nI 131072 := fc_ne hf40 es27 (by omega)
  have hf47 : s27.1 225 28 = nI 95232 := fc_ne hf41 es27 (by omega)
  have hf48 : s27.1 225 29 = nI 78 := fc_eq es27
  refine lv_aload_n hx hb dMH_as_94 rfl (lv_at hl 0 rfl) ?_
  refine lv_bipush (v := nI 32) hx hb dMH_as_95 (by decide) ?_
  refine lv_bipush (v := nI 16) hx hb dMH_as_97 (by decide) ?_
  refine lv_aload_n hx hb dMH_as_99 rfl (lv_at hl 0 rfl) ?_
  refine nw_get (C := "LatticeKeysModel$Hands") (TT := T_MH) (N := 31) hx hb hts (wg_ft i_MH) hown hK hO k_h0 (kn := 225) (ci := 12) (fl := [(3, 172), (3, 181), (3, 226), (3, 291), (3, 299), (3, 308), (3, 317), (3, 326), (3, 334), (3, 342), (3, 350), (3, 359), (3, 368), (3, 369), (3, 370), (3, 371), (3, 372), (3, 373), (3, 374), (3, 375), (3, 376), (3, 377), (3, 378), (0, 0), (0, 0), (0, 0), (0, 0), (0, 0), (0, 0), (0, 0), (0, 0)]) rfl hP rfl 23 (by decide) (hts _ (wg_t kw_1455)) (fun _ h9 => h9) (cd := (0, 0)) rfl dMH_as_100 (fun v28 hv28 => ?_)
  obtain rfl := (show v28 = .int (s27.1 225 23) from hv28)
  obtain ⟨z28, ez28, hz35, hz36⟩ := cl_of (b := 2147483648) hf42 (by omega) (by decide)
  replace hR := bnd_step hR ez28
  refine mi_as hz35 ?_
  subst hz36
  refine mi_imul hx hb dMH_as_103 ?_
  refine mi_as (show nI (16 * 0) = nI 0 from rfl) ?_
  refine mi_iadd hx hb dMH_as_104 ?_
  refine mi_as (show nI (32 + 0) = nI 32 from rfl) ?_
  refine nw_put (C := "LatticeKeysModel$Hands") (TT := T_MH) (N := 31) hx hb hts (wg_ft i_MH) ty_MH k_MH n_MH hown hK hO hU k_h0 (kn := 225) (ci := 12) (fl := [(3, 172), (3, 181), (3, 226), (3, 291), (3, 299), (3, 308), (3, 317), (3, 326), (3, 334), (3, 342), (3, 350), (3, 359), (3, 368), (3, 369), (3, 370), (3, 371), (3, 372), (3, 373), (3, 374), (3, 375), (3, 376), (3, 377), (3, 378), (0, 0), (0, 0), (0, 0), (0, 0), (0, 0), (0, 0), (0, 0), (0, 0)]) rfl hP hD hS rfl 30 (by decide) (hts _ (wg_t kw_1462)) (fun _ h9 => h9) rfl (by decide +kernel) rfl dMH_as_105 (fun s28 pl H locs es28 hO hP hD hS => ?_)
  replace hR := bnd_step hR es28
  have hF := frm_sI hF es28 (by unfold M_MH_as_0; omega)
  have hf49 : s28.1 225 23 = nI 0 := fc_ne hf42 es28 (by omega)
  have hf50 : s28.1 225 24 = nI 4 := fc_ne hf43 es28 (by omega)
  have hf51 : s28.1 225 25 = nI 4 := fc_ne hf44 es28 (by omega)
  have hf52 : s28.1 225 26 = nI 2 := fc_ne hf45 es28 (by omega)
  have hf53 : s28.1 225 27 = nI 131072 := fc_ne hf46 es28 (by omega)
  have hf54 : s28.1 225 28 = nI 95232 := fc_ne hf47 es28 (by omega)
  have hf55 : s28.1 225 29 = nI 78 := fc_ne hf48 es28 (by omega)
  have hf56 : s28.1 225 30 = nI 32 := fc_eq es28
  exact mp_vret hx hb hr hlk hP hD hS (s28, pl) ⟨⟨hR.symm, hF, ⟨0, hf49, by omega⟩, ⟨4, hf50, by omega⟩, ⟨4, hf51, by omega⟩, ⟨2, hf52, by omega⟩, ⟨131072, hf53, by omega⟩, ⟨95232, hf54, by omega⟩, ⟨78, hf55, by omega⟩, ⟨32, hf56, by omega⟩, trivial⟩, hO⟩ [] rfl rfl rfl (by omega) (by omega) dMH_as_108
def M_MH_as_1 (k : Nat) : Prop := k = 225 ∨ (0 : Nat) = 1
noncomputable def F_MH_as_1 (s : Sto) : Sto := bnd (sI s 225 23 (nI 1)) fun s21 => bnd ((s21.1 225 23).toNatClampNeg) fun z21 => bnd (sI s21 225 24 (nI 6)) fun s22 => bnd ((s22.1 225 23).toNatClampNeg) fun z22 => bnd (sI s22 225 25 (nI 5)) fun s23 => bnd ((s23.1 225 23).toNatClampNeg) fun z23 => bnd (sI s23 225 26 (nI 4)) fun s24 => bnd ((s24.1 225 23).toNatClampNeg) fun z24 => bnd (sI s24 225 27 (nI 524288)) fun s25 => bnd ((s25.1 225 23).toNatClampNeg) fun z25 => bnd (sI s25 225 28 (nI 261888)) fun s26 => bnd ((s26.1 225 26).toNatClampNeg) fun z26 => bnd ((s26.1 225 23).toNatClampNeg) fun z27 => bnd (sI s26 225 29 (nI 196)) fun s27 => bnd ((s27.1 225 23).toNatClampNeg) fun z28 => bnd (sI s27 225 30 (nI 48)) fun s28 => s28
set_option maxHeartbeats 8000000 in
set_option maxRecDepth 100000 in
theorem N_MH_as_1 (l : Launch) (g : Gd) (sz : Nat) (T : TyN) (s : Sto) (pl : va_W) (hO : okn g T s pl) (hU : inj T) (h0 : Nat) (k_h0 : T h0 = some 225)  : Met l y_MH_as w_MH_as ({ frames := 0, cells := 0, slots := 0, locals := 0 } : Room) (va_Pc [.ref h0, .int (nI 1)] (pr (en g) g.1 vcl sz ([] ++ pl))) (va_Qv (fun (u : (Sto) × va_W) => (u.1 = F_MH_as_1 s ∧ frm (M_MH_as_1) s u.1 ∧ (∃ x : Nat, u.1.1 225 23 = nI x ∧ x = 1) ∧ (∃ x : Nat, u.1.1 225 24 = nI x ∧ x = 6) ∧ (∃ x : Nat, u.1.1 225 25 = nI x ∧ x = 5) ∧ (∃ x : Nat, u.1.1 225 26 = nI x ∧ x = 4) ∧ (∃ x : Nat, u.1.1 225 27 = nI x ∧ x = 524288) ∧ (∃ x : Nat, u.1.1 225 28 = nI x ∧ x = 261888) ∧ (∃ x : Nat, u.1.1 225 29 = nI x ∧ x = 196) ∧ (∃ x : Nat, u.1.1 225 30 = nI x ∧ x = 48) ∧ True) ∧ okn g T u.1 u.2) (po g.1 vcl (va_A ([] ++ pl) sz) (fun (u : (Sto) × va_W) => [] ++ u.2)) (va_A ([] ++ pl) sz)) 0 0 (va_A ([] ++ pl) sz) := by
  refine mc_entry (cc := c_MH_as) (maxL := 2) (ret := none) (by decide) rfl (Nat.le_of_ble_eq_true rfl) ?_
  intro p e s0 m args below meth c ls F hr hlk hnm hsz hP hD hE hA hl
  obtain ⟨hx, hb, hml, hown, hts⟩ := id F
  have hK := hE.1
  generalize va_A ([] ++ pl) sz = A at hD hE hA ⊢
  have hS : va_S A s0.heap s0.heap [] := va_S.rf
  have hl : lv_has ls 2 [(0, .ref h0), (1, .int (nI 1))] := hl
  have hR : F_MH_as_1 s = F_MH_as_1 s := rfl
  have hF : frm (M_MH_as_1) s s := frm_rf
  refine lv_aload_n hx hb dMH_as_0 rfl (lv_at hl 0 rfl) ?_
  refine lv_iload_n hx hb dMH_as_1 rfl (lv_at hl 1 rfl) ?_
  refine nw_put (C := "LatticeKeysModel$Hands") (TT := T_MH) (N := 31) hx hb hts (wg_ft i_MH) ty_MH k_MH n_MH hown hK hO hU k_h0 (kn := 225) (ci := 12) (fl := [(3, 172), (3, 181), (3, 226), (3, 291), (3, 299), (3, 308), (3, 317), (3, 326), (3, 334), (3, 342), (3, 350), (3, 359), (3, 368), (3, 369), (3, 370), (3, 371), (3, 372), (3, 373), (3, 374), (3, 375), (3, 376), (3, 377), (3, 378), (0, 0), (0, 0), (0, 0), (0, 0), (0, 0), (0, 0), (0, 0), (0, 0)]) rfl hP hD hS rfl 23 (by decide) (hts _ (wg_t kw_1455)) (fun _ h9 => h9) rfl (by decide +kernel) rfl dMH_as_2 (fun s21 pl H locs es21 hO hP hD hS => ?_)
  replace hR := bnd_step hR es21
  have hF := frm_sI hF es21 (by unfold M_MH_as_1; omega)
  have hf21 : s21.1 225 23 = nI 1 := fc_eq es21
  refine lv_aload_n hx hb dMH_as_5 rfl (lv_at hl 0 rfl) ?_
  refine va_gets hx hb (hE.2.1 23 _ rfl).1 hS hown (hts _ (wg_t kw_1706)) (fun _ h9 => h9) dMH_as_6 ?_
  refine lv_aload_n hx hb dMH_as_9 rfl (lv_at hl 0 rfl) ?_
  refine nw_get (C := "LatticeKeysModel$Hands") (TT := T_MH) (N := 31) hx hb hts (wg_ft i_MH) hown hK hO k_h0 (kn := 225) (ci := 12) (fl := [(3, 172), (3, 181), (3, 226), (3, 291), (3, 299), (3, 308), (3, 317), (3, 326), (3, 334), (3, 342), (3, 350), (3, 359), (3, 368), (3, 369), (3, 370), (3, 371), (3, 372), (3, 373), (3, 374), (3, 375), (3, 376), (3, 377), (3, 378), (0, 0), (0, 0), (0, 0), (0, 0), (0, 0), (0, 0), (0, 0), (0, 0)]) rfl hP rfl 23 (by decide) (hts _ (wg_t kw_1455)) (fun _ h9 => h9) (cd := (0, 0)) rfl dMH_as_10 (fun v21 hv21 => ?_)
  obtain rfl := (show v21 = .int (s21.1 225 23) from hv21)
  obtain ⟨z21, ez21, hz21, hz22⟩ := cl_of (b := 2147483648) hf21 (by omega) (by decide)
  replace hR := bnd_step hR ez21
  refine mi_as hz21 ?_
  subst hz22
  refine va_ti (v := .int (nI 6)) hx hb (hE.2.1 23 _ rfl).2 hS (vp_in_nI (by decide) (by decide)) (by decide +kernel) dMH_as_13 ?_
  refine nw_put (C := "LatticeKeysModel$Hands") (TT := T_MH) (N := 31) hx hb hts (wg_ft i_MH) ty_MH k_MH n_MH hown hK hO hU k_h0 (kn := 225) (ci := 12) (fl := [(3, 172), (3, 181), (3, 226), (3, 291), (3, 299), (3, 308), (3, 317), (3, 326), (3, 334), (3, 342), (3, 350), (3, 359), (3, 368), (3, 369), (3, 370), (3, 371), (3, 372), (3, 373), (3, 374), (3, 375), (3, 376), (3, 377), (3, 378), (0, 0), (0, 0), (0, 0), (0, 0), (0, 0), (0, 0), (0, 0), (0, 0)]) rfl hP hD hS rfl 24 (by decide) (hts _ (wg_t kw_1456)) (fun _ h9 => h9) rfl (by decide +kernel) rfl dMH_as_14 (fun s22 pl H locs es22 hO hP hD hS => ?_)
  replace hR := bnd_step hR es22
  have hF := frm_sI hF es22 (by unfold M_MH_as_1; omega)
  have hf22 : s22.1 225 23 = nI 1 := fc_ne hf21 es22 (by omega)
  have hf23 : s22.1 225 24 = nI 6 := fc_eq es22
  refine lv_aload_n hx hb dMH_as_17 rfl (lv_at hl 0 rfl) ?_
  refine va_gets hx hb (hE.2.1 24 _ rfl).1 hS hown (hts _ (wg_t kw_1708)) (fun _ h9 => h9) dMH_as_18 ?_
  refine lv_aload_n hx hb dMH_as_21 rfl (lv_at hl 0 rfl) ?_
  refine nw_get (C := "LatticeKeysModel$Hands") (TT := T_MH) (N := 31) hx hb hts (wg_ft i_MH) hown hK hO k_h0 (kn := 225) (ci := 12) (fl := [(3, 172), (3, 181), (3, 226), (3, 291), (3, 299), (3, 308), (3, 317), (3, 326), (3, 334), (3, 342), (3, 350), (3, 359), (3, 368), (3, 369), (3, 370), (3, 371), (3, 372), (3, 373), (3, 374), (3, 375), (3, 376), (3, 377), (3, 378), (0, 0), (0, 0), (0, 0), (0, 0), (0, 0), (0, 0), (0, 0), (0, 0)]) rfl hP rfl 23 (by decide) (hts _ (wg_t kw_1455)) (fun _ h9 => h9) (cd := (0, 0)) rfl dMH_as_22 (fun v22 hv22 => ?_)
  obtain rfl := (show v22 = .int (s22.1 225 23) from hv22)
  obtain ⟨z22, ez22, hz23, hz24⟩ := cl_of (b := 2147483648) hf22 (by omega) (by decide)
  replace hR := bnd_step hR ez22
  refine mi_as hz23 ?_
  subst hz24
  refine va_ti (v := .int (nI 5)) hx hb (hE.2.1 24 _ rfl).2 hS (vp_in_nI (by decide) (by decide)) (by decide +kernel) dMH_as_25 ?_
  refine nw_put (C := "LatticeKeysModel$Hands") (TT := T_MH) (N := 31) hx hb hts (wg_ft i_MH) ty_MH k_MH n_MH hown hK hO hU k_h0 (kn := 225) (ci := 12) (fl := [(3, 172), (3, 181), (3, 226), (3, 291), (3, 299), (3, 308), (3, 317), (3, 326), (3, 334), (3, 342), (3, 350), (3, 359), (3, 368), (3, 369), (3, 370), (3, 371), (3, 372), (3, 373), (3, 374), (3, 375), (3, 376), (3, 377), (3, 378), (0, 0), (0, 0), (0, 0), (0, 0), (0, 0), (0, 0), (0, 0), (0, 0)]) rfl hP hD hS rfl 25 (by decide) (hts _ (wg_t kw_1457)) (fun _ h9 => h9) rfl (by decide +kernel) rfl dMH_as_26 (fun s23 pl H locs es23 hO hP hD hS => ?_)
  replace hR := bnd_step hR es23
  have hF := frm_sI hF es23 (by unfold M_MH_as_1; omega)
  have hf24 : s23.1 225 23 = nI 1 := fc_ne hf22 es23 (by omega)
  have hf25 : s23.1 225 24 = nI 6 := fc_ne hf23 es23 (by omega)
  have hf26 : s23.1 225 25 = nI 5 := fc_eq es23
  refine lv_aload_n hx hb dMH_as_29 rfl (lv_at hl 0 rfl) ?_
  refine va_gets hx hb (hE.2.1 25 _ rfl).1 hS hown (hts _ (wg_t kw_1710)) (fun _ h9 => h9) dMH_as_30 ?_
  refine lv_aload_n hx hb dMH_as_33 rfl (lv_at hl 0 rfl) ?_
  refine nw_get (C := "LatticeKeysModel$Hands") (TT := T_MH) (N := 31) hx hb hts (wg_ft i_MH) hown hK hO k_h0 (kn := 225) (ci := 12) (fl := [(3, 172), (3, 181), (3, 226), (3, 291), (3, 299), (3, 308), (3, 317), (3, 326), (3, 334), (3, 342), (3, 350), (3, 359), (3, 368), (3, 369), (3, 370), (3, 371), (3, 372), (3, 373), (3, 374), (3, 375), (3, 376), (3, 377), (3, 378), (0, 0), (0, 0), (0, 0), (0, 0), (0, 0), (0, 0), (0, 0), (0, 0)]) rfl hP rfl 23 (by decide) (hts _ (wg_t kw_1455)) (fun _ h9 => h9) (cd := (0, 0)) rfl dMH_as_34 (fun v23 hv23 => ?_)
  obtain rfl := (show v23 = .int (s23.1 225 23) from hv23)
  obtain ⟨z23, ez23, hz25, hz26⟩ := cl_of (b := 2147483648) hf24 (by omega) (by decide)
  replace hR := bnd_step hR ez23
  refine mi_as hz25 ?_
  subst hz26
  refine va_ti (v := .int (nI 4)) hx hb (hE.2.1 25 _ rfl).2 hS (vp_in_nI (by decide) (by decide)) (by decide +kernel) dMH_as_37 ?_
  refine nw_put (C := "LatticeKeysModel$Hands") (TT := T_MH) (N := 31) hx hb hts (wg_ft i_MH) ty_MH k_MH n_MH hown hK hO hU k_h0 (kn := 225) (ci := 12) (fl := [(3, 172), (3, 181), (3, 226), (3, 291), (3, 299), (3, 308), (3, 317), (3, 326), (3, 334), (3, 342), (3, 350), (3, 359), (3, 368), (3, 369), (3, 370), (3, 371), (3, 372), (3, 373), (3, 374), (3, 375), (3, 376), (3, 377), (3, 378), (0, 0), (0, 0), (0, 0), (0, 0), (0, 0), (0, 0), (0, 0), (0, 0)]) rfl hP hD hS rfl 26 (by decide) (hts _ (wg_t kw_1458)) (fun _ h9 => h9) rfl (by decide +kernel) rfl dMH_as_38 (fun s24 pl H locs es24 hO hP hD hS => ?_)
  replace hR := bnd_step hR es24
  have hF := frm_sI hF es24 (by unfold M_MH_as_1; omega)
  have hf27 : s24.1 225 23 = nI 1 := fc_ne hf24 es24 (by omega)
  have hf28 : s24.1 225 24 = nI 6 := fc_ne hf25 es24 (by omega)
  have hf29 : s24.1 225 25 = nI 5 := fc_ne hf26 es24 (by omega)
  have hf30 : s24.1 225 26 = nI 4 := fc_eq es24
  refine lv_aload_n hx hb dMH_as_41 rfl (lv_at hl 0 rfl) ?_
  refine lv_aload_n hx hb dMH_as_42 rfl (lv_at hl 0 rfl) ?_
  refine nw_get (C := "LatticeKeysModel$Hands") (TT := T_MH) (N := 31) hx hb hts (wg_ft i_MH) hown hK hO k_h0 (kn := 225) (ci := 12) (fl := [(3, 172), (3, 181), (3, 226), (3, 291), (3, 299), (3, 308), (3, 317), (3, 326), (3, 334), (3, 342), (3, 350), (3, 359), (3, 368), (3, 369), (3, 370), (3, 371), (3, 372), (3, 373), (3, 374), (3, 375), (3, 376), (3, 377), (3, 378), (0, 0), (0, 0), (0, 0), (0, 0), (0, 0), (0, 0), (0, 0), (0, 0)]) rfl hP rfl 23 (by decide) (hts _ (wg_t kw_1455)) (fun _ h9 => h9) (cd := (0, 0)) rfl dMH_as_43 (fun v24 hv24 => ?_)
  obtain rfl := (show v24 = .int (s24.1 225 23) from hv24)
  obtain ⟨z24, ez24, hz27, hz28⟩ := cl_of (b := 2147483648) hf27 (by omega) (by decide)
  replace hR := bnd_step hR ez24
  refine mi_as hz27 ?_
  subst hz28
  refine lv_if_ne (tgt := 54) hx hb dMH_as_46 (by decide) (fun h21 => ?_) (fun h21 => absurd h21 (by decide))
  refine lv_ldc (v := 524288) hx hb hown (hts _ (wg_t kw_1713)) dMH_as_54 ?_
  refine mi_as (show (524288 : Int32) = nI 524288 by decide) ?_
  refine nw_put (C := "LatticeKeysModel$Hands") (TT := T_MH) (N := 31) hx hb hts (wg_ft i_MH) ty_MH k_MH n_MH hown hK hO hU k_h0 (kn := 225) (ci := 12) (fl := [(3, 172), (3, 181), (3, 226), (3, 291), (3, 299), (3, 308), (3, 317), (3, 326), (3, 334), (3, 342), (3, 350), (3, 359), (3, 368), (3, 369), (3, 370), (3, 371), (3, 372), (3, 373), (3, 374), (3, 375), (3, 376), (3, 377), (3, 378), (0, 0), (0, 0), (0, 0), (0, 0), (0, 0), (0, 0), (0, 0), (0, 0)]) rfl hP hD hS rfl 27 (by decide) (hts _ (wg_t kw_1459)) (fun _ h9 => h9) rfl (by decide +kernel) rfl dMH_as_56 (fun s25 pl H locs es25 hO hP hD hS => ?_)
  replace hR := bnd_step hR es25
  have hF := frm_sI hF es25 (by unfold M_MH_as_1; omega)
  have hf31 : s25.1 225 23 = nI 1 := fc_ne hf27 es25 (by omega)
  have hf32 : s25.1 225 24 = nI 6 := fc_ne hf28 es25 (by omega)
  have hf33 : s25.1 225 25 = nI 5 := fc_ne hf29 es25 (by omega)
  have hf34 : s25.1 225 26 = nI 4 := fc_ne hf30 es25 (by omega)
  have hf35 : s25.1 225 27 = nI 524288 := fc_eq es25
  refine lv_aload_n hx hb dMH_as_59 rfl (lv_at hl 0 rfl) ?_
  refine lv_aload_n hx hb dMH_as_60 rfl (lv_at hl 0 rfl) ?_
  refine nw_get (C := "LatticeKeysModel$Hands") (TT := T_MH) (N := 31) hx hb hts (wg_ft i_MH) hown hK hO k_h0 (kn := 225) (ci := 12) (fl := [(3, 172), (3, 181), (3, 226), (3, 291), (3, 299), (3, 308), (3, 317), (3, 326), (3, 334), (3, 342), (3, 350), (3, 359), (3, 368), (3, 369), (3, 370), (3, 371), (3, 372), (3, 373), (3, 374), (3, 375), (3, 376), (3, 377), (3, 378), (0, 0), (0, 0), (0, 0), (0, 0), (0, 0), (0, 0), (0, 0), (0, 0)]) rfl hP rfl 23 (by decide) (hts _ (wg_t kw_1455)) (fun _ h9 => h9) (cd := (0, 0)) rfl dMH_as_61 (fun v25 hv25 => ?_)
  obtain rfl := (show v25 = .int (s25.1 225 23) from hv25)
  obtain ⟨z25, ez25, hz29, hz30⟩ := cl_of (b := 2147483648) hf31 (by omega) (by decide)
  replace hR := bnd_step hR ez25
  refine mi_as hz29 ?_
  subst hz30
  refine lv_if_ne (tgt := 72) hx hb dMH_as_64 (by decide) (fun h22 => ?_) (fun h22 => absurd h22 (by decide))
  refine lv_ldc (v := 261888) hx hb hown (hts _ (wg_t kw_1715)) dMH_as_72 ?_
  refine mi_as (show (261888 : Int32) = nI 261888 by decide) ?_
  refine nw_put (C := "LatticeKeysModel$Hands") (TT := T_MH) (N := 31) hx hb hts (wg_ft i_MH) ty_MH k_MH n_MH hown hK hO hU k_h0 (kn := 225) (ci := 12) (fl := [(3, 172), (3, 181), (3, 226), (3, 291), (3, 299), (3, 308), (3, 317), (3, 326), (3, 334), (3, 342), (3, 350), (3, 359), (3, 368), (3, 369), (3, 370), (3, 371), (3, 372), (3, 373), (3, 374), (3, 375), (3, 376), (3, 377), (3, 378), (0, 0), (0, 0), (0, 0), (0, 0), (0, 0), (0, 0), (0, 0), (0, 0)]) rfl hP hD hS rfl 28 (by decide) (hts _ (wg_t kw_1460)) (fun _ h9 => h9) rfl (by decide +kernel) rfl dMH_as_74 (fun s26 pl H locs es26 hO hP hD hS => ?_)
  replace hR := bnd_step hR es26
  have hF := frm_sI hF es26 (by unfold M_MH_as_1; omega)
  have hf36 : s26.1 225 23 = nI 1 := fc_ne hf31 es26 (by omega)
  have hf37 : s26.1 225 24 = nI 6 := fc_ne hf32 es26 (by omega)
  have hf38 : s26.1 225 25 = nI 5 := fc_ne hf33 es26 (by omega)
  have hf39 : s26.1 225 26 = nI 4 := fc_ne hf34 es26 (by omega)
  have hf40 : s26.1 225 27 = nI 524288 := fc_ne hf35 es26 (by omega)
  have hf41 : s26.1 225 28 = nI 261888 := fc_eq es26
  refine lv_aload_n hx hb dMH_as_77 rfl (lv_at hl 0 rfl) ?_
  refine lv_aload_n hx hb dMH_as_78 rfl (lv_at hl 0 rfl) ?_
  refine nw_get (C := "LatticeKeysModel$Hands") (TT := T_MH) (N := 31) hx hb hts (wg_ft i_MH) hown hK hO k_h0 (kn := 225) (ci := 12) (fl := [(3, 172), (3, 181), (3, 226), (3, 291), (3, 299), (3, 308), (3, 317), (3, 326), (3, 334), (3, 342), (3, 350), (3, 359), (3, 368), (3, 369), (3, 370), (3, 371), (3, 372), (3, 373), (3, 374), (3, 375), (3, 376), (3, 377), (3, 378), (0, 0), (0, 0), (0, 0), (0, 0), (0, 0), (0, 0), (0, 0), (0, 0)]) rfl hP rfl 26 (by decide) (hts _ (wg_t kw_1458)) (fun _ h9 => h9) (cd := (0, 0)) rfl dMH_as_79 (fun v26 hv26 => ?_)
  obtain rfl := (show v26 = .int (s26.1 225 26) from hv26)
  obtain ⟨z26, ez26, hz31, hz32⟩ := cl_of (b := 2147483648) hf39 (by omega) (by decide)
  replace hR := bnd_step hR ez26
  refine mi_as hz31 ?_
  subst hz32
  refine va_gets hx hb (hE.2.1 26 _ rfl).1 hS hown (hts _ (wg_t kw_1716)) (fun _ h9 => h9) dMH_as_82 ?_
  refine lv_aload_n hx hb dMH_as_85 rfl (lv_at hl 0 rfl) ?_
  refine nw_get (C := "LatticeKeysModel$Hands") (TT := T_MH) (N := 31) hx hb hts (wg_ft i_MH) hown hK hO k_h0 (kn := 225) (ci := 12) (fl := [(3, 172), (3, 181), (3, 226), (3, 291), (3, 299), (3, 308), (3, 317), (3, 326), (3, 334), (3, 342), (3, 350), (3, 359), (3, 368), (3, 369), (3, 370), (3, 371), (3, 372), (3, 373), (3, 374), (3, 375), (3, 376), (3, 377), (3, 378), (0, 0), (0, 0), (0, 0), (0, 0), (0, 0), (0, 0), (0, 0), (0, 0)]) rfl hP rfl 23 (by decide) (hts _ (wg_t kw_1455)) (fun _ h9 => h9) (cd := (0, 0)) rfl dMH_as_86 (fun v27 hv27 => ?_)
  obtain rfl := (show v27 = .int (s26.1 225 23) from hv27)
  obtain ⟨z27, ez27, hz33, hz34⟩ := cl_of (b := 2147483648) hf36 (by omega) (by decide)
  replace hR := bnd_step hR ez27
  refine mi_as hz33 ?_
  subst hz34
  refine va_ti (v := .int (nI 49)) hx hb (hE.2.1 26 _ rfl).2 hS (vp_in_nI (by decide) (by decide)) (by decide +kernel) dMH_as_89 ?_
  refine mi_imul hx hb dMH_as_90 ?_
  refine mi_as (show nI (4 * 49) = nI 196 from rfl) ?_
  refine nw_put (C := "LatticeKeysModel$Hands") (TT := T_MH) (N := 31) hx hb hts (wg_ft i_MH) ty_MH k_MH n_MH hown hK hO hU k_h0 (kn := 225) (ci := 12) (fl := [(3, 172), (3, 181), (3, 226), (3, 291), (3, 299), (3, 308), (3, 317), (3, 326), (3, 334), (3, 342), (3, 350), (3, 359), (3, 368), (3, 369), (3, 370), (3, 371), (3, 372), (3, 373), (3, 374), (3, 375), (3, 376), (3, 377), (3, 378), (0, 0), (0, 0), (0, 0), (0, 0), (0, 0), (0, 0), (0, 0), (0, 0)]) rfl hP hD hS rfl 29 (by decide) (hts _ (wg_t kw_1461)) (fun _ h9 => h9) rfl (by decide +kernel) rfl dMH_as_91 (fun s27 pl H locs es27 hO hP hD hS => ?_)
  replace hR := bnd_step hR es27
  have hF := frm_sI hF es27 (by unfold M_MH_as_1; omega)
  have hf42 : s27.1 225 23 = nI 1 := fc_ne hf36 es27 (by omega)
  have hf43 : s27.1 225 24 = nI 6 := fc_ne hf37 es27 (by omega)
  have hf44 : s27.1 225 25 = nI 5 := fc_ne hf38 es27 (by omega)
  have hf45 : s27.1 225 26 = nI 4 := fc_ne hf39 es27 (by omega)
  have hf46 : s27.1 225 27 = nI 524288 := fc_ne hf40 es27 (by omega)
  have hf47 : s27.1 225 28 = nI 261888 := fc_ne hf41 es27 (by omega)
  have hf48 : s27.1 225 29 = nI 196 := fc_eq es27
  refine lv_aload_n hx hb dMH_as_94 rfl (lv_at hl 0 rfl) ?_
  refine lv_bipush (v := nI 32) hx hb dMH_as_95 (by decide) ?_
  refine lv_bipush (v := nI 16) hx hb dMH_as_97 (by decide) ?_
  refine lv_aload_n hx hb dMH_as_99 rfl (lv_at hl 0 rfl) ?_
  refine nw_get (C := "LatticeKeysModel$Hands") (TT := T_MH) (N := 31) hx hb hts (wg_ft i_MH) hown hK hO k_h0 (kn := 225) (ci := 12) (fl := [(3, 172), (3, 181), (3, 226), (3, 291), (3, 299), (3, 308), (3, 317), (3, 326), (3, 334), (3, 342), (3, 350), (3, 359), (3, 368), (3, 369), (3, 370), (3, 371), (3, 372), (3, 373), (3, 374), (3, 375), (3, 376), (3, 377), (3, 378), (0, 0), (0, 0), (0, 0), (0, 0), (0, 0), (0, 0), (0, 0), (0, 0)]) rfl hP rfl 23 (by decide) (hts _ (wg_t kw_1455)) (fun _ h9 => h9) (cd := (0, 0)) rfl dMH_as_100 (fun v28 hv28 => ?_)
  obtain rfl := (show v28 = .int (s27.1 225 23) from hv28)
  obtain ⟨z28, ez28, hz35, hz36⟩ := cl_of (b := 2147483648) hf42 (by omega) (by decide)
  replace hR := bnd_step hR ez28
  refine mi_as hz35 ?_
  subst hz36
  refine mi_imul hx hb dMH_as_103 ?_
  refine mi_as (show nI (16 * 1) = nI 16 from rfl) ?_
  refine mi_iadd hx hb dMH_as_104 ?_
  refine mi_as (show nI (32 + 16) = nI 48 from rfl) ?_
  refine nw_put (C := "LatticeKeysModel$Hands") (TT := T_MH) (N := 31) hx hb hts (wg_ft i_MH) ty_MH k_MH n_MH hown hK hO hU k_h0 (kn := 225) (ci := 12) (fl := [(3, 172), (3, 181), (3, 226), (3, 291), (3, 299), (3, 308), (3, 317), (3, 326), (3, 334), (3, 342), (3, 350), (3, 359), (3, 368), (3, 369), (3, 370), (3, 371), (3, 372), (3, 373), (3, 374), (3, 375), (3, 376), (3, 377), (3, 378), (0, 0), (0, 0), (0, 0), (0, 0), (0, 0), (0, 0), (0, 0), (0, 0)]) rfl hP hD hS rfl 30 (by decide) (hts _ (wg_t kw_1462)) (fun _ h9 => h9) rfl (by decide +kernel) rfl dMH_as_105 (fun s28 pl H locs es28 hO hP hD hS => ?_)
  replace hR := bnd_step hR es28
  have hF := frm_sI hF es28 (by unfold M_MH_as_1; omega)
  have hf49 : s28.1 225 23 = nI 1 := fc_ne hf42 es28 (by omega)
  have hf50 : s28.1 225 24 = nI 6 := fc_ne hf43 es28 (by omega)
  have hf51 : s28.1 225 25 = nI 5 := fc_ne hf44 es28 (by omega)
  have hf52 : s28.1 225 26 = nI 4 := fc_ne hf45 es28 (by omega)
  have hf53 : s28.1 225 27 = nI 524288 := fc_ne hf46 es28 (by omega)
  have hf54 : s28.1 225 28 = nI 261888 := fc_ne hf47 es28 (by omega)
  have hf55 : s28.1 225 29 = nI 196 := fc_ne hf48 es28 (by omega)
  have hf56 : s28.1 225 30 = nI 48 := fc_eq es28
  exact mp_vret hx hb hr hlk hP hD hS (s28, pl) ⟨⟨hR.symm, hF, ⟨1, hf49, by omega⟩, ⟨6, hf50, by omega⟩, ⟨5, hf51, by omega⟩, ⟨4, hf52, by omega⟩, ⟨524288, hf53, by omega⟩, ⟨261888, hf54, by omega⟩, ⟨196, hf55, by omega⟩, ⟨48, hf56, by omega⟩, trivial⟩, hO⟩ [] rfl rfl rfl (by omega) (by omega) dMH_as_108
def M_MH_as_2 (k : Nat) : Prop := k = 225 ∨ (0 : Nat) = 1
noncomputable def F_MH_as_2 (s : Sto) : Sto := bnd (sI s 225 23 (nI 2)) fun s21 => bnd ((s21.1 225 23).toNatClampNeg) fun z21 => bnd (sI s21 225 24 (nI 8)) fun s22 => bnd ((s22.1 225 23).toNatClampNeg) fun z22 => bnd (sI s22 225 25 (nI 7)) fun s23 => bnd ((s23.1 225 23).toNatClampNeg) fun z23 => bnd (sI s23 225 26 (nI 2)) fun s24 => bnd ((s24.1 225 23).toNatClampNeg) fun z24 => bnd (sI s24 225 27 (nI 524288)) fun s25 => bnd ((s25.1 225 23).toNatClampNeg) fun z25 => bnd (sI s25 225 28 (nI 261888)) fun s26 => bnd ((s26.1 225 26).toNatClampNeg) fun z26 => bnd ((s26.1 225 23).toNatClampNeg) fun z27 => bnd (sI s26 225 29 (nI 120)) fun s27 => bnd ((s27.1 225 23).toNatClampNeg) fun z28 => bnd (sI s27 225 30 (nI 64)) fun s28 => s28
set_option maxHeartbeats 8000000 in
set_option maxRecDepth 100000 in
theorem N_MH_as_2 (l : Launch) (g : Gd) (sz : Nat) (T : TyN) (s : Sto) (pl : va_W) (hO : okn g T s pl) (hU : inj T) (h0 : Nat) (k_h0 : T h0 = some 225)  : Met l y_MH_as w_MH_as ({ frames := 0, cells := 0, slots := 0, locals := 0 } : Room) (va_Pc [.ref h0, .int (nI 2)] (pr (en g) g.1 vcl sz ([] ++ pl))) (va_Qv (fun (u : (Sto) × va_W) => (u.1 = F_MH_as_2 s ∧ frm (M_MH_as_2) s u.1 ∧ (∃ x : Nat, u.1.1 225 23 = nI x ∧ x = 2) ∧ (∃ x : Nat, u.1.1 225 24 = nI x ∧ x = 8) ∧ (∃ x : Nat, u.1.1 225 25 = nI x ∧ x = 7) ∧ (∃ x : Nat, u.1.1 225 26 = nI x ∧ x = 2) ∧ (∃ x : Nat, u.1.1 225 27 = nI x ∧ x = 524288) ∧ (∃ x : Nat, u.1.1 225 28 = nI x ∧ x = 261888) ∧ (∃ x : Nat, u.1.1 225 29 = nI x ∧ x = 120) ∧ (∃ x : Nat, u.1.1 225 30 = nI x ∧ x = 64) ∧ True) ∧ okn g T u.1 u.2) (po g.1 vcl (va_A ([] ++ pl) sz) (fun (u : (Sto) × va_W) => [] ++ u.2)) (va_A ([] ++ pl) sz)) 0 0 (va_A ([] ++ pl) sz) := by
  refine mc_entry (cc := c_MH_as) (maxL := 2) (ret := none) (by decide) rfl (Nat.le_of_ble_eq_true rfl) ?_
  intro p e s0 m args below meth c ls F hr hlk hnm hsz hP hD hE hA hl
  obtain ⟨hx, hb, hml, hown, hts⟩ := id F
  have hK := hE.1
  generalize va_A ([] ++ pl) sz = A at hD hE hA ⊢
  have hS : va_S A s0.heap s0.heap [] := va_S.rf
  have hl : lv_has ls 2 [(0, .ref h0), (1, .int (nI 2))] := hl
  have hR : F_MH_as_2 s = F_MH_as_2 s := rfl
  have hF : frm (M_MH_as_2) s s := frm_rf
  refine lv_aload_n hx hb dMH_as_0 rfl (lv_at hl 0 rfl) ?_
  refine lv_iload_n hx hb dMH_as_1 rfl (lv_at hl 1 rfl) ?_
  refine nw_put (C := "LatticeKeysModel$Hands") (TT := T_MH) (N := 31) hx hb hts (wg_ft i_MH) ty_MH k_MH n_MH hown hK hO hU k_h0 (kn := 225) (ci := 12) (fl := [(3, 172), (3, 181), (3, 226), (3, 291), (3, 299), (3, 308), (3, 317), (3, 326), (3, 334), (3, 342), (3, 350), (3, 359), (3, 368), (3, 369), (3, 370), (3, 371), (3, 372), (3, 373), (3, 374), (3, 375), (3, 376), (3, 377), (3, 378), (0, 0), (0, 0), (0, 0), (0, 0), (0, 0), (0, 0), (0, 0), (0, 0)]) rfl hP hD hS rfl 23 (by decide) (hts _ (wg_t kw_1455)) (fun _ h9 => h9) rfl (by decide +kernel) rfl dMH_as_2 (fun s21 pl H locs es21 hO hP hD hS => ?_)
  replace hR := bnd_step hR es21
  have hF := frm_sI hF es21 (by unfold M_MH_as_2; omega)
  have hf21 : s21.1 225 23 = nI 2 := fc_eq es21
  refine lv_aload_n hx hb dMH_as_5 rfl (lv_at hl 0 rfl) ?_
  refine va_gets hx hb (hE.2.1 23 _ rfl).1 hS hown (hts _ (wg_t kw_1706)) (fun _ h9 => h9) dMH_as_6 ?_
  refine lv_aload_n hx hb dMH_as_9 rfl (lv_at hl 0 rfl) ?_
  refine nw_get (C := "LatticeKeysModel$Hands") (TT := T_MH) (N := 31) hx hb hts (wg_ft i_MH) hown hK hO k_h0 (kn := 225) (ci := 12) (fl := [(3, 172), (3, 181), (3, 226), (3, 291), (3, 299), (3, 308), (3, 317), (3, 326), (3, 334), (3, 342), (3, 350), (3, 359), (3, 368), (3, 369), (3, 370), (3, 371), (3, 372), (3, 373), (3, 374), (3, 375), (3, 376), (3, 377), (3, 378), (0, 0), (0, 0), (0, 0), (0, 0), (0, 0), (0, 0), (0, 0), (0, 0)]) rfl hP rfl 23 (by decide) (hts _ (wg_t kw_1455)) (fun _ h9 => h9) (cd := (0, 0)) rfl dMH_as_10 (fun v21 hv21 => ?_)
  obtain rfl := (show v21 = .int (s21.1 225 23) from hv21)
  obtain ⟨z21, ez21, hz21, hz22⟩ := cl_of (b := 2147483648) hf21 (by omega) (by decide)
  replace hR := bnd_step hR ez21
  refine mi_as hz21 ?_
  subst hz22
  refine va_ti (v := .int (nI 8)) hx hb (hE.2.1 23 _ rfl).2 hS (vp_in_nI (by decide) (by decide)) (by decide +kernel) dMH_as_13 ?_
  refine nw_put (C := "LatticeKeysModel$Hands") (TT := T_MH) (N := 31) hx hb hts (wg_ft i_MH) ty_MH k_MH n_MH hown hK hO hU k_h0 (kn := 225) (ci := 12) (fl := [(3, 172), (3, 181), (3, 226), (3, 291), (3, 299), (3, 308), (3, 317), (3, 326), (3, 334), (3, 342), (3, 350), (3, 359), (3, 368), (3, 369), (3, 370), (3, 371), (3, 372), (3, 373), (3, 374), (3, 375), (3, 376), (3, 377), (3, 378), (0, 0), (0, 0), (0, 0), (0, 0), (0, 0), (0, 0), (0, 0), (0, 0)]) rfl hP hD hS rfl 24 (by decide) (hts _ (wg_t kw_1456)) (fun _ h9 => h9) rfl (by decide +kernel) rfl dMH_as_14 (fun s22 pl H locs es22 hO hP hD hS => ?_)
  replace hR := bnd_step hR es22
  have hF := frm_sI hF es22 (by unfold M_MH_as_2; omega)
  have hf22 : s22.1 225 23 = nI 2 := fc_ne hf21 es22 (by omega)
  have hf23 : s22.1 225 24 = nI 8 := fc_eq es22
  refine lv_aload_n hx hb dMH_as_17 rfl (lv_at hl 0 rfl) ?_
  refine va_gets hx hb (hE.2.1 24 _ rfl).1 hS hown (hts _ (wg_t kw_1708)) (fun _ h9 => h9) dMH_as_18 ?_
  refine lv_aload_n hx hb dMH_as_21 rfl (lv_at hl 0 rfl) ?_
  refine nw_get (C := "LatticeKeysModel$Hands") (TT := T_MH) (N := 31) hx hb hts (wg_ft i_MH) hown hK hO k_h0 (kn := 225) (ci := 12) (fl := [(3, 172), (3, 181), (3, 226), (3, 291), (3, 299), (3, 308), (3, 317), (3, 326), (3, 334), (3, 342), (3, 350), (3, 359), (3, 368), (3, 369), (3, 370), (3, 371), (3, 372), (3, 373), (3, 374), (3, 375), (3, 376), (3, 377), (3, 378), (0, 0), (0, 0), (0, 0), (0, 0), (0, 0), (0, 0), (0, 0), (0, 0)]) rfl hP rfl 23 (by decide) (hts _ (wg_t kw_1455)) (fun _ h9 => h9) (cd := (0, 0)) rfl dMH_as_22 (fun v22 hv22 => ?_)
  obtain rfl := (show v22 = .int (s22.1 225 23) from hv22)
  obtain ⟨z22, ez22, hz23, hz24⟩ := cl_of (b := 2147483648) hf22 (by omega) (by decide)
  replace hR := bnd_step hR ez22
  refine mi_as hz23 ?_
  subst hz24
  refine va_ti (v := .int (nI 7)) hx hb (hE.2.1 24 _ rfl).2 hS (vp_in_nI (by decide) (by decide)) (by decide +kernel) dMH_as_25 ?_
  refine nw_put (C := "LatticeKeysModel$Hands") (TT := T_MH) (N := 31) hx hb hts (wg_ft i_MH) ty_MH k_MH n_MH hown hK hO hU k_h0 (kn := 225) (ci := 12) (fl := [(3, 172), (3, 181), (3, 226), (3, 291), (3, 299), (3, 308), (3, 317), (3, 326), (3, 334), (3, 342), (3, 350), (3, 359), (3, 368), (3, 369), (3, 370), (3, 371), (3, 372), (3, 373), (3, 374), (3, 375), (3, 376), (3, 377), (3, 378), (0, 0), (0, 0), (0, 0), (0, 0), (0, 0), (0, 0), (0, 0), (0, 0)]) rfl hP hD hS rfl 25 (by decide) (hts _ (wg_t kw_1457)) (fun _ h9 => h9) rfl (by decide +kernel) rfl dMH_as_26 (fun s23 pl H locs es23 hO hP hD hS => ?_)
  replace hR := bnd_step hR es23
  have hF := frm_sI hF es23 (by unfold M_MH_as_2; omega)
  have hf24 : s23.1 225 23 = nI 2 := fc_ne hf22 es23 (by omega)
  have hf25 : s23.1 225 24 = nI 8 := fc_ne hf23 es23 (by omega)
  have hf26 : s23.1 225 25 = nI 7 := fc_eq es23
  refine lv_aload_n hx hb dMH_as_29 rfl (lv_at hl 0 rfl) ?_
  refine va_gets hx hb (hE.2.1 25 _ rfl).1 hS hown (hts _ (wg_t kw_1710)) (fun _ h9 => h9) dMH_as_30 ?_
  refine lv_aload_n hx hb dMH_as_33 rfl (lv_at hl 0 rfl) ?_
  refine nw_get (C := "LatticeKeysModel$Hands") (TT := T_MH) (N := 31) hx hb hts (wg_ft i_MH) hown hK hO k_h0 (kn := 225) (ci := 12) (fl := [(3, 172), (3, 181), (3, 226), (3, 291), (3, 299), (3, 308), (3, 317), (3, 326), (3, 334), (3, 342), (3, 350), (3, 359), (3, 368), (3, 369), (3, 370), (3, 371), (3, 372), (3, 373), (3, 374), (3, 375), (3, 376), (3, 377), (3, 378), (0, 0), (0, 0), (0, 0), (0, 0), (0, 0), (0, 0), (0, 0), (0, 0)]) rfl hP rfl 23 (by decide) (hts _ (wg_t kw_1455)) (fun _ h9 => h9) (cd := (0, 0)) rfl dMH_as_34 (fun v23 hv23 => ?_)
  obtain rfl := (show v23 = .int (s23.1 225 23) from hv23)
  obtain ⟨z23, ez23, hz25, hz26⟩ := cl_of (b := 2147483648) hf24 (by omega) (by decide)
  replace hR := bnd_step hR ez23
  refine mi_as hz25 ?_
  subst hz26
  refine va_ti (v := .int (nI 2)) hx hb (hE.2.1 25 _ rfl).2 hS (vp_in_nI (by decide) (by decide)) (by decide +kernel) dMH_as_37 ?_
  refine nw_put (C := "LatticeKeysModel$Hands") (TT := T_MH) (N := 31) hx hb hts (wg_ft i_MH) ty_MH k_MH n_MH hown hK hO hU k_h0 (kn := 225) (ci := 12) (fl := [(3, 172), (3, 181), (3, 226), (3, 291), (3, 299), (3, 308), (3, 317), (3, 326), (3, 334), (3, 342), (3, 350), (3, 359), (3, 368), (3, 369), (3, 370), (3, 371), (3, 372), (3, 373), (3, 374), (3, 375), (3, 376), (3, 377), (3, 378), (0, 0), (0, 0), (0, 0), (0, 0), (0, 0), (0, 0), (0, 0), (0, 0)]) rfl hP hD hS rfl 26 (by decide) (hts _ (wg_t kw_1458)) (fun _ h9 => h9) rfl (by decide +kernel) rfl dMH_as_38 (fun s24 pl H locs es24 hO hP hD hS => ?_)
  replace hR := bnd_step hR es24
  have hF := frm_sI hF es24 (by unfold M_MH_as_2; omega)
  have hf27 : s24.1 225 23 = nI 2 := fc_ne hf24 es24 (by omega)
  have hf28 : s24.1 225 24 = nI 8 := fc_ne hf25 es24 (by omega)
  have hf29 : s24.1 225 25 = nI 7 := fc_ne hf26 es24 (by omega)
  have hf30 : s24.1 225 26 = nI 2 := fc_eq es24
  refine lv_aload_n hx hb dMH_as_41 rfl (lv_at hl 0 rfl) ?_
  refine lv_aload_n hx hb dMH_as_42 rfl (lv_at hl 0 rfl) ?_
  refine nw_get (C := "LatticeKeysModel$Hands") (TT := T_MH) (N := 31) hx hb hts (wg_ft i_MH) hown hK hO k_h0 (kn := 225) (ci := 12) (fl := [(3, 172), (3, 181), (3, 226), (3, 291), (3, 299), (3, 308), (3, 317), (3, 326), (3, 334), (3, 342), (3, 350), (3, 359), (3, 368), (3, 369), (3, 370), (3, 371), (3, 372), (3, 373), (3, 374), (3, 375), (3, 376), (3, 377), (3, 378), (0, 0), (0, 0), (0, 0), (0, 0), (0, 0), (0, 0), (0, 0), (0, 0)]) rfl hP rfl 23 (by decide) (hts _ (wg_t kw_1455)) (fun _ h9 => h9) (cd := (0, 0)) rfl dMH_as_43 (fun v24 hv24 => ?_)
  obtain rfl := (show v24 = .int (s24.1 225 23) from hv24)
  obtain ⟨z24, ez24, hz27, hz28⟩ := cl_of (b := 2147483648) hf27 (by omega) (by decide)
  replace hR := bnd_step hR ez24
  refine mi_as hz27 ?_
  subst hz28
  refine lv_if_ne (tgt := 54) hx hb dMH_as_46 (by decide) (fun h21 => ?_) (fun h21 => absurd h21 (by decide))
  refine lv_ldc (v := 524288) hx hb hown (hts _ (wg_t kw_1713)) dMH_as_54 ?_
  refine mi_as (show (524288 : Int32) = nI 524288 by decide) ?_
  refine nw_put (C := "LatticeKeysModel$Hands") (TT := T_MH) (N := 31) hx hb hts (wg_ft i_MH) ty_MH k_MH n_MH hown hK hO hU k_h0 (kn := 225) (ci := 12) (fl := [(3, 172), (3, 181), (3, 226), (3, 291), (3, 299), (3, 308), (3, 317), (3, 326), (3, 334), (3, 342), (3, 350), (3, 359), (3, 368), (3, 369), (3, 370), (3, 371), (3, 372), (3, 373), (3, 374), (3, 375), (3, 376), (3, 377), (3, 378), (0, 0), (0, 0), (0, 0), (0, 0), (0, 0), (0, 0), (0, 0), (0, 0)]) rfl hP hD hS rfl 27 (by decide) (hts _ (wg_t kw_1459)) (fun _ h9 => h9) rfl (by decide +kernel) rfl dMH_as_56 (fun s25 pl H locs es25 hO hP hD hS => ?_)
  replace hR := bnd_step hR es25
  have hF := frm_sI hF es25 (by unfold M_MH_as_2; omega)
  have hf31 : s25.1 225 23 = nI 2 := fc_ne hf27 es25 (by omega)
  have hf32 : s25.1 225 24 = nI 8 := fc_ne hf28 es25 (by omega)
  have hf33 : s25.1 225 25 = nI 7 := fc_ne hf29 es25 (by omega)
  have hf34 : s25.1 225 26 = nI 2 := fc_ne hf30 es25 (by omega)
  have hf35 : s25.1 225 27 = nI 524288 := fc_eq es25
  refine lv_aload_n hx hb dMH_as_59 rfl (lv_at hl 0 rfl) ?_
  refine lv_aload_n hx hb dMH_as_60 rfl (lv_at hl 0 rfl) ?_
  refine nw_get (C := "LatticeKeysModel$Hands") (TT := T_MH) (N := 31) hx hb hts (wg_ft i_MH) hown hK hO k_h0 (kn := 225) (ci := 12) (fl := [(3, 172), (3, 181), (3, 226), (3, 291), (3, 299), (3, 308), (3, 317), (3, 326), (3, 334), (3, 342), (3, 350), (3, 359), (3, 368), (3, 369), (3, 370), (3, 371), (3, 372), (3, 373), (3, 374), (3, 375), (3, 376), (3, 377), (3, 378), (0, 0), (0, 0), (0, 0), (0, 0), (0, 0), (0, 0), (0, 0), (0, 0)]) rfl hP rfl 23 (by decide) (hts _ (wg_t kw_1455)) (fun _ h9 => h9) (cd := (0, 0)) rfl dMH_as_61 (fun v25 hv25 => ?_)
  obtain rfl := (show v25 = .int (s25.1 225 23) from hv25)
  obtain ⟨z25, ez25, hz29, hz30⟩ := cl_of (b := 2147483648) hf31 (by omega) (by decide)
  replace hR := bnd_step hR ez25
  refine mi_as hz29 ?_
  subst hz30
  refine lv_if_ne (tgt := 72) hx hb dMH_as_64 (by decide) (fun h22 => ?_) (fun h22 => absurd h22 (by decide))
  refine lv_ldc (v := 261888) hx hb hown (hts _ (wg_t kw_1715)) dMH_as_72 ?_
  refine mi_as (show (261888 : Int32) = nI 261888 by decide) ?_
  refine nw_put (C := "LatticeKeysModel$Hands") (TT := T_MH) (N := 31) hx hb hts (wg_ft i_MH) ty_MH k_MH n_MH hown hK hO hU k_h0 (kn := 225) (ci := 12) (fl := [(3, 172), (3, 181), (3, 226), (3, 291), (3, 299), (3, 308), (3, 317), (3, 326), (3, 334), (3, 342), (3, 350), (3, 359), (3, 368), (3, 369), (3, 370), (3, 371), (3, 372), (3, 373), (3, 374), (3, 375), (3, 376), (3, 377), (3, 378), (0, 0), (0, 0), (0, 0), (0, 0), (0, 0), (0, 0), (0, 0), (0, 0)]) rfl hP hD hS rfl 28 (by decide) (hts _ (wg_t kw_1460)) (fun _ h9 => h9) rfl (by decide +kernel) rfl dMH_as_74 (fun s26 pl H locs es26 hO hP hD hS => ?_)
  replace hR := bnd_step hR es26
  have hF := frm_sI hF es26 (by unfold M_MH_as_2; omega)
  have hf36 : s26.1 225 23 = nI 2 := fc_ne hf31 es26 (by omega)
  have hf37 : s26.1 225 24 = nI 8 := fc_ne hf32 es26 (by omega)
  have hf38 : s26.1 225 25 = nI 7 := fc_ne hf33 es26 (by omega)
  have hf39 : s26.1 225 26 = nI 2 := fc_ne hf34 es26 (by omega)
  have hf40 : s26.1 225 27 = nI 524288 := fc_ne hf35 es26 (by omega)
  have hf41 : s26.1 225 28 = nI 261888 := fc_eq es26
  refine lv_aload_n hx hb dMH_as_77 rfl (lv_at hl 0 rfl) ?_
  refine lv_aload_n hx hb dMH_as_78 rfl (lv_at hl 0 rfl) ?_
  refine nw_get (C := "LatticeKeysModel$Hands") (TT := T_MH) (N := 31) hx hb hts (wg_ft i_MH) hown hK hO k_h0 (kn := 225) (ci := 12) (fl := [(3, 172), (3, 181), (3, 226), (3, 291), (3, 299), (3, 308), (3, 317), (3, 326), (3, 334), (3, 342), (3, 350), (3, 359), (3, 368), (3, 369), (3, 370), (3, 371), (3, 372), (3, 373), (3, 374), (3, 375), (3, 376), (3, 377), (3, 378), (0, 0), (0, 0), (0, 0), (0, 0), (0, 0), (0, 0), (0, 0), (0, 0)]) rfl hP rfl 26 (by decide) (hts _ (wg_t kw_1458)) (fun _ h9 => h9) (cd := (0, 0)) rfl dMH_as_79 (fun v26 hv26 => ?_)
  obtain rfl := (show v26 = .int (s26.1 225 26) from hv26)
  obtain ⟨z26, ez26, hz31, hz32⟩ := cl_of (b := 2147483648) hf39 (by omega) (by decide)
  replace hR := bnd_step hR ez26
  refine mi_as hz31 ?_
  subst hz32
  refine va_gets hx hb (hE.2.1 26 _ rfl).1 hS hown (hts _ (wg_t kw_1716)) (fun _ h9 => h9) dMH_as_82 ?_
  refine lv_aload_n hx hb dMH_as_85 rfl (lv_at hl 0 rfl) ?_
  refine nw_get (C := "LatticeKeysModel$Hands") (TT := T_MH) (N := 31) hx hb hts (wg_ft i_MH) hown hK hO k_h0 (kn := 225) (ci := 12) (fl := [(3, 172), (3, 181), (3, 226), (3, 291), (3, 299), (3, 308), (3, 317), (3, 326), (3, 334), (3, 342), (3, 350), (3, 359), (3, 368), (3, 369), (3, 370), (3, 371), (3, 372), (3, 373), (3, 374), (3, 375), (3, 376), (3, 377), (3, 378), (0, 0), (0, 0), (0, 0), (0, 0), (0, 0), (0, 0), (0, 0), (0, 0)]) rfl hP rfl 23 (by decide) (hts _ (wg_t kw_1455)) (fun _ h9 => h9) (cd := (0, 0)) rfl dMH_as_86 (fun v27 hv27 => ?_)
  obtain rfl := (show v27 = .int (s26.1 225 23) from hv27)
  obtain ⟨z27, ez27, hz33, hz34⟩ := cl_of (b := 2147483648) hf36 (by omega) (by decide)
  replace hR := bnd_step hR ez27
  refine mi_as hz33 ?_
  subst hz34
  refine va_ti (v := .int (nI 60)) hx hb (hE.2.1 26 _ rfl).2 hS (vp_in_nI (by decide) (by decide)) (by decide +kernel) dMH_as_89 ?_
  refine mi_imul hx hb dMH_as_90 ?_
  refine mi_as (show nI (2 * 60) = nI 120 from rfl) ?_
  refine nw_put (C := "LatticeKeysModel$Hands") (TT := T_MH) (N := 31) hx hb hts (wg_ft i_MH) ty_MH k_MH n_MH hown hK hO hU k_h0 (kn := 225) (ci := 12) (fl := [(3, 172), (3, 181), (3, 226), (3, 291), (3, 299), (3, 308), (3, 317), (3, 326), (3, 334), (3, 342), (3, 350), (3, 359), (3, 368), (3, 369), (3, 370), (3, 371), (3, 372), (3, 373), (3, 374), (3, 375), (3, 376), (3, 377), (3, 378), (0, 0), (0, 0), (0, 0), (0, 0), (0, 0), (0, 0), (0, 0), (0, 0)]) rfl hP hD hS rfl 29 (by decide) (hts _ (wg_t kw_1461)) (fun _ h9 => h9) rfl (by decide +kernel) rfl dMH_as_91 (fun s27 pl H locs es27 hO hP hD hS => ?_)
  replace hR := bnd_step hR es27
  have hF := frm_sI hF es27 (by unfold M_MH_as_2; omega)
  have hf42 : s27.1 225 23 = nI 2 := fc_ne hf36 es27 (by omega)
  have hf43 : s27.1 225 24 = nI 8 := fc_ne hf37 es27 (by omega)
  have hf44 : s27.1 225 25 = nI 7 := fc_ne hf38 es27 (by omega)
  have hf45 : s27.1 225 26 = nI 2 := fc_ne hf39 es27 (by omega)
  have hf46 : s27.1 225 27 = nI 524288 := fc_ne hf40 es27 (by omega)
  have hf47 : s27.1 225 28 = nI 261888 := fc_ne hf41 es27 (by omega)
  have hf48 : s27.1 225 29 = nI 120 := fc_eq es27
  refine lv_aload_n hx hb dMH_as_94 rfl (lv_at hl 0 rfl) ?_
  refine lv_bipush (v := nI 32) hx hb dMH_as_95 (by decide) ?_
  refine lv_bipush (v := nI 16) hx hb dMH_as_97 (by decide) ?_
  refine lv_aload_n hx hb dMH_as_99 rfl (lv_at hl 0 rfl) ?_
  refine nw_get (C := "LatticeKeysModel$Hands") (TT := T_MH) (N := 31) hx hb hts (wg_ft i_MH) hown hK hO k_h0 (kn := 225) (ci := 12) (fl := [(3, 172), (3, 181), (3, 226), (3, 291), (3, 299), (3, 308), (3, 317), (3, 326), (3, 334), (3, 342), (3, 350), (3, 359), (3, 368), (3, 369), (3, 370), (3, 371), (3, 372), (3, 373), (3, 374), (3, 375), (3, 376), (3, 377), (3, 378), (0, 0), (0, 0), (0, 0), (0, 0), (0, 0), (0, 0), (0, 0), (0, 0)]) rfl hP rfl 23 (by decide) (hts _ (wg_t kw_1455)) (fun _ h9 => h9) (cd := (0, 0)) rfl dMH_as_100 (fun v28 hv28 => ?_)
  obtain rfl := (show v28 = .int (s27.1 225 23) from hv28)
  obtain ⟨z28, ez28, hz35, hz36⟩ := cl_of (b := 2147483648) hf42 (by omega) (by decide)
  replace hR := bnd_step hR ez28
  refine mi_as hz35 ?_
  subst hz36
  refine mi_imul hx hb dMH_as_103 ?_
  refine mi_as (show nI (16 * 2) = nI 32 from rfl) ?_
  refine mi_iadd hx hb dMH_as_104 ?_
  refine mi_as (show nI (32 + 32) = nI 64 from rfl) ?_
  refine nw_put (C := "LatticeKeysModel$Hands") (TT := T_MH) (N := 31) hx hb hts (wg_ft i_MH) ty_MH k_MH n_MH hown hK hO hU k_h0 (kn := 225) (ci := 12) (fl := [(3, 172), (3, 181), (3, 226), (3, 291), (3, 299), (3, 308), (3, 317), (3, 326), (3, 334), (3, 342), (3, 350), (3, 359), (3, 368), (3, 369), (3, 370), (3, 371), (3, 372), (3, 373), (3, 374), (3, 375), (3, 376), (3, 377), (3, 378), (0, 0), (0, 0), (0, 0), (0, 0), (0, 0), (0, 0), (0, 0), (0, 0)]) rfl hP hD hS rfl 30 (by decide) (hts _ (wg_t kw_1462)) (fun _ h9 => h9) rfl (by decide +kernel) rfl dMH_as_105 (fun s28 pl H locs es28 hO hP hD hS => ?_)
  replace hR := bnd_step hR es28
  have hF := frm_sI hF es28 (by unfold M_MH_as_2; omega)
  have hf49 : s28.1 225 23 = nI 2 := fc_ne hf42 es28 (by omega)
  have hf50 : s28.1 225 24 = nI 8 := fc_ne hf43 es28 (by omega)
  have hf51 : s28.1 225 25 = nI 7 := fc_ne hf44 es28 (by omega)
  have hf52 : s28.1 225 26 = nI 2 := fc_ne hf45 es28 (by omega)
  have hf53 : s28.1 225 27 = nI 524288 := fc_ne hf46 es28 (by omega)
  have hf54 : s28.1 225 28 = nI 261888 := fc_ne hf47 es28 (by omega)
  have hf55 : s28.1 225 29 = nI 120 := fc_ne hf48 es28 (by omega)
  have hf56 : s28.1 225 30 = nI 64 := fc_eq es28
  exact mp_vret hx hb hr hlk hP hD hS (s28, pl) ⟨⟨hR.symm, hF, ⟨2, hf49, by omega⟩, ⟨8, hf50, by omega⟩, ⟨7, hf51, by omega⟩, ⟨2, hf52, by omega⟩, ⟨524288, hf53, by omega⟩, ⟨261888, hf54, by omega⟩, ⟨120, hf55, by omega⟩, ⟨64, hf56, by omega⟩, trivial⟩, hO⟩ [] rfl rfl rfl (by omega) (by omega) dMH_as_108
