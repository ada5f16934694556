set_option linter.all false
abbrev c_DA_commit : ByteArray := prog_3_method_10_code
abbrev y_DA_commit : MethodName := ⟨"LatticeKeys$Dsa", "commit", "(LLatticeKeys$DsaSet;I)V"⟩
abbrev w_DA_commit : List Cond := Cond.code y_DA_commit c_DA_commit 5 none :: WG
theorem dDA_commit_0 : decode c_DA_commit 0 = .ok (.iconst 0, 1) := by decide +kernel
theorem dDA_commit_1 : decode c_DA_commit 1 = .ok (.istore_n 3, 1) := by decide +kernel
theorem dDA_commit_2 : decode c_DA_commit 2 = .ok (.iload_n 3, 1) := by decide +kernel
theorem dDA_commit_3 : decode c_DA_commit 3 = .ok (.aload_n 1, 1) := by decide +kernel
theorem dDA_commit_4 : decode c_DA_commit 4 = .ok (.getfield 87, 3) := by decide +kernel
theorem dDA_commit_7 : decode c_DA_commit 7 = .ok (.if_icmp .ge 19, 3) := by decide +kernel
theorem dDA_commit_10 : decode c_DA_commit 10 = .ok (.aload_n 0, 1) := by decide +kernel
theorem dDA_commit_11 : decode c_DA_commit 11 = .ok (.getfield 50, 3) := by decide +kernel
theorem dDA_commit_14 : decode c_DA_commit 14 = .ok (.iload_n 3, 1) := by decide +kernel
theorem dDA_commit_15 : decode c_DA_commit 15 = .ok (.aaload, 1) := by decide +kernel
theorem dDA_commit_16 : decode c_DA_commit 16 = .ok (.iconst 0, 1) := by decide +kernel
theorem dDA_commit_17 : decode c_DA_commit 17 = .ok (.invokestatic 192, 3) := by decide +kernel
theorem dDA_commit_20 : decode c_DA_commit 20 = .ok (.iinc 3 1, 3) := by decide +kernel
theorem dDA_commit_23 : decode c_DA_commit 23 = .ok (.goto (-21), 3) := by decide +kernel
theorem dDA_commit_26 : decode c_DA_commit 26 = .ok (.iconst 0, 1) := by decide +kernel
theorem dDA_commit_27 : decode c_DA_commit 27 = .ok (.istore_n 3, 1) := by decide +kernel
theorem dDA_commit_28 : decode c_DA_commit 28 = .ok (.iload_n 3, 1) := by decide +kernel
theorem dDA_commit_29 : decode c_DA_commit 29 = .ok (.aload_n 1, 1) := by decide +kernel
theorem dDA_commit_30 : decode c_DA_commit 30 = .ok (.getfield 96, 3) := by decide +kernel
theorem dDA_commit_33 : decode c_DA_commit 33 = .ok (.if_icmp .ge 132, 3) := by decide +kernel
theorem dDA_commit_36 : decode c_DA_commit 36 = .ok (.aload_n 0, 1) := by decide +kernel
theorem dDA_commit_37 : decode c_DA_commit 37 = .ok (.getfield 29, 3) := by decide +kernel
theorem dDA_commit_40 : decode c_DA_commit 40 = .ok (.aload_n 1, 1) := by decide +kernel
theorem dDA_commit_41 : decode c_DA_commit 41 = .ok (.aload_n 0, 1) := by decide +kernel
theorem dDA_commit_42 : decode c_DA_commit 42 = .ok (.getfield 47, 3) := by decide +kernel
theorem dDA_commit_45 : decode c_DA_commit 45 = .ok (.iload_n 3, 1) := by decide +kernel
theorem dDA_commit_46 : decode c_DA_commit 46 = .ok (.aaload, 1) := by decide +kernel
theorem dDA_commit_47 : decode c_DA_commit 47 = .ok (.aload_n 0, 1) := by decide +kernel
theorem dDA_commit_48 : decode c_DA_commit 48 = .ok (.getfield 60, 3) := by decide +kernel
theorem dDA_commit_51 : decode c_DA_commit 51 = .ok (.iload_n 2, 1) := by decide +kernel
theorem dDA_commit_52 : decode c_DA_commit 52 = .ok (.iload_n 3, 1) := by decide +kernel
theorem dDA_commit_53 : decode c_DA_commit 53 = .ok (.iadd, 1) := by decide +kernel
theorem dDA_commit_54 : decode c_DA_commit 54 = .ok (.invokevirtual 198, 3) := by decide +kernel
theorem dDA_commit_57 : decode c_DA_commit 57 = .ok (.aload_n 0, 1) := by decide +kernel
theorem dDA_commit_58 : decode c_DA_commit 58 = .ok (.getfield 22, 3) := by decide +kernel
theorem dDA_commit_61 : decode c_DA_commit 61 = .ok (.aload_n 0, 1) := by decide +kernel
theorem dDA_commit_62 : decode c_DA_commit 62 = .ok (.getfield 47, 3) := by decide +kernel
theorem dDA_commit_65 : decode c_DA_commit 65 = .ok (.iload_n 3, 1) := by decide +kernel
theorem dDA_commit_66 : decode c_DA_commit 66 = .ok (.aaload, 1) := by decide +kernel
theorem dDA_commit_67 : decode c_DA_commit 67 = .ok (.aload_n 1, 1) := by decide +kernel
theorem dDA_commit_68 : decode c_DA_commit 68 = .ok (.getfield 202, 3) := by decide +kernel
theorem dDA_commit_71 : decode c_DA_commit 71 = .ok (.aload_n 0, 1) := by decide +kernel
theorem dDA_commit_72 : decode c_DA_commit 72 = .ok (.getfield 47, 3) := by decide +kernel
theorem dDA_commit_75 : decode c_DA_commit 75 = .ok (.iload_n 3, 1) := by decide +kernel
theorem dDA_commit_76 : decode c_DA_commit 76 = .ok (.aaload, 1) := by decide +kernel
theorem dDA_commit_77 : decode c_DA_commit 77 = .ok (.invokevirtual 157, 3) := by decide +kernel
theorem dDA_commit_80 : decode c_DA_commit 80 = .ok (.aload_n 0, 1) := by decide +kernel
theorem dDA_commit_81 : decode c_DA_commit 81 = .ok (.getfield 47, 3) := by decide +kernel
theorem dDA_commit_84 : decode c_DA_commit 84 = .ok (.iload_n 3, 1) := by decide +kernel
theorem dDA_commit_85 : decode c_DA_commit 85 = .ok (.aaload, 1) := by decide +kernel
theorem dDA_commit_86 : decode c_DA_commit 86 = .ok (.iconst 0, 1) := by decide +kernel
theorem dDA_commit_87 : decode c_DA_commit 87 = .ok (.aload_n 0, 1) := by decide +kernel
theorem dDA_commit_88 : decode c_DA_commit 88 = .ok (.getfield 57, 3) := by decide +kernel
theorem dDA_commit_91 : decode c_DA_commit 91 = .ok (.iconst 0, 1) := by decide +kernel
theorem dDA_commit_92 : decode c_DA_commit 92 = .ok (.sipush 256, 3) := by decide +kernel
theorem dDA_commit_95 : decode c_DA_commit 95 = .ok (.invokestatic 105, 3) := by decide +kernel
theorem dDA_commit_98 : decode c_DA_commit 98 = .ok (.aload_n 0, 1) := by decide +kernel
theorem dDA_commit_99 : decode c_DA_commit 99 = .ok (.getfield 22, 3) := by decide +kernel
theorem dDA_commit_102 : decode c_DA_commit 102 = .ok (.aload_n 0, 1) := by decide +kernel
theorem dDA_commit_103 : decode c_DA_commit 103 = .ok (.getfield 57, 3) := by decide +kernel
theorem dDA_commit_106 : decode c_DA_commit 106 = .ok (.invokevirtual 119, 3) := by decide +kernel
theorem dDA_commit_109 : decode c_DA_commit 109 = .ok (.iconst 0, 1) := by decide +kernel
theorem dDA_commit_110 : decode c_DA_commit 110 = .ok (.istore 4, 2) := by decide +kernel
theorem dDA_commit_112 : decode c_DA_commit 112 = .ok (.iload 4, 2) := by decide +kernel
theorem dDA_commit_114 : decode c_DA_commit 114 = .ok (.aload_n 1, 1) := by decide +kernel
theorem dDA_commit_115 : decode c_DA_commit 115 = .ok (.getfield 87, 3) := by decide +kernel
theorem dDA_commit_118 : decode c_DA_commit 118 = .ok (.if_icmp .ge 41, 3) := by decide +kernel
theorem dDA_commit_121 : decode c_DA_commit 121 = .ok (.aload_n 0, 1) := by decide +kernel
theorem dDA_commit_122 : decode c_DA_commit 122 = .ok (.getfield 22, 3) := by decide +kernel
theorem dDA_commit_125 : decode c_DA_commit 125 = .ok (.aload_n 0, 1) := by decide +kernel
theorem dDA_commit_126 : decode c_DA_commit 126 = .ok (.getfield 50, 3) := by decide +kernel
theorem dDA_commit_129 : decode c_DA_commit 129 = .ok (.iload 4, 2) := by decide +kernel
theorem dDA_commit_131 : decode c_DA_commit 131 = .ok (.aaload, 1) := by decide +kernel
theorem dDA_commit_132 : decode c_DA_commit 132 = .ok (.aload_n 0, 1) := by decide +kernel
theorem dDA_commit_133 : decode c_DA_commit 133 = .ok (.getfield 35, 3) := by decide +kernel
theorem dDA_commit_136 : decode c_DA_commit 136 = .ok (.aload_n 1, 1) := by decide +kernel
theorem dDA_commit_137 : decode c_DA_commit 137 = .ok (.getfield 96, 3) := by decide +kernel
theorem dDA_commit_140 : decode c_DA_commit 140 = .ok (.iload 4, 2) := by decide +kernel
theorem dDA_commit_142 : decode c_DA_commit 142 = .ok (.imul, 1) := by decide +kernel
theorem dDA_commit_143 : decode c_DA_commit 143 = .ok (.iload_n 3, 1) := by decide +kernel
theorem dDA_commit_144 : decode c_DA_commit 144 = .ok (.iadd, 1) := by decide +kernel
theorem dDA_commit_145 : decode c_DA_commit 145 = .ok (.aaload, 1) := by decide +kernel
theorem dDA_commit_146 : decode c_DA_commit 146 = .ok (.aload_n 0, 1) := by decide +kernel
theorem dDA_commit_147 : decode c_DA_commit 147 = .ok (.getfield 57, 3) := by decide +kernel
theorem dDA_commit_150 : decode c_DA_commit 150 = .ok (.invokevirtual 205, 3) := by decide +kernel
theorem dDA_commit_153 : decode c_DA_commit 153 = .ok (.iinc 4 1, 3) := by decide +kernel
theorem dDA_commit_156 : decode c_DA_commit 156 = .ok (.goto (-44), 3) := by decide +kernel
theorem dDA_commit_159 : decode c_DA_commit 159 = .ok (.iinc 3 1, 3) := by decide +kernel
theorem dDA_commit_162 : decode c_DA_commit 162 = .ok (.goto (-134), 3) := by decide +kernel
theorem dDA_commit_165 : decode c_DA_commit 165 = .ok (.aload_n 0, 1) := by decide +kernel
theorem dDA_commit_166 : decode c_DA_commit 166 = .ok (.invokevirtual 209, 3) := by decide +kernel
theorem dDA_commit_169 : decode c_DA_commit 169 = .ok (.iconst 0, 1) := by decide +kernel
theorem dDA_commit_170 : decode c_DA_commit 170 = .ok (.istore_n 3, 1) := by decide +kernel
theorem dDA_commit_171 : decode c_DA_commit 171 = .ok (.iload_n 3, 1) := by decide +kernel
theorem dDA_commit_172 : decode c_DA_commit 172 = .ok (.aload_n 1, 1) := by decide +kernel
theorem dDA_commit_173 : decode c_DA_commit 173 = .ok (.getfield 87, 3) := by decide +kernel
theorem dDA_commit_176 : decode c_DA_commit 176 = .ok (.if_icmp .ge 64, 3) := by decide +kernel
theorem dDA_commit_179 : decode c_DA_commit 179 = .ok (.aload_n 0, 1) := by decide +kernel
theorem dDA_commit_180 : decode c_DA_commit 180 = .ok (.getfield 22, 3) := by decide +kernel
theorem dDA_commit_183 : decode c_DA_commit 183 = .ok (.aload_n 0, 1) := by decide +kernel
theorem dDA_commit_184 : decode c_DA_commit 184 = .ok (.getfield 50, 3) := by decide +kernel
theorem dDA_commit_187 : decode c_DA_commit 187 = .ok (.iload_n 3, 1) := by decide +kernel
theorem dDA_commit_188 : decode c_DA_commit 188 = .ok (.aaload, 1) := by decide +kernel
theorem dDA_commit_189 : decode c_DA_commit 189 = .ok (.invokevirtual 130, 3) := by decide +kernel
theorem dDA_commit_192 : decode c_DA_commit 192 = .ok (.iconst 0, 1) := by decide +kernel
theorem dDA_commit_193 : decode c_DA_commit 193 = .ok (.istore 4, 2) := by decide +kernel
theorem dDA_commit_195 : decode c_DA_commit 195 = .ok (.iload 4, 2) := by decide +kernel
theorem dDA_commit_197 : decode c_DA_commit 197 = .ok (.sipush 256, 3) := by decide +kernel
theorem dDA_commit_200 : decode c_DA_commit 200 = .ok (.if_icmp .ge 29, 3) := by decide +kernel
theorem dDA_commit_203 : decode c_DA_commit 203 = .ok (.aload_n 0, 1) := by decide +kernel
theorem dDA_commit_204 : decode c_DA_commit 204 = .ok (.getfield 57, 3) := by decide +kernel
theorem dDA_commit_207 : decode c_DA_commit 207 = .ok (.iload 4, 2) := by decide +kernel
theorem dDA_commit_209 : decode c_DA_commit 209 = .ok (.aload_n 1, 1) := by decide +kernel
theorem dDA_commit_210 : decode c_DA_commit 210 = .ok (.aload_n 0, 1) := by decide +kernel
theorem dDA_commit_211 : decode c_DA_commit 211 = .ok (.getfield 50, 3) := by decide +kernel
theorem dDA_commit_214 : decode c_DA_commit 214 = .ok (.iload_n 3, 1) := by decide +kernel
theorem dDA_commit_215 : decode c_DA_commit 215 = .ok (.aaload, 1) := by decide +kernel
theorem dDA_commit_216 : decode c_DA_commit 216 = .ok (.iload 4, 2) := by decide +kernel
theorem dDA_commit_218 : decode c_DA_commit 218 = .ok (.iaload, 1) := by decide +kernel
theorem dDA_commit_219 : decode c_DA_commit 219 = .ok (.invokevirtual 212, 3) := by decide +kernel
theorem dDA_commit_222 : decode c_DA_commit 222 = .ok (.iastore, 1) := by decide +kernel
theorem dDA_commit_223 : decode c_DA_commit 223 = .ok (.iinc 4 1, 3) := by decide +kernel
theorem dDA_commit_226 : decode c_DA_commit 226 = .ok (.goto (-31), 3) := by decide +kernel
theorem dDA_commit_229 : decode c_DA_commit 229 = .ok (.aload_n 0, 1) := by decide +kernel
theorem dDA_commit_230 : decode c_DA_commit 230 = .ok (.aload_n 1, 1) := by decide +kernel
theorem dDA_commit_231 : decode c_DA_commit 231 = .ok (.invokevirtual 216, 3) := by decide +kernel
theorem dDA_commit_234 : decode c_DA_commit 234 = .ok (.iinc 3 1, 3) := by decide +kernel
theorem dDA_commit_237 : decode c_DA_commit 237 = .ok (.goto (-66), 3) := by decide +kernel
theorem dDA_commit_240 : decode c_DA_commit 240 = .ok (.aload_n 0, 1) := by decide +kernel
theorem dDA_commit_241 : decode c_DA_commit 241 = .ok (.getfield 10, 3) := by decide +kernel
theorem dDA_commit_244 : decode c_DA_commit 244 = .ok (.invokevirtual 99, 3) := by decide +kernel
theorem dDA_commit_247 : decode c_DA_commit 247 = .ok (.aload_n 0, 1) := by decide +kernel
theorem dDA_commit_248 : decode c_DA_commit 248 = .ok (.getfield 10, 3) := by decide +kernel
theorem dDA_commit_251 : decode c_DA_commit 251 = .ok (.aload_n 0, 1) := by decide +kernel
theorem dDA_commit_252 : decode c_DA_commit 252 = .ok (.getfield 67, 3) := by decide +kernel
theorem dDA_commit_255 : decode c_DA_commit 255 = .ok (.iconst 0, 1) := by decide +kernel
theorem dDA_commit_256 : decode c_DA_commit 256 = .ok (.aload_n 1, 1) := by decide +kernel
theorem dDA_commit_257 : decode c_DA_commit 257 = .ok (.getfield 220, 3) := by decide +kernel
theorem dDA_commit_260 : decode c_DA_commit 260 = .ok (.invokevirtual 102, 3) := by decide +kernel
theorem dDA_commit_263 : decode c_DA_commit 263 = .ok (.aload_n 0, 1) := by decide +kernel
theorem dDA_commit_264 : decode c_DA_commit 264 = .ok (.getfield 29, 3) := by decide +kernel
theorem dDA_commit_267 : decode c_DA_commit 267 = .ok (.aload_n 1, 1) := by decide +kernel
theorem dDA_commit_268 : decode c_DA_commit 268 = .ok (.aload_n 0, 1) := by decide +kernel
theorem dDA_commit_269 : decode c_DA_commit 269 = .ok (.getfield 53, 3) := by decide +kernel
theorem dDA_commit_272 : decode c_DA_commit 272 = .ok (.aload_n 0, 1) := by decide +kernel
theorem dDA_commit_273 : decode c_DA_commit 273 = .ok (.getfield 67, 3) := by decide +kernel
theorem dDA_commit_276 : decode c_DA_commit 276 = .ok (.invokevirtual 223, 3) := by decide +kernel
theorem dDA_commit_279 : decode c_DA_commit 279 = .ok (.aload_n 0, 1) := by decide +kernel
theorem dDA_commit_280 : decode c_DA_commit 280 = .ok (.getfield 22, 3) := by decide +kernel
theorem dDA_commit_283 : decode c_DA_commit 283 = .ok (.aload_n 0, 1) := by decide +kernel
theorem dDA_commit_284 : decode c_DA_commit 284 = .ok (.getfield 53, 3) := by decide +kernel
theorem dDA_commit_287 : decode c_DA_commit 287 = .ok (.invokevirtual 119, 3) := by decide +kernel
theorem dDA_commit_290 : decode c_DA_commit 290 = .ok (.return_, 1) := by decide +kernel
abbrev c_DA_makeSignature : ByteArray := prog_3_method_5_code
abbrev y_DA_makeSignature : MethodName := ⟨"LatticeKeys$Dsa", "makeSignature", "(LLatticeKeys$DsaSet;[B[BII[B)I"⟩
abbrev w_DA_makeSignature : List Cond := Cond.code y_DA_makeSignature c_DA_makeSignature 8 (some .int) :: WG
theorem dDA_makeSignature_0 : decode c_DA_makeSignature 0 = .ok (.aload_n 0, 1) := by decide +kernel
theorem dDA_makeSignature_1 : decode c_DA_makeSignature 1 = .ok (.aload_n 1, 1) := by decide +kernel
theorem dDA_makeSignature_2 : decode c_DA_makeSignature 2 = .ok (.aload_n 2, 1) := by decide +kernel
theorem dDA_makeSignature_3 : decode c_DA_makeSignature 3 = .ok (.invokevirtual 161, 3) := by decide +kernel
theorem dDA_makeSignature_6 : decode c_DA_makeSignature 6 = .ok (.aload_n 2, 1) := by decide +kernel
theorem dDA_makeSignature_7 : decode c_DA_makeSignature 7 = .ok (.bipush 64, 2) := by decide +kernel
theorem dDA_makeSignature_9 : decode c_DA_makeSignature 9 = .ok (.aload_n 0, 1) := by decide +kernel
theorem dDA_makeSignature_10 : decode c_DA_makeSignature 10 = .ok (.getfield 64, 3) := by decide +kernel
theorem dDA_makeSignature_13 : decode c_DA_makeSignature 13 = .ok (.iconst 0, 1) := by decide +kernel
theorem dDA_makeSignature_14 : decode c_DA_makeSignature 14 = .ok (.bipush 64, 2) := by decide +kernel
theorem dDA_makeSignature_16 : decode c_DA_makeSignature 16 = .ok (.invokestatic 105, 3) := by decide +kernel
theorem dDA_makeSignature_19 : decode c_DA_makeSignature 19 = .ok (.aload_n 0, 1) := by decide +kernel
theorem dDA_makeSignature_20 : decode c_DA_makeSignature 20 = .ok (.aload_n 3, 1) := by decide +kernel
theorem dDA_makeSignature_21 : decode c_DA_makeSignature 21 = .ok (.bipush 32, 2) := by decide +kernel
theorem dDA_makeSignature_23 : decode c_DA_makeSignature 23 = .ok (.iload 4, 2) := by decide +kernel
theorem dDA_makeSignature_25 : decode c_DA_makeSignature 25 = .ok (.iload 5, 2) := by decide +kernel
theorem dDA_makeSignature_27 : decode c_DA_makeSignature 27 = .ok (.invokevirtual 164, 3) := by decide +kernel
theorem dDA_makeSignature_30 : decode c_DA_makeSignature 30 = .ok (.aload_n 0, 1) := by decide +kernel
theorem dDA_makeSignature_31 : decode c_DA_makeSignature 31 = .ok (.getfield 10, 3) := by decide +kernel
theorem dDA_makeSignature_34 : decode c_DA_makeSignature 34 = .ok (.iconst 3, 1) := by decide +kernel
theorem dDA_makeSignature_35 : decode c_DA_makeSignature 35 = .ok (.invokevirtual 79, 3) := by decide +kernel
theorem dDA_makeSignature_38 : decode c_DA_makeSignature 38 = .ok (.aload_n 0, 1) := by decide +kernel
theorem dDA_makeSignature_39 : decode c_DA_makeSignature 39 = .ok (.getfield 10, 3) := by decide +kernel
theorem dDA_makeSignature_42 : decode c_DA_makeSignature 42 = .ok (.aload_n 2, 1) := by decide +kernel
theorem dDA_makeSignature_43 : decode c_DA_makeSignature 43 = .ok (.bipush 32, 2) := by decide +kernel
theorem dDA_makeSignature_45 : decode c_DA_makeSignature 45 = .ok (.bipush 32, 2) := by decide +kernel
theorem dDA_makeSignature_47 : decode c_DA_makeSignature 47 = .ok (.invokevirtual 83, 3) := by decide +kernel
theorem dDA_makeSignature_50 : decode c_DA_makeSignature 50 = .ok (.aload_n 0, 1) := by decide +kernel
theorem dDA_makeSignature_51 : decode c_DA_makeSignature 51 = .ok (.getfield 10, 3) := by decide +kernel
theorem dDA_makeSignature_54 : decode c_DA_makeSignature 54 = .ok (.aload_n 3, 1) := by decide +kernel
theorem dDA_makeSignature_55 : decode c_DA_makeSignature 55 = .ok (.iconst 0, 1) := by decide +kernel
theorem dDA_makeSignature_56 : decode c_DA_makeSignature 56 = .ok (.bipush 32, 2) := by decide +kernel
theorem dDA_makeSignature_58 : decode c_DA_makeSignature 58 = .ok (.invokevirtual 83, 3) := by decide +kernel
theorem dDA_makeSignature_61 : decode c_DA_makeSignature 61 = .ok (.aload_n 0, 1) := by decide +kernel
theorem dDA_makeSignature_62 : decode c_DA_makeSignature 62 = .ok (.getfield 10, 3) := by decide +kernel
theorem dDA_makeSignature_65 : decode c_DA_makeSignature 65 = .ok (.aload_n 0, 1) := by decide +kernel
theorem dDA_makeSignature_66 : decode c_DA_makeSignature 66 = .ok (.getfield 64, 3) := by decide +kernel
theorem dDA_makeSignature_69 : decode c_DA_makeSignature 69 = .ok (.iconst 0, 1) := by decide +kernel
theorem dDA_makeSignature_70 : decode c_DA_makeSignature 70 = .ok (.bipush 64, 2) := by decide +kernel
theorem dDA_makeSignature_72 : decode c_DA_makeSignature 72 = .ok (.invokevirtual 83, 3) := by decide +kernel
theorem dDA_makeSignature_75 : decode c_DA_makeSignature 75 = .ok (.aload_n 0, 1) := by decide +kernel
theorem dDA_makeSignature_76 : decode c_DA_makeSignature 76 = .ok (.getfield 10, 3) := by decide +kernel
theorem dDA_makeSignature_79 : decode c_DA_makeSignature 79 = .ok (.invokevirtual 99, 3) := by decide +kernel
theorem dDA_makeSignature_82 : decode c_DA_makeSignature 82 = .ok (.aload_n 0, 1) := by decide +kernel
theorem dDA_makeSignature_83 : decode c_DA_makeSignature 83 = .ok (.getfield 10, 3) := by decide +kernel
theorem dDA_makeSignature_86 : decode c_DA_makeSignature 86 = .ok (.aload_n 0, 1) := by decide +kernel
theorem dDA_makeSignature_87 : decode c_DA_makeSignature 87 = .ok (.getfield 60, 3) := by decide +kernel
theorem dDA_makeSignature_90 : decode c_DA_makeSignature 90 = .ok (.iconst 0, 1) := by decide +kernel
theorem dDA_makeSignature_91 : decode c_DA_makeSignature 91 = .ok (.bipush 64, 2) := by decide +kernel
theorem dDA_makeSignature_93 : decode c_DA_makeSignature 93 = .ok (.invokevirtual 102, 3) := by decide +kernel
theorem dDA_makeSignature_96 : decode c_DA_makeSignature 96 = .ok (.iconst 1, 1) := by decide +kernel
theorem dDA_makeSignature_97 : decode c_DA_makeSignature 97 = .ok (.istore 7, 2) := by decide +kernel
theorem dDA_makeSignature_99 : decode c_DA_makeSignature 99 = .ok (.iload 7, 2) := by decide +kernel
theorem dDA_makeSignature_101 : decode c_DA_makeSignature 101 = .ok (.sipush 200, 3) := by decide +kernel
theorem dDA_makeSignature_104 : decode c_DA_makeSignature 104 = .ok (.if_icmp .gt 57, 3) := by decide +kernel
theorem dDA_makeSignature_107 : decode c_DA_makeSignature 107 = .ok (.aload_n 0, 1) := by decide +kernel
theorem dDA_makeSignature_108 : decode c_DA_makeSignature 108 = .ok (.aload_n 1, 1) := by decide +kernel
theorem dDA_makeSignature_109 : decode c_DA_makeSignature 109 = .ok (.aload_n 1, 1) := by decide +kernel
theorem dDA_makeSignature_110 : decode c_DA_makeSignature 110 = .ok (.getfield 96, 3) := by decide +kernel
theorem dDA_makeSignature_113 : decode c_DA_makeSignature 113 = .ok (.iload 7, 2) := by decide +kernel
theorem dDA_makeSignature_115 : decode c_DA_makeSignature 115 = .ok (.iconst 1, 1) := by decide +kernel
theorem dDA_makeSignature_116 : decode c_DA_makeSignature 116 = .ok (.isub, 1) := by decide +kernel
theorem dDA_makeSignature_117 : decode c_DA_makeSignature 117 = .ok (.imul, 1) := by decide +kernel
theorem dDA_makeSignature_118 : decode c_DA_makeSignature 118 = .ok (.invokevirtual 168, 3) := by decide +kernel
theorem dDA_makeSignature_121 : decode c_DA_makeSignature 121 = .ok (.aload_n 0, 1) := by decide +kernel
theorem dDA_makeSignature_122 : decode c_DA_makeSignature 122 = .ok (.aload_n 1, 1) := by decide +kernel
theorem dDA_makeSignature_123 : decode c_DA_makeSignature 123 = .ok (.invokevirtual 172, 3) := by decide +kernel
theorem dDA_makeSignature_126 : decode c_DA_makeSignature 126 = .ok (.ifCond .eq 29, 3) := by decide +kernel
theorem dDA_makeSignature_129 : decode c_DA_makeSignature 129 = .ok (.aload_n 0, 1) := by decide +kernel
theorem dDA_makeSignature_130 : decode c_DA_makeSignature 130 = .ok (.aload_n 1, 1) := by decide +kernel
theorem dDA_makeSignature_131 : decode c_DA_makeSignature 131 = .ok (.invokevirtual 176, 3) := by decide +kernel
theorem dDA_makeSignature_134 : decode c_DA_makeSignature 134 = .ok (.ifCond .eq 21, 3) := by decide +kernel
theorem dDA_makeSignature_137 : decode c_DA_makeSignature 137 = .ok (.aload_n 0, 1) := by decide +kernel
theorem dDA_makeSignature_138 : decode c_DA_makeSignature 138 = .ok (.aload_n 1, 1) := by decide +kernel
theorem dDA_makeSignature_139 : decode c_DA_makeSignature 139 = .ok (.invokevirtual 179, 3) := by decide +kernel
theorem dDA_makeSignature_142 : decode c_DA_makeSignature 142 = .ok (.ifCond .eq 13, 3) := by decide +kernel
theorem dDA_makeSignature_145 : decode c_DA_makeSignature 145 = .ok (.aload_n 0, 1) := by decide +kernel
theorem dDA_makeSignature_146 : decode c_DA_makeSignature 146 = .ok (.aload_n 1, 1) := by decide +kernel
theorem dDA_makeSignature_147 : decode c_DA_makeSignature 147 = .ok (.aload 6, 2) := by decide +kernel
theorem dDA_makeSignature_149 : decode c_DA_makeSignature 149 = .ok (.invokevirtual 182, 3) := by decide +kernel
theorem dDA_makeSignature_152 : decode c_DA_makeSignature 152 = .ok (.iload 7, 2) := by decide +kernel
theorem dDA_makeSignature_154 : decode c_DA_makeSignature 154 = .ok (.ireturn, 1) := by decide +kernel
theorem dDA_makeSignature_155 : decode c_DA_makeSignature 155 = .ok (.iinc 7 1, 3) := by decide +kernel
theorem dDA_makeSignature_158 : decode c_DA_makeSignature 158 = .ok (.goto (-59), 3) := by decide +kernel
theorem dDA_makeSignature_161 : decode c_DA_makeSignature 161 = .ok (.iconst 0, 1) := by decide +kernel
theorem dDA_makeSignature_162 : decode c_DA_makeSignature 162 = .ok (.ireturn, 1) := by decide +kernel
def M_DA_commit_0 (k : Nat) : Prop := (124 ≤ k ∧ k < 131) ∨ (132 ≤ k ∧ k < 140) ∨ k = 140 ∨ k = 141 ∨ k = 144 ∨ k = 147 ∨ k = 16 ∨ k = 18 ∨ k = 38 ∨ (0 : Nat) = 1
noncomputable def F_DA_commit_0_L4 (i22 : Nat) (kk : Nat → Sto → Sto) : Nat → Nat → Sto → Sto
  | 0, i25, s37 => kk (i22 + 1) s37
  | n25 + 1, i25, s37 => bnd (F_RG_addProduct_8 (132 + i25) (41 + ((4 * i25) + i22)) 141 s37) fun s38 => F_DA_commit_0_L4 i22 kk n25 (i25 + 1) s38
noncomputable def F_DA_commit_0_L3 (i23 : Nat) (kk : Nat → Sto → Sto) : Nat → Nat → Sto → Sto
  | 0, i24, s30 => bnd (F_DA_absorbHigh_0  s30) fun s31 => kk (i23 + 1) s31
  | n24 + 1, i24, s30 => bnd (F_DS_high_0 (s30.1 ((132 + i23)) i24) s30) fun q21 => bnd (sI q21.2 141 i24 (q21.1)) fun s32 => F_DA_commit_0_L3 i23 kk n24 (i24 + 1) s32
noncomputable def F_DA_commit_0_L2 : Nat → Nat → Sto → Sto
  | 0, i23, s24 => bnd (F_SP_finish 16 17 s24) fun s25 => bnd (F_SP_squeeze 16 17 144 64 0 32 s25) fun s26 => bnd (F_SA_sampleBall_0 140 144 64 s26) fun s27 => bnd (F_RG_transform_8 140 s27) fun s28 => s28
  | n23 + 1, i23, s24 => bnd (F_RG_restore_8 (132 + i23) s24) fun s29 => F_DA_commit_0_L3 i23 (F_DA_commit_0_L2  n23) 256 0 s29
noncomputable def F_DA_commit_0_L1 (cn : Int32) : Nat → Nat → Sto → Sto
  | 0, i22, s22 => bnd (F_DA_startChallenge  s22) fun s23 => F_DA_commit_0_L2 4 0 s23
  | n22 + 1, i22, s22 => bnd (F_SA_sampleMask_0 (124 + i22) 142 128 (cn + (nI i22)) s22) fun s33 => bnd (F_RG_flip_8 (124 + i22) (nI 131072) (124 + i22) s33) fun s34 => bnd (sC s34 ((124 + i22)) 141 0 0 256) fun s35 => bnd (F_RG_transform_8 141 s35) fun s36 => F_DA_commit_0_L4 i22 (F_DA_commit_0_L1 cn n22) 4 0 s36
noncomputable def F_DA_commit_0_L0 (cn : Int32) : Nat → Nat → Sto → Sto
  | 0, i21, s21 => F_DA_commit_0_L1 cn 4 0 s21
  | n21 + 1, i21, s21 => bnd (F_AR_fillI (132 + i21) 256 (nI 0) s21) fun s39 => F_DA_commit_0_L0 cn n21 (i21 + 1) s39
noncomputable def F_DA_commit_0 (cn : Int32) (s : Sto) : Sto := F_DA_commit_0_L0 cn 4 0 s
set_option maxHeartbeats 8000000 in
set_option maxRecDepth 100000 in
theorem N_DA_commit_0 (l : Launch) (g : Gd) (sz : Nat) (T : TyN) (s : Sto) (pl : va_W) (hO : okn g T s pl) (hU : inj T) (h0 st : Nat) (cn : Int32) (k_h0 : T h0 = some 39) (k_st : T st = some 9)  : Met l y_DA_commit w_DA_commit ({ frames := 5, cells := 0, slots := 0, locals := 147 } : Room) (va_Pc [.ref h0, .ref st, .int cn] (pr (en g) g.1 vcl sz ([] ++ pl))) (va_Qv (fun (u : (Sto) × va_W) => (u.1 = F_DA_commit_0 cn s ∧ frm (M_DA_commit_0) s u.1 ∧ True) ∧ okn g T u.1 u.2) (po g.1 vcl (va_A ([] ++ pl) sz) (fun (u : (Sto) × va_W) => [] ++ u.2)) (va_A ([] ++ pl) sz)) 0 0 (va_A ([] ++ pl) sz) := by
  refine mc_entry (cc := c_DA_commit) (maxL := 5) (ret := none) (by decide) rfl (Nat.le_of_ble_eq_true rfl) ?_
  intro p e s0 m args below meth c ls F hr hlk hnm hsz hP hD hE hA hl
  obtain ⟨hx, hb, hml, hown, hts⟩ := id F
  have hK := hE.1
  generalize va_A ([] ++ pl) sz = A at hD hE hA ⊢
  have hS : va_S A s0.heap s0.heap [] := va_S.rf
  have hl : lv_has ls 5 [(0, .ref h0), (1, .ref st), (2, .int cn)] := hl
  have hR : F_DA_commit_0 cn s = F_DA_commit_0 cn s := rfl
  have hF : frm (M_DA_commit_0) s s := frm_rf
  refine lv_iconst (v := nI 0) hx hb dDA_commit_0 (by decide) ?_
  refine lv_istore_n (lv' := [(3, .int (nI 0)), (0, .ref h0), (1, .ref st), (2, .int cn)]) hx hb dDA_commit_1 rfl hl (by decide) rfl (fun ls hl => ?_)
  have lp21 : ∀ (n21 : Nat) (i21 : Nat) (s21 : Sto) (pl : va_W) (ls : Array Slot) (H : Heap) (locs : List Loc), n21 + i21 = 4 → frm (M_DA_commit_0) s s21 → F_DA_commit_0 cn s = F_DA_commit_0_L0 cn n21 i21 s21 → lv_has ls 5 [(3, .int (nI i21)), (0, .ref h0), (1, .ref st), (2, .int cn)] → okn g T s21 pl → va_P g.1 vcl ([] ++ pl) H → va_D A ([] ++ pl) → va_S A s0.heap H locs → W p l e ({ frames := 5, cells := 0, slots := 0, locals := 147 } : Room) s0 m args below meth c H locs 0 0 (MQ below (va_Qv (fun (u : (Sto) × va_W) => (u.1 = F_DA_commit_0 cn s ∧ frm (M_DA_commit_0) s u.1 ∧ True) ∧ okn g T u.1 u.2) (po g.1 vcl A (fun (u : (Sto) × va_W) => [] ++ u.2)) A) args s0 0 0 A) (F0 m 2 ls []) := by
    intro n21
    induction n21 with
    | zero =>
      intro i21 s21 pl ls H locs hm21 hF hR hl hO hP hD hS
      refine lv_iload_n hx hb dDA_commit_2 rfl (lv_at hl 0 rfl) ?_
      refine lv_aload_n hx hb dDA_commit_3 rfl (lv_at hl 2 rfl) ?_
      refine nw_get (C := "LatticeKeys$DsaSet") (TT := T_DS) (N := 17) hx hb hts (wg_ft i_DS) hown hK hO k_st (kn := 9) (ci := 2) (fl := [(1, 4), (1, 4), (1, 2), (1, 3), (1, 39), (1, 32), (1, 18), (1, 131072), (1, 44), (1, 6), (1, 95232), (1, 80), (1, 78), (1, 1312), (1, 2560), (1, 2336), (1, 2420)]) rfl hP rfl 0 (by decide) (hts _ (wg_t kw_302)) (fun _ h9 => h9) (cd := (1, 4)) rfl dDA_commit_4 (fun v21 hv21 => ?_)
      obtain rfl := (show v21 = .int (nI 4) from hv21)
      refine mi_ge (tgt := 26) hx hb dDA_commit_7 (by decide) (by omega) (by omega) (fun h21 => ?_) (fun h21 => absurd h21 (by omega))
      refine lv_iconst (v := nI 0) hx hb dDA_commit_26 (by decide) ?_
      refine lv_istore_n (lv' := [(3, .int (nI 0)), (0, .ref h0), (1, .ref st), (2, .int cn)]) hx hb dDA_commit_27 rfl hl (by decide) rfl (fun ls hl => ?_)
      have lp22 : ∀ (n22 : Nat) (i22 : Nat) (s22 : Sto) (pl : va_W) (ls : Array Slot) (H : Heap) (locs : List Loc), n22 + i22 = 4 → frm (M_DA_commit_0) s s22 → F_DA_commit_0 cn s = F_DA_commit_0_L1 cn n22 i22 s22 → lv_has ls 5 [(3, .int (nI i22)), (0, .ref h0), (1, .ref st), (2, .int cn)] → okn g T s22 pl → va_P g.1 vcl ([] ++ pl) H → va_D A ([] ++ pl) → va_S A s0.heap H locs → W p l e ({ frames := 5, cells := 0, slots := 0, locals := 147 } : Room) s0 m args below meth c H locs 0 0 (MQ below (va_Qv (fun (u : (Sto) × va_W) => (u.1 = F_DA_commit_0 cn s ∧ frm (M_DA_commit_0) s u.1 ∧ True) ∧ okn g T u.1 u.2) (po g.1 vcl A (fun (u : (Sto) × va_W) => [] ++ u.2)) A) args s0 0 0 A) (F0 m 28 ls []) := by
        intro n22
        induction n22 with
        | zero =>
          intro i22 s22 pl ls H locs hm22 hF hR hl hO hP hD hS
          refine lv_iload_n hx hb dDA_commit_28 rfl (lv_at hl 0 rfl) ?_
          refine lv_aload_n hx hb dDA_commit_29 rfl (lv_at hl 2 rfl) ?_
          refine nw_get (C := "LatticeKeys$DsaSet") (TT := T_DS) (N := 17) hx hb hts (wg_ft i_DS) hown hK hO k_st (kn := 9) (ci := 2) (fl := [(1, 4), (1, 4), (1, 2), (1, 3), (1, 39), (1, 32), (1, 18), (1, 131072), (1, 44), (1, 6), (1, 95232), (1, 80), (1, 78), (1, 1312), (1, 2560), (1, 2336), (1, 2420)]) rfl hP rfl 1 (by decide) (hts _ (wg_t kw_305)) (fun _ h9 => h9) (cd := (1, 4)) rfl dDA_commit_30 (fun v22 hv22 => ?_)
          obtain rfl := (show v22 = .int (nI 4) from hv22)
          refine mi_ge (tgt := 165) hx hb dDA_commit_33 (by decide) (by omega) (by omega) (fun h22 => ?_) (fun h22 => absurd h22 (by omega))
          refine lv_aload_n hx hb dDA_commit_165 rfl (lv_at hl 1 rfl) ?_
          refine mp_v (cx := []) (wr := []) hP hD hS hA [] [] rfl rfl rfl (by decide) (va_runV (As := []) (rest := []) F (N_DA_startChallenge l g _ T s22 pl hO hU h0 k_h0) (cwV 0 hts (wg_app (wg_c kw_1202 (wg_c kw_1204 (wg_c ks_38 (wg_c kw_5 wg_n)))) kw_1205) rfl rfl rfl (by decide +kernel) ⟨by decide, by decide⟩) (pn_W "LatticeKeys$Dsa" (en_ok g) (ci := 6) (kn := 39) (fl := [(3, 16), (3, 22), (3, 37), (3, 40), (3, 97), (3, 105), (3, 114), (3, 123), (3, 131), (3, 140), (3, 141), (3, 142), (3, 143), (3, 144), (3, 145), (3, 146), (3, 147)]) hK hO k_h0 rfl hP hD hS hA hE [] rfl rfl rfl) rfl rfl hl.1 rfl (lv_room (Nat.le_of_ble_eq_true rfl)) dDA_commit_166 ⟨by omega, by omega⟩) (fun  u21 H locs hu21 hP hD hS => ?_)
          obtain ⟨s23, pl⟩ := u21
          obtain ⟨⟨eq21, hFc21, ⟨x21, hx_21, hb_21⟩, ⟨x22, hx_22, hb_22⟩, -⟩, hO⟩ := hu21
          have hO : okn g T s23 pl := hO
          have hP : va_P g.1 vcl ([] ++ pl) _ := hP
          have hD : va_D _ ([] ++ pl) := hD
          have hFc21 : frm (M_DA_startChallenge) s22 s23 := hFc21
          have hb_21 : x21 < 136 := hb_21
          have hb_22 : x22 = 136 := hb_22
          replace hR := bnd_step hR eq21
          have hF := frm_tr hF hFc21 (fun k hk => by unfold M_DA_startChallenge at hk; unfold M_DA_commit_0; omega)
          refine W.widen (k := 0) (n := 0) (by omega) (by omega) ?_
          refine lv_iconst (v := nI 0) hx hb dDA_commit_169 (by decide) ?_
          refine lv_istore_n (lv' := [(3, .int (nI 0)), (0, .ref h0), (1, .ref st), (2, .int cn)]) hx hb dDA_commit_170 rfl hl (by decide) rfl (fun ls hl => ?_)
          have lp23 : ∀ (n23 : Nat) (i23 : Nat) (s24 : Sto) (ps21 : Nat) (pl : va_W) (ls : Array Slot) (H : Heap) (locs : List Loc), n23 + i23 = 4 → (ps21 < 136) → frm (M_DA_commit_0) s s24 → s24.1 16 3 = nI ps21 → s24.1 16 1 = nI x22 → F_DA_commit_0 cn s = F_DA_commit_0_L2 n23 i23 s24 → lv_has ls 5 [(3, .int (nI i23)), (0, .ref h0), (1, .ref st)] → okn g T s24 pl → va_P g.1 vcl ([] ++ pl) H → va_D A ([] ++ pl) → va_S A s0.heap H locs → W p l e ({ frames := 5, cells := 0, slots := 0, locals := 147 } : Room) s0 m args below meth c H locs 0 0 (MQ below (va_Qv (fun (u : (Sto) × va_W) => (u.1 = F_DA_commit_0 cn s ∧ frm (M_DA_commit_0) s u.1 ∧ True) ∧ okn g T u.1 u.2) (po g.1 vcl A (fun (u : (Sto) × va_W) => [] ++ u.2)) A) args s0 0 0 A) (F0 m 171 ls []) := by
            intro n23
            induction n23 with
            | zero =>
              intro i23 s24 ps21 pl ls H locs hm23 hi21 hF hf21 hf22 hR hl hO hP hD hS
              refine lv_iload_n hx hb dDA_commit_171 rfl (lv_at hl 0 rfl) ?_
              refine lv_aload_n hx hb dDA_commit_172 rfl (lv_at hl 2 rfl) ?_
              refine nw_get (C := "LatticeKeys$DsaSet") (TT := T_DS) (N := 17) hx hb hts (wg_ft i_DS) hown hK hO k_st (kn := 9) (ci := 2) (fl := [(1, 4), (1, 4), (1, 2), (1, 3), (1, 39), (1, 32), (1, 18), (1, 131072), (1, 44), (1, 6), (1, 95232), (1, 80), (1, 78), (1, 1312), (1, 2560), (1, 2336), (1, 2420)]) rfl hP rfl 0 (by decide) (hts _ (wg_t kw_302)) (fun _ h9 => h9) (cd := (1, 4)) rfl dDA_commit_173 (fun v23 hv23 => ?_)
              obtain rfl := (show v23 = .int (nI 4) from hv23)
              refine mi_ge (tgt := 240) hx hb dDA_commit_176 (by decide) (by omega) (by omega) (fun h23 => ?_) (fun h23 => absurd h23 (by omega))
              refine lv_aload_n hx hb dDA_commit_240 rfl (lv_at hl 1 rfl) ?_
              refine nw_get (C := "LatticeKeys$Dsa") (TT := T_DA) (N := 17) hx hb hts (wg_ft i_DA) hown hK hO k_h0 (kn := 39) (ci := 6) (fl := [(3, 16), (3, 22), (3, 37), (3, 40), (3, 97), (3, 105), (3, 114), (3, 123), (3, 131), (3, 140), (3, 141), (3, 142), (3, 143), (3, 144), (3, 145), (3, 146), (3, 147)]) rfl hP rfl 0 (by decide) (hts _ (wg_t kw_165)) (fun _ h9 => h9) (cd := (3, 16)) rfl dDA_commit_241 (fun v24 hv24 => ?_)
              obtain ⟨r21, rfl, kr21⟩ := (show ∃ r : Nat, v24 = .ref r ∧ T r = some 16 from hv24)
              refine mp_v (cx := []) (wr := []) hP hD hS hA [] [] rfl rfl rfl (by decide) (va_runV (As := []) (rest := []) F (N_SP_finish l g _ T s24 pl hO hU r21 16 17 ps21 x22 kr21 rfl rfl hf21 hf22 (by omega) (by omega)) (cwV 0 hts (wg_app (wg_c kw_672 (wg_c kw_611 (wg_c kw_612 (wg_c kw_2 wg_n)))) kw_613) rfl rfl rfl (by decide +kernel) ⟨by decide, by decide⟩) (pn_W "LatticeKeys$Sponge" (en_ok g) (ci := 3) (kn := 16) (fl := [(3, 17), (0, 0), (0, 0), (0, 0)]) hK hO kr21 rfl hP hD hS hA hE [] rfl rfl rfl) rfl rfl hl.1 rfl (lv_room (Nat.le_of_ble_eq_true rfl)) dDA_commit_244 ⟨by omega, by omega⟩) (fun  u22 H locs hu22 hP hD hS => ?_)
              obtain ⟨s25, pl⟩ := u22
              obtain ⟨⟨eq22, hFc22, ⟨x24, hx_24, hb_24⟩, ⟨x25, hx_25, hb_25⟩, -⟩, hO⟩ := hu22
              have hO : okn g T s25 pl := hO
              have hP : va_P g.1 vcl ([] ++ pl) _ := hP
              have hD : va_D _ ([] ++ pl) := hD
              have hFc22 : frm (M_SP_finish 16) s24 s25 := hFc22
              have hb_24 : x24 = x22 := hb_24
              have hb_25 : x25 = x22 := hb_25
              replace hR := bnd_step hR eq22
              have hF := frm_tr hF hFc22 (fun k hk => by unfold M_SP_finish at hk; unfold M_DA_commit_0; omega)
              refine W.widen (k := 0) (n := 0) (by omega) (by omega) ?_
              refine lv_aload_n hx hb dDA_commit_247 rfl (lv_at hl 1 rfl) ?_
              refine nw_get (C := "LatticeKeys$Dsa") (TT := T_DA) (N := 17) hx hb hts (wg_ft i_DA) hown hK hO k_h0 (kn := 39) (ci := 6) (fl := [(3, 16), (3, 22), (3, 37), (3, 40), (3, 97), (3, 105), (3, 114), (3, 123), (3, 131), (3, 140), (3, 141), (3, 142), (3, 143), (3, 144), (3, 145), (3, 146), (3, 147)]) rfl hP rfl 0 (by decide) (hts _ (wg_t kw_165)) (fun _ h9 => h9) (cd := (3, 16)) rfl dDA_commit_248 (fun v25 hv25 => ?_)
              obtain ⟨r22, rfl, kr22⟩ := (show ∃ r : Nat, v25 = .ref r ∧ T r = some 16 from hv25)
              refine lv_aload_n hx hb dDA_commit_251 rfl (lv_at hl 1 rfl) ?_
              refine nw_get (C := "LatticeKeys$Dsa") (TT := T_DA) (N := 17) hx hb hts (wg_ft i_DA) hown hK hO k_h0 (kn := 39) (ci := 6) (fl := [(3, 16), (3, 22), (3, 37), (3, 40), (3, 97), (3, 105), (3, 114), (3, 123), (3, 131), (3, 140), (3, 141), (3, 142), (3, 143), (3, 144), (3, 145), (3, 146), (3, 147)]) rfl hP rfl 13 (by decide) (hts _ (wg_t kw_178)) (fun _ h9 => h9) (cd := (3, 144)) rfl dDA_commit_252 (fun v26 hv26 => ?_)
              obtain ⟨r23, rfl, kr23⟩ := (show ∃ r : Nat, v26 = .ref r ∧ T r = some 144 from hv26)
              refine lv_iconst (v := nI 0) hx hb dDA_commit_255 (by decide) ?_
              refine lv_aload_n hx hb dDA_commit_256 rfl (lv_at hl 2 rfl) ?_
              refine nw_get (C := "LatticeKeys$DsaSet") (TT := T_DS) (N := 17) hx hb hts (wg_ft i_DS) hown hK hO k_st (kn := 9) (ci := 2) (fl := [(1, 4), (1, 4), (1, 2), (1, 3), (1, 39), (1, 32), (1, 18), (1, 131072), (1, 44), (1, 6), (1, 95232), (1, 80), (1, 78), (1, 1312), (1, 2560), (1, 2336), (1, 2420)]) rfl hP rfl 5 (by decide) (hts _ (wg_t kw_315)) (fun _ h9 => h9) (cd := (1, 32)) rfl dDA_commit_257 (fun v27 hv27 => ?_)
              obtain rfl := (show v27 = .int (nI 32) from hv27)
              refine mp_v (cx := []) (wr := []) hP hD hS hA [] [] rfl rfl rfl (by decide) (va_runV (As := [.ref r23, .int (nI 0), .int (nI 32)]) (rest := []) F (N_SP_squeeze l g _ T s25 pl hO hU r22 r23 16 17 144 64 0 32 x24 x25 kr22 rfl rfl kr23 rfl hx_24 hx_25 (by omega) (by omega) (by omega) (by omega)) (cwV 3 hts (wg_app (wg_c kw_673 (wg_c kw_615 (wg_c kw_616 (wg_c kw_2 wg_n)))) kw_617) rfl rfl rfl (by decide +kernel) ⟨by decide, by decide⟩) (pn_W "LatticeKeys$Sponge" (en_ok g) (ci := 3) (kn := 16) (fl := [(3, 17), (0, 0), (0, 0), (0, 0)]) hK hO kr22 rfl hP hD hS hA hE [] rfl rfl rfl) rfl rfl hl.1 rfl (lv_room (Nat.le_of_ble_eq_true rfl)) dDA_commit_260 ⟨by omega, by omega⟩) (fun  u23 H locs hu23 hP hD hS => ?_)
              obtain ⟨s26, pl⟩ := u23
              obtain ⟨⟨eq23, hFc23, ⟨x27, hx_27, hb_27⟩, ⟨x28, hx_28, hb_28⟩, -⟩, hO⟩ := hu23
              have hO : okn g T s26 pl := hO
              have hP : va_P g.1 vcl ([] ++ pl) _ := hP
              have hD : va_D _ ([] ++ pl) := hD
              have hFc23 : frm (M_SP_squeeze 16 144) s25 s26 := hFc23
              have hb_27 : x27 ≤ x25 := hb_27
              have hb_28 : x28 = x25 := hb_28
              replace hR := bnd_step hR eq23
              have hF := frm_tr hF hFc23 (fun k hk => by unfold M_SP_squeeze at hk; unfold M_DA_commit_0; omega)
              refine W.widen (k := 0) (n := 0) (by omega) (by omega) ?_
              refine lv_aload_n hx hb dDA_commit_263 rfl (lv_at hl 1 rfl) ?_
              refine nw_get (C := "LatticeKeys$Dsa") (TT := T_DA) (N := 17) hx hb hts (wg_ft i_DA) hown hK hO k_h0 (kn := 39) (ci := 6) (fl := [(3, 16), (3, 22), (3, 37), (3, 40), (3, 97), (3, 105), (3, 114), (3, 123), (3, 131), (3, 140), (3, 141), (3, 142), (3, 143), (3, 144), (3, 145), (3, 146), (3, 147)]) rfl hP rfl 2 (by decide) (hts _ (wg_t kw_167)) (fun _ h9 => h9) (cd := (3, 37)) rfl dDA_commit_264 (fun v28 hv28 => ?_)
              obtain ⟨r24, rfl, kr24⟩ := (show ∃ r : Nat, v28 = .ref r ∧ T r = some 37 from hv28)
              refine lv_aload_n hx hb dDA_commit_267 rfl (lv_at hl 2 rfl) ?_
              refine lv_aload_n hx hb dDA_commit_268 rfl (lv_at hl 1 rfl) ?_
              refine nw_get (C := "LatticeKeys$Dsa") (TT := T_DA) (N := 17) hx hb hts (wg_ft i_DA) hown hK hO k_h0 (kn := 39) (ci := 6) (fl := [(3, 16), (3, 22), (3, 37), (3, 40), (3, 97), (3, 105), (3, 114), (3, 123), (3, 131), (3, 140), (3, 141), (3, 142), (3, 143), (3, 144), (3, 145), (3, 146), (3, 147)]) rfl hP rfl 9 (by decide) (hts _ (wg_t kw_174)) (fun _ h9 => h9) (cd := (3, 140)) rfl dDA_commit_269 (fun v29 hv29 => ?_)
              obtain ⟨r25, rfl, kr25⟩ := (show ∃ r : Nat, v29 = .ref r ∧ T r = some 140 from hv29)
              refine lv_aload_n hx hb dDA_commit_272 rfl (lv_at hl 1 rfl) ?_
              refine nw_get (C := "LatticeKeys$Dsa") (TT := T_DA) (N := 17) hx hb hts (wg_ft i_DA) hown hK hO k_h0 (kn := 39) (ci := 6) (fl := [(3, 16), (3, 22), (3, 37), (3, 40), (3, 97), (3, 105), (3, 114), (3, 123), (3, 131), (3, 140), (3, 141), (3, 142), (3, 143), (3, 144), (3, 145), (3, 146), (3, 147)]) rfl hP rfl 13 (by decide) (hts _ (wg_t kw_178)) (fun _ h9 => h9) (cd := (3, 144)) rfl dDA_commit_273 (fun v30 hv30 => ?_)
              obtain ⟨r26, rfl, kr26⟩ := (show ∃ r : Nat, v30 = .ref r ∧ T r = some 144 from hv30)
              refine mp_v (cx := []) (wr := []) hP hD hS hA [] [] rfl rfl rfl (by decide) (va_runV (As := [.ref st, .ref r25, .ref r26]) (rest := []) F (N_SA_sampleBall_0 l g _ T s26 pl hO hU r24 st r25 r26 140 144 64 kr24 k_st kr25 rfl kr26 rfl (by omega) (by omega)) (cwV 3 hts (wg_app (wg_c kw_1214 (wg_c kw_1215 (wg_c kw_1216 (wg_c kw_6 wg_n)))) kw_1217) rfl rfl rfl (by decide +kernel) ⟨by decide, by decide⟩) (pn_W "LatticeKeys$DsaSampler" (en_ok g) (ci := 7) (kn := 37) (fl := [(3, 18), (3, 38)]) hK hO kr24 rfl hP hD hS hA hE [] rfl rfl rfl) rfl rfl hl.1 rfl (lv_room (Nat.le_of_ble_eq_true rfl)) dDA_commit_276 ⟨by omega, by omega⟩) (fun  u24 H locs hu24 hP hD hS => ?_)
              obtain ⟨s27, pl⟩ := u24
              obtain ⟨⟨eq24, hFc24, -⟩, hO⟩ := hu24
              have hO : okn g T s27 pl := hO
              have hP : va_P g.1 vcl ([] ++ pl) _ := hP
              have hD : va_D _ ([] ++ pl) := hD
              have hFc24 : frm (M_SA_sampleBall_0 140) s26 s27 := hFc24
              replace hR := bnd_step hR eq24
              have hF := frm_tr hF hFc24 (fun k hk => by unfold M_SA_sampleBall_0 at hk; unfold M_DA_commit_0; omega)
              have hf23 : s27.1 16 3 = nI x27 := fc_F hx_27 hFc24 (by unfold M_SA_sampleBall_0; omega)
              have hf24 : s27.1 16 1 = nI x28 := fc_F hx_28 hFc24 (by unfold M_SA_sampleBall_0; omega)
              refine W.widen (k := 0) (n := 0) (by omega) (by omega) ?_
              refine lv_aload_n hx hb dDA_commit_279 rfl (lv_at hl 1 rfl) ?_
              refine nw_get (C := "LatticeKeys$Dsa") (TT := T_DA) (N := 17) hx hb hts (wg_ft i_DA) hown hK hO k_h0 (kn := 39) (ci := 6) (fl := [(3, 16), (3, 22), (3, 37), (3, 40), (3, 97), (3, 105), (3, 114), (3, 123), (3, 131), (3, 140), (3, 141), (3, 142), (3, 143), (3, 144), (3, 145), (3, 146), (3, 147)]) rfl hP rfl 1 (by decide) (hts _ (wg_t kw_166)) (fun _ h9 => h9) (cd := (3, 22)) rfl dDA_commit_280 (fun v31 hv31 => ?_)
              obtain ⟨r27, rfl, kr27⟩ := (show ∃ r : Nat, v31 = .ref r ∧ T r = some 22 from hv31)
              refine lv_aload_n hx hb dDA_commit_283 rfl (lv_at hl 1 rfl) ?_
              refine nw_get (C := "LatticeKeys$Dsa") (TT := T_DA) (N := 17) hx hb hts (wg_ft i_DA) hown hK hO k_h0 (kn := 39) (ci := 6) (fl := [(3, 16), (3, 22), (3, 37), (3, 40), (3, 97), (3, 105), (3, 114), (3, 123), (3, 131), (3, 140), (3, 141), (3, 142), (3, 143), (3, 144), (3, 145), (3, 146), (3, 147)]) rfl hP rfl 9 (by decide) (hts _ (wg_t kw_174)) (fun _ h9 => h9) (cd := (3, 140)) rfl dDA_commit_284 (fun v32 hv32 => ?_)
              obtain ⟨r28, rfl, kr28⟩ := (show ∃ r : Nat, v32 = .ref r ∧ T r = some 140 from hv32)
              refine mp_v (cx := []) (wr := []) hP hD hS hA [] [] rfl rfl rfl (by decide) (va_runV (As := [.ref r28]) (rest := []) F (N_RG_transform_8 l g _ T s27 pl hO hU r27 r28 140 kr27 kr28 rfl) (cwV 1 hts (wg_app (wg_c kw_711 (wg_c kw_637 (wg_c kw_638 (wg_c kw_4 wg_n)))) kw_639) rfl rfl rfl (by decide +kernel) ⟨by decide, by decide⟩) (pn_W "LatticeKeys$Ring" (en_ok g) (ci := 4) (kn := 22) (fl := [(1, 8380417), (1, 8), (1, 8347681), (3, 23)]) hK hO kr27 rfl hP hD hS hA hE [] rfl rfl rfl) rfl rfl hl.1 rfl (lv_room (Nat.le_of_ble_eq_true rfl)) dDA_commit_287 ⟨by omega, by omega⟩) (fun  u25 H locs hu25 hP hD hS => ?_)
              obtain ⟨s28, pl⟩ := u25
              obtain ⟨⟨eq25, hFc25, -⟩, hO⟩ := hu25
              have hO : okn g T s28 pl := hO
              have hP : va_P g.1 vcl ([] ++ pl) _ := hP
              have hD : va_D _ ([] ++ pl) := hD
              have hFc25 : frm (M_RG_transform_8 140) s27 s28 := hFc25
              replace hR := bnd_step hR eq25
              have hF := frm_tr hF hFc25 (fun k hk => by unfold M_RG_transform_8 at hk; unfold M_DA_commit_0; omega)
              have hf25 : s28.1 16 3 = nI x27 := fc_F hf23 hFc25 (by unfold M_RG_transform_8; omega)
              have hf26 : s28.1 16 1 = nI x28 := fc_F hf24 hFc25 (by unfold M_RG_transform_8; omega)
              refine W.widen (k := 0) (n := 0) (by omega) (by omega) ?_
              exact mp_vret hx hb hr hlk hP hD hS (s28, pl) ⟨⟨hR.symm, hF, trivial⟩, hO⟩ [] rfl rfl rfl (by omega) (by omega) dDA_commit_290
            | succ n23 ih23 =>
              intro i23 s24 ps21 pl ls H locs hm23 hi21 hF hf27 hf28 hR hl hO hP hD hS
              refine lv_iload_n hx hb dDA_commit_171 rfl (lv_at hl 0 rfl) ?_
              refine lv_aload_n hx hb dDA_commit_172 rfl (lv_at hl 2 rfl) ?_
              refine nw_get (C := "LatticeKeys$DsaSet") (TT := T_DS) (N := 17) hx hb hts (wg_ft i_DS) hown hK hO k_st (kn := 9) (ci := 2) (fl := [(1, 4), (1, 4), (1, 2), (1, 3), (1, 39), (1, 32), (1, 18), (1, 131072), (1, 44), (1, 6), (1, 95232), (1, 80), (1, 78), (1, 1312), (1, 2560), (1, 2336), (1, 2420)]) rfl hP rfl 0 (by decide) (hts _ (wg_t kw_302)) (fun _ h9 => h9) (cd := (1, 4)) rfl dDA_commit_173 (fun v33 hv33 => ?_)
              obtain rfl := (show v33 = .int (nI 4) from hv33)
              refine mi_ge (tgt := 240) hx hb dDA_commit_176 (by decide) (by omega) (by omega) (fun h24 => absurd h24 (by omega)) (fun h24 => ?_)
              refine lv_aload_n hx hb dDA_commit_179 rfl (lv_at hl 1 rfl) ?_
              refine nw_get (C := "LatticeKeys$Dsa") (TT := T_DA) (N := 17) hx hb hts (wg_ft i_DA) hown hK hO k_h0 (kn := 39) (ci := 6) (fl := [(3, 16), (3, 22), (3, 37), (3, 40), (3, 97), (3, 105), (3, 114), (3, 123), (3, 131), (3, 140), (3, 141), (3, 142), (3, 143), (3, 144), (3, 145), (3, 146), (3, 147)]) rfl hP rfl 1 (by decide) (hts _ (wg_t kw_166)) (fun _ h9 => h9) (cd := (3, 22)) rfl dDA_commit_180 (fun v34 hv34 => ?_)
              obtain ⟨r29, rfl, kr29⟩ := (show ∃ r : Nat, v34 = .ref r ∧ T r = some 22 from hv34)
              refine lv_aload_n hx hb dDA_commit_183 rfl (lv_at hl 1 rfl) ?_
              refine nw_get (C := "LatticeKeys$Dsa") (TT := T_DA) (N := 17) hx hb hts (wg_ft i_DA) hown hK hO k_h0 (kn := 39) (ci := 6) (fl := [(3, 16), (3, 22), (3, 37), (3, 40), (3, 97), (3, 105), (3, 114), (3, 123), (3, 131), (3, 140), (3, 141), (3, 142), (3, 143), (3, 144), (3, 145), (3, 146), (3, 147)]) rfl hP rfl 8 (by decide) (hts _ (wg_t kw_173)) (fun _ h9 => h9) (cd := (3, 131)) rfl dDA_commit_184 (fun v35 hv35 => ?_)
              obtain ⟨r30, rfl, kr30⟩ := (show ∃ r : Nat, v35 = .ref r ∧ T r = some 131 from hv35)
              refine lv_iload_n hx hb dDA_commit_187 rfl (lv_at hl 0 rfl) ?_
              refine nw_aald3 hx hb hK hO kr30 (k := 131) (b := 132) rfl hP (by omega) (by omega) dDA_commit_188 (fun r31 kr31 => ?_)
              have hn21 : nsp (132 + i23) = (0, 256, []) := rows_ok 132 8 (by decide) _ (by omega)
              refine mp_v (cx := []) (wr := []) hP hD hS hA [] [] rfl rfl rfl (by decide) (va_runV (As := [.ref r31]) (rest := []) F (N_RG_restore_8 l g _ T s24 pl hO hU r29 r31 (132 + i23) kr29 kr31 hn21) (cwV 1 hts (wg_app (wg_c kw_720 (wg_c kw_721 (wg_c kw_722 (wg_c kw_4 wg_n)))) kw_723) rfl rfl rfl (by decide +kernel) ⟨by decide, by decide⟩) (pn_W "LatticeKeys$Ring" (en_ok g) (ci := 4) (kn := 22) (fl := [(1, 8380417), (1, 8), (1, 8347681), (3, 23)]) hK hO kr29 rfl hP hD hS hA hE [] rfl rfl rfl) rfl rfl hl.1 rfl (lv_room (Nat.le_of_ble_eq_true rfl)) dDA_commit_189 ⟨by omega, by omega⟩) (fun  u26 H locs hu26 hP hD hS => ?_)
              obtain ⟨s29, pl⟩ := u26
              obtain ⟨⟨eq26, hFc26, -⟩, hO⟩ := hu26
              have hO : okn g T s29 pl := hO
              have hP : va_P g.1 vcl ([] ++ pl) _ := hP
              have hD : va_D _ ([] ++ pl) := hD
              have hFc26 : frm (M_RG_restore_8 (132 + i23)) s24 s29 := hFc26
              replace hR := bnd_step hR eq26
              have hF := frm_tr hF hFc26 (fun k hk => by unfold M_RG_restore_8 at hk; unfold M_DA_commit_0; omega)
              have hf29 : s29.1 16 3 = nI ps21 := fc_F hf27 hFc26 (by unfold M_RG_restore_8; omega)
              have hf30 : s29.1 16 1 = nI x22 := fc_F hf28 hFc26 (by unfold M_RG_restore_8; omega)
              refine W.widen (k := 0) (n := 0) (by omega) (by omega) ?_
              refine lv_iconst (v := nI 0) hx hb dDA_commit_192 (by decide) ?_
              refine lv_istore (lv' := [(4, .int (nI 0)), (3, .int (nI i23)), (0, .ref h0), (1, .ref st)]) hx hb dDA_commit_193 hl (by decide) rfl (fun ls hl => ?_)
              have lp24 : ∀ (n24 : Nat) (i24 : Nat) (s30 : Sto) (ps22 : Nat) (pl : va_W) (ls : Array Slot) (H : Heap) (locs : List Loc), n24 + i24 = 256 → (ps22 < 136) → frm (M_DA_commit_0) s s30 → s30.1 16 3 = nI ps22 → s30.1 16 1 = nI x22 → F_DA_commit_0 cn s = F_DA_commit_0_L3 i23 (F_DA_commit_0_L2 n23) n24 i24 s30 → lv_has ls 5 [(4, .int (nI i24)), (3, .int (nI i23)), (0, .ref h0), (1, .ref st)] → okn g T s30 pl → va_P g.1 vcl ([] ++ pl) H → va_D A ([] ++ pl) → va_S A s0.heap H locs → W p l e ({ frames := 5, cells := 0, slots := 0, locals := 147 } : Room) s0 m args below meth c H locs 0 0 (MQ below (va_Qv (fun (u : (Sto) × va_W) => (u.1 = F_DA_commit_0 cn s ∧ frm (M_DA_commit_0) s u.1 ∧ True) ∧ okn g T u.1 u.2) (po g.1 vcl A (fun (u : (Sto) × va_W) => [] ++ u.2)) A) args s0 0 0 A) (F0 m 195 ls []) := by
                intro n24
                induction n24 with
                | zero =>
                  intro i24 s30 ps22 pl ls H locs hm24 hi22 hF hf31 hf32 hR hl hO hP hD hS
                  refine lv_iload hx hb dDA_commit_195 (lv_at hl 0 rfl) ?_
                  refine lv_sipush (v := nI 256) hx hb dDA_commit_197 (by decide) ?_
                  refine mi_ge (tgt := 229) hx hb dDA_commit_200 (by decide) (by omega) (by omega) (fun h25 => ?_) (fun h25 => absurd h25 (by omega))
                  refine lv_aload_n hx hb dDA_commit_229 rfl (lv_at hl 2 rfl) ?_
                  refine lv_aload_n hx hb dDA_commit_230 rfl (lv_at hl 3 rfl) ?_
                  refine mp_v (cx := []) (wr := []) hP hD hS hA [] [] rfl rfl rfl (by decide) (va_runV (As := [.ref st]) (rest := []) F (N_DA_absorbHigh_0 l g _ T s30 pl hO hU h0 st ps22 x22 k_h0 k_st hf31 hf32 (by omega) (by omega)) (cwV 1 hts (wg_app (wg_c kw_1210 (wg_c kw_1212 (wg_c ks_39 (wg_c kw_5 wg_n)))) kw_1213) rfl rfl rfl (by decide +kernel) ⟨by decide, by decide⟩) (pn_W "LatticeKeys$Dsa" (en_ok g) (ci := 6) (kn := 39) (fl := [(3, 16), (3, 22), (3, 37), (3, 40), (3, 97), (3, 105), (3, 114), (3, 123), (3, 131), (3, 140), (3, 141), (3, 142), (3, 143), (3, 144), (3, 145), (3, 146), (3, 147)]) hK hO k_h0 rfl hP hD hS hA hE [] rfl rfl rfl) rfl rfl hl.1 rfl (lv_room (Nat.le_of_ble_eq_true rfl)) dDA_commit_231 ⟨by omega, by omega⟩) (fun  u27 H locs hu27 hP hD hS => ?_)
                  obtain ⟨s31, pl⟩ := u27
                  obtain ⟨⟨eq27, hFc27, ⟨x33, hx_33, hb_33⟩, ⟨x34, hx_34, hb_34⟩, -⟩, hO⟩ := hu27
                  have hO : okn g T s31 pl := hO
                  have hP : va_P g.1 vcl ([] ++ pl) _ := hP
                  have hD : va_D _ ([] ++ pl) := hD
                  have hFc27 : frm (M_DA_absorbHigh_0) s30 s31 := hFc27
                  have hb_33 : x33 < 136 := hb_33
                  have hb_34 : x34 = 136 := hb_34
                  replace hR := bnd_step hR eq27
                  have hF := frm_tr hF hFc27 (fun k hk => by unfold M_DA_absorbHigh_0 at hk; unfold M_DA_commit_0; omega)
                  refine W.widen (k := 0) (n := 0) (by omega) (by omega) ?_
                  refine mi_iinc (k := 1) (x := i23) (d := 1) (y := i23 + 1) (lv' := [(3, .int (nI (i23 + 1))), (4, .int (nI i24)), (0, .ref h0), (1, .ref st)]) hx hb dDA_commit_234 hl rfl (by decide) rfl (by decide) rfl (fun ls hl => ?_)
                  refine lv_goto (tgt := 171) hx hb dDA_commit_237 (by decide) ?_
                  exact ih23 (i23 + 1) s31 x33 pl ls H locs (by omega) (by omega) hF hx_33 (by have h9 := hx_34; rw [show x34 = x22 by omega] at h9; exact h9) hR (lv_sub hl [0, 2, 3] rfl) hO hP hD hS
                | succ n24 ih24 =>
                  intro i24 s30 ps22 pl ls H locs hm24 hi22 hF hf33 hf34 hR hl hO hP hD hS
                  refine lv_iload hx hb dDA_commit_195 (lv_at hl 0 rfl) ?_
                  refine lv_sipush (v := nI 256) hx hb dDA_commit_197 (by decide) ?_
                  refine mi_ge (tgt := 229) hx hb dDA_commit_200 (by decide) (by omega) (by omega) (fun h26 => absurd h26 (by omega)) (fun h26 => ?_)
                  refine lv_aload_n hx hb dDA_commit_203 rfl (lv_at hl 2 rfl) ?_
                  refine nw_get (C := "LatticeKeys$Dsa") (TT := T_DA) (N := 17) hx hb hts (wg_ft i_DA) hown hK hO k_h0 (kn := 39) (ci := 6) (fl := [(3, 16), (3, 22), (3, 37), (3, 40), (3, 97), (3, 105), (3, 114), (3, 123), (3, 131), (3, 140), (3, 141), (3, 142), (3, 143), (3, 144), (3, 145), (3, 146), (3, 147)]) rfl hP rfl 10 (by decide) (hts _ (wg_t kw_175)) (fun _ h9 => h9) (cd := (3, 141)) rfl dDA_commit_204 (fun v36 hv36 => ?_)
                  obtain ⟨r32, rfl, kr32⟩ := (show ∃ r : Nat, v36 = .ref r ∧ T r = some 141 from hv36)
                  refine lv_iload hx hb dDA_commit_207 (lv_at hl 0 rfl) ?_
                  refine lv_aload_n hx hb dDA_commit_209 rfl (lv_at hl 3 rfl) ?_
                  refine lv_aload_n hx hb dDA_commit_210 rfl (lv_at hl 2 rfl) ?_
                  refine nw_get (C := "LatticeKeys$Dsa") (TT := T_DA) (N := 17) hx hb hts (wg_ft i_DA) hown hK hO k_h0 (kn := 39) (ci := 6) (fl := [(3, 16), (3, 22), (3, 37), (3, 40), (3, 97), (3, 105), (3, 114), (3, 123), (3, 131), (3, 140), (3, 141), (3, 142), (3, 143), (3, 144), (3, 145), (3, 146), (3, 147)]) rfl hP rfl 8 (by decide) (hts _ (wg_t kw_173)) (fun _ h9 => h9) (cd := (3, 131)) rfl dDA_commit_211 (fun v37 hv37 => ?_)
                  obtain ⟨r33, rfl, kr33⟩ := (show ∃ r : Nat, v37 = .ref r ∧ T r = some 131 from hv37)
                  refine lv_iload_n hx hb dDA_commit_214 rfl (lv_at hl 1 rfl) ?_
                  refine nw_aald3 hx hb hK hO kr33 (k := 131) (b := 132) rfl hP (by omega) (by omega) dDA_commit_215 (fun r34 kr34 => ?_)
                  have hn22 : nsp (132 + i23) = (0, 256, []) := rows_ok 132 8 (by decide) _ (by omega)
                  refine lv_iload hx hb dDA_commit_216 (lv_at hl 0 rfl) ?_
                  refine nw_iald hx hb hK hO kr34 (k := (132 + i23)) hn22 hP (by omega) (by omega) dDA_commit_218 ?_
                  refine mp_i (cx := []) (wr := []) hP hD hS hA [] [] rfl rfl rfl (by decide) (va_runV (As := [.int ((s30.1 ((132 + i23)) i24))]) (rest := [.int (nI i24), .ref r32]) F (N_DS_high_0 l g _ T s30 pl hO hU st (s30.1 ((132 + i23)) i24) k_st) (cwV 1 hts (wg_app (wg_c kw_1206 (wg_c kw_1207 (wg_c kw_1208 (wg_c kw_8 wg_n)))) kw_1209) rfl rfl rfl (by decide +kernel) ⟨by decide, by decide⟩) (pn_W "LatticeKeys$DsaSet" (en_ok g) (ci := 2) (kn := 9) (fl := [(1, 4), (1, 4), (1, 2), (1, 3), (1, 39), (1, 32), (1, 18), (1, 131072), (1, 44), (1, 6), (1, 95232), (1, 80), (1, 78), (1, 1312), (1, 2560), (1, 2336), (1, 2420)]) hK hO k_st rfl hP hD hS hA hE [] rfl rfl rfl) rfl rfl hl.1 rfl (lv_room (Nat.le_of_ble_eq_true rfl)) dDA_commit_219 ⟨by omega, by omega⟩) (fun r35 u28 H locs hu28 hP hD hS => ?_)
                  obtain ⟨q21, pl⟩ := u28
                  obtain ⟨⟨eq28, rfl, hFc28, -⟩, hO⟩ := hu28
                  have hO : okn g T q21.2 pl := hO
                  have hP : va_P g.1 vcl ([] ++ pl) _ := hP
                  have hD : va_D _ ([] ++ pl) := hD
                  have hFc28 : frm (M_DS_high_0) s30 q21.2 := hFc28
                  replace hR := bnd_step hR eq28
                  have hF := frm_tr hF hFc28 (fun k hk => by unfold M_DS_high_0 at hk; unfold M_DA_commit_0; omega)
                  have hf35 : q21.2.1 16 3 = nI ps22 := fc_F hf33 hFc28 (by unfold M_DS_high_0; omega)
                  have hf36 : q21.2.1 16 1 = nI x22 := fc_F hf34 hFc28 (by unfold M_DS_high_0; omega)
                  refine W.widen (k := 0) (n := 0) (by omega) (by omega) ?_
                  refine nw_iast hx hb hK hO hU kr32 (k := 141) rfl hP hD hS (by omega) (by omega) dDA_commit_222 (fun s32 pl H locs es21 hO hP hD hS => ?_)
                  replace hR := bnd_step hR es21
                  have hF := frm_sI hF es21 (by unfold M_DA_commit_0; omega)
                  have hf37 : s32.1 16 3 = nI ps22 := fc_ne hf35 es21 (by omega)
                  have hf38 : s32.1 16 1 = nI x22 := fc_ne hf36 es21 (by omega)
                  refine mi_iinc (k := 0) (x := i24) (d := 1) (y := i24 + 1) (lv' := [(4, .int (nI (i24 + 1))), (3, .int (nI i23)), (0, .ref h0), (1, .ref st)]) hx hb dDA_commit_223 hl rfl (by decide) rfl (by decide) rfl (fun ls hl => ?_)
                  refine lv_goto (tgt := 195) hx hb dDA_commit_226 (by decide) ?_
                  exact ih24 (i24 + 1) s32 ps22 pl ls H locs (by omega) (by omega) hF hf37 hf38 hR (lv_sub hl [0, 1, 2, 3] rfl) hO hP hD hS
              exact lp24 256 0 s29 ps21 pl ls _ _ (by omega) (by omega) hF hf29 hf30 hR (lv_sub hl [0, 1, 2, 3] rfl) hO hP hD hS
          exact lp23 4 0 s23 x21 pl ls _ _ (by omega) (by omega) hF hx_21 hx_22 hR (lv_sub hl [0, 1, 2] rfl) hO hP hD hS
        | succ n22 ih22 =>
          intro i22 s22 pl ls H locs hm22 hF hR hl hO hP hD hS
          refine lv_iload_n hx hb dDA_commit_28 rfl (lv_at hl 0 rfl) ?_
          refine lv_aload_n hx hb dDA_commit_29 rfl (lv_at hl 2 rfl) ?_
          refine nw_get (C := "LatticeKeys$DsaSet") (TT := T_DS) (N := 17) hx hb hts (wg_ft i_DS) hown hK hO k_st (kn := 9) (ci := 2) (fl := [(1, 4), (1, 4), (1, 2), (1, 3), (1, 39), (1, 32), (1, 18), (1, 131072), (1, 44), (1, 6), (1, 95232), (1, 80), (1, 78), (1, 1312), (1, 2560), (1, 2336), (1, 2420)]) rfl hP rfl 1 (by decide) (hts _ (wg_t kw_305)) (fun _ h9 => h9) (cd := (1, 4)) rfl dDA_commit_30 (fun v38 hv38 => ?_)
          obtain rfl := (show v38 = .int (nI 4) from hv38)
          refine mi_ge (tgt := 165) hx hb dDA_commit_33 (by decide) (by omega) (by omega) (fun h27 => absurd h27 (by omega)) (fun h27 => ?_)
          refine lv_aload_n hx hb dDA_commit_36 rfl (lv_at hl 1 rfl) ?_
          refine nw_get (C := "LatticeKeys$Dsa") (TT := T_DA) (N := 17) hx hb hts (wg_ft i_DA) hown hK hO k_h0 (kn := 39) (ci := 6) (fl := [(3, 16), (3, 22), (3, 37), (3, 40), (3, 97), (3, 105), (3, 114), (3, 123), (3, 131), (3, 140), (3, 141), (3, 142), (3, 143), (3, 144), (3, 145), (3, 146), (3, 147)]) rfl hP rfl 2 (by decide) (hts _ (wg_t kw_167)) (fun _ h9 => h9) (cd := (3, 37)) rfl dDA_commit_37 (fun v39 hv39 => ?_)
          obtain ⟨r36, rfl, kr35⟩ := (show ∃ r : Nat, v39 = .ref r ∧ T r = some 37 from hv39)
          refine lv_aload_n hx hb dDA_commit_40 rfl (lv_at hl 2 rfl) ?_
          refine lv_aload_n hx hb dDA_commit_41 rfl (lv_at hl 1 rfl) ?_
          refine nw_get (C := "LatticeKeys$Dsa") (TT := T_DA) (N := 17) hx hb hts (wg_ft i_DA) hown hK hO k_h0 (kn := 39) (ci := 6) (fl := [(3, 16), (3, 22), (3, 37), (3, 40), (3, 97), (3, 105), (3, 114), (3, 123), (3, 131), (3, 140), (3, 141), (3, 142), (3, 143), (3, 144), (3, 145), (3, 146), (3, 147)]) rfl hP rfl 7 (by decide) (hts _ (wg_t kw_172)) (fun _ h9 => h9) (cd := (3, 123)) rfl dDA_commit_42 (fun v40 hv40 => ?_)
          obtain ⟨r37, rfl, kr36⟩ := (show ∃ r : Nat, v40 = .ref r ∧ T r = some 123 from hv40)
          refine lv_iload_n hx hb dDA_commit_45 rfl (lv_at hl 0 rfl) ?_
          refine nw_aald3 hx hb hK hO kr36 (k := 123) (b := 124) rfl hP (by omega) (by omega) dDA_commit_46 (fun r38 kr37 => ?_)
          have hn23 : nsp (124 + i22) = (0, 256, []) := rows_ok 124 7 (by decide) _ (by omega)
          refine lv_aload_n hx hb dDA_commit_47 rfl (lv_at hl 1 rfl) ?_
          refine nw_get (C := "LatticeKeys$Dsa") (TT := T_DA) (N := 17) hx hb hts (wg_ft i_DA) hown hK hO k_h0 (kn := 39) (ci := 6) (fl := [(3, 16), (3, 22), (3, 37), (3, 40), (3, 97), (3, 105), (3, 114), (3, 123), (3, 131), (3, 140), (3, 141), (3, 142), (3, 143), (3, 144), (3, 145), (3, 146), (3, 147)]) rfl hP rfl 11 (by decide) (hts _ (wg_t kw_176)) (fun _ h9 => h9) (cd := (3, 142)) rfl dDA_commit_48 (fun v41 hv41 => ?_)
          obtain ⟨r39, rfl, kr38⟩ := (show ∃ r : Nat, v41 = .ref r ∧ T r = some 142 from hv41)
          refine lv_iload_n hx hb dDA_commit_51 rfl (lv_at hl 3 rfl) ?_
          refine lv_iload_n hx hb dDA_commit_52 rfl (lv_at hl 0 rfl) ?_
          refine lv_iadd hx hb dDA_commit_53 ?_
          refine mp_v (cx := []) (wr := []) hP hD hS hA [] [] rfl rfl rfl (by decide) (va_runV (As := [.ref st, .ref r38, .ref r39, .int ((cn + (nI i22)))]) (rest := []) F (N_SA_sampleMask_0 l g _ T s22 pl hO hU r36 st r38 r39 (124 + i22) 142 128 (cn + (nI i22)) kr35 k_st kr37 hn23 kr38 rfl (by omega) (by omega)) (cwV 4 hts (wg_app (wg_c kw_1196 (wg_c kw_1197 (wg_c kw_1198 (wg_c kw_6 wg_n)))) kw_1199) rfl rfl rfl (by decide +kernel) ⟨by decide, by decide⟩) (pn_W "LatticeKeys$DsaSampler" (en_ok g) (ci := 7) (kn := 37) (fl := [(3, 18), (3, 38)]) hK hO kr35 rfl hP hD hS hA hE [] rfl rfl rfl) rfl rfl hl.1 rfl (lv_room (Nat.le_of_ble_eq_true rfl)) dDA_commit_54 ⟨by omega, by omega⟩) (fun  u29 H locs hu29 hP hD hS => ?_)
          obtain ⟨s33, pl⟩ := u29
          obtain ⟨⟨eq29, hFc29, -⟩, hO⟩ := hu29
          have hO : okn g T s33 pl := hO
          have hP : va_P g.1 vcl ([] ++ pl) _ := hP
          have hD : va_D _ ([] ++ pl) := hD
          have hFc29 : frm (M_SA_sampleMask_0 (124 + i22)) s22 s33 := hFc29
          replace hR := bnd_step hR eq29
          have hF := frm_tr hF hFc29 (fun k hk => by unfold M_SA_sampleMask_0 at hk; unfold M_DA_commit_0; omega)
          refine W.widen (k := 0) (n := 0) (by omega) (by omega) ?_
          refine lv_aload_n hx hb dDA_commit_57 rfl (lv_at hl 1 rfl) ?_
          refine nw_get (C := "LatticeKeys$Dsa") (TT := T_DA) (N := 17) hx hb hts (wg_ft i_DA) hown hK hO k_h0 (kn := 39) (ci := 6) (fl := [(3, 16), (3, 22), (3, 37), (3, 40), (3, 97), (3, 105), (3, 114), (3, 123), (3, 131), (3, 140), (3, 141), (3, 142), (3, 143), (3, 144), (3, 145), (3, 146), (3, 147)]) rfl hP rfl 1 (by decide) (hts _ (wg_t kw_166)) (fun _ h9 => h9) (cd := (3, 22)) rfl dDA_commit_58 (fun v42 hv42 => ?_)
          obtain ⟨r40, rfl, kr39⟩ := (show ∃ r : Nat, v42 = .ref r ∧ T r = some 22 from hv42)
          refine lv_aload_n hx hb dDA_commit_61 rfl (lv_at hl 1 rfl) ?_
          refine nw_get (C := "LatticeKeys$Dsa") (TT := T_DA) (N := 17) hx hb hts (wg_ft i_DA) hown hK hO k_h0 (kn := 39) (ci := 6) (fl := [(3, 16), (3, 22), (3, 37), (3, 40), (3, 97), (3, 105), (3, 114), (3, 123), (3, 131), (3, 140), (3, 141), (3, 142), (3, 143), (3, 144), (3, 145), (3, 146), (3, 147)]) rfl hP rfl 7 (by decide) (hts _ (wg_t kw_172)) (fun _ h9 => h9) (cd := (3, 123)) rfl dDA_commit_62 (fun v43 hv43 => ?_)
          obtain ⟨r41, rfl, kr40⟩ := (show ∃ r : Nat, v43 = .ref r ∧ T r = some 123 from hv43)
          refine lv_iload_n hx hb dDA_commit_65 rfl (lv_at hl 0 rfl) ?_
          refine nw_aald3 hx hb hK hO kr40 (k := 123) (b := 124) rfl hP (by omega) (by omega) dDA_commit_66 (fun r42 kr41 => ?_)
          have hn24 : nsp (124 + i22) = (0, 256, []) := rows_ok 124 7 (by decide) _ (by omega)
          refine lv_aload_n hx hb dDA_commit_67 rfl (lv_at hl 2 rfl) ?_
          refine nw_get (C := "LatticeKeys$DsaSet") (TT := T_DS) (N := 17) hx hb hts (wg_ft i_DS) hown hK hO k_st (kn := 9) (ci := 2) (fl := [(1, 4), (1, 4), (1, 2), (1, 3), (1, 39), (1, 32), (1, 18), (1, 131072), (1, 44), (1, 6), (1, 95232), (1, 80), (1, 78), (1, 1312), (1, 2560), (1, 2336), (1, 2420)]) rfl hP rfl 7 (by decide) (hts _ (wg_t kw_320)) (fun _ h9 => h9) (cd := (1, 131072)) rfl dDA_commit_68 (fun v44 hv44 => ?_)
          obtain rfl := (show v44 = .int (nI 131072) from hv44)
          refine lv_aload_n hx hb dDA_commit_71 rfl (lv_at hl 1 rfl) ?_
          refine nw_get (C := "LatticeKeys$Dsa") (TT := T_DA) (N := 17) hx hb hts (wg_ft i_DA) hown hK hO k_h0 (kn := 39) (ci := 6) (fl := [(3, 16), (3, 22), (3, 37), (3, 40), (3, 97), (3, 105), (3, 114), (3, 123), (3, 131), (3, 140), (3, 141), (3, 142), (3, 143), (3, 144), (3, 145), (3, 146), (3, 147)]) rfl hP rfl 7 (by decide) (hts _ (wg_t kw_172)) (fun _ h9 => h9) (cd := (3, 123)) rfl dDA_commit_72 (fun v45 hv45 => ?_)
          obtain ⟨r43, rfl, kr42⟩ := (show ∃ r : Nat, v45 = .ref r ∧ T r = some 123 from hv45)
          refine lv_iload_n hx hb dDA_commit_75 rfl (lv_at hl 0 rfl) ?_
          refine nw_aald3 hx hb hK hO kr42 (k := 123) (b := 124) rfl hP (by omega) (by omega) dDA_commit_76 (fun r44 kr43 => ?_)
          have hn25 : nsp (124 + i22) = (0, 256, []) := rows_ok 124 7 (by decide) _ (by omega)
          refine mp_v (cx := []) (wr := []) hP hD hS hA [] [] rfl rfl rfl (by decide) (va_runV (As := [.ref r42, .int (nI 131072), .ref r44]) (rest := []) F (N_RG_flip_8 l g _ T s33 pl hO hU r40 r42 r44 (124 + i22) (nI 131072) (124 + i22) kr39 kr41 hn24 kr43 hn25) (cwV 3 hts (wg_app (wg_c kw_698 (wg_c kw_699 (wg_c kw_700 (wg_c kw_4 wg_n)))) kw_701) rfl rfl rfl (by decide +kernel) ⟨by decide, by decide⟩) (pn_W "LatticeKeys$Ring" (en_ok g) (ci := 4) (kn := 22) (fl := [(1, 8380417), (1, 8), (1, 8347681), (3, 23)]) hK hO kr39 rfl hP hD hS hA hE [] rfl rfl rfl) rfl rfl hl.1 rfl (lv_room (Nat.le_of_ble_eq_true rfl)) dDA_commit_77 ⟨by omega, by omega⟩) (fun  u30 H locs hu30 hP hD hS => ?_)
          obtain ⟨s34, pl⟩ := u30
          obtain ⟨⟨eq30, hFc30, -⟩, hO⟩ := hu30
          have hO : okn g T s34 pl := hO
          have hP : va_P g.1 vcl ([] ++ pl) _ := hP
          have hD : va_D _ ([] ++ pl) := hD
          have hFc30 : frm (M_RG_flip_8 (124 + i22)) s33 s34 := hFc30
          replace hR := bnd_step hR eq30
          have hF := frm_tr hF hFc30 (fun k hk => by unfold M_RG_flip_8 at hk; unfold M_DA_commit_0; omega)
          refine W.widen (k := 0) (n := 0) (by omega) (by omega) ?_
          refine lv_aload_n hx hb dDA_commit_80 rfl (lv_at hl 1 rfl) ?_
          refine nw_get (C := "LatticeKeys$Dsa") (TT := T_DA) (N := 17) hx hb hts (wg_ft i_DA) hown hK hO k_h0 (kn := 39) (ci := 6) (fl := [(3, 16), (3, 22), (3, 37), (3, 40), (3, 97), (3, 105), (3, 114), (3, 123), (3, 131), (3, 140), (3, 141), (3, 142), (3, 143), (3, 144), (3, 145), (3, 146), (3, 147)]) rfl hP rfl 7 (by decide) (hts _ (wg_t kw_172)) (fun _ h9 => h9) (cd := (3, 123)) rfl dDA_commit_81 (fun v46 hv46 => ?_)
          obtain ⟨r45, rfl, kr44⟩ := (show ∃ r : Nat, v46 = .ref r ∧ T r = some 123 from hv46)
          refine lv_iload_n hx hb dDA_commit_84 rfl (lv_at hl 0 rfl) ?_
          refine nw_aald3 hx hb hK hO kr44 (k := 123) (b := 124) rfl hP (by omega) (by omega) dDA_commit_85 (fun r46 kr45 => ?_)
          have hn26 : nsp (124 + i22) = (0, 256, []) := rows_ok 124 7 (by decide) _ (by omega)
          refine lv_iconst (v := nI 0) hx hb dDA_commit_86 (by decide) ?_
          refine lv_aload_n hx hb dDA_commit_87 rfl (lv_at hl 1 rfl) ?_
          refine nw_get (C := "LatticeKeys$Dsa") (TT := T_DA) (N := 17) hx hb hts (wg_ft i_DA) hown hK hO k_h0 (kn := 39) (ci := 6) (fl := [(3, 16), (3, 22), (3, 37), (3, 40), (3, 97), (3, 105), (3, 114), (3, 123), (3, 131), (3, 140), (3, 141), (3, 142), (3, 143), (3, 144), (3, 145), (3, 146), (3, 147)]) rfl hP rfl 10 (by decide) (hts _ (wg_t kw_175)) (fun _ h9 => h9) (cd := (3, 141)) rfl dDA_commit_88 (fun v47 hv47 => ?_)
          obtain ⟨r47, rfl, kr46⟩ := (show ∃ r : Nat, v47 = .ref r ∧ T r = some 141 from hv47)
          refine lv_iconst (v := nI 0) hx hb dDA_commit_91 (by decide) ?_
          refine lv_sipush (v := nI 256) hx hb dDA_commit_92 (by decide) ?_
          refine nw_copyi hx hb (hml.trans hl.1.symm) hown (hts _ (wg_t kw_674)) (hts _ (wg_t kw_526)) (hts _ (wg_t kw_525)) (hts _ (wg_t kw_19)) hK hO hU kr45 (k0 := (124 + i22)) hn26 kr46 (k1 := 141) rfl hP hD hS (sp := 0) (dp := 0) (n := 256) (by omega) (by omega) (by omega) (by decide) (Nat.le_of_ble_eq_true rfl) dDA_commit_95 (fun s35 pl H locs es22 hO hP hD hS => ?_)
          replace hR := bnd_step hR es22
          have hF := frm_sC hF es22 (by unfold M_DA_commit_0; omega)
          refine lv_aload_n hx hb dDA_commit_98 rfl (lv_at hl 1 rfl) ?_
          refine nw_get (C := "LatticeKeys$Dsa") (TT := T_DA) (N := 17) hx hb hts (wg_ft i_DA) hown hK hO k_h0 (kn := 39) (ci := 6) (fl := [(3, 16), (3, 22), (3, 37), (3, 40), (3, 97), (3, 105), (3, 114), (3, 123), (3, 131), (3, 140), (3, 141), (3, 142), (3, 143), (3, 144), (3, 145), (3, 146), (3, 147)]) rfl hP rfl 1 (by decide) (hts _ (wg_t kw_166)) (fun _ h9 => h9) (cd := (3, 22)) rfl dDA_commit_99 (fun v48 hv48 => ?_)
          obtain ⟨r48, rfl, kr47⟩ := (show ∃ r : Nat, v48 = .ref r ∧ T r = some 22 from hv48)
          refine lv_aload_n hx hb dDA_commit_102 rfl (lv_at hl 1 rfl) ?_
          refine nw_get (C := "LatticeKeys$Dsa") (TT := T_DA) (N := 17) hx hb hts (wg_ft i_DA) hown hK hO k_h0 (kn := 39) (ci := 6) (fl := [(3, 16), (3, 22), (3, 37), (3, 40), (3, 97), (3, 105), (3, 114), (3, 123), (3, 131), (3, 140), (3, 141), (3, 142), (3, 143), (3, 144), (3, 145), (3, 146), (3, 147)]) rfl hP rfl 10 (by decide) (hts _ (wg_t kw_175)) (fun _ h9 => h9) (cd := (3, 141)) rfl dDA_commit_103 (fun v49 hv49 => ?_)
          obtain ⟨r49, rfl, kr48⟩ := (show ∃ r : Nat, v49 = .ref r ∧ T r = some 141 from hv49)
          refine mp_v (cx := []) (wr := []) hP hD hS hA [] [] rfl rfl rfl (by decide) (va_runV (As := [.ref r49]) (rest := []) F (N_RG_transform_8 l g _ T s35 pl hO hU r48 r49 141 kr47 kr48 rfl) (cwV 1 hts (wg_app (wg_c kw_711 (wg_c kw_637 (wg_c kw_638 (wg_c kw_4 wg_n)))) kw_639) rfl rfl rfl (by decide +kernel) ⟨by decide, by decide⟩) (pn_W "LatticeKeys$Ring" (en_ok g) (ci := 4) (kn := 22) (fl := [(1, 8380417), (1, 8), (1, 8347681), (3, 23)]) hK hO kr47 rfl hP hD hS hA hE [] rfl rfl rfl) rfl rfl hl.1 rfl (lv_room (Nat.le_of_ble_eq_true rfl)) dDA_commit_106 ⟨by omega, by omega⟩) (fun  u31 H locs hu31 hP hD hS => ?_)
          obtain ⟨s36, pl⟩ := u31
          obtain ⟨⟨eq31, hFc31, -⟩, hO⟩ := hu31
          have hO : okn g T s36 pl := hO
          have hP : va_P g.1 vcl ([] ++ pl) _ := hP
          have hD : va_D _ ([] ++ pl) := hD
          have hFc31 : frm (M_RG_transform_8 141) s35 s36 := hFc31
          replace hR := bnd_step hR eq31
          have hF := frm_tr hF hFc31 (fun k hk => by unfold M_RG_transform_8 at hk; unfold M_DA_commit_0; omega)
          refine W.widen (k := 0) (n := 0) (by omega) (by omega) ?_
          refine lv_iconst (v := nI 0) hx hb dDA_commit_109 (by decide) ?_
          refine lv_istore (lv' := [(4, .int (nI 0)), (3, .int (nI i22)), (0, .ref h0), (1, .ref st), (2, .int cn)]) hx hb dDA_commit_110 hl (by decide) rfl (fun ls hl => ?_)
          have lp25 : ∀ (n25 : Nat) (i25 : Nat) (s37 : Sto) (pl : va_W) (ls : Array Slot) (H : Heap) (locs : List Loc), n25 + i25 = 4 → frm (M_DA_commit_0) s s37 → F_DA_commit_0 cn s = F_DA_commit_0_L4 i22 (F_DA_commit_0_L1 cn n22) n25 i25 s37 → lv_has ls 5 [(4, .int (nI i25)), (3, .int (nI i22)), (0, .ref h0), (1, .ref st), (2, .int cn)] → okn g T s37 pl → va_P g.1 vcl ([] ++ pl) H → va_D A ([] ++ pl) → va_S A s0.heap H locs → W p l e ({ frames := 5, cells := 0, slots := 0, locals := 147 } : Room) s0 m args below meth c H locs 0 0 (MQ below (va_Qv (fun (u : (Sto) × va_W) => (u.1 = F_DA_commit_0 cn s ∧ frm (M_DA_commit_0) s u.1 ∧ True) ∧ okn g T u.1 u.2) (po g.1 vcl A (fun (u : (Sto) × va_W) => [] ++ u.2)) A) args s0 0 0 A) (F0 m 112 ls []) := by
            intro n25
            induction n25 with
            | zero =>
              intro i25 s37 pl ls H locs hm25 hF hR hl hO hP hD hS
              refine lv_iload hx hb dDA_commit_112 (lv_at hl 0 rfl) ?_
              refine lv_aload_n hx hb dDA_commit_114 rfl (lv_at hl 3 rfl) ?_
              refine nw_get (C := "LatticeKeys$DsaSet") (TT := T_DS) (N := 17) hx hb hts (wg_ft i_DS) hown hK hO k_st (kn := 9) (ci := 2) (fl := [(1, 4), (1, 4), (1, 2), (1, 3), (1, 39), (1, 32), (1, 18), (1, 131072), (1, 44), (1, 6), (1, 95232), (1, 80), (1, 78), (1, 1312), (1, 2560), (1, 2336), (1, 2420)]) rfl hP rfl 0 (by decide) (hts _ (wg_t kw_302)) (fun _ h9 => h9) (cd := (1, 4)) rfl dDA_commit_115 (fun v50 hv50 => ?_)
              obtain rfl := (show v50 = .int (nI 4) from hv50)
              refine mi_ge (tgt := 159) hx hb dDA_commit_118 (by decide) (by omega) (by omega) (fun h28 => ?_) (fun h28 => absurd h28 (by omega))
              refine mi_iinc (k := 1) (x := i22) (d := 1) (y := i22 + 1) (lv' := [(3, .int (nI (i22 + 1))), (4, .int (nI i25)), (0, .ref h0), (1, .ref st), (2, .int cn)]) hx hb dDA_commit_159 hl rfl (by decide) rfl (by decide) rfl (fun ls hl => ?_)
              refine lv_goto (tgt := 28) hx hb dDA_commit_162 (by decide) ?_
              exact ih22 (i22 + 1) s37 pl ls H locs (by omega) hF hR (lv_sub hl [0, 2, 3, 4] rfl) hO hP hD hS
            | succ n25 ih25 =>
              intro i25 s37 pl ls H locs hm25 hF hR hl hO hP hD hS
              refine lv_iload hx hb dDA_commit_112 (lv_at hl 0 rfl) ?_
              refine lv_aload_n hx hb dDA_commit_114 rfl (lv_at hl 3 rfl) ?_
              refine nw_get (C := "LatticeKeys$DsaSet") (TT := T_DS) (N := 17) hx hb hts (wg_ft i_DS) hown hK hO k_st (kn := 9) (ci := 2) (fl := [(1, 4), (1, 4), (1, 2), (1, 3), (1, 39), (1, 32), (1, 18), (1, 131072), (1, 44), (1, 6), (1, 95232), (1, 80), (1, 78), (1, 1312), (1, 2560), (1, 2336), (1, 2420)]) rfl hP rfl 0 (by decide) (hts _ (wg_t kw_302)) (fun _ h9 => h9) (cd := (1, 4)) rfl dDA_commit_115 (fun v51 hv51 => ?_)
              obtain rfl := (show v51 = .int (nI 4) from hv51)
              refine mi_ge (tgt := 159) hx hb dDA_commit_118 (by decide) (by omega) (by omega) (fun h29 => absurd h29 (by omega)) (fun h29 => ?_)
              refine lv_aload_n hx hb dDA_commit_121 rfl (lv_at hl 2 rfl) ?_
              refine nw_get (C := "LatticeKeys$Dsa") (TT := T_DA) (N := 17) hx hb hts (wg_ft i_DA) hown hK hO k_h0 (kn := 39) (ci := 6) (fl := [(3, 16), (3, 22), (3, 37), (3, 40), (3, 97), (3, 105), (3, 114), (3, 123), (3, 131), (3, 140), (3, 141), (3, 142), (3, 143), (3, 144), (3, 145), (3, 146), (3, 147)]) rfl hP rfl 1 (by decide) (hts _ (wg_t kw_166)) (fun _ h9 => h9) (cd := (3, 22)) rfl dDA_commit_122 (fun v52 hv52 => ?_)
              obtain ⟨r50, rfl, kr49⟩ := (show ∃ r : Nat, v52 = .ref r ∧ T r = some 22 from hv52)
              refine lv_aload_n hx hb dDA_commit_125 rfl (lv_at hl 2 rfl) ?_
              refine nw_get (C := "LatticeKeys$Dsa") (TT := T_DA) (N := 17) hx hb hts (wg_ft i_DA) hown hK hO k_h0 (kn := 39) (ci := 6) (fl := [(3, 16), (3, 22), (3, 37), (3, 40), (3, 97), (3, 105), (3, 114), (3, 123), (3, 131), (3, 140), (3, 141), (3, 142), (3, 143), (3, 144), (3, 145), (3, 146), (3, 147)]) rfl hP rfl 8 (by decide) (hts _ (wg_t kw_173)) (fun _ h9 => h9) (cd := (3, 131)) rfl dDA_commit_126 (fun v53 hv53 => ?_)
              obtain ⟨r51, rfl, kr50⟩ := (show ∃ r : Nat, v53 = .ref r ∧ T r = some 131 from hv53)
              refine lv_iload hx hb dDA_commit_129 (lv_at hl 0 rfl) ?_
              refine nw_aald3 hx hb hK hO kr50 (k := 131) (b := 132) rfl hP (by omega) (by omega) dDA_commit_131 (fun r52 kr51 => ?_)
              have hn27 : nsp (132 + i25) = (0, 256, []) := rows_ok 132 8 (by decide) _ (by omega)
              refine lv_aload_n hx hb dDA_commit_132 rfl (lv_at hl 2 rfl) ?_
              refine nw_get (C := "LatticeKeys$Dsa") (TT := T_DA) (N := 17) hx hb hts (wg_ft i_DA) hown hK hO k_h0 (kn := 39) (ci := 6) (fl := [(3, 16), (3, 22), (3, 37), (3, 40), (3, 97), (3, 105), (3, 114), (3, 123), (3, 131), (3, 140), (3, 141), (3, 142), (3, 143), (3, 144), (3, 145), (3, 146), (3, 147)]) rfl hP rfl 3 (by decide) (hts _ (wg_t kw_168)) (fun _ h9 => h9) (cd := (3, 40)) rfl dDA_commit_133 (fun v54 hv54 => ?_)
              obtain ⟨r53, rfl, kr52⟩ := (show ∃ r : Nat, v54 = .ref r ∧ T r = some 40 from hv54)
              refine lv_aload_n hx hb dDA_commit_136 rfl (lv_at hl 3 rfl) ?_
              refine nw_get (C := "LatticeKeys$DsaSet") (TT := T_DS) (N := 17) hx hb hts (wg_ft i_DS) hown hK hO k_st (kn := 9) (ci := 2) (fl := [(1, 4), (1, 4), (1, 2), (1, 3), (1, 39), (1, 32), (1, 18), (1, 131072), (1, 44), (1, 6), (1, 95232), (1, 80), (1, 78), (1, 1312), (1, 2560), (1, 2336), (1, 2420)]) rfl hP rfl 1 (by decide) (hts _ (wg_t kw_305)) (fun _ h9 => h9) (cd := (1, 4)) rfl dDA_commit_137 (fun v55 hv55 => ?_)
              obtain rfl := (show v55 = .int (nI 4) from hv55)
              refine lv_iload hx hb dDA_commit_140 (lv_at hl 0 rfl) ?_
              refine mi_imul hx hb dDA_commit_142 ?_
              refine lv_iload_n hx hb dDA_commit_143 rfl (lv_at hl 1 rfl) ?_
              refine mi_iadd hx hb dDA_commit_144 ?_
              refine nw_aald3 hx hb hK hO kr52 (k := 40) (b := 41) rfl hP (by omega) (by omega) dDA_commit_145 (fun r54 kr53 => ?_)
              have hn28 : nsp (41 + ((4 * i25) + i22)) = (0, 256, []) := rows_ok 41 56 (by decide) _ (by omega)
              refine lv_aload_n hx hb dDA_commit_146 rfl (lv_at hl 2 rfl) ?_
              refine nw_get (C := "LatticeKeys$Dsa") (TT := T_DA) (N := 17) hx hb hts (wg_ft i_DA) hown hK hO k_h0 (kn := 39) (ci := 6) (fl := [(3, 16), (3, 22), (3, 37), (3, 40), (3, 97), (3, 105), (3, 114), (3, 123), (3, 131), (3, 140), (3, 141), (3, 142), (3, 143), (3, 144), (3, 145), (3, 146), (3, 147)]) rfl hP rfl 10 (by decide) (hts _ (wg_t kw_175)) (fun _ h9 => h9) (cd := (3, 141)) rfl dDA_commit_147 (fun v56 hv56 => ?_)
              obtain ⟨r55, rfl, kr54⟩ := (show ∃ r : Nat, v56 = .ref r ∧ T r = some 141 from hv56)
              refine mp_v (cx := []) (wr := []) hP hD hS hA [] [] rfl rfl rfl (by decide) (va_runV (As := [.ref r52, .ref r54, .ref r55]) (rest := []) F (N_RG_addProduct_8 l g _ T s37 pl hO hU r50 r52 r54 r55 (132 + i25) (41 + ((4 * i25) + i22)) 141 kr49 kr51 hn27 kr53 hn28 kr54 rfl) (cwV 3 hts (wg_app (wg_c kw_719 (wg_c kw_654 (wg_c kw_655 (wg_c kw_4 wg_n)))) kw_656) rfl rfl rfl (by decide +kernel) ⟨by decide, by decide⟩) (pn_W "LatticeKeys$Ring" (en_ok g) (ci := 4) (kn := 22) (fl := [(1, 8380417), (1, 8), (1, 8347681), (3, 23)]) hK hO kr49 rfl hP hD hS hA hE [] rfl rfl rfl) rfl rfl hl.1 rfl (lv_room (Nat.le_of_ble_eq_true rfl)) dDA_commit_150 ⟨by omega, by omega⟩) (fun  u32 H locs hu32 hP hD hS => ?_)
              obtain ⟨s38, pl⟩ := u32
              obtain ⟨⟨eq32, hFc32, -⟩, hO⟩ := hu32
              have hO : okn g T s38 pl := hO
              have hP : va_P g.1 vcl ([] ++ pl) _ := hP
              have hD : va_D _ ([] ++ pl) := hD
              have hFc32 : frm (M_RG_addProduct_8 (132 + i25)) s37 s38 := hFc32
              replace hR := bnd_step hR eq32
              have hF := frm_tr hF hFc32 (fun k hk => by unfold M_RG_addProduct_8 at hk; unfold M_DA_commit_0; omega)
              refine W.widen (k := 0) (n := 0) (by omega) (by omega) ?_
              refine mi_iinc (k := 0) (x := i25) (d := 1) (y := i25 + 1) (lv' := [(4, .int (nI (i25 + 1))), (3, .int (nI i22)), (0, .ref h0), (1, .ref st), (2, .int cn)]) hx hb dDA_commit_153 hl rfl (by decide) rfl (by decide) rfl (fun ls hl => ?_)
              refine lv_goto (tgt := 112) hx hb dDA_commit_156 (by decide) ?_
              exact ih25 (i25 + 1) s38 pl ls H locs (by omega) hF hR (lv_sub hl [0, 1, 2, 3, 4] rfl) hO hP hD hS
          exact lp25 4 0 s36 pl ls _ _ (by omega) hF hR (lv_sub hl [0, 1, 2, 3, 4] rfl) hO hP hD hS
      exact lp22 4 0 s21 pl ls _ _ (by omega) hF hR (lv_sub hl [0, 1, 2, 3] rfl) hO hP hD hS
    | succ n21 ih21 =>
      intro i21 s21 pl ls H locs hm21 hF hR hl hO hP hD hS
      refine lv_iload_n hx hb dDA_commit_2 rfl (lv_at hl 0 rfl) ?_
      refine lv_aload_n hx hb dDA_commit_3 rfl (lv_at hl 2 rfl) ?_
      refine nw_get (C := "LatticeKeys$DsaSet") (TT := T_DS) (N := 17) hx hb hts (wg_ft i_DS) hown hK hO k_st (kn := 9) (ci := 2) (fl := [(1, 4), (1, 4), (1, 2), (1, 3), (1, 39), (1, 32), (1, 18), (1, 131072), (1, 44), (1, 6), (1, 95232), (1, 80), (1, 78), (1, 1312), (1, 2560), (1, 2336), (1, 2420)]) rfl hP rfl 0 (by decide) (hts _ (wg_t kw_302)) (fun _ h9 => h9) (cd := (1, 4)) rfl dDA_commit_4 (fun v57 hv57 => ?_)
      obtain rfl := (show v57 = .int (nI 4) from hv57)
      refine mi_ge (tgt := 26) hx hb dDA_commit_7 (by decide) (by omega) (by omega) (fun h30 => absurd h30 (by omega)) (fun h30 => ?_)
      refine lv_aload_n hx hb dDA_commit_10 rfl (lv_at hl 1 rfl) ?_
      refine nw_get (C := "LatticeKeys$Dsa") (TT := T_DA) (N := 17) hx hb hts (wg_ft i_DA) hown hK hO k_h0 (kn := 39) (ci := 6) (fl := [(3, 16), (3, 22), (3, 37), (3, 40), (3, 97), (3, 105), (3, 114), (3, 123), (3, 131), (3, 140), (3, 141), (3, 142), (3, 143), (3, 144), (3, 145), (3, 146), (3, 147)]) rfl hP rfl 8 (by decide) (hts _ (wg_t kw_173)) (fun _ h9 => h9) (cd := (3, 131)) rfl dDA_commit_11 (fun v58 hv58 => ?_)
      obtain ⟨r56, rfl, kr55⟩ := (show ∃ r : Nat, v58 = .ref r ∧ T r = some 131 from hv58)
      refine lv_iload_n hx hb dDA_commit_14 rfl (lv_at hl 0 rfl) ?_
      refine nw_aald3 hx hb hK hO kr55 (k := 131) (b := 132) rfl hP (by omega) (by omega) dDA_commit_15 (fun r57 kr56 => ?_)
      have hn29 : nsp (132 + i21) = (0, 256, []) := rows_ok 132 8 (by decide) _ (by omega)
      refine lv_iconst (v := nI 0) hx hb dDA_commit_16 (by decide) ?_
      refine mp_v (cx := []) (wr := []) hP hD hS hA [] [] rfl rfl rfl (by decide) (va_runS (As := [.ref r57, .int (nI 0)]) (rest := []) F (N_AR_fillI l g _ T s21 pl hO hU r57 (132 + i21) 256 (nI 0) kr56 hn29 (by omega)) (va_cwS 2 hts (wg_app (wg_c kw_716 (wg_c kw_717 (wg_c kw_21 wg_n))) kw_718) rfl rfl rfl (by decide +kernel) ⟨by decide, by decide⟩) (pp_S (en_ok g) hP hD hS hA hE [] rfl rfl) rfl rfl hl.1 rfl (lv_room (Nat.le_of_ble_eq_true rfl)) dDA_commit_17 ⟨by omega, by omega⟩) (fun  u33 H locs hu33 hP hD hS => ?_)
      obtain ⟨s39, pl⟩ := u33
      obtain ⟨⟨eq33, hFc33, -⟩, hO⟩ := hu33
      have hO : okn g T s39 pl := hO
      have hP : va_P g.1 vcl ([] ++ pl) _ := hP
      have hD : va_D _ ([] ++ pl) := hD
      have hFc33 : frm (M_AR_fillI (132 + i21)) s21 s39 := hFc33
      replace hR := bnd_step hR eq33
      have hF := frm_tr hF hFc33 (fun k hk => by unfold M_AR_fillI at hk; unfold M_DA_commit_0; omega)
      refine W.widen (k := 0) (n := 0) (by omega) (by omega) ?_
      refine mi_iinc (k := 0) (x := i21) (d := 1) (y := i21 + 1) (lv' := [(3, .int (nI (i21 + 1))), (0, .ref h0), (1, .ref st), (2, .int cn)]) hx hb dDA_commit_20 hl rfl (by decide) rfl (by decide) rfl (fun ls hl => ?_)
      refine lv_goto (tgt := 2) hx hb dDA_commit_23 (by decide) ?_
      exact ih21 (i21 + 1) s39 pl ls H locs (by omega) hF hR (lv_sub hl [0, 1, 2, 3] rfl) hO hP hD hS
  exact lp21 4 0 s pl ls _ _ (by omega) hF hR (lv_sub hl [0, 1, 2, 3] rfl) hO hP hD hS
def M_DA_commit_1 (k : Nat) : Prop := (124 ≤ k ∧ k < 131) ∨ (132 ≤ k ∧ k < 140) ∨ k = 140 ∨ k = 141 ∨ k = 144 ∨ k = 147 ∨ k = 16 ∨ k = 18 ∨ k = 38 ∨ (0 : Nat) = 1
noncomputable def F_DA_commit_1_L4 (i22 : Nat) (kk : Nat → Sto → Sto) : Nat → Nat → Sto → Sto
  | 0, i25, s37 => kk (i22 + 1) s37
  | n25 + 1, i25, s37 => bnd (F_RG_addProduct_8 (132 + i25) (41 + ((5 * i25) + i22)) 141 s37) fun s38 => F_DA_commit_1_L4 i22 kk n25 (i25 + 1) s38
noncomputable def F_DA_commit_1_L3 (i23 : Nat) (kk : Nat → Sto → Sto) : Nat → Nat → Sto → Sto
  | 0, i24, s30 => bnd (F_DA_absorbHigh_1  s30) fun s31 => kk (i23 + 1) s31
  | n24 + 1, i24, s30 => bnd (F_DS_high_1 (s30.1 ((132 + i23)) i24) s30) fun q21 => bnd (sI q21.2 141 i24 (q21.1)) fun s32 => F_DA_commit_1_L3 i23 kk n24 (i24 + 1) s32
noncomputable def F_DA_commit_1_L2 : Nat → Nat → Sto → Sto
  | 0, i23, s24 => bnd (F_SP_finish 16 17 s24) fun s25 => bnd (F_SP_squeeze 16 17 144 64 0 48 s25) fun s26 => bnd (F_SA_sampleBall_1 140 144 64 s26) fun s27 => bnd (F_RG_transform_8 140 s27) fun s28 => s28
  | n23 + 1, i23, s24 => bnd (F_RG_restore_8 (132 + i23) s24) fun s29 => F_DA_commit_1_L3 i23 (F_DA_commit_1_L2  n23) 256 0 s29
noncomputable def F_DA_commit_1_L1 (cn : Int32) : Nat → Nat → Sto → Sto
  | 0, i22, s22 => bnd (F_DA_startChallenge  s22) fun s23 => F_DA_commit_1_L2 6 0 s23
  | n22 + 1, i22, s22 => bnd (F_SA_sampleMask_1 (124 + i22) 142 128 (cn + (nI i22)) s22) fun s33 => bnd (F_RG_flip_8 (124 + i22) (nI 524288) (124 + i22) s33) fun s34 => bnd (sC s34 ((124 + i22)) 141 0 0 256) fun s35 => bnd (F_RG_transform_8 141 s35) fun s36 => F_DA_commit_1_L4 i22 (F_DA_commit_1_L1 cn n22) 6 0 s36
noncomputable def F_DA_commit_1_L0 (cn : Int32) : Nat → Nat → Sto → Sto
  | 0, i21, s21 => F_DA_commit_1_L1 cn 5 0 s21
  | n21 + 1, i21, s21 => bnd (F_AR_fillI (132 + i21) 256 (nI 0) s21) fun s39 => F_DA_commit_1_L0 cn n21 (i21 + 1) s39
noncomputable def F_DA_commit_1 (cn : Int32) (s : Sto) : Sto := F_DA_commit_1_L0 cn 6 0 s
set_option maxHeartbeats 8000000 in
set_option maxRecDepth 100000 in
theorem N_DA_commit_1 (l : Launch) (g : Gd) (sz : Nat) (T : TyN) (s : Sto) (pl : va_W) (hO : okn g T s pl) (hU : inj T) (h0 st : Nat) (cn : Int32) (k_h0 : T h0 = some 39) (k_st : T st = some 10)  : Met l y_DA_commit w_DA_commit ({ frames := 5, cells := 0, slots := 0, locals := 147 } : Room) (va_Pc [.ref h0, .ref st, .int cn] (pr (en g) g.1 vcl sz ([] ++ pl))) (va_Qv (fun (u : (Sto) × va_W) => (u.1 = F_DA_commit_1 cn s ∧ frm (M_DA_commit_1) s u.1 ∧ True) ∧ okn g T u.1 u.2) (po g.1 vcl (va_A ([] ++ pl) sz) (fun (u : (Sto) × va_W) => [] ++ u.2)) (va_A ([] ++ pl) sz)) 0 0 (va_A ([] ++ pl) sz) := by
  refine mc_entry (cc := c_DA_commit) (maxL := 5) (ret := none) (by decide) rfl (Nat.le_of_ble_eq_true rfl) ?_
  intro p e s0 m args below meth c ls F hr hlk hnm hsz hP hD hE hA hl
  obtain ⟨hx, hb, hml, hown, hts⟩ := id F
  have hK := hE.1
  generalize va_A ([] ++ pl) sz = A at hD hE hA ⊢
  have hS : va_S A s0.heap s0.heap [] := va_S.rf
  have hl : lv_has ls 5 [(0, .ref h0), (1, .ref st), (2, .int cn)] := hl
  have hR : F_DA_commit_1 cn s = F_DA_commit_1 cn s := rfl
  have hF : frm (M_DA_commit_1) s s := frm_rf
  refine lv_iconst (v := nI 0) hx hb dDA_commit_0 (by decide) ?_
  refine lv_istore_n (lv' := [(3, .int (nI 0)), (0, .ref h0), (1, .ref st), (2, .int cn)]) hx hb dDA_commit_1 rfl hl (by decide) rfl (fun ls hl => ?_)
  have lp21 : ∀ (n21 : Nat) (i21 : Nat) (s21 : Sto) (pl : va_W) (ls : Array Slot) (H : Heap) (locs : List Loc), n21 + i21 = 6 → frm (M_DA_commit_1) s s21 → F_DA_commit_1 cn s = F_DA_commit_1_L0 cn n21 i21 s21 → lv_has ls 5 [(3, .int (nI i21)), (0, .ref h0), (1, .ref st), (2, .int cn)] → okn g T s21 pl → va_P g.1 vcl ([] ++ pl) H → va_D A ([] ++ pl) → va_S A s0.heap H locs → W p l e ({ frames := 5, cells := 0, slots := 0, locals := 147 } : Room) s0 m args below meth c H locs 0 0 (MQ below (va_Qv (fun (u : (Sto) × va_W) => (u.1 = F_DA_commit_1 cn s ∧ frm (M_DA_commit_1) s u.1 ∧ True) ∧ okn g T u.1 u.2) (po g.1 vcl A (fun (u : (Sto) × va_W) => [] ++ u.2)) A) args s0 0 0 A) (F0 m 2 ls []) := by
    intro n21
    induction n21 with
    | zero =>
      intro i21 s21 pl ls H locs hm21 hF hR hl hO hP hD hS
      refine lv_iload_n hx hb dDA_commit_2 rfl (lv_at hl 0 rfl) ?_
      refine lv_aload_n hx hb dDA_commit_3 rfl (lv_at hl 2 rfl) ?_
      refine nw_get (C := "LatticeKeys$DsaSet") (TT := T_DS) (N := 17) hx hb hts (wg_ft i_DS) hown hK hO k_st (kn := 10) (ci := 2) (fl := [(1, 6), (1, 5), (1, 4), (1, 4), (1, 49), (1, 48), (1, 20), (1, 524288), (1, 16), (1, 4), (1, 261888), (1, 55), (1, 196), (1, 1952), (1, 4032), (1, 3248), (1, 3309)]) rfl hP rfl 0 (by decide) (hts _ (wg_t kw_302)) (fun _ h9 => h9) (cd := (1, 6)) rfl dDA_commit_4 (fun v21 hv21 => ?_)
      obtain rfl := (show v21 = .int (nI 6) from hv21)
      refine mi_ge (tgt := 26) hx hb dDA_commit_7 (by decide) (by omega) (by omega) (fun h21 => ?_) (fun h21 => absurd h21 (by omega))
      refine lv_iconst (v := nI 0) hx hb dDA_commit_26 (by decide) ?_
      refine lv_istore_n (lv' := [(3, .int (nI 0)), (0, .ref h0), (1, .ref st), (2, .int cn)]) hx hb dDA_commit_27 rfl hl (by decide) rfl (fun ls hl => ?_)
      have lp22 : ∀ (n22 : Nat) (i22 : Nat) (s22 : Sto) (pl : va_W) (ls : Array Slot) (H : Heap) (locs : List Loc), n22 + i22 = 5 → frm (M_DA_commit_1) s s22 → F_DA_commit_1 cn s = F_DA_commit_1_L1 cn n22 i22 s22 → lv_has ls 5 [(3, .int (nI i22)), (0, .ref h0), (1, .ref st), (2, .int cn)] → okn g T s22 pl → va_P g.1 vcl ([] ++ pl) H → va_D A ([] ++ pl) → va_S A s0.heap H locs → W p l e ({ frames := 5, cells := 0, slots := 0, locals := 147 } : Room) s0 m args below meth c H locs 0 0 (MQ below (va_Qv (fun (u : (Sto) × va_W) => (u.1 = F_DA_commit_1 cn s ∧ frm (M_DA_commit_1) s u.1 ∧ True) ∧ okn g T u.1 u.2) (po g.1 vcl A (fun (u : (Sto) × va_W) => [] ++ u.2)) A) args s0 0 0 A) (F0 m 28 ls []) := by
        intro n22
        induction n22 with
        | zero =>
          intro i22 s22 pl ls H locs hm22 hF hR hl hO hP hD hS
          refine lv_iload_n hx hb dDA_commit_28 rfl (lv_at hl 0 rfl) ?_
          refine lv_aload_n hx hb dDA_commit_29 rfl (lv_at hl 2 rfl) ?_
          refine nw_get (C := "LatticeKeys$DsaSet") (TT := T_DS) (N := 17) hx hb hts (wg_ft i_DS) hown hK hO k_st (kn := 10) (ci := 2) (fl := [(1, 6), (1, 5), (1, 4), (1, 4), (1, 49), (1, 48), (1, 20), (1, 524288), (1, 16), (1, 4), (1, 261888), (1, 55), (1, 196), (1, 1952), (1, 4032), (1, 3248), (1, 3309)]) rfl hP rfl 1 (by decide) (hts _ (wg_t kw_305)) (fun _ h9 => h9) (cd := (1, 5)) rfl dDA_commit_30 (fun v22 hv22 => ?_)
          obtain rfl := (show v22 = .int (nI 5) from hv22)
          refine mi_ge (tgt := 165) hx hb dDA_commit_33 (by decide) (by omega) (by omega) (fun h22 => ?_) (fun h22 => absurd h22 (by omega))
          refine lv_aload_n hx hb dDA_commit_165 rfl (lv_at hl 1 rfl) ?_
          refine mp_v (cx := []) (wr := []) hP hD hS hA [] [] rfl rfl rfl (by decide) (va_runV (As := []) (rest := []) F (N_DA_startChallenge l g _ T s22 pl hO hU h0 k_h0) (cwV 0 hts (wg_app (wg_c kw_1202 (wg_c kw_1204 (wg_c ks_38 (wg_c kw_5 wg_n)))) kw_1205) rfl rfl rfl (by decide +kernel) ⟨by decide, by decide⟩) (pn_W "LatticeKeys$Dsa" (en_ok g) (ci := 6) (kn := 39) (fl := [(3, 16), (3, 22), (3, 37), (3, 40), (3, 97), (3, 105), (3, 114), (3, 123), (3, 131), (3, 140), (3, 141), (3, 142), (3, 143), (3, 144), (3, 145), (3, 146), (3, 147)]) hK hO k_h0 rfl hP hD hS hA hE [] rfl rfl rfl) rfl rfl hl.1 rfl (lv_room (Nat.le_of_ble_eq_true rfl)) dDA_commit_166 ⟨by omega, by omega⟩) (fun  u21 H locs hu21 hP hD hS => ?_)
          obtain ⟨s23, pl⟩ := u21
          obtain ⟨⟨eq21, hFc21, ⟨x21, hx_21, hb_21⟩, ⟨x22, hx_22, hb_22⟩, -⟩, hO⟩ := hu21
          have hO : okn g T s23 pl := hO
          have hP : va_P g.1 vcl ([] ++ pl) _ := hP
          have hD : va_D _ ([] ++ pl) := hD
          have hFc21 : frm (M_DA_startChallenge) s22 s23 := hFc21
          have hb_21 : x21 < 136 := hb_21
          have hb_22 : x22 = 136 := hb_22
          replace hR := bnd_step hR eq21
          have hF := frm_tr hF hFc21 (fun k hk => by unfold M_DA_startChallenge at hk; unfold M_DA_commit_1; omega)
          refine W.widen (k := 0) (n := 0) (by omega) (by omega) ?_
          refine lv_iconst (v := nI 0) hx hb dDA_commit_169 (by decide) ?_
          refine lv_istore_n (lv' := [(3, .int (nI 0)), (0, .ref h0), (1, .ref st), (2, .int cn)]) hx hb dDA_commit_170 rfl hl (by decide) rfl (fun ls hl => ?_)
          have lp23 : ∀ (n23 : Nat) (i23 : Nat) (s24 : Sto) (ps21 : Nat) (pl : va_W) (ls : Array Slot) (H : Heap) (locs : List Loc), n23 + i23 = 6 → (ps21 < 136) → frm (M_DA_commit_1) s s24 → s24.1 16 3 = nI ps21 → s24.1 16 1 = nI x22 → F_DA_commit_1 cn s = F_DA_commit_1_L2 n23 i23 s24 → lv_has ls 5 [(3, .int (nI i23)), (0, .ref h0), (1, .ref st)] → okn g T s24 pl → va_P g.1 vcl ([] ++ pl) H → va_D A ([] ++ pl) → va_S A s0.heap H locs → W p l e ({ frames := 5, cells := 0, slots := 0, locals := 147 } : Room) s0 m args below meth c H locs 0 0 (MQ below (va_Qv (fun (u : (Sto) × va_W) => (u.1 = F_DA_commit_1 cn s ∧ frm (M_DA_commit_1) s u.1 ∧ True) ∧ okn g T u.1 u.2) (po g.1 vcl A (fun (u : (Sto) × va_W) => [] ++ u.2)) A) args s0 0 0 A) (F0 m 171 ls []) := by
            intro n23
            induction n23 with
            | zero =>
              intro i23 s24 ps21 pl ls H locs hm23 hi21 hF hf21 hf22 hR hl hO hP hD hS
              refine lv_iload_n hx hb dDA_commit_171 rfl (lv_at hl 0 rfl) ?_
              refine lv_aload_n hx hb dDA_commit_172 rfl (lv_at hl 2 rfl) ?_
              refine nw_get (C := "LatticeKeys$DsaSet") (TT := T_DS) (N := 17) hx hb hts (wg_ft i_DS) hown hK hO k_st (kn := 10) (ci := 2) (fl := [(1, 6), (1, 5), (1, 4), (1, 4), (1, 49), (1, 48), (1, 20), (1, 524288), (1, 16), (1, 4), (1, 261888), (1, 55), (1, 196), (1, 1952), (1, 4032), (1, 3248), (1, 3309)]) rfl hP rfl 0 (by decide) (hts _ (wg_t kw_302)) (fun _ h9 => h9) (cd := (1, 6)) rfl dDA_commit_173 (fun v23 hv23 => ?_)
              obtain rfl := (show v23 = .int (nI 6) from hv23)
              refine mi_ge (tgt := 240) hx hb dDA_commit_176 (by decide) (by omega) (by omega) (fun h23 => ?_) (fun h23 => absurd h23 (by omega))
              refine lv_aload_n hx hb dDA_commit_240 rfl (lv_at hl 1 rfl) ?_
              refine nw_get (C := "LatticeKeys$Dsa") (TT := T_DA) (N := 17) hx hb hts (wg_ft i_DA) hown hK hO k_h0 (kn := 39) (ci := 6) (fl := [(3, 16), (3, 22), (3, 37), (3, 40), (3, 97), (3, 105), (3, 114), (3, 123), (3, 131), (3, 140), (3, 141), (3, 142), (3, 143), (3, 144), (3, 145), (3, 146), (3, 147)]) rfl hP rfl 0 (by decide) (hts _ (wg_t kw_165)) (fun _ h9 => h9) (cd := (3, 16)) rfl dDA_commit_241 (fun v24 hv24 => ?_)
              obtain ⟨r21, rfl, kr21⟩ := (show ∃ r : Nat, v24 = .ref r ∧ T r = some 16 from hv24)
              refine mp_v (cx := []) (wr := []) hP hD hS hA [] [] rfl rfl rfl (by decide) (va_runV (As := []) (rest := []) F (N_SP_finish l g _ T s24 pl hO hU r21 16 17 ps21 x22 kr21 rfl rfl hf21 hf22 (by omega) (by omega)) (cwV 0 hts (wg_app (wg_c kw_672 (wg_c kw_611 (wg_c kw_612 (wg_c kw_2 wg_n)))) kw_613) rfl rfl rfl (by decide +kernel) ⟨by decide, by decide⟩) (pn_W "LatticeKeys$Sponge" (en_ok g) (ci := 3) (kn := 16) (fl := [(3, 17), (0, 0), (0, 0), (0, 0)]) hK hO kr21 rfl hP hD hS hA hE [] rfl rfl rfl) rfl rfl hl.1 rfl (lv_room (Nat.le_of_ble_eq_true rfl)) dDA_commit_244 ⟨by omega, by omega⟩) (fun  u22 H locs hu22 hP hD hS => ?_)
              obtain ⟨s25, pl⟩ := u22
              obtain ⟨⟨eq22, hFc22, ⟨x24, hx_24, hb_24⟩, ⟨x25, hx_25, hb_25⟩, -⟩, hO⟩ := hu22
              have hO : okn g T s25 pl := hO
              have hP : va_P g.1 vcl ([] ++ pl) _ := hP
              have hD : va_D _ ([] ++ pl) := hD
              have hFc22 : frm (M_SP_finish 16) s24 s25 := hFc22
              have hb_24 : x24 = x22 := hb_24
              have hb_25 : x25 = x22 := hb_25
              replace hR := bnd_step hR eq22
              have hF := frm_tr hF hFc22 (fun k hk => by unfold M_SP_finish at hk; unfold M_DA_commit_1; omega)
              refine W.widen (k := 0) (n := 0) (by omega) (by omega) ?_
              refine lv_aload_n hx hb dDA_commit_247 rfl (lv_at hl 1 rfl) ?_
              refine nw_get (C := "LatticeKeys$Dsa") (TT := T_DA) (N := 17) hx hb hts (wg_ft i_DA) hown hK hO k_h0 (kn := 39) (ci := 6) (fl := [(3, 16), (3, 22), (3, 37), (3, 40), (3, 97), (3, 105), (3, 114), (3, 123), (3, 131), (3, 140), (3, 141), (3, 142), (3, 143), (3, 144), (3, 145), (3, 146), (3, 147)]) rfl hP rfl 0 (by decide) (hts _ (wg_t kw_165)) (fun _ h9 => h9) (cd := (3, 16)) rfl dDA_commit_248 (fun v25 hv25 => ?_)
              obtain ⟨r22, rfl, kr22⟩ := (show ∃ r : Nat, v25 = .ref r ∧ T r = some 16 from hv25)
              refine lv_aload_n hx hb dDA_commit_251 rfl (lv_at hl 1 rfl) ?_
              refine nw_get (C := "LatticeKeys$Dsa") (TT := T_DA) (N := 17) hx hb hts (wg_ft i_DA) hown hK hO k_h0 (kn := 39) (ci := 6) (fl := [(3, 16), (3, 22), (3, 37), (3, 40), (3, 97), (3, 105), (3, 114), (3, 123), (3, 131), (3, 140), (3, 141), (3, 142), (3, 143), (3, 144), (3, 145), (3, 146), (3, 147)]) rfl hP rfl 13 (by decide) (hts _ (wg_t kw_178)) (fun _ h9 => h9) (cd := (3, 144)) rfl dDA_commit_252 (fun v26 hv26 => ?_)
              obtain ⟨r23, rfl, kr23⟩ := (show ∃ r : Nat, v26 = .ref r ∧ T r = some 144 from hv26)
              refine lv_iconst (v := nI 0) hx hb dDA_commit_255 (by decide) ?_
              refine lv_aload_n hx hb dDA_commit_256 rfl (lv_at hl 2 rfl) ?_
              refine nw_get (C := "LatticeKeys$DsaSet") (TT := T_DS) (N := 17) hx hb hts (wg_ft i_DS) hown hK hO k_st (kn := 10) (ci := 2) (fl := [(1, 6), (1, 5), (1, 4), (1, 4), (1, 49), (1, 48), (1, 20), (1, 524288), (1, 16), (1, 4), (1, 261888), (1, 55), (1, 196), (1, 1952), (1, 4032), (1, 3248), (1, 3309)]) rfl hP rfl 5 (by decide) (hts _ (wg_t kw_315)) (fun _ h9 => h9) (cd := (1, 48)) rfl dDA_commit_257 (fun v27 hv27 => ?_)
              obtain rfl := (show v27 = .int (nI 48) from hv27)
              refine mp_v (cx := []) (wr := []) hP hD hS hA [] [] rfl rfl rfl (by decide) (va_runV (As := [.ref r23, .int (nI 0), .int (nI 48)]) (rest := []) F (N_SP_squeeze l g _ T s25 pl hO hU r22 r23 16 17 144 64 0 48 x24 x25 kr22 rfl rfl kr23 rfl hx_24 hx_25 (by omega) (by omega) (by omega) (by omega)) (cwV 3 hts (wg_app (wg_c kw_673 (wg_c kw_615 (wg_c kw_616 (wg_c kw_2 wg_n)))) kw_617) rfl rfl rfl (by decide +kernel) ⟨by decide, by decide⟩) (pn_W "LatticeKeys$Sponge" (en_ok g) (ci := 3) (kn := 16) (fl := [(3, 17), (0, 0), (0, 0), (0, 0)]) hK hO kr22 rfl hP hD hS hA hE [] rfl rfl rfl) rfl rfl hl.1 rfl (lv_room (Nat.le_of_ble_eq_true rfl)) dDA_commit_260 ⟨by omega, by omega⟩) (fun  u23 H locs hu23 hP hD hS => ?_)
              obtain ⟨s26, pl⟩ := u23
              obtain ⟨⟨eq23, hFc23, ⟨x27, hx_27, hb_27⟩, ⟨x28, hx_28, hb_28⟩, -⟩, hO⟩ := hu23
              have hO : okn g T s26 pl := hO
              have hP : va_P g.1 vcl ([] ++ pl) _ := hP
              have hD : va_D _ ([] ++ pl) := hD
              have hFc23 : frm (M_SP_squeeze 16 144) s25 s26 := hFc23
              have hb_27 : x27 ≤ x25 := hb_27
              have hb_28 : x28 = x25 := hb_28
              replace hR := bnd_step hR eq23
              have hF := frm_tr hF hFc23 (fun k hk => by unfold M_SP_squeeze at hk; unfold M_DA_commit_1; omega)
              refine W.widen (k := 0) (n := 0) (by omega) (by omega) ?_
              refine lv_aload_n hx hb dDA_commit_263 rfl (lv_at hl 1 rfl) ?_
              refine nw_get (C := "LatticeKeys$Dsa") (TT := T_DA) (N := 17) hx hb hts (wg_ft i_DA) hown hK hO k_h0 (kn := 39) (ci := 6) (fl := [(3, 16), (3, 22), (3, 37), (3, 40), (3, 97), (3, 105), (3, 114), (3, 123), (3, 131), (3, 140), (3, 141), (3, 142), (3, 143), (3, 144), (3, 145), (3, 146), (3, 147)]) rfl hP rfl 2 (by decide) (hts _ (wg_t kw_167)) (fun _ h9 => h9) (cd := (3, 37)) rfl dDA_commit_264 (fun v28 hv28 => ?_)
              obtain ⟨r24, rfl, kr24⟩ := (show ∃ r : Nat, v28 = .ref r ∧ T r = some 37 from hv28)
              refine lv_aload_n hx hb dDA_commit_267 rfl (lv_at hl 2 rfl) ?_
              refine lv_aload_n hx hb dDA_commit_268 rfl (lv_at hl 1 rfl) ?_
              refine nw_get (C := "LatticeKeys$Dsa") (TT := T_DA) (N := 17) hx hb hts (wg_ft i_DA) hown hK hO k_h0 (kn := 39) (ci := 6) (fl := [(3, 16), (3, 22), (3, 37), (3, 40), (3, 97), (3, 105), (3, 114), (3, 123), (3, 131), (3, 140), (3, 141), (3, 142), (3, 143), (3, 144), (3, 145), (3, 146), (3, 147)]) rfl hP rfl 9 (by decide) (hts _ (wg_t kw_174)) (fun _ h9 => h9) (cd := (3, 140)) rfl dDA_commit_269 (fun v29 hv29 => ?_)
              obtain ⟨r25, rfl, kr25⟩ := (show ∃ r : Nat, v29 = .ref r ∧ T r = some 140 from hv29)
              refine lv_aload_n hx hb dDA_commit_272 rfl (lv_at hl 1 rfl) ?_
              refine nw_get (C := "LatticeKeys$Dsa") (TT := T_DA) (N := 17) hx hb hts (wg_ft i_DA) hown hK hO k_h0 (kn := 39) (ci := 6) (fl := [(3, 16), (3, 22), (3, 37), (3, 40), (3, 97), (3, 105), (3, 114), (3, 123), (3, 131), (3, 140), (3, 141), (3, 142), (3, 143), (3, 144), (3, 145), (3, 146), (3, 147)]) rfl hP rfl 13 (by decide) (hts _ (wg_t kw_178)) (fun _ h9 => h9) (cd := (3, 144)) rfl dDA_commit_273 (fun v30 hv30 => ?_)
              obtain ⟨r26, rfl, kr26⟩ := (show ∃ r : Nat, v30 = .ref r ∧ T r = some 144 from hv30)
              refine mp_v (cx := []) (wr := []) hP hD hS hA [] [] rfl rfl rfl (by decide) (va_runV (As := [.ref st, .ref r25, .ref r26]) (rest := []) F (N_SA_sampleBall_1 l g _ T s26 pl hO hU r24 st r25 r26 140 144 64 kr24 k_st kr25 rfl kr26 rfl (by omega) (by omega)) (cwV 3 hts (wg_app (wg_c kw_1214 (wg_c kw_1215 (wg_c kw_1216 (wg_c kw_6 wg_n)))) kw_1217) rfl rfl rfl (by decide +kernel) ⟨by decide, by decide⟩) (pn_W "LatticeKeys$DsaSampler" (en_ok g) (ci := 7) (kn := 37) (fl := [(3, 18), (3, 38)]) hK hO kr24 rfl hP hD hS hA hE [] rfl rfl rfl) rfl rfl hl.1 rfl (lv_room (Nat.le_of_ble_eq_true rfl)) dDA_commit_276 ⟨by omega, by omega⟩) (fun  u24 H locs hu24 hP hD hS => ?_)
              obtain ⟨s27, pl⟩ := u24
              obtain ⟨⟨eq24, hFc24, -⟩, hO⟩ := hu24
              have hO : okn g T s27 pl := hO
              have hP : va_P g.1 vcl ([] ++ pl) _ := hP
              have hD : va_D _ ([] ++ pl) := hD
              have hFc24 : frm (M_SA_sampleBall_1 140) s26 s27 := hFc24
              replace hR := bnd_step hR eq24
              have hF := frm_tr hF hFc24 (fun k hk => by unfold M_SA_sampleBall_1 at hk; unfold M_DA_commit_1; omega)
              have hf23 : s27.1 16 3 = nI x27 := fc_F hx_27 hFc24 (by unfold M_SA_sampleBall_1; omega)
              have hf24 : s27.1 16 1 = nI x28 := fc_F hx_28 hFc24 (by unfold M_SA_sampleBall_1; omega)
              refine W.widen (k := 0) (n := 0) (by omega) (by omega) ?_
              refine lv_aload_n hx hb dDA_commit_279 rfl (lv_at hl 1 rfl) ?_
              refine nw_get (C := "LatticeKeys$Dsa") (TT := T_DA) (N := 17) hx hb hts (wg_ft i_DA) hown hK hO k_h0 (kn := 39) (ci := 6) (fl := [(3, 16), (3, 22), (3, 37), (3, 40), (3, 97), (3, 105), (3, 114), (3, 123), (3, 131), (3, 140), (3, 141), (3, 142), (3, 143), (3, 144), (3, 145), (3, 146), (3, 147)]) rfl hP rfl 1 (by decide) (hts _ (wg_t kw_166)) (fun _ h9 => h9) (cd := (3, 22)) rfl dDA_commit_280 (fun v31 hv31 => ?_)
              obtain ⟨r27, rfl, kr27⟩ := (show ∃ r : Nat, v31 = .ref r ∧ T r = some 22 from hv31)
              refine lv_aload_n hx hb dDA_commit_283 rfl (lv_at hl 1 rfl) ?_
              refine nw_get (C := "LatticeKeys$Dsa") (TT := T_DA) (N := 17) hx hb hts (wg_ft i_DA) hown hK hO k_h0 (kn := 39) (ci := 6) (fl := [(3, 16), (3, 22), (3, 37), (3, 40), (3, 97), (3, 105), (3, 114), (3, 123), (3, 131), (3, 140), (3, 141), (3, 142), (3, 143), (3, 144), (3, 145), (3, 146), (3, 147)]) rfl hP rfl 9 (by decide) (hts _ (wg_t kw_174)) (fun _ h9 => h9) (cd := (3, 140)) rfl dDA_commit_284 (fun v32 hv32 => ?_)
              obtain ⟨r28, rfl, kr28⟩ := (show ∃ r : Nat, v32 = .ref r ∧ T r = some 140 from hv32)
              refine mp_v (cx := []) (wr := []) hP hD hS hA [] [] rfl rfl rfl (by decide) (va_runV (As := [.ref r28]) (rest := []) F (N_RG_transform_8 l g _ T s27 pl hO hU r27 r28 140 kr27 kr28 rfl) (cwV 1 hts (wg_app (wg_c kw_711 (wg_c kw_637 (wg_c kw_638 (wg_c kw_4 wg_n)))) kw_639) rfl rfl rfl (by decide +kernel) ⟨by decide, by decide⟩) (pn_W "LatticeKeys$Ring" (en_ok g) (ci := 4) (kn := 22) (fl := [(1, 8380417), (1, 8), (1, 8347681), (3, 23)]) hK hO kr27 rfl hP hD hS hA hE [] rfl rfl rfl) rfl rfl hl.1 rfl (lv_room (Nat.le_of_ble_eq_true rfl)) dDA_commit_287 ⟨by omega, by omega⟩) (fun  u25 H locs hu25 hP hD hS => ?_)
              obtain ⟨s28, pl⟩ := u25
              obtain ⟨⟨eq25, hFc25, -⟩, hO⟩ := hu25
              have hO : okn g T s28 pl := hO
              have hP : va_P g.1 vcl ([] ++ pl) _ := hP
              have hD : va_D _ ([] ++ pl) := hD
              have hFc25 : frm (M_RG_transform_8 140) s27 s28 := hFc25
              replace hR := bnd_step hR eq25
              have hF := frm_tr hF hFc25 (fun k hk => by unfold M_RG_transform_8 at hk; unfold M_DA_commit_1; omega)
              have hf25 : s28.1 16 3 = nI x27 := fc_F hf23 hFc25 (by unfold M_RG_transform_8; omega)
              have hf26 : s28.1 16 1 = nI x28 := fc_F hf24 hFc25 (by unfold M_RG_transform_8; omega)
              refine W.widen (k := 0) (n := 0) (by omega) (by omega) ?_
              exact mp_vret hx hb hr hlk hP hD hS (s28, pl) ⟨⟨hR.symm, hF, trivial⟩, hO⟩ [] rfl rfl rfl (by omega) (by omega) dDA_commit_290
            | succ n23 ih23 =>
              intro i23 s24 ps21 pl ls H locs hm23 hi21 hF hf27 hf28 hR hl hO hP hD hS
              refine lv_iload_n hx hb dDA_commit_171 rfl (lv_at hl 0 rfl) ?_
              refine lv_aload_n hx hb dDA_commit_172 rfl (lv_at hl 2 rfl) ?_
              refine nw_get (C := "LatticeKeys$DsaSet") (TT := T_DS) (N := 17) hx hb hts (wg_ft i_DS) hown hK hO k_st (kn := 10) (ci := 2) (fl := [(1, 6), (1, 5), (1, 4), (1, 4), (1, 49), (1, 48), (1, 20), (1, 524288), (1, 16), (1, 4), (1, 261888), (1, 55), (1, 196), (1, 1952), (1, 4032), (1, 3248), (1, 3309)]) rfl hP rfl 0 (by decide) (hts _ (wg_t kw_302)) (fun _ h9 => h9) (cd := (1, 6)) rfl dDA_commit_173 (fun v33 hv33 => ?_)
              obtain rfl := (show v33 = .int (nI 6) from hv33)
              refine mi_ge (tgt := 240) hx hb dDA_commit_176 (by decide) (by omega) (by omega) (fun h24 => absurd h24 (by omega)) (fun h24 => ?_)
              refine lv_aload_n hx hb dDA_commit_179 rfl (lv_at hl 1 rfl) ?_
              refine nw_get (C := "LatticeKeys$Dsa") (TT := T_DA) (N := 17) hx hb hts (wg_ft i_DA) hown hK hO k_h0 (kn := 39) (ci := 6) (fl := [(3, 16), (3, 22), (3, 37), (3, 40), (3, 97), (3, 105), (3, 114), (3, 123), (3, 131), (3, 140), (3, 141), (3, 142), (3, 143), (3, 144), (3, 145), (3, 146), (3, 147)]) rfl hP rfl 1 (by decide) (hts _ (wg_t kw_166)) (fun _ h9 => h9) (cd := (3, 22)) rfl dDA_commit_180 (fun v34 hv34 => ?_)
              obtain ⟨r29, rfl, kr29⟩ := (show ∃ r : Nat, v34 = .ref r ∧ T r = some 22 from hv34)
              refine lv_aload_n hx hb dDA_commit_183 rfl (lv_at hl 1 rfl) ?_
              refine nw_get (C := "LatticeKeys$Dsa") (TT := T_DA) (N := 17) hx hb hts (wg_ft i_DA) hown hK hO k_h0 (kn := 39) (ci := 6) (fl := [(3, 16), (3, 22), (3, 37), (3, 40), (3, 97), (3, 105), (3, 114), (3, 123), (3, 131), (3, 140), (3, 141), (3, 142), (3, 143), (3, 144), (3, 145), (3, 146), (3, 147)]) rfl hP rfl 8 (by decide) (hts _ (wg_t kw_173)) (fun _ h9 => h9) (cd := (3, 131)) rfl dDA_commit_184 (fun v35 hv35 => ?_)
              obtain ⟨r30, rfl, kr30⟩ := (show ∃ r : Nat, v35 = .ref r ∧ T r = some 131 from hv35)
              refine lv_iload_n hx hb dDA_commit_187 rfl (lv_at hl 0 rfl) ?_
              refine nw_aald3 hx hb hK hO kr30 (k := 131) (b := 132) rfl hP (by omega) (by omega) dDA_commit_188 (fun r31 kr31 => ?_)
              have hn21 : nsp (132 + i23) = (0, 256, []) := rows_ok 132 8 (by decide) _ (by omega)
              refine mp_v (cx := []) (wr := []) hP hD hS hA [] [] rfl rfl rfl (by decide) (va_runV (As := [.ref r31]) (rest := []) F (N_RG_restore_8 l g _ T s24 pl hO hU r29 r31 (132 + i23) kr29 kr31 hn21) (cwV 1 hts (wg_app (wg_c kw_720 (wg_c kw_721 (wg_c kw_722 (wg_c kw_4 wg_n)))) kw_723) rfl rfl rfl (by decide +kernel) ⟨by decide, by decide⟩) (pn_W "LatticeKeys$Ring" (en_ok g) (ci := 4) (kn := 22) (fl := [(1, 8380417), (1, 8), (1, 8347681), (3, 23)]) hK hO kr29 rfl hP hD hS hA hE [] rfl rfl rfl) rfl rfl hl.1 rfl (lv_room (Nat.le_of_ble_eq_true rfl)) dDA_commit_189 ⟨by omega, by omega⟩) (fun  u26 H locs hu26 hP hD hS => ?_)
              obtain ⟨s29, pl⟩ := u26
              obtain ⟨⟨eq26, hFc26, -⟩, hO⟩ := hu26
              have hO : okn g T s29 pl := hO
              have hP : va_P g.1 vcl ([] ++ pl) _ := hP
              have hD : va_D _ ([] ++ pl) := hD
              have hFc26 : frm (M_RG_restore_8 (132 + i23)) s24 s29 := hFc26
              replace hR := bnd_step hR eq26
              have hF := frm_tr hF hFc26 (fun k hk => by unfold M_RG_restore_8 at hk; unfold M_DA_commit_1; omega)
              have hf29 : s29.1 16 3 = nI ps21 := fc_F hf27 hFc26 (by unfold M_RG_restore_8; omega)
              have hf30 : s29.1 16 1 = nI x22 := fc_F hf28 hFc26 (by unfold M_RG_restore_8; omega)
              refine W.widen (k := 0) (n := 0) (by omega) (by omega) ?_
              refine lv_iconst (v := nI 0) hx hb dDA_commit_192 (by decide) ?_
              refine lv_istore (lv' := [(4, .int (nI 0)), (3, .int (nI i23)), (0, .ref h0), (1, .ref st)]) hx hb dDA_commit_193 hl (by decide) rfl (fun ls hl => ?_)
              have lp24 : ∀ (n24 : Nat) (i24 : Nat) (s30 : Sto) (ps22 : Nat) (pl : va_W) (ls : Array Slot) (H : Heap) (locs : List Loc), n24 + i24 = 256 → (ps22 < 136) → frm (M_DA_commit_1) s s30 → s30.1 16 3 = nI ps22 → s30.1 16 1 = nI x22 → F_DA_commit_1 cn s = F_DA_commit_1_L3 i23 (F_DA_commit_1_L2 n23) n24 i24 s30 → lv_has ls 5 [(4, .int (nI i24)), (3, .int (nI i23)), (0, .ref h0), (1, .ref st)] → okn g T s30 pl → va_P g.1 vcl ([] ++ pl) H → va_D A ([] ++ pl) → va_S A s0.heap H locs → W p l e ({ frames := 5, cells := 0, slots := 0, locals := 147 } : Room) s0 m args below meth c H locs 0 0 (MQ below (va_Qv (fun (u : (Sto) × va_W) => (u.1 = F_DA_commit_1 cn s ∧ frm (M_DA_commit_1) s u.1 ∧ True) ∧ okn g T u.1 u.2) (po g.1 vcl A (fun (u : (Sto) × va_W) => [] ++ u.2)) A) args s0 0 0 A) (F0 m 195 ls []) := by
                intro n24
                induction n24 with
                | zero =>
                  intro i24 s30 ps22 pl ls H locs hm24 hi22 hF hf31 hf32 hR hl hO hP hD hS
                  refine lv_iload hx hb dDA_commit_195 (lv_at hl 0 rfl) ?_
                  refine lv_sipush (v := nI 256) hx hb dDA_commit_197 (by decide) ?_
                  refine mi_ge (tgt := 229) hx hb dDA_commit_200 (by decide) (by omega) (by omega) (fun h25 => ?_) (fun h25 => absurd h25 (by omega))
                  refine lv_aload_n hx hb dDA_commit_229 rfl (lv_at hl 2 rfl) ?_
                  refine lv_aload_n hx hb dDA_commit_230 rfl (lv_at hl 3 rfl) ?_
                  refine mp_v (cx := []) (wr := []) hP hD hS hA [] [] rfl rfl rfl (by decide) (va_runV (As := [.ref st]) (rest := []) F (N_DA_absorbHigh_1 l g _ T s30 pl hO hU h0 st ps22 x22 k_h0 k_st hf31 hf32 (by omega) (by omega)) (cwV 1 hts (wg_app (wg_c kw_1210 (wg_c kw_1212 (wg_c ks_39 (wg_c kw_5 wg_n)))) kw_1213) rfl rfl rfl (by decide +kernel) ⟨by decide, by decide⟩) (pn_W "LatticeKeys$Dsa" (en_ok g) (ci := 6) (kn := 39) (fl := [(3, 16), (3, 22), (3, 37), (3, 40), (3, 97), (3, 105), (3, 114), (3, 123), (3, 131), (3, 140), (3, 141), (3, 142), (3, 143), (3, 144), (3, 145), (3, 146), (3, 147)]) hK hO k_h0 rfl hP hD hS hA hE [] rfl rfl rfl) rfl rfl hl.1 rfl (lv_room (Nat.le_of_ble_eq_true rfl)) dDA_commit_231 ⟨by omega, by omega⟩) (fun  u27 H locs hu27 hP hD hS => ?_)
                  obtain ⟨s31, pl⟩ := u27
                  obtain ⟨⟨eq27, hFc27, ⟨x33, hx_33, hb_33⟩, ⟨x34, hx_34, hb_34⟩, -⟩, hO⟩ := hu27
                  have hO : okn g T s31 pl := hO
                  have hP : va_P g.1 vcl ([] ++ pl) _ := hP
                  have hD : va_D _ ([] ++ pl) := hD
                  have hFc27 : frm (M_DA_absorbHigh_1) s30 s31 := hFc27
                  have hb_33 : x33 < 136 := hb_33
                  have hb_34 : x34 = 136 := hb_34
                  replace hR := bnd_step hR eq27
                  have hF := frm_tr hF hFc27 (fun k hk => by unfold M_DA_absorbHigh_1 at hk; unfold M_DA_commit_1; omega)
                  refine W.widen (k := 0) (n := 0) (by omega) (by omega) ?_
                  refine mi_iinc (k := 1) (x := i23) (d := 1) (y := i23 + 1) (lv' := [(3, .int (nI (i23 + 1))), (4, .int (nI i24)), (0, .ref h0), (1, .ref st)]) hx hb dDA_commit_234 hl rfl (by decide) rfl (by decide) rfl (fun ls hl => ?_)
                  refine lv_goto (tgt := 171) hx hb dDA_commit_237 (by decide) ?_
                  exact ih23 (i23 + 1) s31 x33 pl ls H locs (by omega) (by omega) hF hx_33 (by have h9 := hx_34; rw [show x34 = x22 by omega] at h9; exact h9) hR (lv_sub hl [0, 2, 3] rfl) hO hP hD hS
                | succ n24 ih24 =>
                  intro i24 s30 ps22 pl ls H locs hm24 hi22 hF hf33 hf34 hR hl hO hP hD hS
                  refine lv_iload hx hb dDA_commit_195 (lv_at hl 0 rfl) ?_
                  refine lv_sipush (v := nI 256) hx hb dDA_commit_197 (by decide) ?_
                  refine mi_ge (tgt := 229) hx hb dDA_commit_200 (by decide) (by omega) (by omega) (fun h26 => absurd h26 (by omega)) (fun h26 => ?_)
                  refine lv_aload_n hx hb dDA_commit_203 rfl (lv_at hl 2 rfl) ?_
                  refine nw_get (C := "LatticeKeys$Dsa") (TT := T_DA) (N := 17) hx hb hts (wg_ft i_DA) hown hK hO k_h0 (kn := 39) (ci := 6) (fl := [(3, 16), (3, 22), (3, 37), (3, 40), (3, 97), (3, 105), (3, 114), (3, 123), (3, 131), (3, 140), (3, 141), (3, 142), (3, 143), (3, 144), (3, 145), (3, 146), (3, 147)]) rfl hP rfl 10 (by decide) (hts _ (wg_t kw_175)) (fun _ h9 => h9) (cd := (3, 141)) rfl dDA_commit_204 (fun v36 hv36 => ?_)
                  obtain ⟨r32, rfl, kr32⟩ := (show ∃ r : Nat, v36 = .ref r ∧ T r = some 141 from hv36)
                  refine lv_iload hx hb dDA_commit_207 (lv_at hl 0 rfl) ?_
                  refine lv_aload_n hx hb dDA_commit_209 rfl (lv_at hl 3 rfl) ?_
                  refine lv_aload_n hx hb dDA_commit_210 rfl (lv_at hl 2 rfl) ?_
                  refine nw_get (C := "LatticeKeys$Dsa") (TT := T_DA) (N := 17) hx hb hts (wg_ft i_DA) hown hK hO k_h0 (kn := 39) (ci := 6) (fl := [(3, 16), (3, 22), (3, 37), (3, 40), (3, 97), (3, 105), (3, 114), (3, 123), (3, 131), (3, 140), (3, 141), (3, 142), (3, 143), (3, 144), (3, 145), (3, 146), (3, 147)]) rfl hP rfl 8 (by decide) (hts _ (wg_t kw_173)) (fun _ h9 => h9) (cd := (3, 131)) rfl dDA_commit_211 (fun v37 hv37 => ?_)
                  obtain ⟨r33, rfl, kr33⟩ := (show ∃ r : Nat, v37 = .ref r ∧ T r = some 131 from hv37)
                  refine lv_iload_n hx hb dDA_commit_214 rfl (lv_at hl 1 rfl) ?_
                  refine nw_aald3 hx hb hK hO kr33 (k := 131) (b := 132) rfl hP (by omega) (by omega) dDA_commit_215 (fun r34 kr34 => ?_)
                  have hn22 : nsp (132 + i23) = (0, 256, []) := rows_ok 132 8 (by decide) _ (by omega)
                  refine lv_iload hx hb dDA_commit_216 (lv_at hl 0 rfl) ?_
                  refine nw_iald hx hb hK hO kr34 (k := (132 + i23)) hn22 hP (by omega) (by omega) dDA_commit_218 ?_
                  refine mp_i (cx := []) (wr := []) hP hD hS hA [] [] rfl rfl rfl (by decide) (va_runV (As := [.int ((s30.1 ((132 + i23)) i24))]) (rest := [.int (nI i24), .ref r32]) F (N_DS_high_1 l g _ T s30 pl hO hU st (s30.1 ((132 + i23)) i24) k_st) (cwV 1 hts (wg_app (wg_c kw_1206 (wg_c kw_1207 (wg_c kw_1208 (wg_c kw_8 wg_n)))) kw_1209) rfl rfl rfl (by decide +kernel) ⟨by decide, by decide⟩) (pn_W "LatticeKeys$DsaSet" (en_ok g) (ci := 2) (kn := 10) (fl := [(1, 6), (1, 5), (1, 4), (1, 4), (1, 49), (1, 48), (1, 20), (1, 524288), (1, 16), (1, 4), (1, 261888), (1, 55), (1, 196), (1, 1952), (1, 4032), (1, 3248), (1, 3309)]) hK hO k_st rfl hP hD hS hA hE [] rfl rfl rfl) rfl rfl hl.1 rfl (lv_room (Nat.le_of_ble_eq_true rfl)) dDA_commit_219 ⟨by omega, by omega⟩) (fun r35 u28 H locs hu28 hP hD hS => ?_)
                  obtain ⟨q21, pl⟩ := u28
                  obtain ⟨⟨eq28, rfl, hFc28, -⟩, hO⟩ := hu28
                  have hO : okn g T q21.2 pl := hO
                  have hP : va_P g.1 vcl ([] ++ pl) _ := hP
                  have hD : va_D _ ([] ++ pl) := hD
                  have hFc28 : frm (M_DS_high_1) s30 q21.2 := hFc28
                  replace hR := bnd_step hR eq28
                  have hF := frm_tr hF hFc28 (fun k hk => by unfold M_DS_high_1 at hk; unfold M_DA_commit_1; omega)
                  have hf35 : q21.2.1 16 3 = nI ps22 := fc_F hf33 hFc28 (by unfold M_DS_high_1; omega)
                  have hf36 : q21.2.1 16 1 = nI x22 := fc_F hf34 hFc28 (by unfold M_DS_high_1; omega)
                  refine W.widen (k := 0) (n := 0) (by omega) (by omega) ?_
                  refine nw_iast hx hb hK hO hU kr32 (k := 141) rfl hP hD hS (by omega) (by omega) dDA_commit_222 (fun s32 pl H locs es21 hO hP hD hS => ?_)
                  replace hR := bnd_step hR es21
                  have hF := frm_sI hF es21 (by unfold M_DA_commit_1; omega)
                  have hf37 : s32.1 16 3 = nI ps22 := fc_ne hf35 es21 (by omega)
                  have hf38 : s32.1 16 1 = nI x22 := fc_ne hf36 es21 (by omega)
                  refine mi_iinc (k := 0) (x := i24) (d := 1) (y := i24 + 1) (lv' := [(4, .int (nI (i24 + 1))), (3, .int (nI i23)), (0, .ref h0), (1, .ref st)]) hx hb dDA_commit_223 hl rfl (by decide) rfl (by decide) rfl (fun ls hl => ?_)
                  refine lv_goto (tgt := 195) hx hb dDA_commit_226 (by decide) ?_
                  exact ih24 (i24 + 1) s32 ps22 pl ls H locs (by omega) (by omega) hF hf37 hf38 hR (lv_sub hl [0, 1, 2, 3] rfl) hO hP hD hS
              exact lp24 256 0 s29 ps21 pl ls _ _ (by omega) (by omega) hF hf29 hf30 hR (lv_sub hl [0, 1, 2, 3] rfl) hO hP hD hS
          exact lp23 6 0 s23 x21 pl ls _ _ (by omega) (by omega) hF hx_21 hx_22 hR (lv_sub hl [0, 1, 2] rfl) hO hP hD hS
        | succ n22 ih22 =>
          intro i22 s22 pl ls H locs hm22 hF hR hl hO hP hD hS
          refine lv_iload_n hx hb dDA_commit_28 rfl (lv_at hl 0 rfl) ?_
          refine lv_aload_n hx hb dDA_commit_29 rfl (lv_at hl 2 rfl) ?_
          refine nw_get (C := "LatticeKeys$DsaSet") (TT := T_DS) (N := 17) hx hb hts (wg_ft i_DS) hown hK hO k_st (kn := 10) (ci := 2) (fl := [(1, 6), (1, 5), (1, 4), (1, 4), (1, 49), (1, 48), (1, 20), (1, 524288), (1, 16), (1, 4), (1, 261888), (1, 55), (1, 196), (1, 1952), (1, 4032), (1, 3248), (1, 3309)]) rfl hP rfl 1 (by decide) (hts _ (wg_t kw_305)) (fun _ h9 => h9) (cd := (1, 5)) rfl dDA_commit_30 (fun v38 hv38 => ?_)
          obtain rfl := (show v38 = .int (nI 5) from hv38)
          refine mi_ge (tgt := 165) hx hb dDA_commit_33 (by decide) (by omega) (by omega) (fun h27 => absurd h27 (by omega)) (fun h27 => ?_)
          refine lv_aload_n hx hb dDA_commit_36 rfl (lv_at hl 1 rfl) ?_
          refine nw_get (C := "LatticeKeys$Dsa") (TT := T_DA) (N := 17) hx hb hts (wg_ft i_DA) hown hK hO k_h0 (kn := 39) (ci := 6) (fl := [(3, 16), (3, 22), (3, 37), (3, 40), (3, 97), (3, 105), (3, 114), (3, 123), (3, 131), (3, 140), (3, 141), (3, 142), (3, 143), (3, 144), (3, 145), (3, 146), (3, 147)]) rfl hP rfl 2 (by decide) (hts _ (wg_t kw_167)) (fun _ h9 => h9) (cd := (3, 37)) rfl dDA_commit_37 (fun v39 hv39 => ?_)
          obtain ⟨r36, rfl, kr35⟩ := (show ∃ r : Nat, v39 = .ref r ∧ T r = some 37 from hv39)
          refine lv_aload_n hx hb dDA_commit_40 rfl (lv_at hl 2 rfl) ?_
          refine lv_aload_n hx hb dDA_commit_41 rfl (lv_at hl 1 rfl) ?_
          refine nw_get (C := "LatticeKeys$Dsa") (TT := T_DA) (N := 17) hx hb hts (wg_ft i_DA) hown hK hO k_h0 (kn := 39) (ci := 6) (fl := [(3, 16), (3, 22), (3, 37), (3, 40), (3, 97), (3, 105), (3, 114), (3, 123), (3, 131), (3, 140), (3, 141), (3, 142), (3, 143), (3, 144), (3, 145), (3, 146), (3, 147)]) rfl hP rfl 7 (by decide) (hts _ (wg_t kw_172)) (fun _ h9 => h9) (cd := (3, 123)) rfl dDA_commit_42 (fun v40 hv40 => ?_)
          obtain ⟨r37, rfl, kr36⟩ := (show ∃ r : Nat, v40 = .ref r ∧ T r = some 123 from hv40)
          refine lv_iload_n hx hb dDA_commit_45 rfl (lv_at hl 0 rfl) ?_
          refine nw_aald3 hx hb hK hO kr36 (k := 123) (b := 124) rfl hP (by omega) (by omega) dDA_commit_46 (fun r38 kr37 => ?_)
          have hn23 : nsp (124 + i22) = (0, 256, []) := rows_ok 124 7 (by decide) _ (by omega)
          refine lv_aload_n hx hb dDA_commit_47 rfl (lv_at hl 1 rfl) ?_
          refine nw_get (C := "LatticeKeys$Dsa") (TT := T_DA) (N := 17) hx hb hts (wg_ft i_DA) hown hK hO k_h0 (kn := 39) (ci := 6) (fl := [(3, 16), (3, 22), (3, 37), (3, 40), (3, 97), (3, 105), (3, 114), (3, 123), (3, 131), (3, 140), (3, 141), (3, 142), (3, 143), (3, 144), (3, 145), (3, 146), (3, 147)]) rfl hP rfl 11 (by decide) (hts _ (wg_t kw_176)) (fun _ h9 => h9) (cd := (3, 142)) rfl dDA_commit_48 (fun v41 hv41 => ?_)
          obtain ⟨r39, rfl, kr38⟩ := (show ∃ r : Nat, v41 = .ref r ∧ T r = some 142 from hv41)
          refine lv_iload_n hx hb dDA_commit_51 rfl (lv_at hl 3 rfl) ?_
          refine lv_iload_n hx hb dDA_commit_52 rfl (lv_at hl 0 rfl) ?_
          refine lv_iadd hx hb dDA_commit_53 ?_
          refine mp_v (cx := []) (wr := []) hP hD hS hA [] [] rfl rfl rfl (by decide) (va_runV (As := [.ref st, .ref r38, .ref r39, .int ((cn + (nI i22)))]) (rest := []) F (N_SA_sampleMask_1 l g _ T s22 pl hO hU r36 st r38 r39 (124 + i22) 142 128 (cn + (nI i22)) kr35 k_st kr37 hn23 kr38 rfl (by omega) (by omega)) (cwV 4 hts (wg_app (wg_c kw_1196 (wg_c kw_1197 (wg_c kw_1198 (wg_c kw_6 wg_n)))) kw_1199) rfl rfl rfl (by decide +kernel) ⟨by decide, by decide⟩) (pn_W "LatticeKeys$DsaSampler" (en_ok g) (ci := 7) (kn := 37) (fl := [(3, 18), (3, 38)]) hK hO kr35 rfl hP hD hS hA hE [] rfl rfl rfl) rfl rfl hl.1 rfl (lv_room (Nat.le_of_ble_eq_true rfl)) dDA_commit_54 ⟨by omega, by omega⟩) (fun  u29 H locs hu29 hP hD hS => ?_)
          obtain ⟨s33, pl⟩ := u29
          obtain ⟨⟨eq29, hFc29, -⟩, hO⟩ := hu29
          have hO : okn g T s33 pl := hO
          have hP : va_P g.1 vcl ([] ++ pl) _ := hP
          have hD : va_D _ ([] ++ pl) := hD
          have hFc29 : frm (M_SA_sampleMask_1 (124 + i22)) s22 s33 := hFc29
          replace hR := bnd_step hR eq29
          have hF := frm_tr hF hFc29 (fun k hk => by unfold M_SA_sampleMask_1 at hk; unfold M_DA_commit_1; omega)
          refine W.widen (k := 0) (n := 0) (by omega) (by omega) ?_
          refine lv_aload_n hx hb dDA_commit_57 rfl (lv_at hl 1 rfl) ?_
          refine nw_get (C := "LatticeKeys$Dsa") (TT := T_DA) (N := 17) hx hb hts (wg_ft i_DA) hown hK hO k_h0 (kn := 39) (ci := 6) (fl := [(3, 16), (3, 22), (3, 37), (3, 40), (3, 97), (3, 105), (3, 114), (3, 123), (3, 131), (3, 140), (3, 141), (3, 142), (3, 143), (3, 144), (3, 145), (3, 146), (3, 147)]) rfl hP rfl 1 (by decide) (hts _ (wg_t kw_166)) (fun _ h9 => h9) (cd := (3, 22)) rfl dDA_commit_58 (fun v42 hv42 => ?_)
          obtain ⟨r40, rfl, kr39⟩ := (show ∃ r : Nat, v42 = .ref r ∧ T r = some 22 from hv42)
          refine lv_aload_n hx hb dDA_commit_61 rfl (lv_at hl 1 rfl) ?_
          refine nw_get (C := "LatticeKeys$Dsa") (TT := T_DA) (N := 17) hx hb hts (wg_ft i_DA) hown hK hO k_h0 (kn := 39) (ci := 6) (fl := [(3, 16), (3, 22), (3, 37), (3, 40), (3, 97), (3, 105), (3, 114), (3, 123), (3, 131), (3, 140), (3, 141), (3, 142), (3, 143), (3, 144), (3, 145), (3, 146), (3, 147)]) rfl hP rfl 7 (by decide) (hts _ (wg_t kw_172)) (fun _ h9 => h9) (cd := (3, 123)) rfl dDA_commit_62 (fun v43 hv43 => ?_)
          obtain ⟨r41, rfl, kr40⟩ := (show ∃ r : Nat, v43 = .ref r ∧ T r = some 123 from hv43)
          refine lv_iload_n hx hb dDA_commit_65 rfl (lv_at hl 0 rfl) ?_
          refine nw_aald3 hx hb hK hO kr40 (k := 123) (b := 124) rfl hP (by omega) (by omega) dDA_commit_66 (fun r42 kr41 => ?_)
          have hn24 : nsp (124 + i22) = (0, 256, []) := rows_ok 124 7 (by decide) _ (by omega)
          refine lv_aload_n hx hb dDA_commit_67 rfl (lv_at hl 2 rfl) ?_
          refine nw_get (C := "LatticeKeys$DsaSet") (TT := T_DS) (N := 17) hx hb hts (wg_ft i_DS) hown hK hO k_st (kn := 10) (ci := 2) (fl := [(1, 6), (1, 5), (1, 4), (1, 4), (1, 49), (1, 48), (1, 20), (1, 524288), (1, 16), (1, 4), (1, 261888), (1, 55), (1, 196), (1, 1952), (1, 4032), (1, 3248), (1, 3309)]) rfl hP rfl 7 (by decide) (hts _ (wg_t kw_320)) (fun _ h9 => h9) (cd := (1, 524288)) rfl dDA_commit_68 (fun v44 hv44 => ?_)
          obtain rfl := (show v44 = .int (nI 524288) from hv44)
          refine lv_aload_n hx hb dDA_commit_71 rfl (lv_at hl 1 rfl) ?_
          refine nw_get (C := "LatticeKeys$Dsa") (TT := T_DA) (N := 17) hx hb hts (wg_ft i_DA) hown hK hO k_h0 (kn := 39) (ci := 6) (fl := [(3, 16), (3, 22), (3, 37), (3, 40), (3, 97), (3, 105), (3, 114), (3, 123), (3, 131), (3, 140), (3, 141), (3, 142), (3, 143), (3, 144), (3, 145), (3, 146), (3, 147)]) rfl hP rfl 7 (by decide) (hts _ (wg_t kw_172)) (fun _ h9 => h9) (cd := (3, 123)) rfl dDA_commit_72 (fun v45 hv45 => ?_)
          obtain ⟨r43, rfl, kr42⟩ := (show ∃ r : Nat, v45 = .ref r ∧ T r = some 123 from hv45)
          refine lv_iload_n hx hb dDA_commit_75 rfl (lv_at hl 0 rfl) ?_
          refine nw_aald3 hx hb hK hO kr42 (k := 123) (b := 124) rfl hP (by omega) (by omega) dDA_commit_76 (fun r44 kr43 => ?_)
          have hn25 : nsp (124 + i22) = (0, 256, []) := rows_ok 124 7 (by decide) _ (by omega)
          refine mp_v (cx := []) (wr := []) hP hD hS hA [] [] rfl rfl rfl (by decide) (va_runV (As := [.ref r42, .int (nI 524288), .ref r44]) (rest := []) F (N_RG_flip_8 l g _ T s33 pl hO hU r40 r42 r44 (124 + i22) (nI 524288) (124 + i22) kr39 kr41 hn24 kr43 hn25) (cwV 3 hts (wg_app (wg_c kw_698 (wg_c kw_699 (wg_c kw_700 (wg_c kw_4 wg_n)))) kw_701) rfl rfl rfl (by decide +kernel) ⟨by decide, by decide⟩) (pn_W "LatticeKeys$Ring" (en_ok g) (ci := 4) (kn := 22) (fl := [(1, 8380417), (1, 8), (1, 8347681), (3, 23)]) hK hO kr39 rfl hP hD hS hA hE [] rfl rfl rfl) rfl rfl hl.1 rfl (lv_room (Nat.le_of_ble_eq_true rfl)) dDA_commit_77 ⟨by omega, by omega⟩) (fun  u30 H locs hu30 hP hD hS => ?_)
          obtain ⟨s34, pl⟩ := u30
          obtain ⟨⟨eq30, hFc30, -⟩, hO⟩ := hu30
          have hO : okn g T s34 pl := hO
          have hP : va_P g.1 vcl ([] ++ pl) _ := hP
          have hD : va_D _ ([] ++ pl) := hD
          have hFc30 : frm (M_RG_flip_8 (124 + i22)) s33 s34 := hFc30
          replace hR := bnd_step hR eq30
          have hF := frm_tr hF hFc30 (fun k hk => by unfold M_RG_flip_8 at hk; unfold M_DA_commit_1; omega)
          refine W.widen (k := 0) (n := 0) (by omega) (by omega) ?_
          refine lv_aload_n hx hb dDA_commit_80 rfl (lv_at hl 1 rfl) ?_
          refine nw_get (C := "LatticeKeys$Dsa") (TT := T_DA) (N := 17) hx hb hts (wg_ft i_DA) hown hK hO k_h0 (kn := 39) (ci := 6) (fl := [(3, 16), (3, 22), (3, 37), (3, 40), (3, 97), (3, 105), (3, 114), (3, 123), (3, 131), (3, 140), (3, 141), (3, 142), (3, 143), (3, 144), (3, 145), (3, 146), (3, 147)]) rfl hP rfl 7 (by decide) (hts _ (wg_t kw_172)) (fun _ h9 => h9) (cd := (3, 123)) rfl dDA_commit_81 (fun v46 hv46 => ?_)
          obtain ⟨r45, rfl, kr44⟩ := (show ∃ r : Nat, v46 = .ref r ∧ T r = some 123 from hv46)
          refine lv_iload_n hx hb dDA_commit_84 rfl (lv_at hl 0 rfl) ?_
          refine nw_aald3 hx hb hK hO kr44 (k := 123) (b := 124) rfl hP (by omega) (by omega) dDA_commit_85 (fun r46 kr45 => ?_)
          have hn26 : nsp (124 + i22) = (0, 256, []) := rows_ok 124 7 (by decide) _ (by omega)
          refine lv_iconst (v := nI 0) hx hb dDA_commit_86 (by decide) ?_
          refine lv_aload_n hx hb dDA_commit_87 rfl (lv_at hl 1 rfl) ?_
          refine nw_get (C := "LatticeKeys$Dsa") (TT := T_DA) (N := 17) hx hb hts (wg_ft i_DA) hown hK hO k_h0 (kn := 39) (ci := 6) (fl := [(3, 16), (3, 22), (3, 37), (3, 40), (3, 97), (3, 105), (3, 114), (3, 123), (3, 131), (3, 140), (3, 141), (3, 142), (3, 143), (3, 144), (3, 145), (3, 146), (3, 147)]) rfl hP rfl 10 (by decide) (hts _ (wg_t kw_175)) (fun _ h9 => h9) (cd := (3, 141)) rfl dDA_commit_88 (fun v47 hv47 => ?_)
          obtain ⟨r47, rfl, kr46⟩ := (show ∃ r : Nat, v47 = .ref r ∧ T r = some 141 from hv47)
          refine lv_iconst (v := nI 0) hx hb dDA_commit_91 (by decide) ?_
          refine lv_sipush (v := nI 256) hx hb dDA_commit_92 (by decide) ?_
          refine nw_copyi hx hb (hml.trans hl.1.symm) hown (hts _ (wg_t kw_674)) (hts _ (wg_t kw_526)) (hts _ (wg_t kw_525)) (hts _ (wg_t kw_19)) hK hO hU kr45 (k0 := (124 + i22)) hn26 kr46 (k1 := 141) rfl hP hD hS (sp := 0) (dp := 0) (n := 256) (by omega) (by omega) (by omega) (by decide) (Nat.le_of_ble_eq_true rfl) dDA_commit_95 (fun s35 pl H locs es22 hO hP hD hS => ?_)
          replace hR := bnd_step hR es22
          have hF := frm_sC hF es22 (by unfold M_DA_commit_1; omega)
          refine lv_aload_n hx hb dDA_commit_98 rfl (lv_at hl 1 rfl) ?_
          refine nw_get (C := "LatticeKeys$Dsa") (TT := T_DA) (N := 17) hx hb hts (wg_ft i_DA) hown hK hO k_h0 (kn := 39) (ci := 6) (fl := [(3, 16), (3, 22), (3, 37), (3, 40), (3, 97), (3, 105), (3, 114), (3, 123), (3, 131), (3, 140), (3, 141), (3, 142), (3, 143), (3, 144), (3, 145), (3, 146), (3, 147)]) rfl hP rfl 1 (by decide) (hts _ (wg_t kw_166)) (fun _ h9 => h9) (cd := (3, 22)) rfl dDA_commit_99 (fun v48 hv48 => ?_)
          obtain ⟨r48, rfl, kr47⟩ := (show ∃ r : Nat, v48 = .ref r ∧ T r = some 22 from hv48)
          refine lv_aload_n hx hb dDA_commit_102 rfl (lv_at hl 1 rfl) ?_
          refine nw_get (C := "LatticeKeys$Dsa") (TT := T_DA) (N := 17) hx hb hts (wg_ft i_DA) hown hK hO k_h0 (kn := 39) (ci := 6) (fl := [(3, 16), (3, 22), (3, 37), (3, 40), (3, 97), (3, 105), (3, 114), (3, 123), (3, 131), (3, 140), (3, 141), (3, 142), (3, 143), (3, 144), (3, 145), (3, 146), (3, 147)]) rfl hP rfl 10 (by decide) (hts _ (wg_t kw_175)) (fun _ h9 => h9) (cd := (3, 141)) rfl dDA_commit_103 (fun v49 hv49 => ?_)
          obtain ⟨r49, rfl, kr48⟩ := (show ∃ r : Nat, v49 = .ref r ∧ T r = some 141 from hv49)
          refine mp_v (cx := []) (wr := []) hP hD hS hA [] [] rfl rfl rfl (by decide) (va_runV (As := [.ref r49]) (rest := []) F (N_RG_transform_8 l g _ T s35 pl hO hU r48 r49 141 kr47 kr48 rfl) (cwV 1 hts (wg_app (wg_c kw_711 (wg_c kw_637 (wg_c kw_638 (wg_c kw_4 wg_n)))) kw_639) rfl rfl rfl (by decide +kernel) ⟨by decide, by decide⟩) (pn_W "LatticeKeys$Ring" (en_ok g) (ci := 4) (kn := 22) (fl := [(1, 8380417), (1, 8), (1, 8347681), (3, 23)]) hK hO kr47 rfl hP hD hS hA hE [] rfl rfl rfl) rfl rfl hl.1 rfl (lv_room (Nat.le_of_ble_eq_true rfl)) dDA_commit_106 ⟨by omega, by omega⟩) (fun  u31 H locs hu31 hP hD hS => ?_)
          obtain ⟨s36, pl⟩ := u31
          obtain ⟨⟨eq31, hFc31, -⟩, hO⟩ := hu31
          have hO : okn g T s36 pl := hO
          have hP : va_P g.1 vcl ([] ++ pl) _ := hP
          have hD : va_D _ ([] ++ pl) := hD
          have hFc31 : frm (M_RG_transform_8 141) s35 s36 := hFc31
          replace hR := bnd_step hR eq31
          have hF := frm_tr hF hFc31 (fun k hk => by unfold M_RG_transform_8 at hk; unfold M_DA_commit_1; omega)
          refine W.widen (k := 0) (n := 0) (by omega) (by omega) ?_
          refine lv_iconst (v := nI 0) hx hb dDA_commit_109 (by decide) ?_
          refine lv_istore (lv' := [(4, .int (nI 0)), (3, .int (nI i22)), (0, .ref h0), (1, .ref st), (2, .int cn)]) hx hb dDA_commit_110 hl (by decide) rfl (fun ls hl => ?_)
          have lp25 : ∀ (n25 : Nat) (i25 : Nat) (s37 : Sto) (pl : va_W) (ls : Array Slot) (H : Heap) (locs : List Loc), n25 + i25 = 6 → frm (M_DA_commit_1) s s37 → F_DA_commit_1 cn s = F_DA_commit_1_L4 i22 (F_DA_commit_1_L1 cn n22) n25 i25 s37 → lv_has ls 5 [(4, .int (nI i25)), (3, .int (nI i22)), (0, .ref h0), (1, .ref st), (2, .int cn)] → okn g T s37 pl → va_P g.1 vcl ([] ++ pl) H → va_D A ([] ++ pl) → va_S A s0.heap H locs → W p l e ({ frames := 5, cells := 0, slots := 0, locals := 147 } : Room) s0 m args below meth c H locs 0 0 (MQ below (va_Qv (fun (u : (Sto) × va_W) => (u.1 = F_DA_commit_1 cn s ∧ frm (M_DA_commit_1) s u.1 ∧ True) ∧ okn g T u.1 u.2) (po g.1 vcl A (fun (u : (Sto) × va_W) => [] ++ u.2)) A) args s0 0 0 A) (F0 m 112 ls []) := by
            intro n25
            induction n25 with
            | zero =>
              intro i25 s37 pl ls H locs hm25 hF hR hl hO hP hD hS
              refine lv_iload hx hb dDA_commit_112 (lv_at hl 0 rfl) ?_
              refine lv_aload_n hx hb dDA_commit_114 rfl (lv_at hl 3 rfl) ?_
              refine nw_get (C := "LatticeKeys$DsaSet") (TT := T_DS) (N := 17) hx hb hts (wg_ft i_DS) hown hK hO k_st (kn := 10) (ci := 2) (fl := [(1, 6), (1, 5), (1, 4), (1, 4), (1, 49), (1, 48), (1, 20), (1, 524288), (1, 16), (1, 4), (1, 261888), (1, 55), (1, 196), (1, 1952), (1, 4032), (1, 3248), (1, 3309)]) rfl hP rfl 0 (by decide) (hts _ (wg_t kw_302)) (fun _ h9 => h9) (cd := (1, 6)) rfl dDA_commit_115 (fun v50 hv50 => ?_)
              obtain rfl := (show v50 = .int (nI 6) from hv50)
              refine mi_ge (tgt := 159) hx hb dDA_commit_118 (by decide) (by omega) (by omega) (fun h28 => ?_) (fun h28 => absurd h28 (by omega))
              refine mi_iinc (k := 1) (x := i22) (d := 1) (y := i22 + 1) (lv' := [(3, .int (nI (i22 + 1))), (4, .int (nI i25)), (0, .ref h0), (1, .ref st), (2, .int cn)]) hx hb dDA_commit_159 hl rfl (by decide) rfl (by decide) rfl (fun ls hl => ?_)
              refine lv_goto (tgt := 28) hx hb dDA_commit_162 (by decide) ?_
              exact ih22 (i22 + 1) s37 pl ls H locs (by omega) hF hR (lv_sub hl [0, 2, 3, 4] rfl) hO hP hD hS
            | succ n25 ih25 =>
              intro i25 s37 pl ls H locs hm25 hF hR hl hO hP hD hS
              refine lv_iload hx hb dDA_commit_112 (lv_at hl 0 rfl) ?_
              refine lv_aload_n hx hb dDA_commit_114 rfl (lv_at hl 3 rfl) ?_
              refine nw_get (C := "LatticeKeys$DsaSet") (TT := T_DS) (N := 17) hx hb hts (wg_ft i_DS) hown hK hO k_st (kn := 10) (ci := 2) (fl := [(1, 6), (1, 5), (1, 4), (1, 4), (1, 49), (1, 48), (1, 20), (1, 524288), (1, 16), (1, 4), (1, 261888), (1, 55), (1, 196), (1, 1952), (1, 4032), (1, 3248), (1, 3309)]) rfl hP rfl 0 (by decide) (hts _ (wg_t kw_302)) (fun _ h9 => h9) (cd := (1, 6)) rfl dDA_commit_115 (fun v51 hv51 => ?_)
              obtain rfl := (show v51 = .int (nI 6) from hv51)
              refine mi_ge (tgt := 159) hx hb dDA_commit_118 (by decide) (by omega) (by omega) (fun h29 => absurd h29 (by omega)) (fun h29 => ?_)
              refine lv_aload_n hx hb dDA_commit_121 rfl (lv_at hl 2 rfl) ?_
              refine nw_get (C := "LatticeKeys$Dsa") (TT := T_DA) (N := 17) hx hb hts (wg_ft i_DA) hown hK hO k_h0 (kn := 39) (ci := 6) (fl := [(3, 16), (3, 22), (3, 37), (3, 40), (3, 97), (3, 105), (3, 114), (3, 123), (3, 131), (3, 140), (3, 141), (3, 142), (3, 143), (3, 144), (3, 145), (3, 146), (3, 147)]) rfl hP rfl 1 (by decide) (hts _ (wg_t kw_166)) (fun _ h9 => h9) (cd := (3, 22)) rfl dDA_commit_122 (fun v52 hv52 => ?_)
              obtain ⟨r50, rfl, kr49⟩ := (show ∃ r : Nat, v52 = .ref r ∧ T r = some 22 from hv52)
              refine lv_aload_n hx hb dDA_commit_125 rfl (lv_at hl 2 rfl) ?_
              refine nw_get (C := "LatticeKeys$Dsa") (TT := T_DA) (N := 17) hx hb hts (wg_ft i_DA) hown hK hO k_h0 (kn := 39) (ci := 6) (fl := [(3, 16), (3, 22), (3, 37), (3, 40), (3, 97), (3, 105), (3, 114), (3, 123), (3, 131), (3, 140), (3, 141), (3, 142), (3, 143), (3, 144), (3, 145), (3, 146), (3, 147)]) rfl hP rfl 8 (by decide) (hts _ (wg_t kw_173)) (fun _ h9 => h9) (cd := (3, 131)) rfl dDA_commit_126 (fun v53 hv53 => ?_)
              obtain ⟨r51, rfl, kr50⟩ := (show ∃ r : Nat, v53 = .ref r ∧ T r = some 131 from hv53)
              refine lv_iload hx hb dDA_commit_129 (lv_at hl 0 rfl) ?_
              refine nw_aald3 hx hb hK hO kr50 (k := 131) (b := 132) rfl hP (by omega) (by omega) dDA_commit_131 (fun r52 kr51 => ?_)
              have hn27 : nsp (132 + i25) = (0, 256, []) := rows_ok 132 8 (by decide) _ (by omega)
              refine lv_aload_n hx hb dDA_commit_132 rfl (lv_at hl 2 rfl) ?_
              refine nw_get (C := "LatticeKeys$Dsa") (TT := T_DA) (N := 17) hx hb hts (wg_ft i_DA) hown hK hO k_h0 (kn := 39) (ci := 6) (fl := [(3, 16), (3, 22), (3, 37), (3, 40), (3, 97), (3, 105), (3, 114), (3, 123), (3, 131), (3, 140), (3, 141), (3, 142), (3, 143), (3, 144), (3, 145), (3, 146), (3, 147)]) rfl hP rfl 3 (by decide) (hts _ (wg_t kw_168)) (fun _ h9 => h9) (cd := (3, 40)) rfl dDA_commit_133 (fun v54 hv54 => ?_)
              obtain ⟨r53, rfl, kr52⟩ := (show ∃ r : Nat, v54 = .ref r ∧ T r = some 40 from hv54)
              refine lv_aload_n hx hb dDA_commit_136 rfl (lv_at hl 3 rfl) ?_
              refine nw_get (C := "LatticeKeys$DsaSet") (TT := T_DS) (N := 17) hx hb hts (wg_ft i_DS) hown hK hO k_st (kn := 10) (ci := 2) (fl := [(1, 6), (1, 5), (1, 4), (1, 4), (1, 49), (1, 48), (1, 20), (1, 524288), (1, 16), (1, 4), (1, 261888), (1, 55), (1, 196), (1, 1952), (1, 4032), (1, 3248), (1, 3309)]) rfl hP rfl 1 (by decide) (hts _ (wg_t kw_305)) (fun _ h9 => h9) (cd := (1, 5)) rfl dDA_commit_137 (fun v55 hv55 => ?_)
              obtain rfl := (show v55 = .int (nI 5) from hv55)
              refine lv_iload hx hb dDA_commit_140 (lv_at hl 0 rfl) ?_
              refine mi_imul hx hb dDA_commit_142 ?_
              refine lv_iload_n hx hb dDA_commit_143 rfl (lv_at hl 1 rfl) ?_
              refine mi_iadd hx hb dDA_commit_144 ?_
              refine nw_aald3 hx hb hK hO kr52 (k := 40) (b := 41) rfl hP (by omega) (by omega) dDA_commit_145 (fun r54 kr53 => ?_)
              have hn28 : nsp (41 + ((5 * i25) + i22)) = (0, 256, []) := rows_ok 41 56 (by decide) _ (by omega)
              refine lv_aload_n hx hb dDA_commit_146 rfl (lv_at hl 2 rfl) ?_
              refine nw_get (C := "LatticeKeys$Dsa") (TT := T_DA) (N := 17) hx hb hts (wg_ft i_DA) hown hK hO k_h0 (kn := 39) (ci := 6) (fl := [(3, 16), (3, 22), (3, 37), (3, 40), (3, 97), (3, 105), (3, 114), (3, 123), (3, 131), (3, 140), (3, 141), (3, 142), (3, 143), (3, 144), (3, 145), (3, 146), (3, 147)]) rfl hP rfl 10 (by decide) (hts _ (wg_t kw_175)) (fun _ h9 => h9) (cd := (3, 141)) rfl dDA_commit_147 (fun v56 hv56 => ?_)
              obtain ⟨r55, rfl, kr54⟩ := (show ∃ r : Nat, v56 = .ref r ∧ T r = some 141 from hv56)
              refine mp_v (cx := []) (wr := []) hP hD hS hA [] [] rfl rfl rfl (by decide) (va_runV (As := [.ref r52, .ref r54, .ref r55]) (rest := []) F (N_RG_addProduct_8 l g _ T s37 pl hO hU r50 r52 r54 r55 (132 + i25) (41 + ((5 * i25) + i22)) 141 kr49 kr51 hn27 kr53 hn28 kr54 rfl) (cwV 3 hts (wg_app (wg_c kw_719 (wg_c kw_654 (wg_c kw_655 (wg_c kw_4 wg_n)))) kw_656) rfl rfl rfl (by decide +kernel) ⟨by decide, by decide⟩) (pn_W "LatticeKeys$Ring" (en_ok g) (ci := 4) (kn := 22) (fl := [(1, 8380417), (1, 8), (1, 8347681), (3, 23)]) hK hO kr49 rfl hP hD hS hA hE [] rfl rfl rfl) rfl rfl hl.1 rfl (lv_room (Nat.le_of_ble_eq_true rfl)) dDA_commit_150 ⟨by omega, by omega⟩) (fun  u32 H locs hu32 hP hD hS => ?_)
              obtain ⟨s38, pl⟩ := u32
              obtain ⟨⟨eq32, hFc32, -⟩, hO⟩ := hu32
              have hO : okn g T s38 pl := hO
              have hP : va_P g.1 vcl ([] ++ pl) _ := hP
              have hD : va_D _ ([] ++ pl) := hD
              have hFc32 : frm (M_RG_addProduct_8 (132 + i25)) s37 s38 := hFc32
              replace hR := bnd_step hR eq32
              have hF := frm_tr hF hFc32 (fun k hk => by unfold M_RG_addProduct_8 at hk; unfold M_DA_commit_1; omega)
              refine W.widen (k := 0) (n := 0) (by omega) (by omega) ?_
              refine mi_iinc (k := 0) (x := i25) (d := 1) (y := i25 + 1) (lv' := [(4, .int (nI (i25 + 1))), (3, .int (nI i22)), (0, .ref h0), (1, .ref st), (2, .int cn)]) hx hb dDA_commit_153 hl rfl (by decide) rfl (by decide) rfl (fun ls hl => ?_)
              refine lv_goto (tgt := 112) hx hb dDA_commit_156 (by decide) ?_
              exact ih25 (i25 + 1) s38 pl ls H locs (by omega) hF hR (lv_sub hl [0, 1, 2, 3, 4] rfl) hO hP hD hS
          exact lp25 6 0 s36 pl ls _ _ (by omega) hF hR (lv_sub hl [0, 1, 2, 3, 4] rfl) hO hP hD hS
      exact lp22 5 0 s21 pl ls _ _ (by omega) hF hR (lv_sub hl [0, 1, 2, 3] rfl) hO hP hD hS
    | succ n21 ih21 =>
      intro i21 s21 pl ls H locs hm21 hF hR hl hO hP hD hS
      refine lv_iload_n hx hb dDA_commit_2 rfl (lv_at hl 0 rfl) ?_
      refine lv_aload_n hx hb dDA_commit_3 rfl (lv_at hl 2 rfl) ?_
      refine nw_get (C := "LatticeKeys$DsaSet") (TT := T_DS) (N := 17) hx hb hts (wg_ft i_DS) hown hK hO k_st (kn := 10) (ci := 2) (fl := [(1, 6), (1, 5), (1, 4), (1, 4), (1, 49), (1, 48), (1, 20), (1, 524288), (1, 16), (1, 4), (1, 261888), (1, 55), (1, 196), (1, 1952), (1, 4032), (1, 3248), (1, 3309)]) rfl hP rfl 0 (by decide) (hts _ (wg_t kw_302)) (fun _ h9 => h9) (cd := (1, 6)) rfl dDA_commit_4 (fun v57 hv57 => ?_)
      obtain rfl := (show v57 = .int (nI 6) from hv57)
      refine mi_ge (tgt := 26) hx hb dDA_commit_7 (by decide) (by omega) (by omega) (fun h30 => absurd h30 (by omega)) (fun h30 => ?_)
      refine lv_aload_n hx hb dDA_commit_10 rfl (lv_at hl 1 rfl) ?_
      refine nw_get (C := "LatticeKeys$Dsa") (TT := T_DA) (N := 17) hx hb hts (wg_ft i_DA) hown hK hO k_h0 (kn := 39) (ci := 6) (fl := [(3, 16), (3, 22), (3, 37), (3, 40), (3, 97), (3, 105), (3, 114), (3, 123), (3, 131), (3, 140), (3, 141), (3, 142), (3, 143), (3, 144), (3, 145), (3, 146), (3, 147)]) rfl hP rfl 8 (by decide) (hts _ (wg_t kw_173)) (fun _ h9 => h9) (cd := (3, 131)) rfl dDA_commit_11 (fun v58 hv58 => ?_)
      obtain ⟨r56, rfl, kr55⟩ := (show ∃ r : Nat, v58 = .ref r ∧ T r = some 131 from hv58)
      refine lv_iload_n hx hb dDA_commit_14 rfl (lv_at hl 0 rfl) ?_
      refine nw_aald3 hx hb hK hO kr55 (k := 131) (b := 132) rfl hP (by omega) (by omega) dDA_commit_15 (fun r57 kr56 => ?_)
      have hn29 : nsp (132 + i21) = (0, 256, []) := rows_ok 132 8 (by decide) _ (by omega)
      refine lv_iconst (v := nI 0) hx hb dDA_commit_16 (by decide) ?_
      refine mp_v (cx := []) (wr := []) hP hD hS hA [] [] rfl rfl rfl (by decide) (va_runS (As := [.ref r57, .int (nI 0)]) (rest := []) F (N_AR_fillI l g _ T s21 pl hO hU r57 (132 + i21) 256 (nI 0) kr56 hn29 (by omega)) (va_cwS 2 hts (wg_app (wg_c kw_716 (wg_c kw_717 (wg_c kw_21 wg_n))) kw_718) rfl rfl rfl (by decide +kernel) ⟨by decide, by decide⟩) (pp_S (en_ok g) hP hD hS hA hE [] rfl rfl) rfl rfl hl.1 rfl (lv_room (Nat.le_of_ble_eq_true rfl)) dDA_commit_17 ⟨by omega, by omega⟩) (fun  u33 H locs hu33 hP hD hS => ?_)
      obtain ⟨s39, pl⟩ := u33
      obtain ⟨⟨eq33, hFc33, -⟩, hO⟩ := hu33
      have hO : okn g T s39 pl := hO
      have hP : va_P g.1 vcl ([] ++ pl) _ := hP
      have hD : va_D _ ([] ++ pl) := hD
      have hFc33 : frm (M_AR_fillI (132 + i21)) s21 s39 := hFc33
      replace hR := bnd_step hR eq33
      have hF := frm_tr hF hFc33 (fun k hk => by unfold M_AR_fillI at hk; unfold M_DA_commit_1; omega)
      refine W.widen (k := 0) (n := 0) (by omega) (by omega) ?_
      refine mi_iinc (k := 0) (x := i21) (d := 1) (y := i21 + 1) (lv' := [(3, .int (nI (i21 + 1))), (0, .ref h0), (1, .ref st), (2, .int cn)]) hx hb dDA_commit_20 hl rfl (by decide) rfl (by decide) rfl (fun ls hl => ?_)
      refine lv_goto (tgt := 2) hx hb dDA_commit_23 (by decide) ?_
      exact ih21 (i21 + 1) s39 pl ls H locs (by omega) hF hR (lv_sub hl [0, 1, 2, 3] rfl) hO hP hD hS
  exact lp21 6 0 s pl ls _ _ (by omega) hF hR (lv_sub hl [0, 1, 2, 3] rfl) hO hP hD hS
def M_DA_commit_2 (k : Nat) : Prop := (124 ≤ k ∧ k < 131) ∨ (132 ≤ k ∧ k < 140) ∨ k = 140 ∨ k = 141 ∨ k = 144 ∨ k = 147 ∨ k = 16 ∨ k = 18 ∨ k = 38 ∨ (0 : Nat) = 1
noncomputable def F_DA_commit_2_L4 (i22 : Nat) (kk : Nat → Sto → Sto) : Nat → Nat → Sto → Sto
  | 0, i25, s37 => kk (i22 + 1) s37
  | n25 + 1, i25, s37 => bnd (F_RG_addProduct_8 (132 + i25) (41 + ((7 * i25) + i22)) 141 s37) fun s38 => F_DA_commit_2_L4 i22 kk n25 (i25 + 1) s38
noncomputable def F_DA_commit_2_L3 (i23 : Nat) (kk : Nat → Sto → Sto) : Nat → Nat → Sto → Sto
  | 0, i24, s30 => bnd (F_DA_absorbHigh_2  s30) fun s31 => kk (i23 + 1) s31
  | n24 + 1, i24, s30 => bnd (F_DS_high_2 (s30.1 ((132 + i23)) i24) s30) fun q21 => bnd (sI q21.2 141 i24 (q21.1)) fun s32 => F_DA_commit_2_L3 i23 kk n24 (i24 + 1) s32
noncomputable def F_DA_commit_2_L2 : Nat → Nat → Sto → Sto
  | 0, i23, s24 => bnd (F_SP_finish 16 17 s24) fun s25 => bnd (F_SP_squeeze 16 17 144 64 0 64 s25) fun s26 => bnd (F_SA_sampleBall_2 140 144 64 s26) fun s27 => bnd (F_RG_transform_8 140 s27) fun s28 => s28
  | n23 + 1, i23, s24 => bnd (F_RG_restore_8 (132 + i23) s24) fun s29 => F_DA_commit_2_L3 i23 (F_DA_commit_2_L2  n23) 256 0 s29
noncomputable def F_DA_commit_2_L1 (cn : Int32) : Nat → Nat → Sto → Sto
  | 0, i22, s22 => bnd (F_DA_startChallenge  s22) fun s23 => F_DA_commit_2_L2 8 0 s23
  | n22 + 1, i22, s22 => bnd (F_SA_sampleMask_2 (124 + i22) 142 128 (cn + (nI i22)) s22) fun s33 => bnd (F_RG_flip_8 (124 + i22) (nI 524288) (124 + i22) s33) fun s34 => bnd (sC s34 ((124 + i22)) 141 0 0 256) fun s35 => bnd (F_RG_transform_8 141 s35) fun s36 => F_DA_commit_2_L4 i22 (F_DA_commit_2_L1 cn n22) 8 0 s36
noncomputable def F_DA_commit_2_L0 (cn : Int32) : Nat → Nat → Sto → Sto
  | 0, i21, s21 => F_DA_commit_2_L1 cn 7 0 s21
  | n21 + 1, i21, s21 => bnd (F_AR_fillI (132 + i21) 256 (nI 0) s21) fun s39 => F_DA_commit_2_L0 cn n21 (i21 + 1) s39
noncomputable def F_DA_commit_2 (cn : Int32) (s : Sto) : Sto := F_DA_commit_2_L0 cn 8 0 s
set_option maxHeartbeats 8000000 in
set_option maxRecDepth 100000 in
theorem N_DA_commit_2 (l : Launch) (g : Gd) (sz : Nat) (T : TyN) (s : Sto) (pl : va_W) (hO : okn g T s pl) (hU : inj T) (h0 st : Nat) (cn : Int32) (k_h0 : T h0 = some 39) (k_st : T st = some 11)  : Met l y_DA_commit w_DA_commit ({ frames := 5, cells := 0, slots := 0, locals := 147 } : Room) (va_Pc [.ref h0, .ref st, .int cn] (pr (en g) g.1 vcl sz ([] ++ pl))) (va_Qv (fun (u : (Sto) × va_W) => (u.1 = F_DA_commit_2 cn s ∧ frm (M_DA_commit_2) s u.1 ∧ True) ∧ okn g T u.1 u.2) (po g.1 vcl (va_A ([] ++ pl) sz) (fun (u : (Sto) × va_W) => [] ++ u.2)) (va_A ([] ++ pl) sz)) 0 0 (va_A ([] ++ pl) sz) := by
  refine mc_entry (cc := c_DA_commit) (maxL := 5) (ret := none) (by decide) rfl (Nat.le_of_ble_eq_true rfl) ?_
  intro p e s0 m args below meth c ls F hr hlk hnm hsz hP hD hE hA hl
  obtain ⟨hx, hb, hml, hown, hts⟩ := id F
  have hK := hE.1
  generalize va_A ([] ++ pl) sz = A at hD hE hA ⊢
  have hS : va_S A s0.heap s0.heap [] := va_S.rf
  have hl : lv_has ls 5 [(0, .ref h0), (1, .ref st), (2, .int cn)] := hl
  have hR : F_DA_commit_2 cn s = F_DA_commit_2 cn s := rfl
  have hF : frm (M_DA_commit_2) s s := frm_rf
  refine lv_iconst (v := nI 0) hx hb dDA_commit_0 (by decide) ?_
  refine lv_istore_n (lv' := [(3, .int (nI 0)), (0, .ref h0), (1, .ref st), (2, .int cn)]) hx hb dDA_commit_1 rfl hl (by decide) rfl (fun ls hl => ?_)
  have lp21 : ∀ (n21 : Nat) (i21 : Nat) (s21 : Sto) (pl : va_W) (ls : Array Slot) (H : Heap) (locs : List Loc), n21 + i21 = 8 → frm (M_DA_commit_2) s s21 → F_DA_commit_2 cn s = F_DA_commit_2_L0 cn n21 i21 s21 → lv_has ls 5 [(3, .int (nI i21)), (0, .ref h0), (1, .ref st), (2, .int cn)] → okn g T s21 pl → va_P g.1 vcl ([] ++ pl) H → va_D A ([] ++ pl) → va_S A s0.heap H locs → W p l e ({ frames := 5, cells := 0, slots := 0, locals := 147 } : Room) s0 m args below meth c H locs 0 0 (MQ below (va_Qv (fun (u : (Sto) × va_W) => (u.1 = F_DA_commit_2 cn s ∧ frm (M_DA_commit_2) s u.1 ∧ True) ∧ okn g T u.1 u.2) (po g.1 vcl A (fun (u : (Sto) × va_W) => [] ++ u.2)) A) args s0 0 0 A) (F0 m 2 ls []) := by
    intro n21
    induction n21 with
    | zero =>
      intro i21 s21 pl ls H locs hm21 hF hR hl hO hP hD hS
      refine lv_iload_n hx hb dDA_commit_2 rfl (lv_at hl 0 rfl) ?_
      refine lv_aload_n hx hb dDA_commit_3 rfl (lv_at hl 2 rfl) ?_
      refine nw_get (C := "LatticeKeys$DsaSet") (TT := T_DS) (N := 17) hx hb hts (wg_ft i_DS) hown hK hO k_st (kn := 11) (ci := 2) (fl := [(1, 8), (1, 7), (1, 2), (1, 3), (1, 60), (1, 64), (1, 20), (1, 524288), (1, 16), (1, 4), (1, 261888), (1, 75), (1, 120), (1, 2592), (1, 4896), (1, 4544), (1, 4627)]) rfl hP rfl 0 (by decide) (hts _ (wg_t kw_302)) (fun _ h9 => h9) (cd := (1, 8)) rfl dDA_commit_4 (fun v21 hv21 => ?_)
      obtain rfl := (show v21 = .int (nI 8) from hv21)
      refine mi_ge (tgt := 26) hx hb dDA_commit_7 (by decide) (by omega) (by omega) (fun h21 => ?_) (fun h21 => absurd h21 (by omega))
      refine lv_iconst (v := nI 0) hx hb dDA_commit_26 (by decide) ?_
      refine lv_istore_n (lv' := [(3, .int (nI 0)), (0, .ref h0), (1, .ref st), (2, .int cn)]) hx hb dDA_commit_27 rfl hl (by decide) rfl (fun ls hl => ?_)
      have lp22 : ∀ (n22 : Nat) (i22 : Nat) (s22 : Sto) (pl : va_W) (ls : Array Slot) (H : Heap) (locs : List Loc), n22 + i22 = 7 → frm (M_DA_commit_2) s s22 → F_DA_commit_2 cn s = F_DA_commit_2_L1 cn n22 i22 s22 → lv_has ls 5 [(3, .int (nI i22)), (0, .ref h0), (1, .ref st), (2, .int cn)] → okn g T s22 pl → va_P g.1 vcl ([] ++ pl) H → va_D A ([] ++ pl) → va_S A s0.heap H locs → W p l e ({ frames := 5, cells := 0, slots := 0, locals := 147 } : Room) s0 m args below meth c H locs 0 0 (MQ below (va_Qv (fun (u : (Sto) × va_W) => (u.1 = F_DA_commit_2 cn s ∧ frm (M_DA_commit_2) s u.1 ∧ True) ∧ okn g T u.1 u.2) (po g.1 vcl A (fun (u : (Sto) × va_W) => [] ++ u.2)) A) args s0 0 0 A) (F0 m 28 ls []) := by
        intro n22
        induction n22 with
        | zero =>
          intro i22 s22 pl ls H locs hm22 hF hR hl hO hP hD hS
          refine lv_iload_n hx hb dDA_commit_28 rfl (lv_at hl 0 rfl) ?_
          refine lv_aload_n hx hb dDA_commit_29 rfl (lv_at hl 2 rfl) ?_
          refine nw_get (C := "LatticeKeys$DsaSet") (TT := T_DS) (N := 17) hx hb hts (wg_ft i_DS) hown hK hO k_st (kn := 11) (ci := 2) (fl := [(1, 8), (1, 7), (1, 2), (1, 3), (1, 60), (1, 64), (1, 20), (1, 524288), (1, 16), (1, 4), (1, 261888), (1, 75), (1, 120), (1, 2592), (1, 4896), (1, 4544), (1, 4627)]) rfl hP rfl 1 (by decide) (hts _ (wg_t kw_305)) (fun _ h9 => h9) (cd := (1, 7)) rfl dDA_commit_30 (fun v22 hv22 => ?_)
          obtain rfl := (show v22 = .int (nI 7) from hv22)
          refine mi_ge (tgt := 165) hx hb dDA_commit_33 (by decide) (by omega) (by omega) (fun h22 => ?_) (fun h22 => absurd h22 (by omega))
          refine lv_aload_n hx hb dDA_commit_165 rfl (lv_at hl 1 rfl) ?_
          refine mp_v (cx := []) (wr := []) hP hD hS hA [] [] rfl rfl rfl (by decide) (va_runV (As := []) (rest := []) F (N_DA_startChallenge l g _ T s22 pl hO hU h0 k_h0) (cwV 0 hts (wg_app (wg_c kw_1202 (wg_c kw_1204 (wg_c ks_38 (wg_c kw_5 wg_n)))) kw_1205) rfl rfl rfl (by decide +kernel) ⟨by decide, by decide⟩) (pn_W "LatticeKeys$Dsa" (en_ok g) (ci := 6) (kn := 39) (fl := [(3, 16), (3, 22), (3, 37), (3, 40), (3, 97), (3, 105), (3, 114), (3, 123), (3, 131), (3, 140), (3, 141), (3, 142), (3, 143), (3, 144), (3, 145), (3, 146), (3, 147)]) hK hO k_h0 rfl hP hD hS hA hE [] rfl rfl rfl) rfl rfl hl.1 rfl (lv_room (Nat.le_of_ble_eq_true rfl)) dDA_commit_166 ⟨by omega, by omega⟩) (fun  u21 H locs hu21 hP hD hS => ?_)
          obtain ⟨s23, pl⟩ := u21
          obtain ⟨⟨eq21, hFc21, ⟨x21, hx_21, hb_21⟩, ⟨x22, hx_22, hb_22⟩, -⟩, hO⟩ := hu21
          have hO : okn g T s23 pl := hO
          have hP : va_P g.1 vcl ([] ++ pl) _ := hP
          have hD : va_D _ ([] ++ pl) := hD
          have hFc21 : frm (M_DA_startChallenge) s22 s23 := hFc21
          have hb_21 : x21 < 136 := hb_21
          have hb_22 : x22 = 136 := hb_22
          replace hR := bnd_step hR eq21
          have hF := frm_tr hF hFc21 (fun k hk => by unfold M_DA_startChallenge at hk; unfold M_DA_commit_2; omega)
          refine W.widen (k := 0) (n := 0) (by omega) (by omega) ?_
          refine lv_iconst (v := nI 0) hx hb dDA_commit_169 (by decide) ?_
          refine lv_istore_n (lv' := [(3, .int (nI 0)), (0, .ref h0), (1, .ref st), (2, .int cn)]) hx hb dDA_commit_170 rfl hl (by decide) rfl (fun ls hl => ?_)
          have lp23 : ∀ (n23 : Nat) (i23 : Nat) (s24 : Sto) (ps21 : Nat) (pl : va_W) (ls : Array Slot) (H : Heap) (locs : List Loc), n23 + i23 = 8 → (ps21 < 136) → frm (M_DA_commit_2) s s24 → s24.1 16 3 = nI ps21 → s24.1 16 1 = nI x22 → F_DA_commit_2 cn s = F_DA_commit_2_L2 n23 i23 s24 → lv_has ls 5 [(3, .int (nI i23)), (0, .ref h0), (1, .ref st)] → okn g T s24 pl → va_P g.1 vcl ([] ++ pl) H → va_D A ([] ++ pl) → va_S A s0.heap H locs → W p l e ({ frames := 5, cells := 0, slots := 0, locals := 147 } : Room) s0 m args below meth c H locs 0 0 (MQ below (va_Qv (fun (u : (Sto) × va_W) => (u.1 = F_DA_commit_2 cn s ∧ frm (M_DA_commit_2) s u.1 ∧ True) ∧ okn g T u.1 u.2) (po g.1 vcl A (fun (u : (Sto) × va_W) => [] ++ u.2)) A) args s0 0 0 A) (F0 m 171 ls []) := by
            intro n23
            induction n23 with
            | zero =>
              intro i23 s24 ps21 pl ls H locs hm23 hi21 hF hf21 hf22 hR hl hO hP hD hS
              refine lv_iload_n hx hb dDA_commit_171 rfl (lv_at hl 0 rfl) ?_
              refine lv_aload_n hx hb dDA_commit_172 rfl (lv_at hl 2 rfl) ?_
              refine nw_get (C := "LatticeKeys$DsaSet") (TT := T_DS) (N := 17) hx hb hts (wg_ft i_DS) hown hK hO k_st (kn := 11) (ci := 2) (fl := [(1, 8), (1, 7), (1, 2), (1, 3), (1, 60), (1, 64), (1, 20), (1, 524288), (1, 16), (1, 4), (1, 261888), (1, 75), (1, 120), (1, 2592), (1, 4896), (1, 4544), (1, 4627)]) rfl hP rfl 0 (by decide) (hts _ (wg_t kw_302)) (fun _ h9 => h9) (cd := (1, 8)) rfl dDA_commit_173 (fun v23 hv23 => ?_)
              obtain rfl := (show v23 = .int (nI 8) from hv23)
              refine mi_ge (tgt := 240) hx hb dDA_commit_176 (by decide) (by omega) (by omega) (fun h23 => ?_) (fun h23 => absurd h23 (by omega))
              refine lv_aload_n hx hb dDA_commit_240 rfl (lv_at hl 1 rfl) ?_
              refine nw_get (C := "LatticeKeys$Dsa") (TT := T_DA) (N := 17) hx hb hts (wg_ft i_DA) hown hK hO k_h0 (kn := 39) (ci := 6) (fl := [(3, 16), (3, 22), (3, 37), (3, 40), (3, 97), (3, 105), (3, 114), (3, 123), (3, 131), (3, 140), (3, 141), (3, 142), (3, 143), (3, 144), (3, 145), (3, 146), (3, 147)]) rfl hP rfl 0 (by decide) (hts _ (wg_t kw_165)) (fun _ h9 => h9) (cd := (3, 16)) rfl dDA_commit_241 (fun v24 hv24 => ?_)
              obtain ⟨r21, rfl, kr21⟩ := (show ∃ r : Nat, v24 = .ref r ∧ T r = some 16 from hv24)
              refine mp_v (cx := []) (wr := []) hP hD hS hA [] [] rfl rfl rfl (by decide) (va_runV (As := []) (rest := []) F (N_SP_finish l g _ T s24 pl hO hU r21 16 17 ps21 x22 kr21 rfl rfl hf21 hf22 (by omega) (by omega)) (cwV 0 hts (wg_app (wg_c kw_672 (wg_c kw_611 (wg_c kw_612 (wg_c kw_2 wg_n)))) kw_613) rfl rfl rfl (by decide +kernel) ⟨by decide, by decide⟩) (pn_W "LatticeKeys$Sponge" (en_ok g) (ci := 3) (kn := 16) (fl := [(3, 17), (0, 0), (0, 0), (0, 0)]) hK hO kr21 rfl hP hD hS hA hE [] rfl rfl rfl) rfl rfl hl.1 rfl (lv_room (Nat.le_of_ble_eq_true rfl)) dDA_commit_244 ⟨by omega, by omega⟩) (fun  u22 H locs hu22 hP hD hS => ?_)
              obtain ⟨s25, pl⟩ := u22
              obtain ⟨⟨eq22, hFc22, ⟨x24, hx_24, hb_24⟩, ⟨x25, hx_25, hb_25⟩, -⟩, hO⟩ := hu22
              have hO : okn g T s25 pl := hO
              have hP : va_P g.1 vcl ([] ++ pl) _ := hP
              have hD : va_D _ ([] ++ pl) := hD
              have hFc22 : frm (M_SP_finish 16) s24 s25 := hFc22
              have hb_24 : x24 = x22 := hb_24
              have hb_25 : x25 = x22 := hb_25
              replace hR := bnd_step hR eq22
              have hF := frm_tr hF hFc22 (fun k hk => by unfold M_SP_finish at hk; unfold M_DA_commit_2; omega)
              refine W.widen (k := 0) (n := 0) (by omega) (by omega) ?_
              refine lv_aload_n hx hb dDA_commit_247 rfl (lv_at hl 1 rfl) ?_
              refine nw_get (C := "LatticeKeys$Dsa") (TT := T_DA) (N := 17) hx hb hts (wg_ft i_DA) hown hK hO k_h0 (kn := 39) (ci := 6) (fl := [(3, 16), (3, 22), (3, 37), (3, 40), (3, 97), (3, 105), (3, 114), (3, 123), (3, 131), (3, 140), (3, 141), (3, 142), (3, 143), (3, 144), (3, 145), (3, 146), (3, 147)]) rfl hP rfl 0 (by decide) (hts _ (wg_t kw_165)) (fun _ h9 => h9) (cd := (3, 16)) rfl dDA_commit_248 (fun v25 hv25 => ?_)
              obtain ⟨r22, rfl, kr22⟩ := (show ∃ r : Nat, v25 = .ref r ∧ T r = some 16 from hv25)
              refine lv_aload_n hx hb dDA_commit_251 rfl (lv_at hl 1 rfl) ?_
              refine nw_get (C := "LatticeKeys$Dsa") (TT := T_DA) (N := 17) hx hb hts (wg_ft i_DA) hown hK hO k_h0 (kn := 39) (ci := 6) (fl := [(3, 16), (3, 22), (3, 37), (3, 40), (3, 97), (3, 105), (3, 114), (3, 123), (3, 131), (3, 140), (3, 141), (3, 142), (3, 143), (3, 144), (3, 145), (3, 146), (3, 147)]) rfl hP rfl 13 (by decide) (hts _ (wg_t kw_178)) (fun _ h9 => h9) (cd := (3, 144)) rfl dDA_commit_252 (fun v26 hv26 => ?_)
              obtain ⟨r23, rfl, kr23⟩ := (show ∃ r : Nat, v26 = .ref r ∧ T r = some 144 from hv26)
              refine lv_iconst (v := nI 0) hx hb dDA_commit_255 (by decide) ?_
              refine lv_aload_n hx hb dDA_commit_256 rfl (lv_at hl 2 rfl) ?_
              refine nw_get (C := "LatticeKeys$DsaSet") (TT := T_DS) (N := 17) hx hb hts (wg_ft i_DS) hown hK hO k_st (kn := 11) (ci := 2) (fl := [(1, 8), (1, 7), (1, 2), (1, 3), (1, 60), (1, 64), (1, 20), (1, 524288), (1, 16), (1, 4), (1, 261888), (1, 75), (1, 120), (1, 2592), (1, 4896), (1, 4544), (1, 4627)]) rfl hP rfl 5 (by decide) (hts _ (wg_t kw_315)) (fun _ h9 => h9) (cd := (1, 64)) rfl dDA_commit_257 (fun v27 hv27 => ?_)
              obtain rfl := (show v27 = .int (nI 64) from hv27)
              refine mp_v (cx := []) (wr := []) hP hD hS hA [] [] rfl rfl rfl (by decide) (va_runV (As := [.ref r23, .int (nI 0), .int (nI 64)]) (rest := []) F (N_SP_squeeze l g _ T s25 pl hO hU r22 r23 16 17 144 64 0 64 x24 x25 kr22 rfl rfl kr23 rfl hx_24 hx_25 (by omega) (by omega) (by omega) (by omega)) (cwV 3 hts (wg_app (wg_c kw_673 (wg_c kw_615 (wg_c kw_616 (wg_c kw_2 wg_n)))) kw_617) rfl rfl rfl (by decide +kernel) ⟨by decide, by decide⟩) (pn_W "LatticeKeys$Sponge" (en_ok g) (ci := 3) (kn := 16) (fl := [(3, 17), (0, 0), (0, 0), (0, 0)]) hK hO kr22 rfl hP hD hS hA hE [] rfl rfl rfl) rfl rfl hl.1 rfl (lv_room (Nat.le_of_ble_eq_true rfl)) dDA_commit_260 ⟨by omega, by omega⟩) (fun  u23 H locs hu23 hP hD hS => ?_)
              obtain ⟨s26, pl⟩ := u23
              obtain ⟨⟨eq23, hFc23, ⟨x27, hx_27, hb_27⟩, ⟨x28, hx_28, hb_28⟩, -⟩, hO⟩ := hu23
              have hO : okn g T s26 pl := hO
              have hP : va_P g.1 vcl ([] ++ pl) _ := hP
              have hD : va_D _ ([] ++ pl) := hD
              have hFc23 : frm (M_SP_squeeze 16 144) s25 s26 := hFc23
              have hb_27 : x27 ≤ x25 := hb_27
              have hb_28 : x28 = x25 := hb_28
              replace hR := bnd_step hR eq23
              have hF := frm_tr hF hFc23 (fun k hk => by unfold M_SP_squeeze at hk; unfold M_DA_commit_2; omega)
              refine W.widen (k := 0) (n := 0) (by omega) (by omega) ?_
              refine lv_aload_n hx hb dDA_commit_263 rfl (lv_at hl 1 rfl) ?_
              refine nw_get (C := "LatticeKeys$Dsa") (TT := T_DA) (N := 17) hx hb hts (wg_ft i_DA) hown hK hO k_h0 (kn := 39) (ci := 6) (fl := [(3, 16), (3, 22), (3, 37), (3, 40), (3, 97), (3, 105), (3, 114), (3, 123), (3, 131), (3, 140), (3, 141), (3, 142), (3, 143), (3, 144), (3, 145), (3, 146), (3, 147)]) rfl hP rfl 2 (by decide) (hts _ (wg_t kw_167)) (fun _ h9 => h9) (cd := (3, 37)) rfl dDA_commit_264 (fun v28 hv28 => ?_)
              obtain ⟨r24, rfl, kr24⟩ := (show ∃ r : Nat, v28 = .ref r ∧ T r = some 37 from hv28)
              refine lv_aload_n hx hb dDA_commit_267 rfl (lv_at hl 2 rfl) ?_
              refine lv_aload_n hx hb dDA_commit_268 rfl (lv_at hl 1 rfl) ?_
              refine nw_get (C := "LatticeKeys$Dsa") (TT := T_DA) (N := 17) hx hb hts (wg_ft i_DA) hown hK hO k_h0 (kn := 39) (ci := 6) (fl := [(3, 16), (3, 22), (3, 37), (3, 40), (3, 97), (3, 105), (3, 114), (3, 123), (3, 131), (3, 140), (3, 141), (3, 142), (3, 143), (3, 144), (3, 145), (3, 146), (3, 147)]) rfl hP rfl 9 (by decide) (hts _ (wg_t kw_174)) (fun _ h9 => h9) (cd := (3, 140)) rfl dDA_commit_269 (fun v29 hv29 => ?_)
              obtain ⟨r25, rfl, kr25⟩ := (show ∃ r : Nat, v29 = .ref r ∧ T r = some 140 from hv29)
              refine lv_aload_n hx hb dDA_commit_272 rfl (lv_at hl 1 rfl) ?_
              refine nw_get (C := "LatticeKeys$Dsa") (TT := T_DA) (N := 17) hx hb hts (wg_ft i_DA) hown hK hO k_h0 (kn := 39) (ci := 6) (fl := [(3, 16), (3, 22), (3, 37), (3, 40), (3, 97), (3, 105), (3, 114), (3, 123), (3, 131), (3, 140), (3, 141), (3, 142), (3, 143), (3, 144), (3, 145), (3, 146), (3, 147)]) rfl hP rfl 13 (by decide) (hts _ (wg_t kw_178)) (fun _ h9 => h9) (cd := (3, 144)) rfl dDA_commit_273 (fun v30 hv30 => ?_)
              obtain ⟨r26, rfl, kr26⟩ := (show ∃ r : Nat, v30 = .ref r ∧ T r = some 144 from hv30)
              refine mp_v (cx := []) (wr := []) hP hD hS hA [] [] rfl rfl rfl (by decide) (va_runV (As := [.ref st, .ref r25, .ref r26]) (rest := []) F (N_SA_sampleBall_2 l g _ T s26 pl hO hU r24 st r25 r26 140 144 64 kr24 k_st kr25 rfl kr26 rfl (by omega) (by omega)) (cwV 3 hts (wg_app (wg_c kw_1214 (wg_c kw_1215 (wg_c kw_1216 (wg_c kw_6 wg_n)))) kw_1217) rfl rfl rfl (by decide +kernel) ⟨by decide, by decide⟩) (pn_W "LatticeKeys$DsaSampler" (en_ok g) (ci := 7) (kn := 37) (fl := [(3, 18), (3, 38)]) hK hO kr24 rfl hP hD hS hA hE [] rfl rfl rfl) rfl rfl hl.1 rfl (lv_room (Nat.le_of_ble_eq_true rfl)) dDA_commit_276 ⟨by omega, by omega⟩) (fun  u24 H locs hu24 hP hD hS => ?_)
              obtain ⟨s27, pl⟩ := u24
              obtain ⟨⟨eq24, hFc24, -⟩, hO⟩ := hu24
              have hO : okn g T s27 pl := hO
              have hP : va_P g.1 vcl ([] ++ pl) _ := hP
              have hD : va_D _ ([] ++ pl) := hD
              have hFc24 : frm (M_SA_sampleBall_2 140) s26 s27 := hFc24
              replace hR := bnd_step hR eq24
              have hF := frm_tr hF hFc24 (fun k hk => by unfold M_SA_sampleBall_2 at hk; unfold M_DA_commit_2; omega)
              have hf23 : s27.1 16 3 = nI x27 := fc_F hx_27 hFc24 (by unfold M_SA_sampleBall_2; omega)
              have hf24 : s27.1 16 1 = nI x28 := fc_F hx_28 hFc24 (by unfold M_SA_sampleBall_2; omega)
              refine W.widen (k := 0) (n := 0) (by omega) (by omega) ?_
              refine lv_aload_n hx hb dDA_commit_279 rfl (lv_at hl 1 rfl) ?_
              refine nw_get (C := "LatticeKeys$Dsa") (TT := T_DA) (N := 17) hx hb hts (wg_ft i_DA) hown hK hO k_h0 (kn := 39) (ci := 6) (fl := [(3, 16), (3, 22), (3, 37), (3, 40), (3, 97), (3, 105), (3, 114), (3, 123), (3, 131), (3, 140), (3, 141), (3, 142), (3, 143), (3, 144), (3, 145), (3, 146), (3, 147)]) rfl hP rfl 1 (by decide) (hts _ (wg_t kw_166)) (fun _ h9 => h9) (cd := (3, 22)) rfl dDA_commit_280 (fun v31 hv31 => ?_)
              obtain ⟨r27, rfl, kr27⟩ := (show ∃ r : Nat, v31 = .ref r ∧ T r = some 22 from hv31)
              refine lv_aload_n hx hb dDA_commit_283 rfl (lv_at hl 1 rfl) ?_
              refine nw_get (C := "LatticeKeys$Dsa") (TT := T_DA) (N := 17) hx hb hts (wg_ft i_DA) hown hK hO k_h0 (kn := 39) (ci := 6) (fl := [(3, 16), (3, 22), (3, 37), (3, 40), (3, 97), (3, 105), (3, 114), (3, 123), (3, 131), (3, 140), (3, 141), (3, 142), (3, 143), (3, 144), (3, 145), (3, 146), (3, 147)]) rfl hP rfl 9 (by decide) (hts _ (wg_t kw_174)) (fun _ h9 => h9) (cd := (3, 140)) rfl dDA_commit_284 (fun v32 hv32 => ?_)
              obtain ⟨r28, rfl, kr28⟩ := (show ∃ r : Nat, v32 = .ref r ∧ T r = some 140 from hv32)
              refine mp_v (cx := []) (wr := []) hP hD hS hA [] [] rfl rfl rfl (by decide) (va_runV (As := [.ref r28]) (rest := []) F (N_RG_transform_8 l g _ T s27 pl hO hU r27 r28 140 kr27 kr28 rfl) (cwV 1 hts (wg_app (wg_c kw_711 (wg_c kw_637 (wg_c kw_638 (wg_c kw_4 wg_n)))) kw_639) rfl rfl rfl (by decide +kernel) ⟨by decide, by decide⟩) (pn_W "LatticeKeys$Ring" (en_ok g) (ci := 4) (kn := 22) (fl := [(1, 8380417), (1, 8), (1, 8347681), (3, 23)]) hK hO kr27 rfl hP hD hS hA hE [] rfl rfl rfl) rfl rfl hl.1 rfl (lv_room (Nat.le_of_ble_eq_true rfl)) dDA_commit_287 ⟨by omega, by omega⟩) (fun  u25 H locs hu25 hP hD hS => ?_)
              obtain ⟨s28, pl⟩ := u25
              obtain ⟨⟨eq25, hFc25, -⟩, hO⟩ := hu25
              have hO : okn g T s28 pl := hO
              have hP : va_P g.1 vcl ([] ++ pl) _ := hP
              have hD : va_D _ ([] ++ pl) := hD
              have hFc25 : frm (M_RG_transform_8 140) s27 s28 := hFc25
              replace hR := bnd_step hR eq25
              have hF := frm_tr hF hFc25 (fun k hk => by unfold M_RG_transform_8 at hk; unfold M_DA_commit_2; omega)
              have hf25 : s28.1 16 3 = nI x27 := fc_F hf23 hFc25 (by unfold M_RG_transform_8; omega)
              have hf26 : s28.1 16 1 = nI x28 := fc_F hf24 hFc25 (by unfold M_RG_transform_8; omega)
              refine W.widen (k := 0) (n := 0) (by omega) (by omega) ?_
              exact mp_vret hx hb hr hlk hP hD hS (s28, pl) ⟨⟨hR.symm, hF, trivial⟩, hO⟩ [] rfl rfl rfl (by omega) (by omega) dDA_commit_290
            | succ n23 ih23 =>
              intro i23 s24 ps21 pl ls H locs hm23 hi21 hF hf27 hf28 hR hl hO hP hD hS
              refine lv_iload_n hx hb dDA_commit_171 rfl (lv_at hl 0 rfl) ?_
              refine lv_aload_n hx hb dDA_commit_172 rfl (lv_at hl 2 rfl) ?_
              refine nw_get (C := "LatticeKeys$DsaSet") (TT := T_DS) (N := 17) hx hb hts (wg_ft i_DS) hown hK hO k_st (kn := 11) (ci := 2) (fl := [(1, 8), (1, 7), (1, 2), (1, 3), (1, 60), (1, 64), (1, 20), (1, 524288), (1, 16), (1, 4), (1, 261888), (1, 75), (1, 120), (1, 2592), (1, 4896), (1, 4544), (1, 4627)]) rfl hP rfl 0 (by decide) (hts _ (wg_t kw_302)) (fun _ h9 => h9) (cd := (1, 8)) rfl dDA_commit_173 (fun v33 hv33 => ?_)
              obtain rfl := (show v33 = .int (nI 8) from hv33)
              refine mi_ge (tgt := 240) hx hb dDA_commit_176 (by decide) (by omega) (by omega) (fun h24 => absurd h24 (by omega)) (fun h24 => ?_)
              refine lv_aload_n hx hb dDA_commit_179 rfl (lv_at hl 1 rfl) ?_
              refine nw_get (C := "LatticeKeys$Dsa") (TT := T_DA) (N := 17) hx hb hts (wg_ft i_DA) hown hK hO k_h0 (kn := 39) (ci := 6) (fl := [(3, 16), (3, 22), (3, 37), (3, 40), (3, 97), (3, 105), (3, 114), (3, 123), (3, 131), (3, 140), (3, 141), (3, 142), (3, 143), (3, 144), (3, 145), (3, 146), (3, 147)]) rfl hP rfl 1 (by decide) (hts _ (wg_t kw_166)) (fun _ h9 => h9) (cd := (3, 22)) rfl dDA_commit_180 (fun v34 hv34 => ?_)
              obtain ⟨r29, rfl, kr29⟩ := (show ∃ r : Nat, v34 = .ref r ∧ T r = some 22 from hv34)
              refine lv_aload_n hx hb dDA_commit_183 rfl (lv_at hl 1 rfl) ?_
              refine nw_get (C := "LatticeKeys$Dsa") (TT := T_DA) (N := 17) hx hb hts (wg_ft i_DA) hown hK hO k_h0 (kn := 39) (ci := 6) (fl := [(3, 16), (3, 22), (3, 37), (3, 40), (3, 97), (3, 105), (3, 114), (3, 123), (3, 131), (3, 140), (3, 141), (3, 142), (3, 143), (3, 144), (3, 145), (3, 146), (3, 147)]) rfl hP rfl 8 (by decide) (hts _ (wg_t kw_173)) (fun _ h9 => h9) (cd := (3, 131)) rfl dDA_commit_184 (fun v35 hv35 => ?_)
              obtain ⟨r30, rfl, kr30⟩ := (show ∃ r : Nat, v35 = .ref r ∧ T r = some 131 from hv35)
              refine lv_iload_n hx hb dDA_commit_187 rfl (lv_at hl 0 rfl) ?_
              refine nw_aald3 hx hb hK hO kr30 (k := 131) (b := 132) rfl hP (by omega) (by omega) dDA_commit_188 (fun r31 kr31 => ?_)
              have hn21 : nsp (132 + i23) = (0, 256, []) := rows_ok 132 8 (by decide) _ (by omega)
              refine mp_v (cx := []) (wr := []) hP hD hS hA [] [] rfl rfl rfl (by decide) (va_runV (As := [.ref r31]) (rest := []) F (N_RG_restore_8 l g _ T s24 pl hO hU r29 r31 (132 + i23) kr29 kr31 hn21) (cwV 1 hts (wg_app (wg_c kw_720 (wg_c kw_721 (wg_c kw_722 (wg_c kw_4 wg_n)))) kw_723) rfl rfl rfl (by decide +kernel) ⟨by decide, by decide⟩) (pn_W "LatticeKeys$Ring" (en_ok g) (ci := 4) (kn := 22) (fl := [(1, 8380417), (1, 8), (1, 8347681), (3, 23)]) hK hO kr29 rfl hP hD hS hA hE [] rfl rfl rfl) rfl rfl hl.1 rfl (lv_room (Nat.le_of_ble_eq_true rfl)) dDA_commit_189 ⟨by omega, by omega⟩) (fun  u26 H locs hu26 hP hD hS => ?_)
              obtain ⟨s29, pl⟩ := u26
              obtain ⟨⟨eq26, hFc26, -⟩, hO⟩ := hu26
              have hO : okn g T s29 pl := hO
              have hP : va_P g.1 vcl ([] ++ pl) _ := hP
              have hD : va_D _ ([] ++ pl) := hD
              have hFc26 : frm (M_RG_restore_8 (132 + i23)) s24 s29 := hFc26
              replace hR := bnd_step hR eq26
              have hF := frm_tr hF hFc26 (fun k hk => by unfold M_RG_restore_8 at hk; unfold M_DA_commit_2; omega)
              have hf29 : s29.1 16 3 = nI ps21 := fc_F hf27 hFc26 (by unfold M_RG_restore_8; omega)
              have hf30 : s29.1 16 1 = nI x22 := fc_F hf28 hFc26 (by unfold M_RG_restore_8; omega)
              refine W.widen (k := 0) (n := 0) (by omega) (by omega) ?_
              refine lv_iconst (v := nI 0) hx hb dDA_commit_192 (by decide) ?_
              refine lv_istore (lv' := [(4, .int (nI 0)), (3, .int (nI i23)), (0, .ref h0), (1, .ref st)]) hx hb dDA_commit_193 hl (by decide) rfl (fun ls hl => ?_)
              have lp24 : ∀ (n24 : Nat) (i24 : Nat) (s30 : Sto) (ps22 : Nat) (pl : va_W) (ls : Array Slot) (H : Heap) (locs : List Loc), n24 + i24 = 256 → (ps22 < 136) → frm (M_DA_commit_2) s s30 → s30.1 16 3 = nI ps22 → s30.1 16 1 = nI x22 → F_DA_commit_2 cn s = F_DA_commit_2_L3 i23 (F_DA_commit_2_L2 n23) n24 i24 s30 → lv_has ls 5 [(4, .int (nI i24)), (3, .int (nI i23)), (0, .ref h0), (1, .ref st)] → okn g T s30 pl → va_P g.1 vcl ([] ++ pl) H → va_D A ([] ++ pl) → va_S A s0.heap H locs → W p l e ({ frames := 5, cells := 0, slots := 0, locals := 147 } : Room) s0 m args below meth c H locs 0 0 (MQ below (va_Qv (fun (u : (Sto) × va_W) => (u.1 = F_DA_commit_2 cn s ∧ frm (M_DA_commit_2) s u.1 ∧ True) ∧ okn g T u.1 u.2) (po g.1 vcl A (fun (u : (Sto) × va_W) => [] ++ u.2)) A) args s0 0 0 A) (F0 m 195 ls []) := by
                intro n24
                induction n24 with
                | zero =>
                  intro i24 s30 ps22 pl ls H locs hm24 hi22 hF hf31 hf32 hR hl hO hP hD hS
                  refine lv_iload hx hb dDA_commit_195 (lv_at hl 0 rfl) ?_
                  refine lv_sipush (v := nI 256) hx hb dDA_commit_197 (by decide) ?_
                  refine mi_ge (tgt := 229) hx hb dDA_commit_200 (by decide) (by omega) (by omega) (fun h25 => ?_) (fun h25 => absurd h25 (by omega))
                  refine lv_aload_n hx hb dDA_commit_229 rfl (lv_at hl 2 rfl) ?_
                  refine lv_aload_n hx hb dDA_commit_230 rfl (lv_at hl 3 rfl) ?_
                  refine mp_v (cx := []) (wr := []) hP hD hS hA [] [] rfl rfl rfl (by decide) (va_runV (As := [.ref st]) (rest := []) F (N_DA_absorbHigh_2 l g _ T s30 pl hO hU h0 st ps22 x22 k_h0 k_st hf31 hf32 (by omega) (by omega)) (cwV 1 hts (wg_app (wg_c kw_1210 (wg_c kw_1212 (wg_c ks_39 (wg_c kw_5 wg_n)))) kw_1213) rfl rfl rfl (by decide +kernel) ⟨by decide, by decide⟩) (pn_W "LatticeKeys$Dsa" (en_ok g) (ci := 6) (kn := 39) (fl := [(3, 16), (3, 22), (3, 37), (3, 40), (3, 97), (3, 105), (3, 114), (3, 123), (3, 131), (3, 140), (3, 141), (3, 142), (3, 143), (3, 144), (3, 145), (3, 146), (3, 147)]) hK hO k_h0 rfl hP hD hS hA hE [] rfl rfl rfl) rfl rfl hl.1 rfl (lv_room (Nat.le_of_ble_eq_true rfl)) dDA_commit_231 ⟨by omega, by omega⟩) (fun  u27 H locs hu27 hP hD hS => ?_)
                  obtain ⟨s31, pl⟩ := u27
                  obtain ⟨⟨eq27, hFc27, ⟨x33, hx_33, hb_33⟩, ⟨x34, hx_34, hb_34⟩, -⟩, hO⟩ := hu27
                  have hO : okn g T s31 pl := hO
                  have hP : va_P g.1 vcl ([] ++ pl) _ := hP
                  have hD : va_D _ ([] ++ pl) := hD
                  have hFc27 : frm (M_DA_absorbHigh_2) s30 s31 := hFc27
                  have hb_33 : x33 < 136 := hb_33
                  have hb_34 : x34 = 136 := hb_34
                  replace hR := bnd_step hR eq27
                  have hF := frm_tr hF hFc27 (fun k hk => by unfold M_DA_absorbHigh_2 at hk; unfold M_DA_commit_2; omega)
                  refine W.widen (k := 0) (n := 0) (by omega) (by omega) ?_
                  refine mi_iinc (k := 1) (x := i23) (d := 1) (y := i23 + 1) (lv' := [(3, .int (nI (i23 + 1))), (4, .int (nI i24)), (0, .ref h0), (1, .ref st)]) hx hb dDA_commit_234 hl rfl (by decide) rfl (by decide) rfl (fun ls hl => ?_)
                  refine lv_goto (tgt := 171) hx hb dDA_commit_237 (by decide) ?_
                  exact ih23 (i23 + 1) s31 x33 pl ls H locs (by omega) (by omega) hF hx_33 (by have h9 := hx_34; rw [show x34 = x22 by omega] at h9; exact h9) hR (lv_sub hl [0, 2, 3] rfl) hO hP hD hS
                | succ n24 ih24 =>
                  intro i24 s30 ps22 pl ls H locs hm24 hi22 hF hf33 hf34 hR hl hO hP hD hS
                  refine lv_iload hx hb dDA_commit_195 (lv_at hl 0 rfl) ?_
                  refine lv_sipush (v := nI 256) hx hb dDA_commit_197 (by decide) ?_
                  refine mi_ge (tgt := 229) hx hb dDA_commit_200 (by decide) (by omega) (by omega) (fun h26 => absurd h26 (by omega)) (fun h26 => ?_)
                  refine lv_aload_n hx hb dDA_commit_203 rfl (lv_at hl 2 rfl) ?_
                  refine nw_get (C := "LatticeKeys$Dsa") (TT := T_DA) (N := 17) hx hb hts (wg_ft i_DA) hown hK hO k_h0 (kn := 39) (ci := 6) (fl := [(3, 16), (3, 22), (3, 37), (3, 40), (3, 97), (3, 105), (3, 114), (3, 123), (3, 131), (3, 140), (3, 141), (3, 142), (3, 143), (3, 144), (3, 145), (3, 146), (3, 147)]) rfl hP rfl 10 (by decide) (hts _ (wg_t kw_175)) (fun _ h9 => h9) (cd := (3, 141)) rfl dDA_commit_204 (fun v36 hv36 => ?_)
                  obtain ⟨r32, rfl, kr32⟩ := (show ∃ r : Nat, v36 = .ref r ∧ T r = some 141 from hv36)
                  refine lv_iload hx hb dDA_commit_207 (lv_at hl 0 rfl) ?_
                  refine lv_aload_n hx hb dDA_commit_209 rfl (lv_at hl 3 rfl) ?_
                  refine lv_aload_n hx hb dDA_commit_210 rfl (lv_at hl 2 rfl) ?_
                  refine nw_get (C := "LatticeKeys$Dsa") (TT := T_DA) (N := 17) hx hb hts (wg_ft i_DA) hown hK hO k_h0 (kn := 39) (ci := 6) (fl := [(3, 16), (3, 22), (3, 37), (3, 40), (3, 97), (3, 105), (3, 114), (3, 123), (3, 131), (3, 140), (3, 141), (3, 142), (3, 143), (3, 144), (3, 145), (3, 146), (3, 147)]) rfl hP rfl 8 (by decide) (hts _ (wg_t kw_173)) (fun _ h9 => h9) (cd := (3, 131)) rfl dDA_commit_211 (fun v37 hv37 => ?_)
                  obtain ⟨r33, rfl, kr33⟩ := (show ∃ r : Nat, v37 = .ref r ∧ T r = some 131 from hv37)
                  refine lv_iload_n hx hb dDA_commit_214 rfl (lv_at hl 1 rfl) ?_
                  refine nw_aald3 hx hb hK hO kr33 (k := 131) (b := 132) rfl hP (by omega) (by omega) dDA_commit_215 (fun r34 kr34 => ?_)
                  have hn22 : nsp (132 + i23) = (0, 256, []) := rows_ok 132 8 (by decide) _ (by omega)
                  refine lv_iload hx hb dDA_commit_216 (lv_at hl 0 rfl) ?_
                  refine nw_iald hx hb hK hO kr34 (k := (132 + i23)) hn22 hP (by omega) (by omega) dDA_commit_218 ?_
                  refine mp_i (cx := []) (wr := []) hP hD hS hA [] [] rfl rfl rfl (by decide) (va_runV (As := [.int ((s30.1 ((132 + i23)) i24))]) (rest := [.int (nI i24), .ref r32]) F (N_DS_high_2 l g _ T s30 pl hO hU st (s30.1 ((132 + i23)) i24) k_st) (cwV 1 hts (wg_app (wg_c kw_1206 (wg_c kw_1207 (wg_c kw_1208 (wg_c kw_8 wg_n)))) kw_1209) rfl rfl rfl (by decide +kernel) ⟨by decide, by decide⟩) (pn_W "LatticeKeys$DsaSet" (en_ok g) (ci := 2) (kn := 11) (fl := [(1, 8), (1, 7), (1, 2), (1, 3), (1, 60), (1, 64), (1, 20), (1, 524288), (1, 16), (1, 4), (1, 261888), (1, 75), (1, 120), (1, 2592), (1, 4896), (1, 4544), (1, 4627)]) hK hO k_st rfl hP hD hS hA hE [] rfl rfl rfl) rfl rfl hl.1 rfl (lv_room (Nat.le_of_ble_eq_true rfl)) dDA_commit_219 ⟨by omega, by omega⟩) (fun r35 u28 H locs hu28 hP hD hS => ?_)
                  obtain ⟨q21, pl⟩ := u28
                  obtain ⟨⟨eq28, rfl, hFc28, -⟩, hO⟩ := hu28
                  have hO : okn g T q21.2 pl := hO
                  have hP : va_P g.1 vcl ([] ++ pl) _ := hP
                  have hD : va_D _ ([] ++ pl) := hD
                  have hFc28 : frm (M_DS_high_2) s30 q21.2 := hFc28
                  replace hR := bnd_step hR eq28
                  have hF := frm_tr hF hFc28 (fun k hk => by unfold M_DS_high_2 at hk; unfold M_DA_commit_2; omega)
                  have hf35 : q21.2.1 16 3 = nI ps22 := fc_F hf33 hFc28 (by unfold M_DS_high_2; omega)
                  have hf36 : q21.2.1 16 1 = nI x22 := fc_F hf34 hFc28 (by unfold M_DS_high_2; omega)
                  refine W.widen (k := 0) (n := 0) (by omega) (by omega) ?_
                  refine nw_iast hx hb hK hO hU kr32 (k := 141) rfl hP hD hS (by omega) (by omega) dDA_commit_222 (fun s32 pl H locs es21 hO hP hD hS => ?_)
                  replace hR := bnd_step hR es21
                  have hF := frm_sI hF es21 (by unfold M_DA_commit_2; omega)
                  have hf37 : s32.1 16 3 = nI ps22 := fc_ne hf35 es21 (by omega)
                  have hf38 : s32.1 16 1 = nI x22 := fc_ne hf36 es21 (by omega)
                  refine mi_iinc (k := 0) (x := i24) (d := 1) (y := i24 + 1) (lv' := [(4, .int (nI (i24 + 1))), (3, .int (nI i23)), (0, .ref h0), (1, .ref st)]) hx hb dDA_commit_223 hl rfl (by decide) rfl (by decide) rfl (fun ls hl => ?_)
                  refine lv_goto (tgt := 195) hx hb dDA_commit_226 (by decide) ?_
                  exact ih24 (i24 + 1) s32 ps22 pl ls H locs (by omega) (by omega) hF hf37 hf38 hR (lv_sub hl [0, 1, 2, 3] rfl) hO hP hD hS
              exact lp24 256 0 s29 ps21 pl ls _ _ (by omega) (by omega) hF hf29 hf30 hR (lv_sub hl [0, 1, 2, 3] rfl) hO hP hD hS
          exact lp23 8 0 s23 x21 pl ls _ _ (by omega) (by omega) hF hx_21 hx_22 hR (lv_sub hl [0, 1, 2] rfl) hO hP hD hS
        | succ n22 ih22 =>
          intro i22 s22 pl ls H locs hm22 hF hR hl hO hP hD hS
          refine lv_iload_n hx hb dDA_commit_28 rfl (lv_at hl 0 rfl) ?_
          refine lv_aload_n hx hb dDA_commit_29 rfl (lv_at hl 2 rfl) ?_
          refine nw_get (C := "LatticeKeys$DsaSet") (TT := T_DS) (N := 17) hx hb hts (wg_ft i_DS) hown hK hO k_st (kn := 11) (ci := 2) (fl := [(1, 8), (1, 7), (1, 2), (1, 3), (1, 60), (1, 64), (1, 20), (1, 524288), (1, 16), (1, 4), (1, 261888), (1, 75), (1, 120), (1, 2592), (1, 4896), (1, 4544), (1, 4627)]) rfl hP rfl 1 (by decide) (hts _ (wg_t kw_305)) (fun _ h9 => h9) (cd := (1, 7)) rfl dDA_commit_30 (fun v38 hv38 => ?_)
          obtain rfl := (show v38 = .int (nI 7) from hv38)
          refine mi_ge (tgt := 165) hx hb dDA_commit_33 (by decide) (by omega) (by omega) (fun h27 => absurd h27 (by omega)) (fun h27 => ?_)
          refine lv_aload_n hx hb dDA_commit_36 rfl (lv_at hl 1 rfl) ?_
          refine nw_get (C := "LatticeKeys$Dsa") (TT := T_DA) (N := 17) hx hb hts (wg_ft i_DA) hown hK hO k_h0 (kn := 39) (ci := 6) (fl := [(3, 16), (3, 22), (3, 37), (3, 40), (3, 97), (3, 105), (3, 114), (3, 123), (3, 131), (3, 140), (3, 141), (3, 142), (3, 143), (3, 144), (3, 145), (3, 146), (3, 147)]) rfl hP rfl 2 (by decide) (hts _ (wg_t kw_167)) (fun _ h9 => h9) (cd := (3, 37)) rfl dDA_commit_37 (fun v39 hv39 => ?_)
          obtain ⟨r36, rfl, kr35⟩ := (show ∃ r : Nat, v39 = .ref r ∧ T r = some 37 from hv39)
          refine lv_aload_n hx hb dDA_commit_40 rfl (lv_at hl 2 rfl) ?_
          refine lv_aload_n hx hb dDA_commit_41 rfl (lv_at hl 1 rfl) ?_
          refine nw_get (C := "LatticeKeys$Dsa") (TT := T_DA) (N := 17) hx hb hts (wg_ft i_DA) hown hK hO k_h0 (kn := 39) (ci := 6) (fl := [(3, 16), (3, 22), (3, 37), (3, 40), (3, 97), (3, 105), (3, 114), (3, 123), (3, 131), (3, 140), (3, 141), (3, 142), (3, 143), (3, 144), (3, 145), (3, 146), (3, 147)]) rfl hP rfl 7 (by decide) (hts _ (wg_t kw_172)) (fun _ h9 => h9) (cd := (3, 123)) rfl dDA_commit_42 (fun v40 hv40 => ?_)
          obtain ⟨r37, rfl, kr36⟩ := (show ∃ r : Nat, v40 = .ref r ∧ T r = some 123 from hv40)
          refine lv_iload_n hx hb dDA_commit_45 rfl (lv_at hl 0 rfl) ?_
          refine nw_aald3 hx hb hK hO kr36 (k := 123) (b := 124) rfl hP (by omega) (by omega) dDA_commit_46 (fun r38 kr37 => ?_)
          have hn23 : nsp (124 + i22) = (0, 256, []) := rows_ok 124 7 (by decide) _ (by omega)
          refine lv_aload_n hx hb dDA_commit_47 rfl (lv_at hl 1 rfl) ?_
          refine nw_get (C := "LatticeKeys$Dsa") (TT := T_DA) (N := 17) hx hb hts (wg_ft i_DA) hown hK hO k_h0 (kn := 39) (ci := 6) (fl := [(3, 16), (3, 22), (3, 37), (3, 40), (3, 97), (3, 105), (3, 114), (3, 123), (3, 131), (3, 140), (3, 141), (3, 142), (3, 143), (3, 144), (3, 145), (3, 146), (3, 147)]) rfl hP rfl 11 (by decide) (hts _ (wg_t kw_176)) (fun _ h9 => h9) (cd := (3, 142)) rfl dDA_commit_48 (fun v41 hv41 => ?_)
          obtain ⟨r39, rfl, kr38⟩ := (show ∃ r : Nat, v41 = .ref r ∧ T r = some 142 from hv41)
          refine lv_iload_n hx hb dDA_commit_51 rfl (lv_at hl 3 rfl) ?_
          refine lv_iload_n hx hb dDA_commit_52 rfl (lv_at hl 0 rfl) ?_
          refine lv_iadd hx hb dDA_commit_53 ?_
          refine mp_v (cx := []) (wr := []) hP hD hS hA [] [] rfl rfl rfl (by decide) (va_runV (As := [.ref st, .ref r38, .ref r39, .int ((cn + (nI i22)))]) (rest := []) F (N_SA_sampleMask_2 l g _ T s22 pl hO hU r36 st r38 r39 (124 + i22) 142 128 (cn + (nI i22)) kr35 k_st kr37 hn23 kr38 rfl (by omega) (by omega)) (cwV 4 hts (wg_app (wg_c kw_1196 (wg_c kw_1197 (wg_c kw_1198 (wg_c kw_6 wg_n)))) kw_1199) rfl rfl rfl (by decide +kernel) ⟨by decide, by decide⟩) (pn_W "LatticeKeys$DsaSampler" (en_ok g) (ci := 7) (kn := 37) (fl := [(3, 18), (3, 38)]) hK hO kr35 rfl hP hD hS hA hE [] rfl rfl rfl) rfl rfl hl.1 rfl (lv_room (Nat.le_of_ble_eq_true rfl)) dDA_commit_54 ⟨by omega, by omega⟩) (fun  u29 H locs hu29 hP hD hS => ?_)
          obtain ⟨s33, pl⟩ := u29
          obtain ⟨⟨eq29, hFc29, -⟩, hO⟩ := hu29
          have hO : okn g T s33 pl := hO
          have hP : va_P g.1 vcl ([] ++ pl) _ := hP
          have hD : va_D _ ([] ++ pl) := hD
          have hFc29 : frm (M_SA_sampleMask_2 (124 + i22)) s22 s33 := hFc29
          replace hR := bnd_step hR eq29
          have hF := frm_tr hF hFc29 (fun k hk => by unfold M_SA_sampleMask_2 at hk; unfold M_DA_commit_2; omega)
          refine W.widen (k := 0) (n := 0) (by omega) (by omega) ?_
          refine lv_aload_n hx hb dDA_commit_57 rfl (lv_at hl 1 rfl) ?_
          refine nw_get (C := "LatticeKeys$Dsa") (TT := T_DA) (N := 17) hx hb hts (wg_ft i_DA) hown hK hO k_h0 (kn := 39) (ci := 6) (fl := [(3, 16), (3, 22), (3, 37), (3, 40), (3, 97), (3, 105), (3, 114), (3, 123), (3, 131), (3, 140), (3, 141), (3, 142), (3, 143), (3, 144), (3, 145), (3, 146), (3, 147)]) rfl hP rfl 1 (by decide) (hts _ (wg_t kw_166)) (fun _ h9 => h9) (cd := (3, 22)) rfl dDA_commit_58 (fun v42 hv42 => ?_)
          obtain ⟨r40, rfl, kr39⟩ := (show ∃ r : Nat, v42 = .ref r ∧ T r = some 22 from hv42)
          refine lv_aload_n hx hb dDA_commit_61 rfl (lv_at hl 1 rfl) ?_
          refine nw_get (C := "LatticeKeys$Dsa") (TT := T_DA) (N := 17) hx hb hts (wg_ft i_DA) hown hK hO k_h0 (kn := 39) (ci := 6) (fl := [(3, 16), (3, 22), (3, 37), (3, 40), (3, 97), (3, 105), (3, 114), (3, 123), (3, 131), (3, 140), (3, 141), (3, 142), (3, 143), (3, 144), (3, 145), (3, 146), (3, 147)]) rfl hP rfl 7 (by decide) (hts _ (wg_t kw_172)) (fun _ h9 => h9) (cd := (3, 123)) rfl dDA_commit_62 (fun v43 hv43 => ?_)
          obtain ⟨r41, rfl, kr40⟩ := (show ∃ r : Nat, v43 = .ref r ∧ T r = some 123 from hv43)
          refine lv_iload_n hx hb dDA_commit_65 rfl (lv_at hl 0 rfl) ?_
          refine nw_aald3 hx hb hK hO kr40 (k := 123) (b := 124) rfl hP (by omega) (by omega) dDA_commit_66 (fun r42 kr41 => ?_)
          have hn24 : nsp (124 + i22) = (0, 256, []) := rows_ok 124 7 (by decide) _ (by omega)
          refine lv_aload_n hx hb dDA_commit_67 rfl (lv_at hl 2 rfl) ?_
          refine nw_get (C := "LatticeKeys$DsaSet") (TT := T_DS) (N := 17) hx hb hts (wg_ft i_DS) hown hK hO k_st (kn := 11) (ci := 2) (fl := [(1, 8), (1, 7), (1, 2), (1, 3), (1, 60), (1, 64), (1, 20), (1, 524288), (1, 16), (1, 4), (1, 261888), (1, 75), (1, 120), (1, 2592), (1, 4896), (1, 4544), (1, 4627)]) rfl hP rfl 7 (by decide) (hts _ (wg_t kw_320)) (fun _ h9 => h9) (cd := (1, 524288)) rfl dDA_commit_68 (fun v44 hv44 => ?_)
          obtain rfl := (show v44 = .int (nI 524288) from hv44)
          refine lv_aload_n hx hb dDA_commit_71 rfl (lv_at hl 1 rfl) ?_
          refine nw_get (C := "LatticeKeys$Dsa") (TT := T_DA) (N := 17) hx hb hts (wg_ft i_DA) hown hK hO k_h0 (kn := 39) (ci := 6) (fl := [(3, 16), (3, 22), (3, 37), (3, 40), (3, 97), (3, 105), (3, 114), (3, 123), (3, 131), (3, 140), (3, 141), (3, 142), (3, 143), (3, 144), (3, 145), (3, 146), (3, 147)]) rfl hP rfl 7 (by decide) (hts _ (wg_t kw_172)) (fun _ h9 => h9) (cd := (3, 123)) rfl dDA_commit_72 (fun v45 hv45 => ?_)
          obtain ⟨r43, rfl, kr42⟩ := (show ∃ r : Nat, v45 = .ref r ∧ T r = some 123 from hv45)
          refine lv_iload_n hx hb dDA_commit_75 rfl (lv_at hl 0 rfl) ?_
          refine nw_aald3 hx hb hK hO kr42 (k := 123) (b := 124) rfl hP (by omega) (by omega) dDA_commit_76 (fun r44 kr43 => ?_)
          have hn25 : nsp (124 + i22) = (0, 256, []) := rows_ok 124 7 (by decide) _ (by omega)
          refine mp_v (cx := []) (wr := []) hP hD hS hA [] [] rfl rfl rfl (by decide) (va_runV (As := [.ref r42, .int (nI 524288), .ref r44]) (rest := []) F (N_RG_flip_8 l g _ T s33 pl hO hU r40 r42 r44 (124 + i22) (nI 524288) (124 + i22) kr39 kr41 hn24 kr43 hn25) (cwV 3 hts (wg_app (wg_c kw_698 (wg_c kw_699 (wg_c kw_700 (wg_c kw_4 wg_n)))) kw_701) rfl rfl rfl (by decide +kernel) ⟨by decide, by decide⟩) (pn_W "LatticeKeys$Ring" (en_ok g) (ci := 4) (kn := 22) (fl := [(1, 8380417), (1, 8), (1, 8347681), (3, 23)]) hK hO kr39 rfl hP hD hS hA hE [] rfl rfl rfl) rfl rfl hl.1 rfl (lv_room (Nat.le_of_ble_eq_true rfl)) dDA_commit_77 ⟨by omega, by omega⟩) (fun  u30 H locs hu30 hP hD hS => ?_)
          obtain ⟨s34, pl⟩ := u30
          obtain ⟨⟨eq30, hFc30, -⟩, hO⟩ := hu30
          have hO : okn g T s34 pl := hO
          have hP : va_P g.1 vcl ([] ++ pl) _ := hP
          have hD : va_D _ ([] ++ pl) := hD
          have hFc30 : frm (M_RG_flip_8 (124 + i22)) s33 s34 := hFc30
          replace hR := bnd_step hR eq30
          have hF := frm_tr hF hFc30 (fun k hk => by unfold M_RG_flip_8 at hk; unfold M_DA_commit_2; omega)
          refine W.widen (k := 0) (n := 0) (by omega) (by omega) ?_
          refine lv_aload_n hx hb dDA_commit_80 rfl (lv_at hl 1 rfl) ?_
          refine nw_get (C := "LatticeKeys$Dsa") (TT := T_DA) (N := 17) hx hb hts (wg_ft i_DA) hown hK hO k_h0 (kn := 39) (ci := 6) (fl := [(3, 16), (3, 22), (3, 37), (3, 40), (3, 97), (3, 105), (3, 114), (3, 123), (3, 131), (3, 140), (3, 141), (3, 142), (3, 143), (3, 144), (3, 145), (3, 146), (3, 147)]) rfl hP rfl 7 (by decide) (hts _ (wg_t kw_172)) (fun _ h9 => h9) (cd := (3, 123)) rfl dDA_commit_81 (fun v46 hv46 => ?_)
          obtain ⟨r45, rfl, kr44⟩ := (show ∃ r : Nat, v46 = .ref r ∧ T r = some 123 from hv46)
          refine lv_iload_n hx hb dDA_commit_84 rfl (lv_at hl 0 rfl) ?_
          refine nw_aald3 hx hb hK hO kr44 (k := 123) (b := 124) rfl hP (by omega) (by omega) dDA_commit_85 (fun r46 kr45 => ?_)
          have hn26 : nsp (124 + i22) = (0, 256, []) := rows_ok 124 7 (by decide) _ (by omega)
          refine lv_iconst (v := nI 0) hx hb dDA_commit_86 (by decide) ?_
          refine lv_aload_n hx hb dDA_commit_87 rfl (lv_at hl 1 rfl) ?_
          refine nw_get (C := "LatticeKeys$Dsa") (TT := T_DA) (N := 17) hx hb hts (wg_ft i_DA) hown hK hO k_h0 (kn := 39) (ci := 6) (fl := [(3, 16), (3, 22), (3, 37), (3, 40), (3, 97), (3, 105), (3, 114), (3, 123), (3, 131), (3, 140), (3, 141), (3, 142), (3, 143), (3, 144), (3, 145), (3, 146), (3, 147)]) rfl hP rfl 10 (by decide) (hts _ (wg_t kw_175)) (fun _ h9 => h9) (cd := (3, 141)) rfl dDA_commit_88 (fun v47 hv47 => ?_)
          obtain ⟨r47, rfl, kr46⟩ := (show ∃ r : Nat, v47 = .ref r ∧ T r = some 141 from hv47)
          refine lv_iconst (v := nI 0) hx hb dDA_commit_91 (by decide) ?_
          refine lv_sipush (v := nI 256) hx hb dDA_commit_92 (by decide) ?_
          refine nw_copyi hx hb (hml.trans hl.1.symm) hown (hts _ (wg_t kw_674)) (hts _ (wg_t kw_526)) (hts _ (wg_t kw_525)) (hts _ (wg_t kw_19)) hK hO hU kr45 (k0 := (124 + i22)) hn26 kr46 (k1 := 141) rfl hP hD hS (sp := 0) (dp := 0) (n := 256) (by omega) (by omega) (by omega) (by decide) (Nat.le_of_ble_eq_true rfl) dDA_commit_95 (fun s35 pl H locs es22 hO hP hD hS => ?_)
          replace hR := bnd_step hR es22
          have hF := frm_sC hF es22 (by unfold M_DA_commit_2; omega)
          refine lv_aload_n hx hb dDA_commit_98 rfl (lv_at hl 1 rfl) ?_
          refine nw_get (C := "LatticeKeys$Dsa") (TT := T_DA) (N := 17) hx hb hts (wg_ft i_DA) hown hK hO k_h0 (kn := 39) (ci := 6) (fl := [(3, 16), (3, 22), (3, 37), (3, 40), (3, 97), (3, 105), (3, 114), (3, 123), (3, 131), (3, 140), (3, 141), (3, 142), (3, 143), (3, 144), (3, 145), (3, 146), (3, 147)]) rfl hP rfl 1 (by decide) (hts _ (wg_t kw_166)) (fun _ h9 => h9) (cd := (3, 22)) rfl dDA_commit_99 (fun v48 hv48 => ?_)
          obtain ⟨r48, rfl, kr47⟩ := (show ∃ r : Nat, v48 = .ref r ∧ T r = some 22 from hv48)
          refine lv_aload_n hx hb dDA_commit_102 rfl (lv_at hl 1 rfl) ?_
          refine nw_get (C := "LatticeKeys$Dsa") (TT := T_DA) (N := 17) hx hb hts (wg_ft i_DA) hown hK hO k_h0 (kn := 39) (ci := 6) (fl := [(3, 16), (3, 22), (3, 37), (3, 40), (3, 97), (3, 105), (3, 114), (3, 123), (3, 131), (3, 140), (3, 141), (3, 142), (3, 143), (3, 144), (3, 145), (3, 146), (3, 147)]) rfl hP rfl 10 (by decide) (hts _ (wg_t kw_175)) (fun _ h9 => h9) (cd := (3, 141)) rfl dDA_commit_103 (fun v49 hv49 => ?_)
          obtain ⟨r49, rfl, kr48⟩ := (show ∃ r : Nat, v49 = .ref r ∧ T r = some 141 from hv49)
          refine mp_v (cx := []) (wr := []) hP hD hS hA [] [] rfl rfl rfl (by decide) (va_runV (As := [.ref r49]) (rest := []) F (N_RG_transform_8 l g _ T s35 pl hO hU r48 r49 141 kr47 kr48 rfl) (cwV 1 hts (wg_app (wg_c kw_711 (wg_c kw_637 (wg_c kw_638 (wg_c kw_4 wg_n)))) kw_639) rfl rfl rfl (by decide +kernel) ⟨by decide, by decide⟩) (pn_W "LatticeKeys$Ring" (en_ok g) (ci := 4) (kn := 22) (fl := [(1, 8380417), (1, 8), (1, 8347681), (3, 23)]) hK hO kr47 rfl hP hD hS hA hE [] rfl rfl rfl) rfl rfl hl.1 rfl (lv_room (Nat.le_of_ble_eq_true rfl)) dDA_commit_106 ⟨by omega, by omega⟩) (fun  u31 H locs hu31 hP hD hS => ?_)
          obtain ⟨s36, pl⟩ := u31
          obtain ⟨⟨eq31, hFc31, -⟩, hO⟩ := hu31
          have hO : okn g T s36 pl := hO
          have hP : va_P g.1 vcl ([] ++ pl) _ := hP
          have hD : va_D _ ([] ++ pl) := hD
          have hFc31 : frm (M_RG_transform_8 141) s35 s36 := hFc31
          replace hR := bnd_step hR eq31
          have hF := frm_tr hF hFc31 (fun k hk => by unfold M_RG_transform_8 at hk; unfold M_DA_commit_2; omega)
          refine W.widen (k := 0) (n := 0) (by omega) (by omega) ?_
          refine lv_iconst (v := nI 0) hx hb dDA_commit_109 (by decide) ?_
          refine lv_istore (lv' := [(4, .int (nI 0)), (3, .int (nI i22)), (0, .ref h0), (1, .ref st), (2, .int cn)]) hx hb dDA_commit_110 hl (by decide) rfl (fun ls hl => ?_)
          have lp25 : ∀ (n25 : Nat) (i25 : Nat) (s37 : Sto) (pl : va_W) (ls : Array Slot) (H : Heap) (locs : List Loc), n25 + i25 = 8 → frm (M_DA_commit_2) s s37 → F_DA_commit_2 cn s = F_DA_commit_2_L4 i22 (F_DA_commit_2_L1 cn n22) n25 i25 s37 → lv_has ls 5 [(4, .int (nI i25)), (3, .int (nI i22)), (0, .ref h0), (1, .ref st), (2, .int cn)] → okn g T s37 pl → va_P g.1 vcl ([] ++ pl) H → va_D A ([] ++ pl) → va_S A s0.heap H locs → W p l e ({ frames := 5, cells := 0, slots := 0, locals := 147 } : Room) s0 m args below meth c H locs 0 0 (MQ below (va_Qv (fun (u : (Sto) × va_W) => (u.1 = F_DA_commit_2 cn s ∧ frm (M_DA_commit_2) s u.1 ∧ True) ∧ okn g T u.1 u.2) (po g.1 vcl A (fun (u : (Sto) × va_W) => [] ++ u.2)) A) args s0 0 0 A) (F0 m 112 ls []) := by
            intro n25
            induction n25 with
            | zero =>
              intro i25 s37 pl ls H locs hm25 hF hR hl hO hP hD hS
              refine lv_iload hx hb dDA_commit_112 (lv_at hl 0 rfl) ?_
              refine lv_aload_n hx hb dDA_commit_114 rfl (lv_at hl 3 rfl) ?_
              refine nw_get (C := "LatticeKeys$DsaSet") (TT := T_DS) (N := 17) hx hb hts (wg_ft i_DS) hown hK hO k_st (kn := 11) (ci := 2) (fl := [(1, 8), (1, 7), (1, 2), (1, 3), (1, 60), (1, 64), (1, 20), (1, 524288), (1, 16), (1, 4), (1, 261888), (1, 75), (1, 120), (1, 2592), (1, 4896), (1, 4544), (1, 4627)]) rfl hP rfl 0 (by decide) (hts _ (wg_t kw_302)) (fun _ h9 => h9) (cd := (1, 8)) rfl dDA_commit_115 (fun v50 hv50 => ?_)
              obtain rfl := (show v50 = .int (nI 8) from hv50)
              refine mi_ge (tgt := 159) hx hb dDA_commit_118 (by decide) (by omega) (by omega) (fun h28 => ?_) (fun h28 => absurd h28 (by omega))
              refine mi_iinc (k := 1) (x := i22) (d := 1) (y := i22 + 1) (lv' := [(3, .int (nI (i22 + 1))), (4, .int (nI i25)), (0, .ref h0), (1, .ref st), (2, .int cn)]) hx hb dDA_commit_159 hl rfl (by decide) rfl (by decide) rfl (fun ls hl => ?_)
              refine lv_goto (tgt := 28) hx hb dDA_commit_162 (by decide) ?_
              exact ih22 (i22 + 1) s37 pl ls H locs (by omega) hF hR (lv_sub hl [0, 2, 3, 4] rfl) hO hP hD hS
            | succ n25 ih25 =>
              intro i25 s37 pl ls H locs hm25 hF hR hl hO hP hD hS
              refine lv_iload hx hb dDA_commit_112 (lv_at hl 0 rfl) ?_
              refine lv_aload_n hx hb dDA_commit_114 rfl (lv_at hl 3 rfl) ?_
              refine nw_get (C := "LatticeKeys$DsaSet") (TT := T_DS) (N := 17) hx hb hts (wg_ft i_DS) hown hK hO k_st (kn := 11) (ci := 2) (fl := [(1, 8), (1, 7), (1, 2), (1, 3), (1, 60), (1, 64), (1, 20), (1, 524288), (1, 16), (1, 4), (1, 261888), (1, 75), (1, 120), (1, 2592), (1, 4896), (1, 4544), (1, 4627)]) rfl hP rfl 0 (by decide) (hts _ (wg_t kw_302)) (fun _ h9 => h9) (cd := (1, 8)) rfl dDA_commit_115 (fun v51 hv51 => ?_)
              obtain rfl := (show v51 = .int (nI 8) from hv51)
              refine mi_ge (tgt := 159) hx hb dDA_commit_118 (by decide) (by omega) (by omega) (fun h29 => absurd h29 (by omega)) (fun h29 => ?_)
              refine lv_aload_n hx hb dDA_commit_121 rfl (lv_at hl 2 rfl) ?_
              refine nw_get (C := "LatticeKeys$Dsa") (TT := T_DA) (N := 17) hx hb hts (wg_ft i_DA) hown hK hO k_h0 (kn := 39) (ci := 6) (fl := [(3, 16), (3, 22), (3, 37), (3, 40), (3, 97), (3, 105), (3, 114), (3, 123), (3, 131), (3, 140), (3, 141), (3, 142), (3, 143), (3, 144), (3, 145), (3, 146), (3, 147)]) rfl hP rfl 1 (by decide) (hts _ (wg_t kw_166)) (fun _ h9 => h9) (cd := (3, 22)) rfl dDA_commit_122 (fun v52 hv52 => ?_)
              obtain ⟨r50, rfl, kr49⟩ := (show ∃ r : Nat, v52 = .ref r ∧ T r = some 22 from hv52)
              refine lv_aload_n hx hb dDA_commit_125 rfl (lv_at hl 2 rfl) ?_
              refine nw_get (C := "LatticeKeys$Dsa") (TT := T_DA) (N := 17) hx hb hts (wg_ft i_DA) hown hK hO k_h0 (kn := 39) (ci := 6) (fl := [(3, 16), (3, 22), (3, 37), (3, 40), (3, 97), (3, 105), (3, 114), (3, 123), (3, 131), (3, 140), (3, 141), (3, 142), (3, 143), (3, 144), (3, 145), (3, 146), (3, 147)]) rfl hP rfl 8 (by decide) (hts _ (wg_t kw_173)) (fun _ h9 => h9) (cd := (3, 131)) rfl dDA_commit_126 (fun v53 hv53 => ?_)
              obtain ⟨r51, rfl, kr50⟩ := (show ∃ r : Nat, v53 = .ref r ∧ T r = some 131 from hv53)
              refine lv_iload hx hb dDA_commit_129 (lv_at hl 0 rfl) ?_
              refine nw_aald3 hx hb hK hO kr50 (k := 131) (b := 132) rfl hP (by omega) (by omega) dDA_commit_131 (fun r52 kr51 => ?_)
              have hn27 : nsp (132 + i25) = (0, 256, []) := rows_ok 132 8 (by decide) _ (by omega)
              refine lv_aload_n hx hb dDA_commit_132 rfl (lv_at hl 2 rfl) ?_
              refine nw_get (C := "LatticeKeys$Dsa") (TT := T_DA) (N := 17) hx hb hts (wg_ft i_DA) hown hK hO k_h0 (kn := 39) (ci := 6) (fl := [(3, 16), (3, 22), (3, 37), (3, 40), (3, 97), (3, 105), (3, 114), (3, 123), (3, 131), (3, 140), (3, 141), (3, 142), (3, 143), (3, 144), (3, 145), (3, 146), (3, 147)]) rfl hP rfl 3 (by decide) (hts _ (wg_t kw_168)) (fun _ h9 => h9) (cd := (3, 40)) rfl dDA_commit_133 (fun v54 hv54 => ?_)
              obtain ⟨r53, rfl, kr52⟩ := (show ∃ r : Nat, v54 = .ref r ∧ T r = some 40 from hv54)
              refine lv_aload_n hx hb dDA_commit_136 rfl (lv_at hl 3 rfl) ?_
              refine nw_get (C := "LatticeKeys$DsaSet") (TT := T_DS) (N := 17) hx hb hts (wg_ft i_DS) hown hK hO k_st (kn := 11) (ci := 2) (fl := [(1, 8), (1, 7), (1, 2), (1, 3), (1, 60), (1, 64), (1, 20), (1, 524288), (1, 16), (1, 4), (1, 261888), (1, 75), (1, 120), (1, 2592), (1, 4896), (1, 4544), (1, 4627)]) rfl hP rfl 1 (by decide) (hts _ (wg_t kw_305)) (fun _ h9 => h9) (cd := (1, 7)) rfl dDA_commit_137 (fun v55 hv55 => ?_)
              obtain rfl := (show v55 = .int (nI 7) from hv55)
              refine lv_iload hx hb dDA_commit_140 (lv_at hl 0 rfl) ?_
              refine mi_imul hx hb dDA_commit_142 ?_
              refine lv_iload_n hx hb dDA_commit_143 rfl (lv_at hl 1 rfl) ?_
              refine mi_iadd hx hb dDA_commit_144 ?_
              refine nw_aald3 hx hb hK hO kr52 (k := 40) (b := 41) rfl hP (by omega) (by omega) dDA_commit_145 (fun r54 kr53 => ?_)
              have hn28 : nsp (41 + ((7 * i25) + i22)) = (0, 256, []) := rows_ok 41 56 (by decide) _ (by omega)
              refine lv_aload_n hx hb dDA_commit_146 rfl (lv_at hl 2 rfl) ?_
              refine nw_get (C := "LatticeKeys$Dsa") (TT := T_DA) (N := 17) hx hb hts (wg_ft i_DA) hown hK hO k_h0 (kn := 39) (ci := 6) (fl := [(3, 16), (3, 22), (3, 37), (3, 40), (3, 97), (3, 105), (3, 114), (3, 123), (3, 131), (3, 140), (3, 141), (3, 142), (3, 143), (3, 144), (3, 145), (3, 146), (3, 147)]) rfl hP rfl 10 (by decide) (hts _ (wg_t kw_175)) (fun _ h9 => h9) (cd := (3, 141)) rfl dDA_commit_147 (fun v56 hv56 => ?_)
              obtain ⟨r55, rfl, kr54⟩ := (show ∃ r : Nat, v56 = .ref r ∧ T r = some 141 from hv56)
              refine mp_v (cx := []) (wr := []) hP hD hS hA [] [] rfl rfl rfl (by decide) (va_runV (As := [.ref r52, .ref r54, .ref r55]) (rest := []) F (N_RG_addProduct_8 l g _ T s37 pl hO hU r50 r52 r54 r55 (132 + i25) (41 + ((7 * i25) + i22)) 141 kr49 kr51 hn27 kr53 hn28 kr54 rfl) (cwV 3 hts (wg_app (wg_c kw_719 (wg_c kw_654 (wg_c kw_655 (wg_c kw_4 wg_n)))) kw_656) rfl rfl rfl (by decide +kernel) ⟨by decide, by decide⟩) (pn_W "LatticeKeys$Ring" (en_ok g) (ci := 4) (kn := 22) (fl := [(1, 8380417), (1, 8), (1, 8347681), (3, 23)]) hK hO kr49 rfl hP hD hS hA hE [] rfl rfl rfl) rfl rfl hl.1 rfl (lv_room (Nat.le_of_ble_eq_true rfl)) dDA_commit_150 ⟨by omega, by omega⟩) (fun  u32 H locs hu32 hP hD hS => ?_)
              obtain ⟨s38, pl⟩ := u32
              obtain ⟨⟨eq32, hFc32, -⟩, hO⟩ := hu32
              have hO : okn g T s38 pl := hO
              have hP : va_P g.1 vcl ([] ++ pl) _ := hP
              have hD : va_D _ ([] ++ pl) := hD
              have hFc32 : frm (M_RG_addProduct_8 (132 + i25)) s37 s38 := hFc32
              replace hR := bnd_step hR eq32
              have hF := frm_tr hF hFc32 (fun k hk => by unfold M_RG_addProduct_8 at hk; unfold M_DA_commit_2; omega)
              refine W.widen (k := 0) (n := 0) (by omega) (by omega) ?_
              refine mi_iinc (k := 0) (x := i25) (d := 1) (y := i25 + 1) (lv' := [(4, .int (nI (i25 + 1))), (3, .int (nI i22)), (0, .ref h0), (1, .ref st), (2, .int cn)]) hx hb dDA_commit_153 hl rfl (by decide) rfl (by decide) rfl (fun ls hl => ?_)
              refine lv_goto (tgt := 112) hx hb dDA_commit_156 (by decide) ?_
              exact ih25 (i25 + 1) s38 pl ls H locs (by omega) hF hR (lv_sub hl [0, 1, 2, 3, 4] rfl) hO hP hD hS
          exact lp25 8 0 s36 pl ls _ _ (by omega) hF hR (lv_sub hl [0, 1, 2, 3, 4] rfl) hO hP hD hS
      exact lp22 7 0 s21 pl ls _ _ (by omega) hF hR (lv_sub hl [0, 1, 2, 3] rfl) hO hP hD hS
    | succ n21 ih21 =>
      intro i21 s21 pl ls H locs hm21 hF hR hl hO hP hD hS
      refine lv_iload_n hx hb dDA_commit_2 rfl (lv_at hl 0 rfl) ?_
      refine lv_aload_n hx hb dDA_commit_3 rfl (lv_at hl 2 rfl) ?_
      refine nw_get (C := "LatticeKeys$DsaSet") (TT := T_DS) (N := 17) hx hb hts (wg_ft i_DS) hown hK hO k_st (kn := 11) (ci := 2) (fl := [(1, 8), (1, 7), (1, 2), (1, 3), (1, 60), (1, 64), (1, 20), (1, 524288), (1, 16), (1, 4), (1, 261888), (1, 75), (1, 120), (1, 2592), (1, 4896), (1, 4544), (1, 4627)]) rfl hP rfl 0 (by decide) (hts _ (wg_t kw_302)) (fun _ h9 => h9) (cd := (1, 8)) rfl dDA_commit_4 (fun v57 hv57 => ?_)
      obtain rfl := (show v57 = .int (nI 8) from hv57)
      refine mi_ge (tgt := 26) hx hb dDA_commit_7 (by decide) (by omega) (by omega) (fun h30 => absurd h30 (by omega)) (fun h30 => ?_)
      refine lv_aload_n hx hb dDA_commit_10 rfl (lv_at hl 1 rfl) ?_
      refine nw_get (C := "LatticeKeys$Dsa") (TT := T_DA) (N := 17) hx hb hts (wg_ft i_DA) hown hK hO k_h0 (kn := 39) (ci := 6) (fl := [(3, 16), (3, 22), (3, 37), (3, 40), (3, 97), (3, 105), (3, 114), (3, 123), (3, 131), (3, 140), (3, 141), (3, 142), (3, 143), (3, 144), (3, 145), (3, 146), (3, 147)]) rfl hP rfl 8 (by decide) (hts _ (wg_t kw_173)) (fun _ h9 => h9) (cd := (3, 131)) rfl dDA_commit_11 (fun v58 hv58 => ?_)
      obtain ⟨r56, rfl, kr55⟩ := (show ∃ r : Nat, v58 = .ref r ∧ T r = some 131 from hv58)
      refine lv_iload_n hx hb dDA_commit_14 rfl (lv_at hl 0 rfl) ?_
      refine nw_aald3 hx hb hK hO kr55 (k := 131) (b := 132) rfl hP (by omega) (by omega) dDA_commit_15 (fun r57 kr56 => ?_)
      have hn29 : nsp (132 + i21) = (0, 256, []) := rows_ok 132 8 (by decide) _ (by omega)
      refine lv_iconst (v := nI 0) hx hb dDA_commit_16 (by decide) ?_
      refine mp_v (cx := []) (wr := []) hP hD hS hA [] [] rfl rfl rfl (by decide) (va_runS (As := [.ref r57, .int (nI 0)]) (rest := []) F (N_AR_fillI l g _ T s21 pl hO hU r57 (132 + i21) 256 (nI 0) kr56 hn29 (by omega)) (va_cwS 2 hts (wg_app (wg_c kw_716 (wg_c kw_717 (wg_c kw_21 wg_n))) kw_718) rfl rfl rfl (by decide +kernel) ⟨by decide, by decide⟩) (pp_S (en_ok g) hP hD hS hA hE [] rfl rfl) rfl rfl hl.1 rfl (lv_room (Nat.le_of_ble_eq_true rfl)) dDA_commit_17 ⟨by omega, by omega⟩) (fun  u33 H locs hu33 hP hD hS => ?_)
      obtain ⟨s39, pl⟩ := u33
      obtain ⟨⟨eq33, hFc33, -⟩, hO⟩ := hu33
      have hO : okn g T s39 pl := hO
      have hP : va_P g.1 vcl ([] ++ pl) _ := hP
      have hD : va_D _ ([] ++ pl) := hD
      have hFc33 : frm (M_AR_fillI (132 + i21)) s21 s39 := hFc33
      replace hR := bnd_step hR eq33
      have hF := frm_tr hF hFc33 (fun k hk => by unfold M_AR_fillI at hk; unfold M_DA_commit_2; omega)
      refine W.widen (k := 0) (n := 0) (by omega) (by omega) ?_
      refine mi_iinc (k := 0) (x := i21) (d := 1) (y := i21 + 1) (lv' := [(3, .int (nI (i21 + 1))), (0, .ref h0), (1, .ref st), (2, .int cn)]) hx hb dDA_commit_20 hl rfl (by decide) rfl (by decide) rfl (fun ls hl => ?_)
      refine lv_goto (tgt := 2) hx hb dDA_commit_23 (by decide) ?_
      exact ih21 (i21 + 1) s39 pl ls H locs (by omega) hF hR (lv_sub hl [0, 1, 2, 3] rfl) hO hP hD hS
  exact lp21 8 0 s pl ls _ _ (by omega) hF hR (lv_sub hl [0, 1, 2, 3] rfl) hO hP hD hS
def M_DA_makeSignature_0 (pt : Nat) (k : Nat) : Prop := (106 ≤ k ∧ k < 114) ∨ (115 ≤ k ∧ k < 123) ∨ (124 ≤ k ∧ k < 131) ∨ (132 ≤ k ∧ k < 140) ∨ (41 ≤ k ∧ k < 97) ∨ (98 ≤ k ∧ k < 105) ∨ k = 140 ∨ k = 141 ∨ k = 142 ∨ k = 143 ∨ k = 144 ∨ k = 146 ∨ k = 147 ∨ k = 16 ∨ k = 18 ∨ k = 38 ∨ k = pt ∨ (0 : Nat) = 1
noncomputable def F_DA_makeSignature_0_L0 (pt : Nat) : Nat → Nat → Sto → Int32 × Sto
  | 0, i21, s30 => (nI 0, s30)
  | n21 + 1, i21, s30 => bnd (F_DA_commit_0 (nI (4 * (i21 - 1))) s30) fun s31 => bnd (F_DA_answerIsShort_0  s31) fun q21 => if (q21.1) = 0 then F_DA_makeSignature_0_L0 pt n21 (i21 + 1) q21.2 else bnd (F_DA_restIsShort_0  q21.2) fun q22 => if (q22.1) = 0 then F_DA_makeSignature_0_L0 pt n21 (i21 + 1) q22.2 else bnd (F_DA_makeHints_0  q22.2) fun q23 => if (q23.1) = 0 then F_DA_makeSignature_0_L0 pt n21 (i21 + 1) q23.2 else bnd (F_DA_writeSignature_0 pt q23.2) fun s32 => (nI i21, s32)
noncomputable def F_DA_makeSignature_0 (psk : Nat) (ptp : Nat) (n : Nat) (len : Nat) (cl_ : Int32) (pt : Nat) (s : Sto) : Int32 × Sto := bnd (F_DA_readSecret_0 psk s) fun s21 => bnd (sC s21 psk 143 64 0 64) fun s22 => bnd (F_DA_digestMessage ptp n 32 len cl_ s22) fun s23 => bnd (F_SP_start_3 16 17 s23) fun s24 => bnd (F_SP_absorb 16 17 psk 2560 32 32 s24) fun s25 => bnd (F_SP_absorb 16 17 ptp n 0 32 s25) fun s26 => bnd (F_SP_absorb 16 17 143 64 0 64 s26) fun s27 => bnd (F_SP_finish 16 17 s27) fun s28 => bnd (F_SP_squeeze 16 17 142 128 0 64 s28) fun s29 => F_DA_makeSignature_0_L0 pt (201 - 1) 1 s29
set_option maxHeartbeats 8000000 in
set_option maxRecDepth 100000 in
theorem N_DA_makeSignature_0 (l : Launch) (g : Gd) (sz : Nat) (T : TyN) (s : Sto) (pl : va_W) (hO : okn g T s pl) (hU : inj T) (h0 st sk tp to : Nat) (psk : Nat) (ptp : Nat) (n : Nat) (len : Nat) (cl_ : Int32) (pt : Nat) (k_h0 : T h0 = some 39) (k_st : T st = some 9) (k_sk : T sk = some psk) (n_sk : nsp psk = (1, 2560, [])) (k_tp : T tp = some ptp) (n_tp : nsp ptp = (1, n, [])) (k_to : T to = some pt) (n_to : nsp pt = (1, 8192, [])) (h1 : 32 ≤ len) (h3 : len ≤ n) (h2 : n < 65536)  : Met l y_DA_makeSignature w_DA_makeSignature ({ frames := 6, cells := 0, slots := 0, locals := 176 } : Room) (va_Pc [.ref h0, .ref st, .ref sk, .ref tp, .int (nI len), .int cl_, .ref to] (pr (en g) g.1 vcl sz ([] ++ pl))) (va_Qi (fun (r : Int32) (u : (Int32 × Sto) × va_W) => (u.1 = F_DA_makeSignature_0 psk ptp n len cl_ pt s ∧ r = u.1.1 ∧ frm (M_DA_makeSignature_0 pt) s u.1.2 ∧ True) ∧ okn g T u.1.2 u.2) (po g.1 vcl (va_A ([] ++ pl) sz) (fun (u : (Int32 × Sto) × va_W) => [] ++ u.2)) (va_A ([] ++ pl) sz)) 0 0 (va_A ([] ++ pl) sz) := by
  refine mc_entry (cc := c_DA_makeSignature) (maxL := 8) (ret := (some .int)) (by decide) rfl (Nat.le_of_ble_eq_true rfl) ?_
  intro p e s0 m args below meth c ls F hr hlk hnm hsz hP hD hE hA hl
  obtain ⟨hx, hb, hml, hown, hts⟩ := id F
  have hK := hE.1
  generalize va_A ([] ++ pl) sz = A at hD hE hA ⊢
  have hS : va_S A s0.heap s0.heap [] := va_S.rf
  have hl : lv_has ls 8 [(0, .ref h0), (1, .ref st), (2, .ref sk), (3, .ref tp), (4, .int (nI len)), (5, .int cl_), (6, .ref to)] := hl
  have hR : F_DA_makeSignature_0 psk ptp n len cl_ pt s = F_DA_makeSignature_0 psk ptp n len cl_ pt s := rfl
  have hF : frm (M_DA_makeSignature_0 pt) s s := frm_rf
  refine lv_aload_n hx hb dDA_makeSignature_0 rfl (lv_at hl 0 rfl) ?_
  refine lv_aload_n hx hb dDA_makeSignature_1 rfl (lv_at hl 1 rfl) ?_
  refine lv_aload_n hx hb dDA_makeSignature_2 rfl (lv_at hl 2 rfl) ?_
  refine mp_v (cx := []) (wr := []) hP hD hS hA [] [] rfl rfl rfl (by decide) (va_runV (As := [.ref st, .ref sk]) (rest := []) F (N_DA_readSecret_0 l g _ T s pl hO hU h0 st sk psk k_h0 k_st k_sk n_sk) (cwV 2 hts (wg_app (wg_c kw_1179 (wg_c kw_1181 (wg_c ks_34 (wg_c kw_5 wg_n)))) kw_1182) rfl rfl rfl (by decide +kernel) ⟨by decide, by decide⟩) (pn_W "LatticeKeys$Dsa" (en_ok g) (ci := 6) (kn := 39) (fl := [(3, 16), (3, 22), (3, 37), (3, 40), (3, 97), (3, 105), (3, 114), (3, 123), (3, 131), (3, 140), (3, 141), (3, 142), (3, 143), (3, 144), (3, 145), (3, 146), (3, 147)]) hK hO k_h0 rfl hP hD hS hA hE [] rfl rfl rfl) rfl rfl hl.1 rfl (lv_room (Nat.le_of_ble_eq_true rfl)) dDA_makeSignature_3 ⟨by omega, by omega⟩) (fun  u21 H locs hu21 hP hD hS => ?_)
  obtain ⟨s21, pl⟩ := u21
  obtain ⟨⟨eq21, hFc21, -⟩, hO⟩ := hu21
  have hO : okn g T s21 pl := hO
  have hP : va_P g.1 vcl ([] ++ pl) _ := hP
  have hD : va_D _ ([] ++ pl) := hD
  have hFc21 : frm (M_DA_readSecret_0) s s21 := hFc21
  replace hR := bnd_step hR eq21
  have hF := frm_tr hF hFc21 (fun k hk => by unfold M_DA_readSecret_0 at hk; unfold M_DA_makeSignature_0; omega)
  refine W.widen (k := 0) (n := 0) (by omega) (by omega) ?_
  refine lv_aload_n hx hb dDA_makeSignature_6 rfl (lv_at hl 2 rfl) ?_
  refine lv_bipush (v := nI 64) hx hb dDA_makeSignature_7 (by decide) ?_
  refine lv_aload_n hx hb dDA_makeSignature_9 rfl (lv_at hl 0 rfl) ?_
  refine nw_get (C := "LatticeKeys$Dsa") (TT := T_DA) (N := 17) hx hb hts (wg_ft i_DA) hown hK hO k_h0 (kn := 39) (ci := 6) (fl := [(3, 16), (3, 22), (3, 37), (3, 40), (3, 97), (3, 105), (3, 114), (3, 123), (3, 131), (3, 140), (3, 141), (3, 142), (3, 143), (3, 144), (3, 145), (3, 146), (3, 147)]) rfl hP rfl 12 (by decide) (hts _ (wg_t kw_177)) (fun _ h9 => h9) (cd := (3, 143)) rfl dDA_makeSignature_10 (fun v21 hv21 => ?_)
  obtain ⟨r21, rfl, kr21⟩ := (show ∃ r : Nat, v21 = .ref r ∧ T r = some 143 from hv21)
  refine lv_iconst (v := nI 0) hx hb dDA_makeSignature_13 (by decide) ?_
  refine lv_bipush (v := nI 64) hx hb dDA_makeSignature_14 (by decide) ?_
  refine nw_copyb hx hb (hml.trans hl.1.symm) hown (hts _ (wg_t kw_674)) (hts _ (wg_t kw_526)) (hts _ (wg_t kw_525)) (hts _ (wg_t kw_19)) hK hO hU k_sk (k0 := psk) n_sk kr21 (k1 := 143) rfl hP hD hS (sp := 64) (dp := 0) (n := 64) (by omega) (by omega) (by omega) (by decide) (Nat.le_of_ble_eq_true rfl) dDA_makeSignature_16 (fun s22 pl H locs es21 hO hP hD hS => ?_)
  replace hR := bnd_step hR es21
  have hF := frm_sC hF es21 (by unfold M_DA_makeSignature_0; omega)
  refine lv_aload_n hx hb dDA_makeSignature_19 rfl (lv_at hl 0 rfl) ?_
  refine lv_aload_n hx hb dDA_makeSignature_20 rfl (lv_at hl 3 rfl) ?_
  refine lv_bipush (v := nI 32) hx hb dDA_makeSignature_21 (by decide) ?_
  refine lv_iload hx hb dDA_makeSignature_23 (lv_at hl 4 rfl) ?_
  refine lv_iload hx hb dDA_makeSignature_25 (lv_at hl 5 rfl) ?_
  refine mp_v (cx := []) (wr := []) hP hD hS hA [] [] rfl rfl rfl (by decide) (va_runV (As := [.ref tp, .int (nI 32), .int (nI len), .int cl_]) (rest := []) F (N_DA_digestMessage l g _ T s22 pl hO hU h0 tp ptp n 32 len cl_ k_h0 k_tp n_tp (by omega) (by omega) (by omega)) (cwV 4 hts (wg_app (wg_c kw_1188 (wg_c kw_1190 (wg_c ks_36 (wg_c kw_5 wg_n)))) kw_1191) rfl rfl rfl (by decide +kernel) ⟨by decide, by decide⟩) (pn_W "LatticeKeys$Dsa" (en_ok g) (ci := 6) (kn := 39) (fl := [(3, 16), (3, 22), (3, 37), (3, 40), (3, 97), (3, 105), (3, 114), (3, 123), (3, 131), (3, 140), (3, 141), (3, 142), (3, 143), (3, 144), (3, 145), (3, 146), (3, 147)]) hK hO k_h0 rfl hP hD hS hA hE [] rfl rfl rfl) rfl rfl hl.1 rfl (lv_room (Nat.le_of_ble_eq_true rfl)) dDA_makeSignature_27 ⟨by omega, by omega⟩) (fun  u22 H locs hu22 hP hD hS => ?_)
  obtain ⟨s23, pl⟩ := u22
  obtain ⟨⟨eq22, hFc22, -⟩, hO⟩ := hu22
  have hO : okn g T s23 pl := hO
  have hP : va_P g.1 vcl ([] ++ pl) _ := hP
  have hD : va_D _ ([] ++ pl) := hD
  have hFc22 : frm (M_DA_digestMessage) s22 s23 := hFc22
  replace hR := bnd_step hR eq22
  have hF := frm_tr hF hFc22 (fun k hk => by unfold M_DA_digestMessage at hk; unfold M_DA_makeSignature_0; omega)
  refine W.widen (k := 0) (n := 0) (by omega) (by omega) ?_
  refine lv_aload_n hx hb dDA_makeSignature_30 rfl (lv_at hl 0 rfl) ?_
  refine nw_get (C := "LatticeKeys$Dsa") (TT := T_DA) (N := 17) hx hb hts (wg_ft i_DA) hown hK hO k_h0 (kn := 39) (ci := 6) (fl := [(3, 16), (3, 22), (3, 37), (3, 40), (3, 97), (3, 105), (3, 114), (3, 123), (3, 131), (3, 140), (3, 141), (3, 142), (3, 143), (3, 144), (3, 145), (3, 146), (3, 147)]) rfl hP rfl 0 (by decide) (hts _ (wg_t kw_165)) (fun _ h9 => h9) (cd := (3, 16)) rfl dDA_makeSignature_31 (fun v22 hv22 => ?_)
  obtain ⟨r22, rfl, kr22⟩ := (show ∃ r : Nat, v22 = .ref r ∧ T r = some 16 from hv22)
  refine lv_iconst (v := nI 3) hx hb dDA_makeSignature_34 (by decide) ?_
  refine mp_v (cx := []) (wr := []) hP hD hS hA [] [] rfl rfl rfl (by decide) (va_runV (As := [.int (nI 3)]) (rest := []) F (N_SP_start_3 l g _ T s23 pl hO hU r22 16 17 kr22 rfl rfl) (cwV 1 hts (wg_app (wg_c kw_669 (wg_c kw_579 (wg_c kw_580 (wg_c kw_2 wg_n)))) kw_581) rfl rfl rfl (by decide +kernel) ⟨by decide, by decide⟩) (pn_W "LatticeKeys$Sponge" (en_ok g) (ci := 3) (kn := 16) (fl := [(3, 17), (0, 0), (0, 0), (0, 0)]) hK hO kr22 rfl hP hD hS hA hE [] rfl rfl rfl) rfl rfl hl.1 rfl (lv_room (Nat.le_of_ble_eq_true rfl)) dDA_makeSignature_35 ⟨by omega, by omega⟩) (fun  u23 H locs hu23 hP hD hS => ?_)
  obtain ⟨s24, pl⟩ := u23
  obtain ⟨⟨eq23, hFc23, ⟨x23, hx_23, hb_23⟩, ⟨x24, hx_24, hb_24⟩, -⟩, hO⟩ := hu23
  have hO : okn g T s24 pl := hO
  have hP : va_P g.1 vcl ([] ++ pl) _ := hP
  have hD : va_D _ ([] ++ pl) := hD
  have hFc23 : frm (M_SP_start_3 16) s23 s24 := hFc23
  have hb_23 : x23 = 0 := hb_23
  have hb_24 : x24 = 136 := hb_24
  replace hR := bnd_step hR eq23
  have hF := frm_tr hF hFc23 (fun k hk => by unfold M_SP_start_3 at hk; unfold M_DA_makeSignature_0; omega)
  refine W.widen (k := 0) (n := 0) (by omega) (by omega) ?_
  refine lv_aload_n hx hb dDA_makeSignature_38 rfl (lv_at hl 0 rfl) ?_
  refine nw_get (C := "LatticeKeys$Dsa") (TT := T_DA) (N := 17) hx hb hts (wg_ft i_DA) hown hK hO k_h0 (kn := 39) (ci := 6) (fl := [(3, 16), (3, 22), (3, 37), (3, 40), (3, 97), (3, 105), (3, 114), (3, 123), (3, 131), (3, 140), (3, 141), (3, 142), (3, 143), (3, 144), (3, 145), (3, 146), (3, 147)]) rfl hP rfl 0 (by decide) (hts _ (wg_t kw_165)) (fun _ h9 => h9) (cd := (3, 16)) rfl dDA_makeSignature_39 (fun v23 hv23 => ?_)
  obtain ⟨r23, rfl, kr23⟩ := (show ∃ r : Nat, v23 = .ref r ∧ T r = some 16 from hv23)
  refine lv_aload_n hx hb dDA_makeSignature_42 rfl (lv_at hl 2 rfl) ?_
  refine lv_bipush (v := nI 32) hx hb dDA_makeSignature_43 (by decide) ?_
  refine lv_bipush (v := nI 32) hx hb dDA_makeSignature_45 (by decide) ?_
  refine mp_v (cx := []) (wr := []) hP hD hS hA [] [] rfl rfl rfl (by decide) (va_runV (As := [.ref sk, .int (nI 32), .int (nI 32)]) (rest := []) F (N_SP_absorb l g _ T s24 pl hO hU r23 sk 16 17 psk 2560 32 32 x23 x24 kr23 rfl rfl k_sk n_sk hx_23 hx_24 (by omega) (by omega) (by omega) (by omega)) (cwV 3 hts (wg_app (wg_c kw_670 (wg_c kw_586 (wg_c kw_587 (wg_c kw_2 wg_n)))) kw_588) rfl rfl rfl (by decide +kernel) ⟨by decide, by decide⟩) (pn_W "LatticeKeys$Sponge" (en_ok g) (ci := 3) (kn := 16) (fl := [(3, 17), (0, 0), (0, 0), (0, 0)]) hK hO kr23 rfl hP hD hS hA hE [] rfl rfl rfl) rfl rfl hl.1 rfl (lv_room (Nat.le_of_ble_eq_true rfl)) dDA_makeSignature_47 ⟨by omega, by omega⟩) (fun  u24 H locs hu24 hP hD hS => ?_)
  obtain ⟨s25, pl⟩ := u24
  obtain ⟨⟨eq24, hFc24, ⟨x26, hx_26, hb_26⟩, ⟨x27, hx_27, hb_27⟩, -⟩, hO⟩ := hu24
  have hO : okn g T s25 pl := hO
  have hP : va_P g.1 vcl ([] ++ pl) _ := hP
  have hD : va_D _ ([] ++ pl) := hD
  have hFc24 : frm (M_SP_absorb 16) s24 s25 := hFc24
  have hb_26 : x26 < x24 := hb_26
  have hb_27 : x27 = x24 := hb_27
  replace hR := bnd_step hR eq24
  have hF := frm_tr hF hFc24 (fun k hk => by unfold M_SP_absorb at hk; unfold M_DA_makeSignature_0; omega)
  refine W.widen (k := 0) (n := 0) (by omega) (by omega) ?_
  refine lv_aload_n hx hb dDA_makeSignature_50 rfl (lv_at hl 0 rfl) ?_
  refine nw_get (C := "LatticeKeys$Dsa") (TT := T_DA) (N := 17) hx hb hts (wg_ft i_DA) hown hK hO k_h0 (kn := 39) (ci := 6) (fl := [(3, 16), (3, 22), (3, 37), (3, 40), (3, 97), (3, 105), (3, 114), (3, 123), (3, 131), (3, 140), (3, 141), (3, 142), (3, 143), (3, 144), (3, 145), (3, 146), (3, 147)]) rfl hP rfl 0 (by decide) (hts _ (wg_t kw_165)) (fun _ h9 => h9) (cd := (3, 16)) rfl dDA_makeSignature_51 (fun v24 hv24 => ?_)
  obtain ⟨r24, rfl, kr24⟩ := (show ∃ r : Nat, v24 = .ref r ∧ T r = some 16 from hv24)
  refine lv_aload_n hx hb dDA_makeSignature_54 rfl (lv_at hl 3 rfl) ?_
  refine lv_iconst (v := nI 0) hx hb dDA_makeSignature_55 (by decide) ?_
  refine lv_bipush (v := nI 32) hx hb dDA_makeSignature_56 (by decide) ?_
  refine mp_v (cx := []) (wr := []) hP hD hS hA [] [] rfl rfl rfl (by decide) (va_runV (As := [.ref tp, .int (nI 0), .int (nI 32)]) (rest := []) F (N_SP_absorb l g _ T s25 pl hO hU r24 tp 16 17 ptp n 0 32 x26 x27 kr24 rfl rfl k_tp n_tp hx_26 hx_27 (by omega) (by omega) (by omega) (by omega)) (cwV 3 hts (wg_app (wg_c kw_670 (wg_c kw_586 (wg_c kw_587 (wg_c kw_2 wg_n)))) kw_588) rfl rfl rfl (by decide +kernel) ⟨by decide, by decide⟩) (pn_W "LatticeKeys$Sponge" (en_ok g) (ci := 3) (kn := 16) (fl := [(3, 17), (0, 0), (0, 0), (0, 0)]) hK hO kr24 rfl hP hD hS hA hE [] rfl rfl rfl) rfl rfl hl.1 rfl (lv_room (Nat.le_of_ble_eq_true rfl)) dDA_makeSignature_58 ⟨by omega, by omega⟩) (fun  u25 H locs hu25 hP hD hS => ?_)
  obtain ⟨s26, pl⟩ := u25
  obtain ⟨⟨eq25, hFc25, ⟨x29, hx_29, hb_29⟩, ⟨x30, hx_30, hb_30⟩, -⟩, hO⟩ := hu25
  have hO : okn g T s26 pl := hO
  have hP : va_P g.1 vcl ([] ++ pl) _ := hP
  have hD : va_D _ ([] ++ pl) := hD
  have hFc25 : frm (M_SP_absorb 16) s25 s26 := hFc25
  have hb_29 : x29 < x27 := hb_29
  have hb_30 : x30 = x27 := hb_30
  replace hR := bnd_step hR eq25
  have hF := frm_tr hF hFc25 (fun k hk => by unfold M_SP_absorb at hk; unfold M_DA_makeSignature_0; omega)
  refine W.widen (k := 0) (n := 0) (by omega) (by omega) ?_
  refine lv_aload_n hx hb dDA_makeSignature_61 rfl (lv_at hl 0 rfl) ?_
  refine nw_get (C := "LatticeKeys$Dsa") (TT := T_DA) (N := 17) hx hb hts (wg_ft i_DA) hown hK hO k_h0 (kn := 39) (ci := 6) (fl := [(3, 16), (3, 22), (3, 37), (3, 40), (3, 97), (3, 105), (3, 114), (3, 123), (3, 131), (3, 140), (3, 141), (3, 142), (3, 143), (3, 144), (3, 145), (3, 146), (3, 147)]) rfl hP rfl 0 (by decide) (hts _ (wg_t kw_165)) (fun _ h9 => h9) (cd := (3, 16)) rfl dDA_makeSignature_62 (fun v25 hv25 => ?_)
  obtain ⟨r25, rfl, kr25⟩ := (show ∃ r : Nat, v25 = .ref r ∧ T r = some 16 from hv25)
  refine lv_aload_n hx hb dDA_makeSignature_65 rfl (lv_at hl 0 rfl) ?_
  refine nw_get (C := "LatticeKeys$Dsa") (TT := T_DA) (N := 17) hx hb hts (wg_ft i_DA) hown hK hO k_h0 (kn := 39) (ci := 6) (fl := [(3, 16), (3, 22), (3, 37), (3, 40), (3, 97), (3, 105), (3, 114), (3, 123), (3, 131), (3, 140), (3, 141), (3, 142), (3, 143), (3, 144), (3, 145), (3, 146), (3, 147)]) rfl hP rfl 12 (by decide) (hts _ (wg_t kw_177)) (fun _ h9 => h9) (cd := (3, 143)) rfl dDA_makeSignature_66 (fun v26 hv26 => ?_)
  obtain ⟨r26, rfl, kr26⟩ := (show ∃ r : Nat, v26 = .ref r ∧ T r = some 143 from hv26)
  refine lv_iconst (v := nI 0) hx hb dDA_makeSignature_69 (by decide) ?_
  refine lv_bipush (v := nI 64) hx hb dDA_makeSignature_70 (by decide) ?_
  refine mp_v (cx := []) (wr := []) hP hD hS hA [] [] rfl rfl rfl (by decide) (va_runV (As := [.ref r26, .int (nI 0), .int (nI 64)]) (rest := []) F (N_SP_absorb l g _ T s26 pl hO hU r25 r26 16 17 143 64 0 64 x29 x30 kr25 rfl rfl kr26 rfl hx_29 hx_30 (by omega) (by omega) (by omega) (by omega)) (cwV 3 hts (wg_app (wg_c kw_670 (wg_c kw_586 (wg_c kw_587 (wg_c kw_2 wg_n)))) kw_588) rfl rfl rfl (by decide +kernel) ⟨by decide, by decide⟩) (pn_W "LatticeKeys$Sponge" (en_ok g) (ci := 3) (kn := 16) (fl := [(3, 17), (0, 0), (0, 0), (0, 0)]) hK hO kr25 rfl hP hD hS hA hE [] rfl rfl rfl) rfl rfl hl.1 rfl (lv_room (Nat.le_of_ble_eq_true rfl)) dDA_makeSignature_72 ⟨by omega, by omega⟩) (fun  u26 H locs hu26 hP hD hS => ?_)
  obtain ⟨s27, pl⟩ := u26
  obtain ⟨⟨eq26, hFc26, ⟨x32, hx_32, hb_32⟩, ⟨x33, hx_33, hb_33⟩, -⟩, hO⟩ := hu26
  have hO : okn g T s27 pl := hO
  have hP : va_P g.1 vcl ([] ++ pl) _ := hP
  have hD : va_D _ ([] ++ pl) := hD
  have hFc26 : frm (M_SP_absorb 16) s26 s27 := hFc26
  have hb_32 : x32 < x30 := hb_32
  have hb_33 : x33 = x30 := hb_33
  replace hR := bnd_step hR eq26
  have hF := frm_tr hF hFc26 (fun k hk => by unfold M_SP_absorb at hk; unfold M_DA_makeSignature_0; omega)
  refine W.widen (k := 0) (n := 0) (by omega) (by omega) ?_
  refine lv_aload_n hx hb dDA_makeSignature_75 rfl (lv_at hl 0 rfl) ?_
  refine nw_get (C := "LatticeKeys$Dsa") (TT := T_DA) (N := 17) hx hb hts (wg_ft i_DA) hown hK hO k_h0 (kn := 39) (ci := 6) (fl := [(3, 16), (3, 22), (3, 37), (3, 40), (3, 97), (3, 105), (3, 114), (3, 123), (3, 131), (3, 140), (3, 141), (3, 142), (3, 143), (3, 144), (3, 145), (3, 146), (3, 147)]) rfl hP rfl 0 (by decide) (hts _ (wg_t kw_165)) (fun _ h9 => h9) (cd := (3, 16)) rfl dDA_makeSignature_76 (fun v27 hv27 => ?_)
  obtain ⟨r27, rfl, kr27⟩ := (show ∃ r : Nat, v27 = .ref r ∧ T r = some 16 from hv27)
  refine mp_v (cx := []) (wr := []) hP hD hS hA [] [] rfl rfl rfl (by decide) (va_runV (As := []) (rest := []) F (N_SP_finish l g _ T s27 pl hO hU r27 16 17 x32 x33 kr27 rfl rfl hx_32 hx_33 (by omega) (by omega)) (cwV 0 hts (wg_app (wg_c kw_672 (wg_c kw_611 (wg_c kw_612 (wg_c kw_2 wg_n)))) kw_613) rfl rfl rfl (by decide +kernel) ⟨by decide, by decide⟩) (pn_W "LatticeKeys$Sponge" (en_ok g) (ci := 3) (kn := 16) (fl := [(3, 17), (0, 0), (0, 0), (0, 0)]) hK hO kr27 rfl hP hD hS hA hE [] rfl rfl rfl) rfl rfl hl.1 rfl (lv_room (Nat.le_of_ble_eq_true rfl)) dDA_makeSignature_79 ⟨by omega, by omega⟩) (fun  u27 H locs hu27 hP hD hS => ?_)
  obtain ⟨s28, pl⟩ := u27
  obtain ⟨⟨eq27, hFc27, ⟨x35, hx_35, hb_35⟩, ⟨x36, hx_36, hb_36⟩, -⟩, hO⟩ := hu27
  have hO : okn g T s28 pl := hO
  have hP : va_P g.1 vcl ([] ++ pl) _ := hP
  have hD : va_D _ ([] ++ pl) := hD
  have hFc27 : frm (M_SP_finish 16) s27 s28 := hFc27
  have hb_35 : x35 = x33 := hb_35
  have hb_36 : x36 = x33 := hb_36
  replace hR := bnd_step hR eq27
  have hF := frm_tr hF hFc27 (fun k hk => by unfold M_SP_finish at hk; unfold M_DA_makeSignature_0; omega)
  refine W.widen (k := 0) (n := 0) (by omega) (by omega) ?_
  refine lv_aload_n hx hb dDA_makeSignature_82 rfl (lv_at hl 0 rfl) ?_
  refine nw_get (C := "LatticeKeys$Dsa") (TT := T_DA) (N := 17) hx hb hts (wg_ft i_DA) hown hK hO k_h0 (kn := 39) (ci := 6) (fl := [(3, 16), (3, 22), (3, 37), (3, 40), (3, 97), (3, 105), (3, 114), (3, 123), (3, 131), (3, 140), (3, 141), (3, 142), (3, 143), (3, 144), (3, 145), (3, 146), (3, 147)]) rfl hP rfl 0 (by decide) (hts _ (wg_t kw_165)) (fun _ h9 => h9) (cd := (3, 16)) rfl dDA_makeSignature_83 (fun v28 hv28 => ?_)
  obtain ⟨r28, rfl, kr28⟩ := (show ∃ r : Nat, v28 = .ref r ∧ T r = some 16 from hv28)
  refine lv_aload_n hx hb dDA_makeSignature_86 rfl (lv_at hl 0 rfl) ?_
  refine nw_get (C := "LatticeKeys$Dsa") (TT := T_DA) (N := 17) hx hb hts (wg_ft i_DA) hown hK hO k_h0 (kn := 39) (ci := 6) (fl := [(3, 16), (3, 22), (3, 37), (3, 40), (3, 97), (3, 105), (3, 114), (3, 123), (3, 131), (3, 140), (3, 141), (3, 142), (3, 143), (3, 144), (3, 145), (3, 146), (3, 147)]) rfl hP rfl 11 (by decide) (hts _ (wg_t kw_176)) (fun _ h9 => h9) (cd := (3, 142)) rfl dDA_makeSignature_87 (fun v29 hv29 => ?_)
  obtain ⟨r29, rfl, kr29⟩ := (show ∃ r : Nat, v29 = .ref r ∧ T r = some 142 from hv29)
  refine lv_iconst (v := nI 0) hx hb dDA_makeSignature_90 (by decide) ?_
  refine lv_bipush (v := nI 64) hx hb dDA_makeSignature_91 (by decide) ?_
  refine mp_v (cx := []) (wr := []) hP hD hS hA [] [] rfl rfl rfl (by decide) (va_runV (As := [.ref r29, .int (nI 0), .int (nI 64)]) (rest := []) F (N_SP_squeeze l g _ T s28 pl hO hU r28 r29 16 17 142 128 0 64 x35 x36 kr28 rfl rfl kr29 rfl hx_35 hx_36 (by omega) (by omega) (by omega) (by omega)) (cwV 3 hts (wg_app (wg_c kw_673 (wg_c kw_615 (wg_c kw_616 (wg_c kw_2 wg_n)))) kw_617) rfl rfl rfl (by decide +kernel) ⟨by decide, by decide⟩) (pn_W "LatticeKeys$Sponge" (en_ok g) (ci := 3) (kn := 16) (fl := [(3, 17), (0, 0), (0, 0), (0, 0)]) hK hO kr28 rfl hP hD hS hA hE [] rfl rfl rfl) rfl rfl hl.1 rfl (lv_room (Nat.le_of_ble_eq_true rfl)) dDA_makeSignature_93 ⟨by omega, by omega⟩) (fun  u28 H locs hu28 hP hD hS => ?_)
  obtain ⟨s29, pl⟩ := u28
  obtain ⟨⟨eq28, hFc28, ⟨x38, hx_38, hb_38⟩, ⟨x39, hx_39, hb_39⟩, -⟩, hO⟩ := hu28
  have hO : okn g T s29 pl := hO
  have hP : va_P g.1 vcl ([] ++ pl) _ := hP
  have hD : va_D _ ([] ++ pl) := hD
  have hFc28 : frm (M_SP_squeeze 16 142) s28 s29 := hFc28
  have hb_38 : x38 ≤ x36 := hb_38
  have hb_39 : x39 = x36 := hb_39
  replace hR := bnd_step hR eq28
  have hF := frm_tr hF hFc28 (fun k hk => by unfold M_SP_squeeze at hk; unfold M_DA_makeSignature_0; omega)
  refine W.widen (k := 0) (n := 0) (by omega) (by omega) ?_
  refine lv_iconst (v := nI 1) hx hb dDA_makeSignature_96 (by decide) ?_
  refine lv_istore (lv' := [(7, .int (nI 1)), (0, .ref h0), (1, .ref st), (2, .ref sk), (3, .ref tp), (4, .int (nI len)), (5, .int cl_), (6, .ref to)]) hx hb dDA_makeSignature_97 hl (by decide) rfl (fun ls hl => ?_)
  have lp21 : ∀ (n21 : Nat) (i21 : Nat) (s30 : Sto) (pl : va_W) (ls : Array Slot) (H : Heap) (locs : List Loc), n21 + i21 = 201 → (1 ≤ i21) → frm (M_DA_makeSignature_0 pt) s s30 → F_DA_makeSignature_0 psk ptp n len cl_ pt s = F_DA_makeSignature_0_L0 pt n21 i21 s30 → lv_has ls 8 [(7, .int (nI i21)), (0, .ref h0), (1, .ref st), (6, .ref to)] → okn g T s30 pl → va_P g.1 vcl ([] ++ pl) H → va_D A ([] ++ pl) → va_S A s0.heap H locs → W p l e ({ frames := 6, cells := 0, slots := 0, locals := 176 } : Room) s0 m args below meth c H locs 0 0 (MQ below (va_Qi (fun (r : Int32) (u : (Int32 × Sto) × va_W) => (u.1 = F_DA_makeSignature_0 psk ptp n len cl_ pt s ∧ r = u.1.1 ∧ frm (M_DA_makeSignature_0 pt) s u.1.2 ∧ True) ∧ okn g T u.1.2 u.2) (po g.1 vcl A (fun (u : (Int32 × Sto) × va_W) => [] ++ u.2)) A) args s0 0 0 A) (F0 m 99 ls []) := by
    intro n21
    induction n21 with
    | zero =>
      intro i21 s30 pl ls H locs hm21 hi21 hF hR hl hO hP hD hS
      refine lv_iload hx hb dDA_makeSignature_99 (lv_at hl 0 rfl) ?_
      refine lv_sipush (v := nI 200) hx hb dDA_makeSignature_101 (by decide) ?_
      refine mi_gt (tgt := 161) hx hb dDA_makeSignature_104 (by decide) (by omega) (by omega) (fun h21 => ?_) (fun h21 => absurd h21 (by omega))
      refine lv_iconst (v := nI 0) hx hb dDA_makeSignature_161 (by decide) ?_
      exact mp_iret hx hb hr hlk hP hD hS ((nI 0, s30), pl) ⟨⟨hR.symm, rfl, hF, trivial⟩, hO⟩ [] rfl rfl rfl (by omega) (by omega) dDA_makeSignature_162
    | succ n21 ih21 =>
      intro i21 s30 pl ls H locs hm21 hi21 hF hR hl hO hP hD hS
      refine lv_iload hx hb dDA_makeSignature_99 (lv_at hl 0 rfl) ?_
      refine lv_sipush (v := nI 200) hx hb dDA_makeSignature_101 (by decide) ?_
      refine mi_gt (tgt := 161) hx hb dDA_makeSignature_104 (by decide) (by omega) (by omega) (fun h22 => absurd h22 (by omega)) (fun h22 => ?_)
      refine lv_aload_n hx hb dDA_makeSignature_107 rfl (lv_at hl 1 rfl) ?_
      refine lv_aload_n hx hb dDA_makeSignature_108 rfl (lv_at hl 2 rfl) ?_
      refine lv_aload_n hx hb dDA_makeSignature_109 rfl (lv_at hl 2 rfl) ?_
      refine nw_get (C := "LatticeKeys$DsaSet") (TT := T_DS) (N := 17) hx hb hts (wg_ft i_DS) hown hK hO k_st (kn := 9) (ci := 2) (fl := [(1, 4), (1, 4), (1, 2), (1, 3), (1, 39), (1, 32), (1, 18), (1, 131072), (1, 44), (1, 6), (1, 95232), (1, 80), (1, 78), (1, 1312), (1, 2560), (1, 2336), (1, 2420)]) rfl hP rfl 1 (by decide) (hts _ (wg_t kw_305)) (fun _ h9 => h9) (cd := (1, 4)) rfl dDA_makeSignature_110 (fun v30 hv30 => ?_)
      obtain rfl := (show v30 = .int (nI 4) from hv30)
      refine lv_iload hx hb dDA_makeSignature_113 (lv_at hl 0 rfl) ?_
      refine lv_iconst (v := nI 1) hx hb dDA_makeSignature_115 (by decide) ?_
      refine mi_isub hx hb dDA_makeSignature_116 (by omega) ?_
      refine mi_imul hx hb dDA_makeSignature_117 ?_
      refine mp_v (cx := []) (wr := []) hP hD hS hA [] [] rfl rfl rfl (by decide) (va_runV (As := [.ref st, .int (nI (4 * (i21 - 1)))]) (rest := []) F (N_DA_commit_0 l g _ T s30 pl hO hU h0 st (nI (4 * (i21 - 1))) k_h0 k_st) (cwV 2 hts (wg_app (wg_c kw_1192 (wg_c kw_1194 (wg_c ks_37 (wg_c kw_5 wg_n)))) kw_1195) rfl rfl rfl (by decide +kernel) ⟨by decide, by decide⟩) (pn_W "LatticeKeys$Dsa" (en_ok g) (ci := 6) (kn := 39) (fl := [(3, 16), (3, 22), (3, 37), (3, 40), (3, 97), (3, 105), (3, 114), (3, 123), (3, 131), (3, 140), (3, 141), (3, 142), (3, 143), (3, 144), (3, 145), (3, 146), (3, 147)]) hK hO k_h0 rfl hP hD hS hA hE [] rfl rfl rfl) rfl rfl hl.1 rfl (lv_room (Nat.le_of_ble_eq_true rfl)) dDA_makeSignature_118 ⟨by omega, by omega⟩) (fun  u29 H locs hu29 hP hD hS => ?_)
      obtain ⟨s31, pl⟩ := u29
      obtain ⟨⟨eq29, hFc29, -⟩, hO⟩ := hu29
      have hO : okn g T s31 pl := hO
      have hP : va_P g.1 vcl ([] ++ pl) _ := hP
      have hD : va_D _ ([] ++ pl) := hD
      have hFc29 : frm (M_DA_commit_0) s30 s31 := hFc29
      replace hR := bnd_step hR eq29
      have hF := frm_tr hF hFc29 (fun k hk => by unfold M_DA_commit_0 at hk; unfold M_DA_makeSignature_0; omega)
      refine W.widen (k := 0) (n := 0) (by omega) (by omega) ?_
      refine lv_aload_n hx hb dDA_makeSignature_121 rfl (lv_at hl 1 rfl) ?_
      refine lv_aload_n hx hb dDA_makeSignature_122 rfl (lv_at hl 2 rfl) ?_
      refine mp_i (cx := []) (wr := []) hP hD hS hA [] [] rfl rfl rfl (by decide) (va_runV (As := [.ref st]) (rest := []) F (N_DA_answerIsShort_0 l g _ T s31 pl hO hU h0 st k_h0 k_st) (cwV 1 hts (wg_app (wg_c kw_1220 (wg_c kw_1222 (wg_c ks_40 (wg_c kw_5 wg_n)))) kw_1223) rfl rfl rfl (by decide +kernel) ⟨by decide, by decide⟩) (pn_W "LatticeKeys$Dsa" (en_ok g) (ci := 6) (kn := 39) (fl := [(3, 16), (3, 22), (3, 37), (3, 40), (3, 97), (3, 105), (3, 114), (3, 123), (3, 131), (3, 140), (3, 141), (3, 142), (3, 143), (3, 144), (3, 145), (3, 146), (3, 147)]) hK hO k_h0 rfl hP hD hS hA hE [] rfl rfl rfl) rfl rfl hl.1 rfl (lv_room (Nat.le_of_ble_eq_true rfl)) dDA_makeSignature_123 ⟨by omega, by omega⟩) (fun r30 u30 H locs hu30 hP hD hS => ?_)
      obtain ⟨q21, pl⟩ := u30
      obtain ⟨⟨eq30, rfl, hFc30, -⟩, hO⟩ := hu30
      have hO : okn g T q21.2 pl := hO
      have hP : va_P g.1 vcl ([] ++ pl) _ := hP
      have hD : va_D _ ([] ++ pl) := hD
      have hFc30 : frm (M_DA_answerIsShort_0) s31 q21.2 := hFc30
      replace hR := bnd_step hR eq30
      have hF := frm_tr hF hFc30 (fun k hk => by unfold M_DA_answerIsShort_0 at hk; unfold M_DA_makeSignature_0; omega)
      refine W.widen (k := 0) (n := 0) (by omega) (by omega) ?_
      refine lv_if_eq (tgt := 155) hx hb dDA_makeSignature_126 (by decide) (fun h23 => ?_) (fun h23 => ?_)
      · replace hR := hR.trans (if_pos h23)
        refine mi_iinc (k := 0) (x := i21) (d := 1) (y := i21 + 1) (lv' := [(7, .int (nI (i21 + 1))), (0, .ref h0), (1, .ref st), (6, .ref to)]) hx hb dDA_makeSignature_155 hl rfl (by decide) rfl (by decide) rfl (fun ls hl => ?_)
        refine lv_goto (tgt := 99) hx hb dDA_makeSignature_158 (by decide) ?_
        exact ih21 (i21 + 1) q21.2 pl ls H locs (by omega) (by omega) hF hR (lv_sub hl [0, 1, 2, 3] rfl) hO hP hD hS
      · replace hR := hR.trans (if_neg h23)
        refine lv_aload_n hx hb dDA_makeSignature_129 rfl (lv_at hl 1 rfl) ?_
        refine lv_aload_n hx hb dDA_makeSignature_130 rfl (lv_at hl 2 rfl) ?_
        refine mp_i (cx := []) (wr := []) hP hD hS hA [] [] rfl rfl rfl (by decide) (va_runV (As := [.ref st]) (rest := []) F (N_DA_restIsShort_0 l g _ T q21.2 pl hO hU h0 st k_h0 k_st) (cwV 1 hts (wg_app (wg_c kw_1232 (wg_c kw_1234 (wg_c ks_42 (wg_c kw_5 wg_n)))) kw_1235) rfl rfl rfl (by decide +kernel) ⟨by decide, by decide⟩) (pn_W "LatticeKeys$Dsa" (en_ok g) (ci := 6) (kn := 39) (fl := [(3, 16), (3, 22), (3, 37), (3, 40), (3, 97), (3, 105), (3, 114), (3, 123), (3, 131), (3, 140), (3, 141), (3, 142), (3, 143), (3, 144), (3, 145), (3, 146), (3, 147)]) hK hO k_h0 rfl hP hD hS hA hE [] rfl rfl rfl) rfl rfl hl.1 rfl (lv_room (Nat.le_of_ble_eq_true rfl)) dDA_makeSignature_131 ⟨by omega, by omega⟩) (fun r31 u31 H locs hu31 hP hD hS => ?_)
        obtain ⟨q22, pl⟩ := u31
        obtain ⟨⟨eq31, rfl, hFc31, -⟩, hO⟩ := hu31
        have hO : okn g T q22.2 pl := hO
        have hP : va_P g.1 vcl ([] ++ pl) _ := hP
        have hD : va_D _ ([] ++ pl) := hD
        have hFc31 : frm (M_DA_restIsShort_0) q21.2 q22.2 := hFc31
        replace hR := bnd_step hR eq31
        have hF := frm_tr hF hFc31 (fun k hk => by unfold M_DA_restIsShort_0 at hk; unfold M_DA_makeSignature_0; omega)
        refine W.widen (k := 0) (n := 0) (by omega) (by omega) ?_
        refine lv_if_eq (tgt := 155) hx hb dDA_makeSignature_134 (by decide) (fun h24 => ?_) (fun h24 => ?_)
        · replace hR := hR.trans (if_pos h24)
          refine mi_iinc (k := 0) (x := i21) (d := 1) (y := i21 + 1) (lv' := [(7, .int (nI (i21 + 1))), (0, .ref h0), (1, .ref st), (6, .ref to)]) hx hb dDA_makeSignature_155 hl rfl (by decide) rfl (by decide) rfl (fun ls hl => ?_)
          refine lv_goto (tgt := 99) hx hb dDA_makeSignature_158 (by decide) ?_
          exact ih21 (i21 + 1) q22.2 pl ls H locs (by omega) (by omega) hF hR (lv_sub hl [0, 1, 2, 3] rfl) hO hP hD hS
        · replace hR := hR.trans (if_neg h24)
          refine lv_aload_n hx hb dDA_makeSignature_137 rfl (lv_at hl 1 rfl) ?_
          refine lv_aload_n hx hb dDA_makeSignature_138 rfl (lv_at hl 2 rfl) ?_
          refine mp_i (cx := []) (wr := []) hP hD hS hA [] [] rfl rfl rfl (by decide) (va_runV (As := [.ref st]) (rest := []) F (N_DA_makeHints_0 l g _ T q22.2 pl hO hU h0 st k_h0 k_st) (cwV 1 hts (wg_app (wg_c kw_1241 (wg_c kw_1243 (wg_c ks_43 (wg_c kw_5 wg_n)))) kw_1244) rfl rfl rfl (by decide +kernel) ⟨by decide, by decide⟩) (pn_W "LatticeKeys$Dsa" (en_ok g) (ci := 6) (kn := 39) (fl := [(3, 16), (3, 22), (3, 37), (3, 40), (3, 97), (3, 105), (3, 114), (3, 123), (3, 131), (3, 140), (3, 141), (3, 142), (3, 143), (3, 144), (3, 145), (3, 146), (3, 147)]) hK hO k_h0 rfl hP hD hS hA hE [] rfl rfl rfl) rfl rfl hl.1 rfl (lv_room (Nat.le_of_ble_eq_true rfl)) dDA_makeSignature_139 ⟨by omega, by omega⟩) (fun r32 u32 H locs hu32 hP hD hS => ?_)
          obtain ⟨q23, pl⟩ := u32
          obtain ⟨⟨eq32, rfl, hFc32, -⟩, hO⟩ := hu32
          have hO : okn g T q23.2 pl := hO
          have hP : va_P g.1 vcl ([] ++ pl) _ := hP
          have hD : va_D _ ([] ++ pl) := hD
          have hFc32 : frm (M_DA_makeHints_0) q22.2 q23.2 := hFc32
          replace hR := bnd_step hR eq32
          have hF := frm_tr hF hFc32 (fun k hk => by unfold M_DA_makeHints_0 at hk; unfold M_DA_makeSignature_0; omega)
          refine W.widen (k := 0) (n := 0) (by omega) (by omega) ?_
          refine lv_if_eq (tgt := 155) hx hb dDA_makeSignature_142 (by decide) (fun h25 => ?_) (fun h25 => ?_)
          · replace hR := hR.trans (if_pos h25)
            refine mi_iinc (k := 0) (x := i21) (d := 1) (y := i21 + 1) (lv' := [(7, .int (nI (i21 + 1))), (0, .ref h0), (1, .ref st), (6, .ref to)]) hx hb dDA_makeSignature_155 hl rfl (by decide) rfl (by decide) rfl (fun ls hl => ?_)
            refine lv_goto (tgt := 99) hx hb dDA_makeSignature_158 (by decide) ?_
            exact ih21 (i21 + 1) q23.2 pl ls H locs (by omega) (by omega) hF hR (lv_sub hl [0, 1, 2, 3] rfl) hO hP hD hS
          · replace hR := hR.trans (if_neg h25)
            refine lv_aload_n hx hb dDA_makeSignature_145 rfl (lv_at hl 1 rfl) ?_
            refine lv_aload_n hx hb dDA_makeSignature_146 rfl (lv_at hl 2 rfl) ?_
            refine lv_aload hx hb dDA_makeSignature_147 (lv_at hl 3 rfl) ?_
            refine mp_v (cx := []) (wr := []) hP hD hS hA [] [] rfl rfl rfl (by decide) (va_runV (As := [.ref st, .ref to]) (rest := []) F (N_DA_writeSignature_0 l g _ T q23.2 pl hO hU h0 st to pt k_h0 k_st k_to n_to) (cwV 2 hts (wg_app (wg_c kw_1248 (wg_c kw_1250 (wg_c ks_44 (wg_c kw_5 wg_n)))) kw_1251) rfl rfl rfl (by decide +kernel) ⟨by decide, by decide⟩) (pn_W "LatticeKeys$Dsa" (en_ok g) (ci := 6) (kn := 39) (fl := [(3, 16), (3, 22), (3, 37), (3, 40), (3, 97), (3, 105), (3, 114), (3, 123), (3, 131), (3, 140), (3, 141), (3, 142), (3, 143), (3, 144), (3, 145), (3, 146), (3, 147)]) hK hO k_h0 rfl hP hD hS hA hE [] rfl rfl rfl) rfl rfl hl.1 rfl (lv_room (Nat.le_of_ble_eq_true rfl)) dDA_makeSignature_149 ⟨by omega, by omega⟩) (fun  u33 H locs hu33 hP hD hS => ?_)
            obtain ⟨s32, pl⟩ := u33
            obtain ⟨⟨eq33, hFc33, -⟩, hO⟩ := hu33
            have hO : okn g T s32 pl := hO
            have hP : va_P g.1 vcl ([] ++ pl) _ := hP
            have hD : va_D _ ([] ++ pl) := hD
            have hFc33 : frm (M_DA_writeSignature_0 pt) q23.2 s32 := hFc33
            replace hR := bnd_step hR eq33
            have hF := frm_tr hF hFc33 (fun k hk => by unfold M_DA_writeSignature_0 at hk; unfold M_DA_makeSignature_0; omega)
            refine W.widen (k := 0) (n := 0) (by omega) (by omega) ?_
            refine lv_iload hx hb dDA_makeSignature_152 (lv_at hl 0 rfl) ?_
            exact mp_iret hx hb hr hlk hP hD hS ((nI i21, s32), pl) ⟨⟨hR.symm, rfl, hF, trivial⟩, hO⟩ [] rfl rfl rfl (by omega) (by omega) dDA_makeSignature_154
  exact lp21 (201 - 1) 1 s29 pl ls _ _ (by omega) (by omega) hF hR (lv_sub hl [0, 1, 2, 7] rfl) hO hP hD hS
def M_DA_makeSignature_1 (pt : Nat) (k : Nat) : Prop := (106 ≤ k ∧ k < 114) ∨ (115 ≤ k ∧ k < 123) ∨ (124 ≤ k ∧ k < 131) ∨ (132 ≤ k ∧ k < 140) ∨ (41 ≤ k ∧ k < 97) ∨ (98 ≤ k ∧ k < 105) ∨ k = 140 ∨ k = 141 ∨ k = 142 ∨ k = 143 ∨ k = 144 ∨ k = 146 ∨ k = 147 ∨ k = 16 ∨ k = 18 ∨ k = 38 ∨ k = pt ∨ (0 : Nat) = 1
noncomputable def F_DA_makeSignature_1_L0 (pt : Nat) : Nat → Nat → Sto → Int32 × Sto
  | 0, i21, s30 => (nI 0, s30)
  | n21 + 1, i21, s30 => bnd (F_DA_commit_1 (nI (5 * (i21 - 1))) s30) fun s31 => bnd (F_DA_answerIsShort_1  s31) fun q21 => if (q21.1) = 0 then F_DA_makeSignature_1_L0 pt n21 (i21 + 1) q21.2 else bnd (F_DA_restIsShort_1  q21.2) fun q22 => if (q22.1) = 0 then F_DA_makeSignature_1_L0 pt n21 (i21 + 1) q22.2 else bnd (F_DA_makeHints_1  q22.2) fun q23 => if (q23.1) = 0 then F_DA_makeSignature_1_L0 pt n21 (i21 + 1) q23.2 else bnd (F_DA_writeSignature_1 pt q23.2) fun s32 => (nI i21, s32)
noncomputable def F_DA_makeSignature_1 (psk : Nat) (ptp : Nat) (n : Nat) (len : Nat) (cl_ : Int32) (pt : Nat) (s : Sto) : Int32 × Sto := bnd (F_DA_readSecret_1 psk s) fun s21 => bnd (sC s21 psk 143 64 0 64) fun s22 => bnd (F_DA_digestMessage ptp n 32 len cl_ s22) fun s23 => bnd (F_SP_start_3 16 17 s23) fun s24 => bnd (F_SP_absorb 16 17 psk 4032 32 32 s24) fun s25 => bnd (F_SP_absorb 16 17 ptp n 0 32 s25) fun s26 => bnd (F_SP_absorb 16 17 143 64 0 64 s26) fun s27 => bnd (F_SP_finish 16 17 s27) fun s28 => bnd (F_SP_squeeze 16 17 142 128 0 64 s28) fun s29 => F_DA_makeSignature_1_L0 pt (201 - 1) 1 s29
set_option maxHeartbeats 8000000 in
set_option maxRecDepth 100000 in
theorem N_DA_makeSignature_1 (l : Launch) (g : Gd) (sz : Nat) (T : TyN) (s : Sto) (pl : va_W) (hO : okn g T s pl) (hU : inj T) (h0 st sk tp to : Nat) (psk : Nat) (ptp : Nat) (n : Nat) (len : Nat) (cl_ : Int32) (pt : Nat) (k_h0 : T h0 = some 39) (k_st : T st = some 10) (k_sk : T sk = some psk) (n_sk : nsp psk = (1, 4032, [])) (k_tp : T tp = some ptp) (n_tp : nsp ptp = (1, n, [])) (k_to : T to = some pt) (n_to : nsp pt = (1, 8192, [])) (h1 : 32 ≤ len) (h3 : len ≤ n) (h2 : n < 65536)  : Met l y_DA_makeSignature w_DA_makeSignature ({ frames := 6, cells := 0, slots := 0, locals := 176 } : Room) (va_Pc [.ref h0, .ref st, .ref sk, .ref tp, .int (nI len), .int cl_, .ref to] (pr (en g) g.1 vcl sz ([] ++ pl))) (va_Qi (fun (r : Int32) (u : (Int32 × Sto) × va_W) => (u.1 = F_DA_makeSignature_1 psk ptp n len cl_ pt s ∧ r = u.1.1 ∧ frm (M_DA_makeSignature_1 pt) s u.1.2 ∧ True) ∧ okn g T u.1.2 u.2) (po g.1 vcl (va_A ([] ++ pl) sz) (fun (u : (Int32 × Sto) × va_W) => [] ++ u.2)) (va_A ([] ++ pl) sz)) 0 0 (va_A ([] ++ pl) sz) := by
  refine mc_entry (cc := c_DA_makeSignature) (maxL := 8) (ret := (some .int)) (by decide) rfl (Nat.le_of_ble_eq_true rfl) ?_
  intro p e s0 m args below meth c ls F hr hlk hnm hsz hP hD hE hA hl
  obtain ⟨hx, hb, hml, hown, hts⟩ := id F
  have hK := hE.1
  generalize va_A ([] ++ pl) sz = A at hD hE hA ⊢
  have hS : va_S A s0.heap s0.heap [] := va_S.rf
  have hl : lv_has ls 8 [(0, .ref h0), (1, .ref st), (2, .ref sk), (3, .ref tp), (4, .int (nI len)), (5, .int cl_), (6, .ref to)] := hl
  have hR : F_DA_makeSignature_1 psk ptp n len cl_ pt s = F_DA_makeSignature_1 psk ptp n len cl_ pt s := rfl
  have hF : frm (M_DA_makeSignature_1 pt) s s := frm_rf
  refine lv_aload_n hx hb dDA_makeSignature_0 rfl (lv_at hl 0 rfl) ?_
  refine lv_aload_n hx hb dDA_makeSignature_1 rfl (lv_at hl 1 rfl) ?_
  refine lv_aload_n hx hb dDA_makeSignature_2 rfl (lv_at hl 2 rfl) ?_
  refine mp_v (cx := []) (wr := []) hP hD hS hA [] [] rfl rfl rfl (by decide) (va_runV (As := [.ref st, .ref sk]) (rest := []) F (N_DA_readSecret_1 l g _ T s pl hO hU h0 st sk psk k_h0 k_st k_sk n_sk) (cwV 2 hts (wg_app (wg_c kw_1179 (wg_c kw_1181 (wg_c ks_34 (wg_c kw_5 wg_n)))) kw_1182) rfl rfl rfl (by decide +kernel) ⟨by decide, by decide⟩) (pn_W "LatticeKeys$Dsa" (en_ok g) (ci := 6) (kn := 39) (fl := [(3, 16), (3, 22), (3, 37), (3, 40), (3, 97), (3, 105), (3, 114), (3, 123), (3, 131), (3, 140), (3, 141), (3, 142), (3, 143), (3, 144), (3, 145), (3, 146), (3, 147)]) hK hO k_h0 rfl hP hD hS hA hE [] rfl rfl rfl) rfl rfl hl.1 rfl (lv_room (Nat.le_of_ble_eq_true rfl)) dDA_makeSignature_3 ⟨by omega, by omega⟩) (fun  u21 H locs hu21 hP hD hS => ?_)
  obtain ⟨s21, pl⟩ := u21
  obtain ⟨⟨eq21, hFc21, -⟩, hO⟩ := hu21
  have hO : okn g T s21 pl := hO
  have hP : va_P g.1 vcl ([] ++ pl) _ := hP
  have hD : va_D _ ([] ++ pl) := hD
  have hFc21 : frm (M_DA_readSecret_1) s s21 := hFc21
  replace hR := bnd_step hR eq21
  have hF := frm_tr hF hFc21 (fun k hk => by unfold M_DA_readSecret_1 at hk; unfold M_DA_makeSignature_1; omega)
  refine W.widen (k := 0) (n := 0) (by omega) (by omega) ?_
  refine lv_aload_n hx hb dDA_makeSignature_6 rfl (lv_at hl 2 rfl) ?_
  refine lv_bipush (v := nI 64) hx hb dDA_makeSignature_7 (by decide) ?_
  refine lv_aload_n hx hb dDA_makeSignature_9 rfl (lv_at hl 0 rfl) ?_
  refine nw_get (C := "LatticeKeys$Dsa") (TT := T_DA) (N := 17) hx hb hts (wg_ft i_DA) hown hK hO k_h0 (kn := 39) (ci := 6) (fl := [(3, 16), (3, 22), (3, 37), (3, 40), (3, 97), (3, 105), (3, 114), (3, 123), (3, 131), (3, 140), (3, 141), (3, 142), (3, 143), (3, 144), (3, 145), (3, 146), (3, 147)]) rfl hP rfl 12 (by decide) (hts _ (wg_t kw_177)) (fun _ h9 => h9) (cd := (3, 143)) rfl dDA_makeSignature_10 (fun v21 hv21 => ?_)
  obtain ⟨r21, rfl, kr21⟩ := (show ∃ r : Nat, v21 = .ref r ∧ T r = some 143 from hv21)
  refine lv_iconst (v := nI 0) hx hb dDA_makeSignature_13 (by decide) ?_
  refine lv_bipush (v := nI 64) hx hb dDA_makeSignature_14 (by decide) ?_
  refine nw_copyb hx hb (hml.trans hl.1.symm) hown (hts _ (wg_t kw_674)) (hts _ (wg_t kw_526)) (hts _ (wg_t kw_525)) (hts _ (wg_t kw_19)) hK hO hU k_sk (k0 := psk) n_sk kr21 (k1 := 143) rfl hP hD hS (sp := 64) (dp := 0) (n := 64) (by omega) (by omega) (by omega) (by decide) (Nat.le_of_ble_eq_true rfl) dDA_makeSignature_16 (fun s22 pl H locs es21 hO hP hD hS => ?_)
  replace hR := bnd_step hR es21
  have hF := frm_sC hF es21 (by unfold M_DA_makeSignature_1; omega)
  refine lv_aload_n hx hb dDA_makeSignature_19 rfl (lv_at hl 0 rfl) ?_
  refine lv_aload_n hx hb dDA_makeSignature_20 rfl (lv_at hl 3 rfl) ?_
  refine lv_bipush (v := nI 32) hx hb dDA_makeSignature_21 (by decide) ?_
  refine lv_iload hx hb dDA_makeSignature_23 (lv_at hl 4 rfl) ?_
  refine lv_iload hx hb dDA_makeSignature_25 (lv_at hl 5 rfl) ?_
  refine mp_v (cx := []) (wr := []) hP hD hS hA [] [] rfl rfl rfl (by decide) (va_runV (As := [.ref tp, .int (nI 32), .int (nI len), .int cl_]) (rest := []) F (N_DA_digestMessage l g _ T s22 pl hO hU h0 tp ptp n 32 len cl_ k_h0 k_tp n_tp (by omega) (by omega) (by omega)) (cwV 4 hts (wg_app (wg_c kw_1188 (wg_c kw_1190 (wg_c ks_36 (wg_c kw_5 wg_n)))) kw_1191) rfl rfl rfl (by decide +kernel) ⟨by decide, by decide⟩) (pn_W "LatticeKeys$Dsa" (en_ok g) (ci := 6) (kn := 39) (fl := [(3, 16), (3, 22), (3, 37), (3, 40), (3, 97), (3, 105), (3, 114), (3, 123), (3, 131), (3, 140), (3, 141), (3, 142), (3, 143), (3, 144), (3, 145), (3, 146), (3, 147)]) hK hO k_h0 rfl hP hD hS hA hE [] rfl rfl rfl) rfl rfl hl.1 rfl (lv_room (Nat.le_of_ble_eq_true rfl)) dDA_makeSignature_27 ⟨by omega, by omega⟩) (fun  u22 H locs hu22 hP hD hS => ?_)
  obtain ⟨s23, pl⟩ := u22
  obtain ⟨⟨eq22, hFc22, -⟩, hO⟩ := hu22
  have hO : okn g T s23 pl := hO
  have hP : va_P g.1 vcl ([] ++ pl) _ := hP
  have hD : va_D _ ([] ++ pl) := hD
  have hFc22 : frm (M_DA_digestMessage) s22 s23 := hFc22
  replace hR := bnd_step hR eq22
  have hF := frm_tr hF hFc22 (fun k hk => by unfold M_DA_digestMessage at hk; unfold M_DA_makeSignature_1; omega)
  refine W.widen (k := 0) (n := 0) (by omega) (by omega) ?_
  refine lv_aload_n hx hb dDA_makeSignature_30 rfl (lv_at hl 0 rfl) ?_
  refine nw_get (C := "LatticeKeys$Dsa") (TT := T_DA) (N := 17) hx hb hts (wg_ft i_DA) hown hK hO k_h0 (kn := 39) (ci := 6) (fl := [(3, 16), (3, 22), (3, 37), (3, 40), (3, 97), (3, 105), (3, 114), (3, 123), (3, 131), (3, 140), (3, 141), (3, 142), (3, 143), (3, 144), (3, 145), (3, 146), (3, 147)]) rfl hP rfl 0 (by decide) (hts _ (wg_t kw_165)) (fun _ h9 => h9) (cd := (3, 16)) rfl dDA_makeSignature_31 (fun v22 hv22 => ?_)
  obtain ⟨r22, rfl, kr22⟩ := (show ∃ r : Nat, v22 = .ref r ∧ T r = some 16 from hv22)
  refine lv_iconst (v := nI 3) hx hb dDA_makeSignature_34 (by decide) ?_
  refine mp_v (cx := []) (wr := []) hP hD hS hA [] [] rfl rfl rfl (by decide) (va_runV (As := [.int (nI 3)]) (rest := []) F (N_SP_start_3 l g _ T s23 pl hO hU r22 16 17 kr22 rfl rfl) (cwV 1 hts (wg_app (wg_c kw_669 (wg_c kw_579 (wg_c kw_580 (wg_c kw_2 wg_n)))) kw_581) rfl rfl rfl (by decide +kernel) ⟨by decide, by decide⟩) (pn_W "LatticeKeys$Sponge" (en_ok g) (ci := 3) (kn := 16) (fl := [(3, 17), (0, 0), (0, 0), (0, 0)]) hK hO kr22 rfl hP hD hS hA hE [] rfl rfl rfl) rfl rfl hl.1 rfl (lv_room (Nat.le_of_ble_eq_true rfl)) dDA_makeSignature_35 ⟨by omega, by omega⟩) (fun  u23 H locs hu23 hP hD hS => ?_)
  obtain ⟨s24, pl⟩ := u23
  obtain ⟨⟨eq23, hFc23, ⟨x23, hx_23, hb_23⟩, ⟨x24, hx_24, hb_24⟩, -⟩, hO⟩ := hu23
  have hO : okn g T s24 pl := hO
  have hP : va_P g.1 vcl ([] ++ pl) _ := hP
  have hD : va_D _ ([] ++ pl) := hD
  have hFc23 : frm (M_SP_start_3 16) s23 s24 := hFc23
  have hb_23 : x23 = 0 := hb_23
  have hb_24 : x24 = 136 := hb_24
  replace hR := bnd_step hR eq23
  have hF := frm_tr hF hFc23 (fun k hk => by unfold M_SP_start_3 at hk; unfold M_DA_makeSignature_1; omega)
  refine W.widen (k := 0) (n := 0) (by omega) (by omega) ?_
  refine lv_aload_n hx hb dDA_makeSignature_38 rfl (lv_at hl 0 rfl) ?_
  refine nw_get (C := "LatticeKeys$Dsa") (TT := T_DA) (N := 17) hx hb hts (wg_ft i_DA) hown hK hO k_h0 (kn := 39) (ci := 6) (fl := [(3, 16), (3, 22), (3, 37), (3, 40), (3, 97), (3, 105), (3, 114), (3, 123), (3, 131), (3, 140), (3, 141), (3, 142), (3, 143), (3, 144), (3, 145), (3, 146), (3, 147)]) rfl hP rfl 0 (by decide) (hts _ (wg_t kw_165)) (fun _ h9 => h9) (cd := (3, 16)) rfl dDA_makeSignature_39 (fun v23 hv23 => ?_)
  obtain ⟨r23, rfl, kr23⟩ := (show ∃ r : Nat, v23 = .ref r ∧ T r = some 16 from hv23)
  refine lv_aload_n hx hb dDA_makeSignature_42 rfl (lv_at hl 2 rfl) ?_
  refine lv_bipush (v := nI 32) hx hb dDA_makeSignature_43 (by decide) ?_
  refine lv_bipush (v := nI 32) hx hb dDA_makeSignature_45 (by decide) ?_
  refine mp_v (cx := []) (wr := []) hP hD hS hA [] [] rfl rfl rfl (by decide) (va_runV (As := [.ref sk, .int (nI 32), .int (nI 32)]) (rest := []) F (N_SP_absorb l g _ T s24 pl hO hU r23 sk 16 17 psk 4032 32 32 x23 x24 kr23 rfl rfl k_sk n_sk hx_23 hx_24 (by omega) (by omega) (by omega) (by omega)) (cwV 3 hts (wg_app (wg_c kw_670 (wg_c kw_586 (wg_c kw_587 (wg_c kw_2 wg_n)))) kw_588) rfl rfl rfl (by decide +kernel) ⟨by decide, by decide⟩) (pn_W "LatticeKeys$Sponge" (en_ok g) (ci := 3) (kn := 16) (fl := [(3, 17), (0, 0), (0, 0), (0, 0)]) hK hO kr23 rfl hP hD hS hA hE [] rfl rfl rfl) rfl rfl hl.1 rfl (lv_room (Nat.le_of_ble_eq_true rfl)) dDA_makeSignature_47 ⟨by omega, by omega⟩) (fun  u24 H locs hu24 hP hD hS => ?_)
  obtain ⟨s25, pl⟩ := u24
  obtain ⟨⟨eq24, hFc24, ⟨x26, hx_26, hb_26⟩, ⟨x27, hx_27, hb_27⟩, -⟩, hO⟩ := hu24
  have hO : okn g T s25 pl := hO
  have hP : va_P g.1 vcl ([] ++ pl) _ := hP
  have hD : va_D _ ([] ++ pl) := hD
  have hFc24 : frm (M_SP_absorb 16) s24 s25 := hFc24
  have hb_26 : x26 < x24 := hb_26
  have hb_27 : x27 = x24 := hb_27
  replace hR := bnd_step hR eq24
  have hF := frm_tr hF hFc24 (fun k hk => by unfold M_SP_absorb at hk; unfold M_DA_makeSignature_1; omega)
  refine W.widen (k := 0) (n := 0) (by omega) (by omega) ?_
  refine lv_aload_n hx hb dDA_makeSignature_50 rfl (lv_at hl 0 rfl) ?_
  refine nw_get (C := "LatticeKeys$Dsa") (TT := T_DA) (N := 17) hx hb hts (wg_ft i_DA) hown hK hO k_h0 (kn := 39) (ci := 6) (fl := [(3, 16), (3, 22), (3, 37), (3, 40), (3, 97), (3, 105), (3, 114), (3, 123), (3, 131), (3, 140), (3, 141), (3, 142), (3, 143), (3, 144), (3, 145), (3, 146), (3, 147)]) rfl hP rfl 0 (by decide) (hts _ (wg_t kw_165)) (fun _ h9 => h9) (cd := (3, 16)) rfl dDA_makeSignature_51 (fun v24 hv24 => ?_)
  obtain ⟨r24, rfl, kr24⟩ := (show ∃ r : Nat, v24 = .ref r ∧ T r = some 16 from hv24)
  refine lv_aload_n hx hb dDA_makeSignature_54 rfl (lv_at hl 3 rfl) ?_
  refine lv_iconst (v := nI 0) hx hb dDA_makeSignature_55 (by decide) ?_
  refine lv_bipush (v := nI 32) hx hb dDA_makeSignature_56 (by decide) ?_
  refine mp_v (cx := []) (wr := []) hP hD hS hA [] [] rfl rfl rfl (by decide) (va_runV (As := [.ref tp, .int (nI 0), .int (nI 32)]) (rest := []) F (N_SP_absorb l g _ T s25 pl hO hU r24 tp 16 17 ptp n 0 32 x26 x27 kr24 rfl rfl k_tp n_tp hx_26 hx_27 (by omega) (by omega) (by omega) (by omega)) (cwV 3 hts (wg_app (wg_c kw_670 (wg_c kw_586 (wg_c kw_587 (wg_c kw_2 wg_n)))) kw_588) rfl rfl rfl (by decide +kernel) ⟨by decide, by decide⟩) (pn_W "LatticeKeys$Sponge" (en_ok g) (ci := 3) (kn := 16) (fl := [(3, 17), (0, 0), (0, 0), (0, 0)]) hK hO kr24 rfl hP hD hS hA hE [] rfl rfl rfl) rfl rfl hl.1 rfl (lv_room (Nat.le_of_ble_eq_true rfl)) dDA_makeSignature_58 ⟨by omega, by omega⟩) (fun  u25 H locs hu25 hP hD hS => ?_)
  obtain ⟨s26, pl⟩ := u25
  obtain ⟨⟨eq25, hFc25, ⟨x29, hx_29, hb_29⟩, ⟨x30, hx_30, hb_30⟩, -⟩, hO⟩ := hu25
  have hO : okn g T s26 pl := hO
  have hP : va_P g.1 vcl ([] ++ pl) _ := hP
  have hD : va_D _ ([] ++ pl) := hD
  have hFc25 : frm (M_SP_absorb 16) s25 s26 := hFc25
  have hb_29 : x29 < x27 := hb_29
  have hb_30 : x30 = x27 := hb_30
  replace hR := bnd_step hR eq25
  have hF := frm_tr hF hFc25 (fun k hk => by unfold M_SP_absorb at hk; unfold M_DA_makeSignature_1; omega)
  refine W.widen (k := 0) (n := 0) (by omega) (by omega) ?_
  refine lv_aload_n hx hb dDA_makeSignature_61 rfl (lv_at hl 0 rfl) ?_
  refine nw_get (C := "LatticeKeys$Dsa") (TT := T_DA) (N := 17) hx hb hts (wg_ft i_DA) hown hK hO k_h0 (kn := 39) (ci := 6) (fl := [(3, 16), (3, 22), (3, 37), (3, 40), (3, 97), (3, 105), (3, 114), (3, 123), (3, 131), (3, 140), (3, 141), (3, 142), (3, 143), (3, 144), (3, 145), (3, 146), (3, 147)]) rfl hP rfl 0 (by decide) (hts _ (wg_t kw_165)) (fun _ h9 => h9) (cd := (3, 16)) rfl dDA_makeSignature_62 (fun v25 hv25 => ?_)
  obtain ⟨r25, rfl, kr25⟩ := (show ∃ r : Nat, v25 = .ref r ∧ T r = some 16 from hv25)
  refine lv_aload_n hx hb dDA_makeSignature_65 rfl (lv_at hl 0 rfl) ?_
  refine nw_get (C := "LatticeKeys$Dsa") (TT := T_DA) (N := 17) hx hb hts (wg_ft i_DA) hown hK hO k_h0 (kn := 39) (ci := 6) (fl := [(3, 16), (3, 22), (3, 37), (3, 40), (3, 97), (3, 105), (3, 114), (3, 123), (3, 131), (3, 140), (3, 141), (3, 142), (3, 143), (3, 144), (3, 145), (3, 146), (3, 147)]) rfl hP rfl 12 (by decide) (hts _ (wg_t kw_177)) (fun _ h9 => h9) (cd := (3, 143)) rfl dDA_makeSignature_66 (fun v26 hv26 => ?_)
  obtain ⟨r26, rfl, kr26⟩ := (show ∃ r : Nat, v26 = .ref r ∧ T r = some 143 from hv26)
  refine lv_iconst (v := nI 0) hx hb dDA_makeSignature_69 (by decide) ?_
  refine lv_bipush (v := nI 64) hx hb dDA_makeSignature_70 (by decide) ?_
  refine mp_v (cx := []) (wr := []) hP hD hS hA [] [] rfl rfl rfl (by decide) (va_runV (As := [.ref r26, .int (nI 0), .int (nI 64)]) (rest := []) F (N_SP_absorb l g _ T s26 pl hO hU r25 r26 16 17 143 64 0 64 x29 x30 kr25 rfl rfl kr26 rfl hx_29 hx_30 (by omega) (by omega) (by omega) (by omega)) (cwV 3 hts (wg_app (wg_c kw_670 (wg_c kw_586 (wg_c kw_587 (wg_c kw_2 wg_n)))) kw_588) rfl rfl rfl (by decide +kernel) ⟨by decide, by decide⟩) (pn_W "LatticeKeys$Sponge" (en_ok g) (ci := 3) (kn := 16) (fl := [(3, 17), (0, 0), (0, 0), (0, 0)]) hK hO kr25 rfl hP hD hS hA hE [] rfl rfl rfl) rfl rfl hl.1 rfl (lv_room (Nat.le_of_ble_eq_true rfl)) dDA_makeSignature_72 ⟨by omega, by omega⟩) (fun  u26 H locs hu26 hP hD hS => ?_)
  obtain ⟨s27, pl⟩ := u26
  obtain ⟨⟨eq26, hFc26, ⟨x32, hx_32, hb_32⟩, ⟨x33, hx_33, hb_33⟩, -⟩, hO⟩ := hu26
  have hO : okn g T s27 pl := hO
  have hP : va_P g.1 vcl ([] ++ pl) _ := hP
  have hD : va_D _ ([] ++ pl) := hD
  have hFc26 : frm (M_SP_absorb 16) s26 s27 := hFc26
  have hb_32 : x32 < x30 := hb_32
  have hb_33 : x33 = x30 := hb_33
  replace hR := bnd_step hR eq26
  have hF := frm_tr hF hFc26 (fun k hk => by unfold M_SP_absorb at hk; unfold M_DA_makeSignature_1; omega)
  refine W.widen (k := 0) (n := 0) (by omega) (by omega) ?_
  refine lv_aload_n hx hb dDA_makeSignature_75 rfl (lv_at hl 0 rfl) ?_
  refine nw_get (C := "LatticeKeys$Dsa") (TT := T_DA) (N := 17) hx hb hts (wg_ft i_DA) hown hK hO k_h0 (kn := 39) (ci := 6) (fl := [(3, 16), (3, 22), (3, 37), (3, 40), (3, 97), (3, 105), (3, 114), (3, 123), (3, 131), (3, 140), (3, 141), (3, 142), (3, 143), (3, 144), (3, 145), (3, 146), (3, 147)]) rfl hP rfl 0 (by decide) (hts _ (wg_t kw_165)) (fun _ h9 => h9) (cd := (3, 16)) rfl dDA_makeSignature_76 (fun v27 hv27 => ?_)
  obtain ⟨r27, rfl, kr27⟩ := (show ∃ r : Nat, v27 = .ref r ∧ T r = some 16 from hv27)
  refine mp_v (cx := []) (wr := []) hP hD hS hA [] [] rfl rfl rfl (by decide) (va_runV (As := []) (rest := []) F (N_SP_finish l g _ T s27 pl hO hU r27 16 17 x32 x33 kr27 rfl rfl hx_32 hx_33 (by omega) (by omega)) (cwV 0 hts (wg_app (wg_c kw_672 (wg_c kw_611 (wg_c kw_612 (wg_c kw_2 wg_n)))) kw_613) rfl rfl rfl (by decide +kernel) ⟨by decide, by decide⟩) (pn_W "LatticeKeys$Sponge" (en_ok g) (ci := 3) (kn := 16) (fl := [(3, 17), (0, 0), (0, 0), (0, 0)]) hK hO kr27 rfl hP hD hS hA hE [] rfl rfl rfl) rfl rfl hl.1 rfl (lv_room (Nat.le_of_ble_eq_true rfl)) dDA_makeSignature_79 ⟨by omega, by omega⟩) (fun  u27 H locs hu27 hP hD hS => ?_)
  obtain ⟨s28, pl⟩ := u27
  obtain ⟨⟨eq27, hFc27, ⟨x35, hx_35, hb_35⟩, ⟨x36, hx_36, hb_36⟩, -⟩, hO⟩ := hu27
  have hO : okn g T s28 pl := hO
  have hP : va_P g.1 vcl ([] ++ pl) _ := hP
  have hD : va_D _ ([] ++ pl) := hD
  have hFc27 : frm (M_SP_finish 16) s27 s28 := hFc27
  have hb_35 : x35 = x33 := hb_35
  have hb_36 : x36 = x33 := hb_36
  replace hR := bnd_step hR eq27
  have hF := frm_tr hF hFc27 (fun k hk => by unfold M_SP_finish at hk; unfold M_DA_makeSignature_1; omega)
  refine W.widen (k := 0) (n := 0) (by omega) (by omega) ?_
  refine lv_aload_n hx hb dDA_makeSignature_82 rfl (lv_at hl 0 rfl) ?_
  refine nw_get (C := "LatticeKeys$Dsa") (TT := T_DA) (N := 17) hx hb hts (wg_ft i_DA) hown hK hO k_h0 (kn := 39) (ci := 6) (fl := [(3, 16), (3, 22), (3, 37), (3, 40), (3, 97), (3, 105), (3, 114), (3, 123), (3, 131), (3, 140), (3, 141), (3, 142), (3, 143), (3, 144), (3, 145), (3, 146), (3, 147)]) rfl hP rfl 0 (by decide) (hts _ (wg_t kw_165)) (fun _ h9 => h9) (cd := (3, 16)) rfl dDA_makeSignature_83 (fun v28 hv28 => ?_)
  obtain ⟨r28, rfl, kr28⟩ := (show ∃ r : Nat, v28 = .ref r ∧ T r = some 16 from hv28)
  refine lv_aload_n hx hb dDA_makeSignature_86 rfl (lv_at hl 0 rfl) ?_
  refine nw_get (C := "LatticeKeys$Dsa") (TT := T_DA) (N := 17) hx hb hts (wg_ft i_DA) hown hK hO k_h0 (kn := 39) (ci := 6) (fl := [(3, 16), (3, 22), (3, 37), (3, 40), (3, 97), (3, 105), (3, 114), (3, 123), (3, 131), (3, 140), (3, 141), (3, 142), (3, 143), (3, 144), (3, 145), (3, 146), (3, 147)]) rfl hP rfl 11 (by decide) (hts _ (wg_t kw_176)) (fun _ h9 => h9) (cd := (3, 142)) rfl dDA_makeSignature_87 (fun v29 hv29 => ?_)
  obtain ⟨r29, rfl, kr29⟩ := (show ∃ r : Nat, v29 = .ref r ∧ T r = some 142 from hv29)
  refine lv_iconst (v := nI 0) hx hb dDA_makeSignature_90 (by decide) ?_
  refine lv_bipush (v := nI 64) hx hb dDA_makeSignature_91 (by decide) ?_
  refine mp_v (cx := []) (wr := []) hP hD hS hA [] [] rfl rfl rfl (by decide) (va_runV (As := [.ref r29, .int (nI 0), .int (nI 64)]) (rest := []) F (N_SP_squeeze l g _ T s28 pl hO hU r28 r29 16 17 142 128 0 64 x35 x36 kr28 rfl rfl kr29 rfl hx_35 hx_36 (by omega) (by omega) (by omega) (by omega)) (cwV 3 hts (wg_app (wg_c kw_673 (wg_c kw_615 (wg_c kw_616 (wg_c kw_2 wg_n)))) kw_617) rfl rfl rfl (by decide +kernel) ⟨by decide, by decide⟩) (pn_W "LatticeKeys$Sponge" (en_ok g) (ci := 3) (kn := 16) (fl := [(3, 17), (0, 0), (0, 0), (0, 0)]) hK hO kr28 rfl hP hD hS hA hE [] rfl rfl rfl) rfl rfl hl.1 rfl (lv_room (Nat.le_of_ble_eq_true rfl)) dDA_makeSignature_93 ⟨by omega, by omega⟩) (fun  u28 H locs hu28 hP hD hS => ?_)
  obtain ⟨s29, pl⟩ := u28
  obtain ⟨⟨eq28, hFc28, ⟨x38, hx_38, hb_38⟩, ⟨x39, hx_39, hb_39⟩, -⟩, hO⟩ := hu28
  have hO : okn g T s29 pl := hO
  have hP : va_P g.1 vcl ([] ++ pl) _ := hP
  have hD : va_D _ ([] ++ pl) := hD
  have hFc28 : frm (M_SP_squeeze 16 142) s28 s29 := hFc28
  have hb_38 : x38 ≤ x36 := hb_38
  have hb_39 : x39 = x36 := hb_39
  replace hR := bnd_step hR eq28
  have hF := frm_tr hF hFc28 (fun k hk => by unfold M_SP_squeeze at hk; unfold M_DA_makeSignature_1; omega)
  refine W.widen (k := 0) (n := 0) (by omega) (by omega) ?_
  refine lv_iconst (v := nI 1) hx hb dDA_makeSignature_96 (by decide) ?_
  refine lv_istore (lv' := [(7, .int (nI 1)), (0, .ref h0), (1, .ref st), (2, .ref sk), (3, .ref tp), (4, .int (nI len)), (5, .int cl_), (6, .ref to)]) hx hb dDA_makeSignature_97 hl (by decide) rfl (fun ls hl => ?_)
  have lp21 : ∀ (n21 : Nat) (i21 : Nat) (s30 : Sto) (pl : va_W) (ls : Array Slot) (H : Heap) (locs : List Loc), n21 + i21 = 201 → (1 ≤ i21) → frm (M_DA_makeSignature_1 pt) s s30 → F_DA_makeSignature_1 psk ptp n len cl_ pt s = F_DA_makeSignature_1_L0 pt n21 i21 s30 → lv_has ls 8 [(7, .int (nI i21)), (0, .ref h0), (1, .ref st), (6, .ref to)] → okn g T s30 pl → va_P g.1 vcl ([] ++ pl) H → va_D A ([] ++ pl) → va_S A s0.heap H locs → W p l e ({ frames := 6, cells := 0, slots := 0, locals := 176 } : Room) s0 m args below meth c H locs 0 0 (MQ below (va_Qi (fun (r : Int32) (u : (Int32 × Sto) × va_W) => (u.1 = F_DA_makeSignature_1 psk ptp n len cl_ pt s ∧ r = u.1.1 ∧ frm (M_DA_makeSignature_1 pt) s u.1.2 ∧ True) ∧ okn g T u.1.2 u.2) (po g.1 vcl A (fun (u : (Int32 × Sto) × va_W) => [] ++ u.2)) A) args s0 0 0 A) (F0 m 99 ls []) := by
    intro n21
    induction n21 with
    | zero =>
      intro i21 s30 pl ls H locs hm21 hi21 hF hR hl hO hP hD hS
      refine lv_iload hx hb dDA_makeSignature_99 (lv_at hl 0 rfl) ?_
      refine lv_sipush (v := nI 200) hx hb dDA_makeSignature_101 (by decide) ?_
      refine mi_gt (tgt := 161) hx hb dDA_makeSignature_104 (by decide) (by omega) (by omega) (fun h21 => ?_) (fun h21 => absurd h21 (by omega))
      refine lv_iconst (v := nI 0) hx hb dDA_makeSignature_161 (by decide) ?_
      exact mp_iret hx hb hr hlk hP hD hS ((nI 0, s30), pl) ⟨⟨hR.symm, rfl, hF, trivial⟩, hO⟩ [] rfl rfl rfl (by omega) (by omega) dDA_makeSignature_162
    | succ n21 ih21 =>
      intro i21 s30 pl ls H locs hm21 hi21 hF hR hl hO hP hD hS
      refine lv_iload hx hb dDA_makeSignature_99 (lv_at hl 0 rfl) ?_
      refine lv_sipush (v := nI 200) hx hb dDA_makeSignature_101 (by decide) ?_
      refine mi_gt (tgt := 161) hx hb dDA_makeSignature_104 (by decide) (by omega) (by omega) (fun h22 => absurd h22 (by omega)) (fun h22 => ?_)
      refine lv_aload_n hx hb dDA_makeSignature_107 rfl (lv_at hl 1 rfl) ?_
      refine lv_aload_n hx hb dDA_makeSignature_108 rfl (lv_at hl 2 rfl) ?_
      refine lv_aload_n hx hb dDA_makeSignature_109 rfl (lv_at hl 2 rfl) ?_
      refine nw_get (C := "LatticeKeys$DsaSet") (TT := T_DS) (N := 17) hx hb hts (wg_ft i_DS) hown hK hO k_st (kn := 10) (ci := 2) (fl := [(1, 6), (1, 5), (1, 4), (1, 4), (1, 49), (1, 48), (1, 20), (1, 524288), (1, 16), (1, 4), (1, 261888), (1, 55), (1, 196), (1, 1952), (1, 4032), (1, 3248), (1, 3309)]) rfl hP rfl 1 (by decide) (hts _ (wg_t kw_305)) (fun _ h9 => h9) (cd := (1, 5)) rfl dDA_makeSignature_110 (fun v30 hv30 => ?_)
      obtain rfl := (show v30 = .int (nI 5) from hv30)
      refine lv_iload hx hb dDA_makeSignature_113 (lv_at hl 0 rfl) ?_
      refine lv_iconst (v := nI 1) hx hb dDA_makeSignature_115 (by decide) ?_
      refine mi_isub hx hb dDA_makeSignature_116 (by omega) ?_
      refine mi_imul hx hb dDA_makeSignature_117 ?_
      refine mp_v (cx := []) (wr := []) hP hD hS hA [] [] rfl rfl rfl (by decide) (va_runV (As := [.ref st, .int (nI (5 * (i21 - 1)))]) (rest := []) F (N_DA_commit_1 l g _ T s30 pl hO hU h0 st (nI (5 * (i21 - 1))) k_h0 k_st) (cwV 2 hts (wg_app (wg_c kw_1192 (wg_c kw_1194 (wg_c ks_37 (wg_c kw_5 wg_n)))) kw_1195) rfl rfl rfl (by decide +kernel) ⟨by decide, by decide⟩) (pn_W "LatticeKeys$Dsa" (en_ok g) (ci := 6) (kn := 39) (fl := [(3, 16), (3, 22), (3, 37), (3, 40), (3, 97), (3, 105), (3, 114), (3, 123), (3, 131), (3, 140), (3, 141), (3, 142), (3, 143), (3, 144), (3, 145), (3, 146), (3, 147)]) hK hO k_h0 rfl hP hD hS hA hE [] rfl rfl rfl) rfl rfl hl.1 rfl (lv_room (Nat.le_of_ble_eq_true rfl)) dDA_makeSignature_118 ⟨by omega, by omega⟩) (fun  u29 H locs hu29 hP hD hS => ?_)
      obtain ⟨s31, pl⟩ := u29
      obtain ⟨⟨eq29, hFc29, -⟩, hO⟩ := hu29
      have hO : okn g T s31 pl := hO
      have hP : va_P g.1 vcl ([] ++ pl) _ := hP
      have hD : va_D _ ([] ++ pl) := hD
      have hFc29 : frm (M_DA_commit_1) s30 s31 := hFc29
      replace hR := bnd_step hR eq29
      have hF := frm_tr hF hFc29 (fun k hk => by unfold M_DA_commit_1 at hk; unfold M_DA_makeSignature_1; omega)
      refine W.widen (k := 0) (n := 0) (by omega) (by omega) ?_
      refine lv_aload_n hx hb dDA_makeSignature_121 rfl (lv_at hl 1 rfl) ?_
      refine lv_aload_n hx hb dDA_makeSignature_122 rfl (lv_at hl 2 rfl) ?_
      refine mp_i (cx := []) (wr := []) hP hD hS hA [] [] rfl rfl rfl (by decide) (va_runV (As := [.ref st]) (rest := []) F (N_DA_answerIsShort_1 l g _ T s31 pl hO hU h0 st k_h0 k_st) (cwV 1 hts (wg_app (wg_c kw_1220 (wg_c kw_1222 (wg_c ks_40 (wg_c kw_5 wg_n)))) kw_1223) rfl rfl rfl (by decide +kernel) ⟨by decide, by decide⟩) (pn_W "LatticeKeys$Dsa" (en_ok g) (ci := 6) (kn := 39) (fl := [(3, 16), (3, 22), (3, 37), (3, 40), (3, 97), (3, 105), (3, 114), (3, 123), (3, 131), (3, 140), (3, 141), (3, 142), (3, 143), (3, 144), (3, 145), (3, 146), (3, 147)]) hK hO k_h0 rfl hP hD hS hA hE [] rfl rfl rfl) rfl rfl hl.1 rfl (lv_room (Nat.le_of_ble_eq_true rfl)) dDA_makeSignature_123 ⟨by omega, by omega⟩) (fun r30 u30 H locs hu30 hP hD hS => ?_)
      obtain ⟨q21, pl⟩ := u30
      obtain ⟨⟨eq30, rfl, hFc30, -⟩, hO⟩ := hu30
      have hO : okn g T q21.2 pl := hO
      have hP : va_P g.1 vcl ([] ++ pl) _ := hP
      have hD : va_D _ ([] ++ pl) := hD
      have hFc30 : frm (M_DA_answerIsShort_1) s31 q21.2 := hFc30
      replace hR := bnd_step hR eq30
      have hF := frm_tr hF hFc30 (fun k hk => by unfold M_DA_answerIsShort_1 at hk; unfold M_DA_makeSignature_1; omega)
      refine W.widen (k := 0) (n := 0) (by omega) (by omega) ?_
      refine lv_if_eq (tgt := 155) hx hb dDA_makeSignature_126 (by decide) (fun h23 => ?_) (fun h23 => ?_)
      · replace hR := hR.trans (if_pos h23)
        refine mi_iinc (k := 0) (x := i21) (d := 1) (y := i21 + 1) (lv' := [(7, .int (nI (i21 + 1))), (0, .ref h0), (1, .ref st), (6, .ref to)]) hx hb dDA_makeSignature_155 hl rfl (by decide) rfl (by decide) rfl (fun ls hl => ?_)
        refine lv_goto (tgt := 99) hx hb dDA_makeSignature_158 (by decide) ?_
        exact ih21 (i21 + 1) q21.2 pl ls H locs (by omega) (by omega) hF hR (lv_sub hl [0, 1, 2, 3] rfl) hO hP hD hS
      · replace hR := hR.trans (if_neg h23)
        refine lv_aload_n hx hb dDA_makeSignature_129 rfl (lv_at hl 1 rfl) ?_
        refine lv_aload_n hx hb dDA_makeSignature_130 rfl (lv_at hl 2 rfl) ?_
        refine mp_i (cx := []) (wr := []) hP hD hS hA [] [] rfl rfl rfl (by decide) (va_runV (As := [.ref st]) (rest := []) F (N_DA_restIsShort_1 l g _ T q21.2 pl hO hU h0 st k_h0 k_st) (cwV 1 hts (wg_app (wg_c kw_1232 (wg_c kw_1234 (wg_c ks_42 (wg_c kw_5 wg_n)))) kw_1235) rfl rfl rfl (by decide +kernel) ⟨by decide, by decide⟩) (pn_W "LatticeKeys$Dsa" (en_ok g) (ci := 6) (kn := 39) (fl := [(3, 16), (3, 22), (3, 37), (3, 40), (3, 97), (3, 105), (3, 114), (3, 123), (3, 131), (3, 140), (3, 141), (3, 142), (3, 143), (3, 144), (3, 145), (3, 146), (3, 147)]) hK hO k_h0 rfl hP hD hS hA hE [] rfl rfl rfl) rfl rfl hl.1 rfl (lv_room (Nat.le_of_ble_eq_true rfl)) dDA_makeSignature_131 ⟨by omega, by omega⟩) (fun r31 u31 H locs hu31 hP hD hS => ?_)
        obtain ⟨q22, pl⟩ := u31
        obtain ⟨⟨eq31, rfl, hFc31, -⟩, hO⟩ := hu31
        have hO : okn g T q22.2 pl := hO
        have hP : va_P g.1 vcl ([] ++ pl) _ := hP
        have hD : va_D _ ([] ++ pl) := hD
        have hFc31 : frm (M_DA_restIsShort_1) q21.2 q22.2 := hFc31
        replace hR := bnd_step hR eq31
        have hF := frm_tr hF hFc31 (fun k hk => by unfold M_DA_restIsShort_1 at hk; unfold M_DA_makeSignature_1; omega)
        refine W.widen (k := 0) (n := 0) (by omega) (by omega) ?_
        refine lv_if_eq (tgt := 155) hx hb dDA_makeSignature_134 (by decide) (fun h24 => ?_) (fun h24 => ?_)
        · replace hR := hR.trans (if_pos h24)
          refine mi_iinc (k := 0) (x := i21) (d := 1) (y := i21 + 1) (lv' := [(7, .int (nI (i21 + 1))), (0, .ref h0), (1, .ref st), (6, .ref to)]) hx hb dDA_makeSignature_155 hl rfl (by decide) rfl (by decide) rfl (fun ls hl => ?_)
          refine lv_goto (tgt := 99) hx hb dDA_makeSignature_158 (by decide) ?_
          exact ih21 (i21 + 1) q22.2 pl ls H locs (by omega) (by omega) hF hR (lv_sub hl [0, 1, 2, 3] rfl) hO hP hD hS
        · replace hR := hR.trans (if_neg h24)
          refine lv_aload_n hx hb dDA_makeSignature_137 rfl (lv_at hl 1 rfl) ?_
          refine lv_aload_n hx hb dDA_makeSignature_138 rfl (lv_at hl 2 rfl) ?_
          refine mp_i (cx := []) (wr := []) hP hD hS hA [] [] rfl rfl rfl (by decide) (va_runV (As := [.ref st]) (rest := []) F (N_DA_makeHints_1 l g _ T q22.2 pl hO hU h0 st k_h0 k_st) (cwV 1 hts (wg_app (wg_c kw_1241 (wg_c kw_1243 (wg_c ks_43 (wg_c kw_5 wg_n)))) kw_1244) rfl rfl rfl (by decide +kernel) ⟨by decide, by decide⟩) (pn_W "LatticeKeys$Dsa" (en_ok g) (ci := 6) (kn := 39) (fl := [(3, 16), (3, 22), (3, 37), (3, 40), (3, 97), (3, 105), (3, 114), (3, 123), (3, 131), (3, 140), (3, 141), (3, 142), (3, 143), (3, 144), (3, 145), (3, 146), (3, 147)]) hK hO k_h0 rfl hP hD hS hA hE [] rfl rfl rfl) rfl rfl hl.1 rfl (lv_room (Nat.le_of_ble_eq_true rfl)) dDA_makeSignature_139 ⟨by omega, by omega⟩) (fun r32 u32 H locs hu32 hP hD hS => ?_)
          obtain ⟨q23, pl⟩ := u32
          obtain ⟨⟨eq32, rfl, hFc32, -⟩, hO⟩ := hu32
          have hO : okn g T q23.2 pl := hO
          have hP : va_P g.1 vcl ([] ++ pl) _ := hP
          have hD : va_D _ ([] ++ pl) := hD
          have hFc32 : frm (M_DA_makeHints_1) q22.2 q23.2 := hFc32
          replace hR := bnd_step hR eq32
          have hF := frm_tr hF hFc32 (fun k hk => by unfold M_DA_makeHints_1 at hk; unfold M_DA_makeSignature_1; omega)
          refine W.widen (k := 0) (n := 0) (by omega) (by omega) ?_
          refine lv_if_eq (tgt := 155) hx hb dDA_makeSignature_142 (by decide) (fun h25 => ?_) (fun h25 => ?_)
          · replace hR := hR.trans (if_pos h25)
            refine mi_iinc (k := 0) (x := i21) (d := 1) (y := i21 + 1) (lv' := [(7, .int (nI (i21 + 1))), (0, .ref h0), (1, .ref st), (6, .ref to)]) hx hb dDA_makeSignature_155 hl rfl (by decide) rfl (by decide) rfl (fun ls hl => ?_)
            refine lv_goto (tgt := 99) hx hb dDA_makeSignature_158 (by decide) ?_
            exact ih21 (i21 + 1) q23.2 pl ls H locs (by omega) (by omega) hF hR (lv_sub hl [0, 1, 2, 3] rfl) hO hP hD hS
          · replace hR := hR.trans (if_neg h25)
            refine lv_aload_n hx hb dDA_makeSignature_145 rfl (lv_at hl 1 rfl) ?_
            refine lv_aload_n hx hb dDA_makeSignature_146 rfl (lv_at hl 2 rfl) ?_
            refine lv_aload hx hb dDA_makeSignature_147 (lv_at hl 3 rfl) ?_
            refine mp_v (cx := []) (wr := []) hP hD hS hA [] [] rfl rfl rfl (by decide) (va_runV (As := [.ref st, .ref to]) (rest := []) F (N_DA_writeSignature_1 l g _ T q23.2 pl hO hU h0 st to pt k_h0 k_st k_to n_to) (cwV 2 hts (wg_app (wg_c kw_1248 (wg_c kw_1250 (wg_c ks_44 (wg_c kw_5 wg_n)))) kw_1251) rfl rfl rfl (by decide +kernel) ⟨by decide, by decide⟩) (pn_W "LatticeKeys$Dsa" (en_ok g) (ci := 6) (kn := 39) (fl := [(3, 16), (3, 22), (3, 37), (3, 40), (3, 97), (3, 105), (3, 114), (3, 123), (3, 131), (3, 140), (3, 141), (3, 142), (3, 143), (3, 144), (3, 145), (3, 146), (3, 147)]) hK hO k_h0 rfl hP hD hS hA hE [] rfl rfl rfl) rfl rfl hl.1 rfl (lv_room (Nat.le_of_ble_eq_true rfl)) dDA_makeSignature_149 ⟨by omega, by omega⟩) (fun  u33 H locs hu33 hP hD hS => ?_)
            obtain ⟨s32, pl⟩ := u33
            obtain ⟨⟨eq33, hFc33, -⟩, hO⟩ := hu33
            have hO : okn g T s32 pl := hO
            have hP : va_P g.1 vcl ([] ++ pl) _ := hP
            have hD : va_D _ ([] ++ pl) := hD
            have hFc33 : frm (M_DA_writeSignature_1 pt) q23.2 s32 := hFc33
            replace hR := bnd_step hR eq33
            have hF := frm_tr hF hFc33 (fun k hk => by unfold M_DA_writeSignature_1 at hk; unfold M_DA_makeSignature_1; omega)
            refine W.widen (k := 0) (n := 0) (by omega) (by omega) ?_
            refine lv_iload hx hb dDA_makeSignature_152 (lv_at hl 0 rfl) ?_
            exact mp_iret hx hb hr hlk hP hD hS ((nI i21, s32), pl) ⟨⟨hR.symm, rfl, hF, trivial⟩, hO⟩ [] rfl rfl rfl (by omega) (by omega) dDA_makeSignature_154
  exact lp21 (201 - 1) 1 s29 pl ls _ _ (by omega) (by omega) hF hR (lv_sub hl [0, 1, 2, 7] rfl) hO hP hD hS
def M_DA_makeSignature_2 (pt : Nat) (k : Nat) : Prop := (106 ≤ k ∧ k < 114) ∨ (115 ≤ k ∧ k < 123) ∨ (124 ≤ k ∧ k < 131) ∨ (132 ≤ k ∧ k < 140) ∨ (41 ≤ k ∧ k < 97) ∨ (98 ≤ k ∧ k < 105) ∨ k = 140 ∨ k = 141 ∨ k = 142 ∨ k = 143 ∨ k = 144 ∨ k = 146 ∨ k = 147 ∨ k = 16 ∨ k = 18 ∨ k = 38 ∨ k = pt ∨ (0 : Nat) = 1
noncomputable def F_DA_makeSignature_2_L0 (pt : Nat) : Nat → Nat → Sto → Int32 × Sto
  | 0, i21, s30 => (nI 0, s30)
  | n21 + 1, i21, s30 => bnd (F_DA_commit_2 (nI (7 * (i21 - 1))) s30) fun s31 => bnd (F_DA_answerIsShort_2  s31) fun q21 => if (q21.1) = 0 then F_DA_makeSignature_2_L0 pt n21 (i21 + 1) q21.2 else bnd (F_DA_restIsShort_2  q21.2) fun q22 => if (q22.1) = 0 then F_DA_makeSignature_2_L0 pt n21 (i21 + 1) q22.2 else bnd (F_DA_makeHints_2  q22.2) fun q23 => if (q23.1) = 0 then F_DA_makeSignature_2_L0 pt n21 (i21 + 1) q23.2 else bnd (F_DA_writeSignature_2 pt q23.2) fun s32 => (nI i21, s32)
noncomputable def F_DA_makeSignature_2 (psk : Nat) (ptp : Nat) (n : Nat) (len : Nat) (cl_ : Int32) (pt : Nat) (s : Sto) : Int32 × Sto := bnd (F_DA_readSecret_2 psk s) fun s21 => bnd (sC s21 psk 143 64 0 64) fun s22 => bnd (F_DA_digestMessage ptp n 32 len cl_ s22) fun s23 => bnd (F_SP_start_3 16 17 s23) fun s24 => bnd (F_SP_absorb 16 17 psk 4896 32 32 s24) fun s25 => bnd (F_SP_absorb 16 17 ptp n 0 32 s25) fun s26 => bnd (F_SP_absorb 16 17 143 64 0 64 s26) fun s27 => bnd (F_SP_finish 16 17 s27) fun s28 => bnd (F_SP_squeeze 16 17 142 128 0 64 s28) fun s29 => F_DA_makeSignature_2_L0 pt (201 - 1) 1 s29
set_option maxHeartbeats 8000000 in
set_option maxRecDepth 100000 in
theorem N_DA_makeSignature_2 (l : Launch) (g : Gd) (sz : Nat) (T : TyN) (s : Sto) (pl : va_W) (hO : okn g T s pl) (hU : inj T) (h0 st sk tp to : Nat) (psk : Nat) (ptp : Nat) (n : Nat) (len : Nat) (cl_ : Int32) (pt : Nat) (k_h0 : T h0 = some 39) (k_st : T st = some 11) (k_sk : T sk = some psk) (n_sk : nsp psk = (1, 4896, [])) (k_tp : T tp = some ptp) (n_tp : nsp ptp = (1, n, [])) (k_to : T to = some pt) (n_to : nsp pt = (1, 8192, [])) (h1 : 32 ≤ len) (h3 : len ≤ n) (h2 : n < 65536)  : Met l y_DA_makeSignature w_DA_makeSignature ({ frames := 6, cells := 0, slots := 0, locals := 176 } : Room) (va_Pc [.ref h0, .ref st, .ref sk, .ref tp, .int (nI len), .int cl_, .ref to] (pr (en g) g.1 vcl sz ([] ++ pl))) (va_Qi (fun (r : Int32) (u : (Int32 × Sto) × va_W) => (u.1 = F_DA_makeSignature_2 psk ptp n len cl_ pt s ∧ r = u.1.1 ∧ frm (M_DA_makeSignature_2 pt) s u.1.2 ∧ True) ∧ okn g T u.1.2 u.2) (po g.1 vcl (va_A ([] ++ pl) sz) (fun (u : (Int32 × Sto) × va_W) => [] ++ u.2)) (va_A ([] ++ pl) sz)) 0 0 (va_A ([] ++ pl) sz) := by
  refine mc_entry (cc := c_DA_makeSignature) (maxL := 8) (ret := (some .int)) (by decide) rfl (Nat.le_of_ble_eq_true rfl) ?_
  intro p e s0 m args below meth c ls F hr hlk hnm hsz hP hD hE hA hl
  obtain ⟨hx, hb, hml, hown, hts⟩ := id F
  have hK := hE.1
  generalize va_A ([] ++ pl) sz = A at hD hE hA ⊢
  have hS : va_S A s0.heap s0.heap [] := va_S.rf
  have hl : lv_has ls 8 [(0, .ref h0), (1, .ref st), (2, .ref sk), (3, .ref tp), (4, .int (nI len)), (5, .int cl_), (6, .ref to)] := hl
  have hR : F_DA_makeSignature_2 psk ptp n len cl_ pt s = F_DA_makeSignature_2 psk ptp n len cl_ pt s := rfl
  have hF : frm (M_DA_makeSignature_2 pt) s s := frm_rf
  refine lv_aload_n hx hb dDA_makeSignature_0 rfl (lv_at hl 0 rfl) ?_
  refine lv_aload_n hx hb dDA_makeSignature_1 rfl (lv_at hl 1 rfl) ?_
  refine lv_aload_n hx hb dDA_makeSignature_2 rfl (lv_at hl 2 rfl) ?_
  refine mp_v (cx := []) (wr := []) hP hD hS hA [] [] rfl rfl rfl (by decide) (va_runV (As := [.ref st, .ref sk]) (rest := []) F (N_DA_readSecret_2 l g _ T s pl hO hU h0 st sk psk k_h0 k_st k_sk n_sk) (cwV 2 hts (wg_app (wg_c kw_1179 (wg_c kw_1181 (wg_c ks_34 (wg_c kw_5 wg_n)))) kw_1182) rfl rfl rfl (by decide +kernel) ⟨by decide, by decide⟩) (pn_W "LatticeKeys$Dsa" (en_ok g) (ci := 6) (kn := 39) (fl := [(3, 16), (3, 22), (3, 37), (3, 40), (3, 97), (3, 105), (3, 114), (3, 123), (3, 131), (3, 140), (3, 141), (3, 142), (3, 143), (3, 144), (3, 145), (3, 146), (3, 147)]) hK hO k_h0 rfl hP hD hS hA hE [] rfl rfl rfl) rfl rfl hl.1 rfl (lv_room (Nat.le_of_ble_eq_true rfl)) dDA_makeSignature_3 ⟨by omega, by omega⟩) (fun  u21 H locs hu21 hP hD hS => ?_)
  obtain ⟨s21, pl⟩ := u21
  obtain ⟨⟨eq21, hFc21, -⟩, hO⟩ := hu21
  have hO : okn g T s21 pl := hO
  have hP : va_P g.1 vcl ([] ++ pl) _ := hP
  have hD : va_D _ ([] ++ pl) := hD
  have hFc21 : frm (M_DA_readSecret_2) s s21 := hFc21
  replace hR := bnd_step hR eq21
  have hF := frm_tr hF hFc21 (fun k hk => by unfold M_DA_readSecret_2 at hk; unfold M_DA_makeSignature_2; omega)
  refine W.widen (k := 0) (n := 0) (by omega) (by omega) ?_
  refine lv_aload_n hx hb dDA_makeSignature_6 rfl (lv_at hl 2 rfl) ?_
  refine lv_bipush (v := nI 64) hx hb dDA_makeSignature_7 (by decide) ?_
  refine lv_aload_n hx hb dDA_makeSignature_9 rfl (lv_at hl 0 rfl) ?_
  refine nw_get (C := "LatticeKeys$Dsa") (TT := T_DA) (N := 17) hx hb hts (wg_ft i_DA) hown hK hO k_h0 (kn := 39) (ci := 6) (fl := [(3, 16), (3, 22), (3, 37), (3, 40), (3, 97), (3, 105), (3, 114), (3, 123), (3, 131), (3, 140), (3, 141), (3, 142), (3, 143), (3, 144), (3, 145), (3, 146), (3, 147)]) rfl hP rfl 12 (by decide) (hts _ (wg_t kw_177)) (fun _ h9 => h9) (cd := (3, 143)) rfl dDA_makeSignature_10 (fun v21 hv21 => ?_)
  obtain ⟨r21, rfl, kr21⟩ := (show ∃ r : Nat, v21 = .ref r ∧ T r = some 143 from hv21)
  refine lv_iconst (v := nI 0) hx hb dDA_makeSignature_13 (by decide) ?_
  refine lv_bipush (v := nI 64) hx hb dDA_makeSignature_14 (by decide) ?_
  refine nw_copyb hx hb (hml.trans hl.1.symm) hown (hts _ (wg_t kw_674)) (hts _ (wg_t kw_526)) (hts _ (wg_t kw_525)) (hts _ (wg_t kw_19)) hK hO hU k_sk (k0 := psk) n_sk kr21 (k1 := 143) rfl hP hD hS (sp := 64) (dp := 0) (n := 64) (by omega) (by omega) (by omega) (by decide) (Nat.le_of_ble_eq_true rfl) dDA_makeSignature_16 (fun s22 pl H locs es21 hO hP hD hS => ?_)
  replace hR := bnd_step hR es21
  have hF := frm_sC hF es21 (by unfold M_DA_makeSignature_2; omega)
  refine lv_aload_n hx hb dDA_makeSignature_19 rfl (lv_at hl 0 rfl) ?_
  refine lv_aload_n hx hb dDA_makeSignature_20 rfl (lv_at hl 3 rfl) ?_
  refine lv_bipush (v := nI 32) hx hb dDA_makeSignature_21 (by decide) ?_
  refine lv_iload hx hb dDA_makeSignature_23 (lv_at hl 4 rfl) ?_
  refine lv_iload hx hb dDA_makeSignature_25 (lv_at hl 5 rfl) ?_
  refine mp_v (cx := []) (wr := []) hP hD hS hA [] [] rfl rfl rfl (by decide) (va_runV (As := [.ref tp, .int (nI 32), .int (nI len), .int cl_]) (rest := []) F (N_DA_digestMessage l g _ T s22 pl hO hU h0 tp ptp n 32 len cl_ k_h0 k_tp n_tp (by omega) (by omega) (by omega)) (cwV 4 hts (wg_app (wg_c kw_1188 (wg_c kw_1190 (wg_c ks_36 (wg_c kw_5 wg_n)))) kw_1191) rfl rfl rfl (by decide +kernel) ⟨by decide, by decide⟩) (pn_W "LatticeKeys$Dsa" (en_ok g) (ci := 6) (kn := 39) (fl := [(3, 16), (3, 22), (3, 37), (3, 40), (3, 97), (3, 105), (3, 114), (3, 123), (3, 131), (3, 140), (3, 141), (3, 142), (3, 143), (3, 144), (3, 145), (3, 146), (3, 147)]) hK hO k_h0 rfl hP hD hS hA hE [] rfl rfl rfl) rfl rfl hl.1 rfl (lv_room (Nat.le_of_ble_eq_true rfl)) dDA_makeSignature_27 ⟨by omega, by omega⟩) (fun  u22 H locs hu22 hP hD hS => ?_)
  obtain ⟨s23, pl⟩ := u22
  obtain ⟨⟨eq22, hFc22, -⟩, hO⟩ := hu22
  have hO : okn g T s23 pl := hO
  have hP : va_P g.1 vcl ([] ++ pl) _ := hP
  have hD : va_D _ ([] ++ pl) := hD
  have hFc22 : frm (M_DA_digestMessage) s22 s23 := hFc22
  replace hR := bnd_step hR eq22
  have hF := frm_tr hF hFc22 (fun k hk => by unfold M_DA_digestMessage at hk; unfold M_DA_makeSignature_2; omega)
  refine W.widen (k := 0) (n := 0) (by omega) (by omega) ?_
  refine lv_aload_n hx hb dDA_makeSignature_30 rfl (lv_at hl 0 rfl) ?_
  refine nw_get (C := "LatticeKeys$Dsa") (TT := T_DA) (N := 17) hx hb hts (wg_ft i_DA) hown hK hO k_h0 (kn := 39) (ci := 6) (fl := [(3, 16), (3, 22), (3, 37), (3, 40), (3, 97), (3, 105), (3, 114), (3, 123), (3, 131), (3, 140), (3, 141), (3, 142), (3, 143), (3, 144), (3, 145), (3, 146), (3, 147)]) rfl hP rfl 0 (by decide) (hts _ (wg_t kw_165)) (fun _ h9 => h9) (cd := (3, 16)) rfl dDA_makeSignature_31 (fun v22 hv22 => ?_)
  obtain ⟨r22, rfl, kr22⟩ := (show ∃ r : Nat, v22 = .ref r ∧ T r = some 16 from hv22)
  refine lv_iconst (v := nI 3) hx hb dDA_makeSignature_34 (by decide) ?_
  refine mp_v (cx := []) (wr := []) hP hD hS hA [] [] rfl rfl rfl (by decide) (va_runV (As := [.int (nI 3)]) (rest := []) F (N_SP_start_3 l g _ T s23 pl hO hU r22 16 17 kr22 rfl rfl) (cwV 1 hts (wg_app (wg_c kw_669 (wg_c kw_579 (wg_c kw_580 (wg_c kw_2 wg_n)))) kw_581) rfl rfl rfl (by decide +kernel) ⟨by decide, by decide⟩) (pn_W "LatticeKeys$Sponge" (en_ok g) (ci := 3) (kn := 16) (fl := [(3, 17), (0, 0), (0, 0), (0, 0)]) hK hO kr22 rfl hP hD hS hA hE [] rfl rfl rfl) rfl rfl hl.1 rfl (lv_room (Nat.le_of_ble_eq_true rfl)) dDA_makeSignature_35 ⟨by omega, by omega⟩) (fun  u23 H locs hu23 hP hD hS => ?_)
  obtain ⟨s24, pl⟩ := u23
  obtain ⟨⟨eq23, hFc23, ⟨x23, hx_23, hb_23⟩, ⟨x24, hx_24, hb_24⟩, -⟩, hO⟩ := hu23
  have hO : okn g T s24 pl := hO
  have hP : va_P g.1 vcl ([] ++ pl) _ := hP
  have hD : va_D _ ([] ++ pl) := hD
  have hFc23 : frm (M_SP_start_3 16) s23 s24 := hFc23
  have hb_23 : x23 = 0 := hb_23
  have hb_24 : x24 = 136 := hb_24
  replace hR := bnd_step hR eq23
  have hF := frm_tr hF hFc23 (fun k hk => by unfold M_SP_start_3 at hk; unfold M_DA_makeSignature_2; omega)
  refine W.widen (k := 0) (n := 0) (by omega) (by omega) ?_
  refine lv_aload_n hx hb dDA_makeSignature_38 rfl (lv_at hl 0 rfl) ?_
  refine nw_get (C := "LatticeKeys$Dsa") (TT := T_DA) (N := 17) hx hb hts (wg_ft i_DA) hown hK hO k_h0 (kn := 39) (ci := 6) (fl := [(3, 16), (3, 22), (3, 37), (3, 40), (3, 97), (3, 105), (3, 114), (3, 123), (3, 131), (3, 140), (3, 141), (3, 142), (3, 143), (3, 144), (3, 145), (3, 146), (3, 147)]) rfl hP rfl 0 (by decide) (hts _ (wg_t kw_165)) (fun _ h9 => h9) (cd := (3, 16)) rfl dDA_makeSignature_39 (fun v23 hv23 => ?_)
  obtain ⟨r23, rfl, kr23⟩ := (show ∃ r : Nat, v23 = .ref r ∧ T r = some 16 from hv23)
  refine lv_aload_n hx hb dDA_makeSignature_42 rfl (lv_at hl 2 rfl) ?_
  refine lv_bipush (v := nI 32) hx hb dDA_makeSignature_43 (by decide) ?_
  refine lv_bipush (v := nI 32) hx hb dDA_makeSignature_45 (by decide) ?_
  refine mp_v (cx := []) (wr := []) hP hD hS hA [] [] rfl rfl rfl (by decide) (va_runV (As := [.ref sk, .int (nI 32), .int (nI 32)]) (rest := []) F (N_SP_absorb l g _ T s24 pl hO hU r23 sk 16 17 psk 4896 32 32 x23 x24 kr23 rfl rfl k_sk n_sk hx_23 hx_24 (by omega) (by omega) (by omega) (by omega)) (cwV 3 hts (wg_app (wg_c kw_670 (wg_c kw_586 (wg_c kw_587 (wg_c kw_2 wg_n)))) kw_588) rfl rfl rfl (by decide +kernel) ⟨by decide, by decide⟩) (pn_W "LatticeKeys$Sponge" (en_ok g) (ci := 3) (kn := 16) (fl := [(3, 17), (0, 0), (0, 0), (0, 0)]) hK hO kr23 rfl hP hD hS hA hE [] rfl rfl rfl) rfl rfl hl.1 rfl (lv_room (Nat.le_of_ble_eq_true rfl)) dDA_makeSignature_47 ⟨by omega, by omega⟩) (fun  u24 H locs hu24 hP hD hS => ?_)
  obtain ⟨s25, pl⟩ := u24
  obtain ⟨⟨eq24, hFc24, ⟨x26, hx_26, hb_26⟩, ⟨x27, hx_27, hb_27⟩, -⟩, hO⟩ := hu24
  have hO : okn g T s25 pl := hO
  have hP : va_P g.1 vcl ([] ++ pl) _ := hP
  have hD : va_D _ ([] ++ pl) := hD
  have hFc24 : frm (M_SP_absorb 16) s24 s25 := hFc24
  have hb_26 : x26 < x24 := hb_26
  have hb_27 : x27 = x24 := hb_27
  replace hR := bnd_step hR eq24
  have hF := frm_tr hF hFc24 (fun k hk => by unfold M_SP_absorb at hk; unfold M_DA_makeSignature_2; omega)
  refine W.widen (k := 0) (n := 0) (by omega) (by omega) ?_
  refine lv_aload_n hx hb dDA_makeSignature_50 rfl (lv_at hl 0 rfl) ?_
  refine nw_get (C := "LatticeKeys$Dsa") (TT := T_DA) (N := 17) hx hb hts (wg_ft i_DA) hown hK hO k_h0 (kn := 39) (ci := 6) (fl := [(3, 16), (3, 22), (3, 37), (3, 40), (3, 97), (3, 105), (3, 114), (3, 123), (3, 131), (3, 140), (3, 141), (3, 142), (3, 143), (3, 144), (3, 145), (3, 146), (3, 147)]) rfl hP rfl 0 (by decide) (hts _ (wg_t kw_165)) (fun _ h9 => h9) (cd := (3, 16)) rfl dDA_makeSignature_51 (fun v24 hv24 => ?_)
  obtain ⟨r24, rfl, kr24⟩ := (show ∃ r : Nat, v24 = .ref r ∧ T r = some 16 from hv24)
  refine lv_aload_n hx hb dDA_makeSignature_54 rfl (lv_at hl 3 rfl) ?_
  refine lv_iconst (v := nI 0) hx hb dDA_makeSignature_55 (by decide) ?_
  refine lv_bipush (v := nI 32) hx hb dDA_makeSignature_56 (by decide) ?_
  refine mp_v (cx := []) (wr := []) hP hD hS hA [] [] rfl rfl rfl (by decide) (va_runV (As := [.ref tp, .int (nI 0), .int (nI 32)]) (rest := []) F (N_SP_absorb l g _ T s25 pl hO hU r24 tp 16 17 ptp n 0 32 x26 x27 kr24 rfl rfl k_tp n_tp hx_26 hx_27 (by omega) (by omega) (by omega) (by omega)) (cwV 3 hts (wg_app (wg_c kw_670 (wg_c kw_586 (wg_c kw_587 (wg_c kw_2 wg_n)))) kw_588) rfl rfl rfl (by decide +kernel) ⟨by decide, by decide⟩) (pn_W "LatticeKeys$Sponge" (en_ok g) (ci := 3) (kn := 16) (fl := [(3, 17), (0, 0), (0, 0), (0, 0)]) hK hO kr24 rfl hP hD hS hA hE [] rfl rfl rfl) rfl rfl hl.1 rfl (lv_room (Nat.le_of_ble_eq_true rfl)) dDA_makeSignature_58 ⟨by omega, by omega⟩) (fun  u25 H locs hu25 hP hD hS => ?_)
  obtain ⟨s26, pl⟩ := u25
  obtain ⟨⟨eq25, hFc25, ⟨x29, hx_29, hb_29⟩, ⟨x30, hx_30, hb_30⟩, -⟩, hO⟩ := hu25
  have hO : okn g T s26 pl := hO
  have hP : va_P g.1 vcl ([] ++ pl) _ := hP
  have hD : va_D _ ([] ++ pl) := hD
  have hFc25 : frm (M_SP_absorb 16) s25 s26 := hFc25
  have hb_29 : x29 < x27 := hb_29
  have hb_30 : x30 = x27 := hb_30
  replace hR := bnd_step hR eq25
  have hF := frm_tr hF hFc25 (fun k hk => by unfold M_SP_absorb at hk; unfold M_DA_makeSignature_2; omega)
  refine W.widen (k := 0) (n := 0) (by omega) (by omega) ?_
  refine lv_aload_n hx hb dDA_makeSignature_61 rfl (lv_at hl 0 rfl) ?_
  refine nw_get (C := "LatticeKeys$Dsa") (TT := T_DA) (N := 17) hx hb hts (wg_ft i_DA) hown hK hO k_h0 (kn := 39) (ci := 6) (fl := [(3, 16), (3, 22), (3, 37), (3, 40), (3, 97), (3, 105), (3, 114), (3, 123), (3, 131), (3, 140), (3, 141), (3, 142), (3, 143), (3, 144), (3, 145), (3, 146), (3, 147)]) rfl hP rfl 0 (by decide) (hts _ (wg_t kw_165)) (fun _ h9 => h9) (cd := (3, 16)) rfl dDA_makeSignature_62 (fun v25 hv25 => ?_)
  obtain ⟨r25, rfl, kr25⟩ := (show ∃ r : Nat, v25 = .ref r ∧ T r = some 16 from hv25)
  refine lv_aload_n hx hb dDA_makeSignature_65 rfl (lv_at hl 0 rfl) ?_
  refine nw_get (C := "LatticeKeys$Dsa") (TT := T_DA) (N := 17) hx hb hts (wg_ft i_DA) hown hK hO k_h0 (kn := 39) (ci := 6) (fl := [(3, 16), (3, 22), (3, 37), (3, 40), (3, 97), (3, 105), (3, 114), (3, 123), (3, 131), (3, 140), (3, 141), (3, 142), (3, 143), (3, 144), (3, 145), (3, 146), (3, 147)]) rfl hP rfl 12 (by decide) (hts _ (wg_t kw_177)) (fun _ h9 => h9) (cd := (3, 143)) rfl dDA_makeSignature_66 (fun v26 hv26 => ?_)
  obtain ⟨r26, rfl, kr26⟩ := (show ∃ r : Nat, v26 = .ref r ∧ T r = some 143 from hv26)
  refine lv_iconst (v := nI 0) hx hb dDA_makeSignature_69 (by decide) ?_
  refine lv_bipush (v := nI 64) hx hb dDA_makeSignature_70 (by decide) ?_
  refine mp_v (cx := []) (wr := []) hP hD hS hA [] [] rfl rfl rfl (by decide) (va_runV (As := [.ref r26, .int (nI 0), .int (nI 64)]) (rest := []) F (N_SP_absorb l g _ T s26 pl hO hU r25 r26 16 17 143 64 0 64 x29 x30 kr25 rfl rfl kr26 rfl hx_29 hx_30 (by omega) (by omega) (by omega) (by omega)) (cwV 3 hts (wg_app (wg_c kw_670 (wg_c kw_586 (wg_c kw_587 (wg_c kw_2 wg_n)))) kw_588) rfl rfl rfl (by decide +kernel) ⟨by decide, by decide⟩) (pn_W "LatticeKeys$Sponge" (en_ok g) (ci := 3) (kn := 16) (fl := [(3, 17), (0, 0), (0, 0), (0, 0)]) hK hO kr25 rfl hP hD hS hA hE [] rfl rfl rfl) rfl rfl hl.1 rfl (lv_room (Nat.le_of_ble_eq_true rfl)) dDA_makeSignature_72 ⟨by omega, by omega⟩) (fun  u26 H locs hu26 hP hD hS => ?_)
  obtain ⟨s27, pl⟩ := u26
  obtain ⟨⟨eq26, hFc26, ⟨x32, hx_32, hb_32⟩, ⟨x33, hx_33, hb_33⟩, -⟩, hO⟩ := hu26
  have hO : okn g T s27 pl := hO
  have hP : va_P g.1 vcl ([] ++ pl) _ := hP
  have hD : va_D _ ([] ++ pl) := hD
  have hFc26 : frm (M_SP_absorb 16) s26 s27 := hFc26
  have hb_32 : x32 < x30 := hb_32
  have hb_33 : x33 = x30 := hb_33
  replace hR := bnd_step hR eq26
  have hF := frm_tr hF hFc26 (fun k hk => by unfold M_SP_absorb at hk; unfold M_DA_makeSignature_2; omega)
  refine W.widen (k := 0) (n := 0) (by omega) (by omega) ?_
  refine lv_aload_n hx hb dDA_makeSignature_75 rfl (lv_at hl 0 rfl) ?_
  refine nw_get (C := "LatticeKeys$Dsa") (TT := T_DA) (N := 17) hx hb hts (wg_ft i_DA) hown hK hO k_h0 (kn := 39) (ci := 6) (fl := [(3, 16), (3, 22), (3, 37), (3, 40), (3, 97), (3, 105), (3, 114), (3, 123), (3, 131), (3, 140), (3, 141), (3, 142), (3, 143), (3, 144), (3, 145), (3, 146), (3, 147)]) rfl hP rfl 0 (by decide) (hts _ (wg_t kw_165)) (fun _ h9 => h9) (cd := (3, 16)) rfl dDA_makeSignature_76 (fun v27 hv27 => ?_)
  obtain ⟨r27, rfl, kr27⟩ := (show ∃ r : Nat, v27 = .ref r ∧ T r = some 16 from hv27)
  refine mp_v (cx := []) (wr := []) hP hD hS hA [] [] rfl rfl rfl (by decide) (va_runV (As := []) (rest := []) F (N_SP_finish l g _ T s27 pl hO hU r27 16 17 x32 x33 kr27 rfl rfl hx_32 hx_33 (by omega) (by omega)) (cwV 0 hts (wg_app (wg_c kw_672 (wg_c kw_611 (wg_c kw_612 (wg_c kw_2 wg_n)))) kw_613) rfl rfl rfl (by decide +kernel) ⟨by decide, by decide⟩) (pn_W "LatticeKeys$Sponge" (en_ok g) (ci := 3) (kn := 16) (fl := [(3, 17), (0, 0), (0, 0), (0, 0)]) hK hO kr27 rfl hP hD hS hA hE [] rfl rfl rfl) rfl rfl hl.1 rfl (lv_room (Nat.le_of_ble_eq_true rfl)) dDA_makeSignature_79 ⟨by omega, by omega⟩) (fun  u27 H locs hu27 hP hD hS => ?_)
  obtain ⟨s28, pl⟩ := u27
  obtain ⟨⟨eq27, hFc27, ⟨x35, hx_35, hb_35⟩, ⟨x36, hx_36, hb_36⟩, -⟩, hO⟩ := hu27
  have hO : okn g T s28 pl := hO
  have hP : va_P g.1 vcl ([] ++ pl) _ := hP
  have hD : va_D _ ([] ++ pl) := hD
  have hFc27 : frm (M_SP_finish 16) s27 s28 := hFc27
  have hb_35 : x35 = x33 := hb_35
  have hb_36 : x36 = x33 := hb_36
  replace hR := bnd_step hR eq27
  have hF := frm_tr hF hFc27 (fun k hk => by unfold M_SP_finish at hk; unfold M_DA_makeSignature_2; omega)
  refine W.widen (k := 0) (n := 0) (by omega) (by omega) ?_
  refine lv_aload_n hx hb dDA_makeSignature_82 rfl (lv_at hl 0 rfl) ?_
  refine nw_get (C := "LatticeKeys$Dsa") (TT := T_DA) (N := 17) hx hb hts (wg_ft i_DA) hown hK hO k_h0 (kn := 39) (ci := 6) (fl := [(3, 16), (3, 22), (3, 37), (3, 40), (3, 97), (3, 105), (3, 114), (3, 123), (3, 131), (3, 140), (3, 141), (3, 142), (3, 143), (3, 144), (3, 145), (3, 146), (3, 147)]) rfl hP rfl 0 (by decide) (hts _ (wg_t kw_165)) (fun _ h9 => h9) (cd := (3, 16)) rfl dDA_makeSignature_83 (fun v28 hv28 => ?_)
  obtain ⟨r28, rfl, kr28⟩ := (show ∃ r : Nat, v28 = .ref r ∧ T r = some 16 from hv28)
  refine lv_aload_n hx hb dDA_makeSignature_86 rfl (lv_at hl 0 rfl) ?_
  refine nw_get (C := "LatticeKeys$Dsa") (TT := T_DA) (N := 17) hx hb hts (wg_ft i_DA) hown hK hO k_h0 (kn := 39) (ci := 6) (fl := [(3, 16), (3, 22), (3, 37), (3, 40), (3, 97), (3, 105), (3, 114), (3, 123), (3, 131), (3, 140), (3, 141), (3, 142), (3, 143), (3, 144), (3, 145), (3, 146), (3, 147)]) rfl hP rfl 11 (by decide) (hts _ (wg_t kw_176)) (fun _ h9 => h9) (cd := (3, 142)) rfl dDA_makeSignature_87 (fun v29 hv29 => ?_)
  obtain ⟨r29, rfl, kr29⟩ := (show ∃ r : Nat, v29 = .ref r ∧ T r = some 142 from hv29)
  refine lv_iconst (v := nI 0) hx hb dDA_makeSignature_90 (by decide) ?_
  refine lv_bipush (v := nI 64) hx hb dDA_makeSignature_91 (by decide) ?_
  refine mp_v (cx := []) (wr := []) hP hD hS hA [] [] rfl rfl rfl (by decide) (va_runV (As := [.ref r29, .int (nI 0), .int (nI 64)]) (rest := []) F (N_SP_squeeze l g _ T s28 pl hO hU r28 r29 16 17 142 128 0 64 x35 x36 kr28 rfl rfl kr29 rfl hx_35 hx_36 (by omega) (by omega) (by omega) (by omega)) (cwV 3 hts (wg_app (wg_c kw_673 (wg_c kw_615 (wg_c kw_616 (wg_c kw_2 wg_n)))) kw_617) rfl rfl rfl (by decide +kernel) ⟨by decide, by decide⟩) (pn_W "LatticeKeys$Sponge" (en_ok g) (ci := 3) (kn := 16) (fl := [(3, 17), (0, 0), (0, 0), (0, 0)]) hK hO kr28 rfl hP hD hS hA hE [] rfl rfl rfl) rfl rfl hl.1 rfl (lv_room (Nat.le_of_ble_eq_true rfl)) dDA_makeSignature_93 ⟨by omega, by omega⟩) (fun  u28 H locs hu28 hP hD hS => ?_)
  obtain ⟨s29, pl⟩ := u28
  obtain ⟨⟨eq28, hFc28, ⟨x38, hx_38, hb_38⟩, ⟨x39, hx_39, hb_39⟩, -⟩, hO⟩ := hu28
  have hO : okn g T s29 pl := hO
  have hP : va_P g.1 vcl ([] ++ pl) _ := hP
  have hD : va_D _ ([] ++ pl) := hD
  have hFc28 : frm (M_SP_squeeze 16 142) s28 s29 := hFc28
  have hb_38 : x38 ≤ x36 := hb_38
  have hb_39 : x39 = x36 := hb_39
  replace hR := bnd_step hR eq28
  have hF := frm_tr hF hFc28 (fun k hk => by unfold M_SP_squeeze at hk; unfold M_DA_makeSignature_2; omega)
  refine W.widen (k := 0) (n := 0) (by omega) (by omega) ?_
  refine lv_iconst (v := nI 1) hx hb dDA_makeSignature_96 (by decide) ?_
  refine lv_istore (lv' := [(7, .int (nI 1)), (0, .ref h0), (1, .ref st), (2, .ref sk), (3, .ref tp), (4, .int (nI len)), (5, .int cl_), (6, .ref to)]) hx hb dDA_makeSignature_97 hl (by decide) rfl (fun ls hl => ?_)
  have lp21 : ∀ (n21 : Nat) (i21 : Nat) (s30 : Sto) (pl : va_W) (ls : Array Slot) (H : Heap) (locs : List Loc), n21 + i21 = 201 → (1 ≤ i21) → frm (M_DA_makeSignature_2 pt) s s30 → F_DA_makeSignature_2 psk ptp n len cl_ pt s = F_DA_makeSignature_2_L0 pt n21 i21 s30 → lv_has ls 8 [(7, .int (nI i21)), (0, .ref h0), (1, .ref st), (6, .ref to)] → okn g T s30 pl → va_P g.1 vcl ([] ++ pl) H → va_D A ([] ++ pl) → va_S A s0.heap H locs → W p l e ({ frames := 6, cells := 0, slots := 0, locals := 176 } : Room) s0 m args below meth c H locs 0 0 (MQ below (va_Qi (fun (r : Int32) (u : (Int32 × Sto) × va_W) => (u.1 = F_DA_makeSignature_2 psk ptp n len cl_ pt s ∧ r = u.1.1 ∧ frm (M_DA_makeSignature_2 pt) s u.1.2 ∧ True) ∧ okn g T u.1.2 u.2) (po g.1 vcl A (fun (u : (Int32 × Sto) × va_W) => [] ++ u.2)) A) args s0 0 0 A) (F0 m 99 ls []) := by
    intro n21
    induction n21 with
    | zero =>
      intro i21 s30 pl ls H locs hm21 hi21 hF hR hl hO hP hD hS
      refine lv_iload hx hb dDA_makeSignature_99 (lv_at hl 0 rfl) ?_
      refine lv_sipush (v := nI 200) hx hb dDA_makeSignature_101 (by decide) ?_
      refine mi_gt (tgt := 161) hx hb dDA_makeSignature_104 (by decide) (by omega) (by omega) (fun h21 => ?_) (fun h21 => absurd h21 (by omega))
      refine lv_iconst (v := nI 0) hx hb dDA_makeSignature_161 (by decide) ?_
      exact mp_iret hx hb hr hlk hP hD hS ((nI 0, s30), pl) ⟨⟨hR.symm, rfl, hF, trivial⟩, hO⟩ [] rfl rfl rfl (by omega) (by omega) dDA_makeSignature_162
    | succ n21 ih21 =>
      intro i21 s30 pl ls H locs hm21 hi21 hF hR hl hO hP hD hS
      refine lv_iload hx hb dDA_makeSignature_99 (lv_at hl 0 rfl) ?_
      refine lv_sipush (v := nI 200) hx hb dDA_makeSignature_101 (by decide) ?_
      refine mi_gt (tgt := 161) hx hb dDA_makeSignature_104 (by decide) (by omega) (by omega) (fun h22 => absurd h22 (by omega)) (fun h22 => ?_)
      refine lv_aload_n hx hb dDA_makeSignature_107 rfl (lv_at hl 1 rfl) ?_
      refine lv_aload_n hx hb dDA_makeSignature_108 rfl (lv_at hl 2 rfl) ?_
      refine lv_aload_n hx hb dDA_makeSignature_109 rfl (lv_at hl 2 rfl) ?_
      refine nw_get (C := "LatticeKeys$DsaSet") (TT := T_DS) (N := 17) hx hb hts (wg_ft i_DS) hown hK hO k_st (kn := 11) (ci := 2) (fl := [(1, 8), (1, 7), (1, 2), (1, 3), (1, 60), (1, 64), (1, 20), (1, 524288), (1, 16), (1, 4), (1, 261888), (1, 75), (1, 120), (1, 2592), (1, 4896), (1, 4544), (1, 4627)]) rfl hP rfl 1 (by decide) (hts _ (wg_t kw_305)) (fun _ h9 => h9) (cd := (1, 7)) rfl dDA_makeSignature_110 (fun v30 hv30 => ?_)
      obtain rfl := (show v30 = .int (nI 7) from hv30)
      refine lv_iload hx hb dDA_makeSignature_113 (lv_at hl 0 rfl) ?_
      refine lv_iconst (v := nI 1) hx hb dDA_makeSignature_115 (by decide) ?_
      refine mi_isub hx hb dDA_makeSignature_116 (by omega) ?_
      refine mi_imul hx hb dDA_makeSignature_117 ?_
      refine mp_v (cx := []) (wr := []) hP hD hS hA [] [] rfl rfl rfl (by decide) (va_runV (As := [.ref st, .int (nI (7 * (i21 - 1)))]) (rest := []) F (N_DA_commit_2 l g _ T s30 pl hO hU h0 st (nI (7 * (i21 - 1))) k_h0 k_st) (cwV 2 hts (wg_app (wg_c kw_1192 (wg_c kw_1194 (wg_c ks_37 (wg_c kw_5 wg_n)))) kw_1195) rfl rfl rfl (by decide +kernel) ⟨by decide, by decide⟩) (pn_W "LatticeKeys$Dsa" (en_ok g) (ci := 6) (kn := 39) (fl := [(3, 16), (3, 22), (3, 37), (3, 40), (3, 97), (3, 105), (3, 114), (3, 123), (3, 131), (3, 140), (3, 141), (3, 142), (3, 143), (3, 144), (3, 145), (3, 146), (3, 147)]) hK hO k_h0 rfl hP hD hS hA hE [] rfl rfl rfl) rfl rfl hl.1 rfl (lv_room (Nat.le_of_ble_eq_true rfl)) dDA_makeSignature_118 ⟨by omega, by omega⟩) (fun  u29 H locs hu29 hP hD hS => ?_)
      obtain ⟨s31, pl⟩ := u29
      obtain ⟨⟨eq29, hFc29, -⟩, hO⟩ := hu29
      have hO : okn g T s31 pl := hO
      have hP : va_P g.1 vcl ([] ++ pl) _ := hP
      have hD : va_D _ ([] ++ pl) := hD
      have hFc29 : frm (M_DA_commit_2) s30 s31 := hFc29
      replace hR := bnd_step hR eq29
      have hF := frm_tr hF hFc29 (fun k hk => by unfold M_DA_commit_2 at hk; unfold M_DA_makeSignature_2; omega)
      refine W.widen (k := 0) (n := 0) (by omega) (by omega) ?_
      refine lv_aload_n hx hb dDA_makeSignature_121 rfl (lv_at hl 1 rfl) ?_
      refine lv_aload_n hx hb dDA_makeSignature_122 rfl (lv_at hl 2 rfl) ?_
      refine mp_i (cx := []) (wr := []) hP hD hS hA [] [] rfl rfl rfl (by decide) (va_runV (As := [.ref st]) (rest := []) F (N_DA_answerIsShort_2 l g _ T s31 pl hO hU h0 st k_h0 k_st) (cwV 1 hts (wg_app (wg_c kw_1220 (wg_c kw_1222 (wg_c ks_40 (wg_c kw_5 wg_n)))) kw_1223) rfl rfl rfl (by decide +kernel) ⟨by decide, by decide⟩) (pn_W "LatticeKeys$Dsa" (en_ok g) (ci := 6) (kn := 39) (fl := [(3, 16), (3, 22), (3, 37), (3, 40), (3, 97), (3, 105), (3, 114), (3, 123), (3, 131), (3, 140), (3, 141), (3, 142), (3, 143), (3, 144), (3, 145), (3, 146), (3, 147)]) hK hO k_h0 rfl hP hD hS hA hE [] rfl rfl rfl) rfl rfl hl.1 rfl (lv_room (Nat.le_of_ble_eq_true rfl)) dDA_makeSignature_123 ⟨by omega, by omega⟩) (fun r30 u30 H locs hu30 hP hD hS => ?_)
      obtain ⟨q21, pl⟩ := u30
      obtain ⟨⟨eq30, rfl, hFc30, -⟩, hO⟩ := hu30
      have hO : okn g T q21.2 pl := hO
      have hP : va_P g.1 vcl ([] ++ pl) _ := hP
      have hD : va_D _ ([] ++ pl) := hD
      have hFc30 : frm (M_DA_answerIsShort_2) s31 q21.2 := hFc30
      replace hR := bnd_step hR eq30
      have hF := frm_tr hF hFc30 (fun k hk => by unfold M_DA_answerIsShort_2 at hk; unfold M_DA_makeSignature_2; omega)
      refine W.widen (k := 0) (n := 0) (by omega) (by omega) ?_
      refine lv_if_eq (tgt := 155) hx hb dDA_makeSignature_126 (by decide) (fun h23 => ?_) (fun h23 => ?_)
      · replace hR := hR.trans (if_pos h23)
        refine mi_iinc (k := 0) (x := i21) (d := 1) (y := i21 + 1) (lv' := [(7, .int (nI (i21 + 1))), (0, .ref h0), (1, .ref st), (6, .ref to)]) hx hb dDA_makeSignature_155 hl rfl (by decide) rfl (by decide) rfl (fun ls hl => ?_)
        refine lv_goto (tgt := 99) hx hb dDA_makeSignature_158 (by decide) ?_
        exact ih21 (i21 + 1) q21.2 pl ls H locs (by omega) (by omega) hF hR (lv_sub hl [0, 1, 2, 3] rfl) hO hP hD hS
      · replace hR := hR.trans (if_neg h23)
        refine lv_aload_n hx hb dDA_makeSignature_129 rfl (lv_at hl 1 rfl) ?_
        refine lv_aload_n hx hb dDA_makeSignature_130 rfl (lv_at hl 2 rfl) ?_
        refine mp_i (cx := []) (wr := []) hP hD hS hA [] [] rfl rfl rfl (by decide) (va_runV (As := [.ref st]) (rest := []) F (N_DA_restIsShort_2 l g _ T q21.2 pl hO hU h0 st k_h0 k_st) (cwV 1 hts (wg_app (wg_c kw_1232 (wg_c kw_1234 (wg_c ks_42 (wg_c kw_5 wg_n)))) kw_1235) rfl rfl rfl (by decide +kernel) ⟨by decide, by decide⟩) (pn_W "LatticeKeys$Dsa" (en_ok g) (ci := 6) (kn := 39) (fl := [(3, 16), (3, 22), (3, 37), (3, 40), (3, 97), (3, 105), (3, 114), (3, 123), (3, 131), (3, 140), (3, 141), (3, 142), (3, 143), (3, 144), (3, 145), (3, 146), (3, 147)]) hK hO k_h0 rfl hP hD hS hA hE [] rfl rfl rfl) rfl rfl hl.1 rfl (lv_room (Nat.le_of_ble_eq_true rfl)) dDA_makeSignature_131 ⟨by omega, by omega⟩) (fun r31 u31 H locs hu31 hP hD hS => ?_)
        obtain ⟨q22, pl⟩ := u31
        obtain ⟨⟨eq31, rfl, hFc31, -⟩, hO⟩ := hu31
        have hO : okn g T q22.2 pl := hO
        have hP : va_P g.1 vcl ([] ++ pl) _ := hP
        have hD : va_D _ ([] ++ pl) := hD
        have hFc31 : frm (M_DA_restIsShort_2) q21.2 q22.2 := hFc31
        replace hR := bnd_step hR eq31
        have hF := frm_tr hF hFc31 (fun k hk => by unfold M_DA_restIsShort_2 at hk; unfold M_DA_makeSignature_2; omega)
        refine W.widen (k := 0) (n := 0) (by omega) (by omega) ?_
        refine lv_if_eq (tgt := 155) hx hb dDA_makeSignature_134 (by decide) (fun h24 => ?_) (fun h24 => ?_)
        · replace hR := hR.trans (if_pos h24)
          refine mi_iinc (k := 0) (x := i21) (d := 1) (y := i21 + 1) (lv' := [(7, .int (nI (i21 + 1))), (0, .ref h0), (1, .ref st), (6, .ref to)]) hx hb dDA_makeSignature_155 hl rfl (by decide) rfl (by decide) rfl (fun ls hl => ?_)
          refine lv_goto (tgt := 99) hx hb dDA_makeSignature_158 (by decide) ?_
          exact ih21 (i21 + 1) q22.2 pl ls H locs (by omega) (by omega) hF hR (lv_sub hl [0, 1, 2, 3] rfl) hO hP hD hS
        · replace hR := hR.trans (if_neg h24)
          refine lv_aload_n hx hb dDA_makeSignature_137 rfl (lv_at hl 1 rfl) ?_
          refine lv_aload_n hx hb dDA_makeSignature_138 rfl (lv_at hl 2 rfl) ?_
          refine mp_i (cx := []) (wr := []) hP hD hS hA [] [] rfl rfl rfl (by decide) (va_runV (As := [.ref st]) (rest := []) F (N_DA_makeHints_2 l g _ T q22.2 pl hO hU h0 st k_h0 k_st) (cwV 1 hts (wg_app (wg_c kw_1241 (wg_c kw_1243 (wg_c ks_43 (wg_c kw_5 wg_n)))) kw_1244) rfl rfl rfl (by decide +kernel) ⟨by decide, by decide⟩) (pn_W "LatticeKeys$Dsa" (en_ok g) (ci := 6) (kn := 39) (fl := [(3, 16), (3, 22), (3, 37), (3, 40), (3, 97), (3, 105), (3, 114), (3, 123), (3, 131), (3, 140), (3, 141), (3, 142), (3, 143), (3, 144), (3, 145), (3, 146), (3, 147)]) hK hO k_h0 rfl hP hD hS hA hE [] rfl rfl rfl) rfl rfl hl.1 rfl (lv_room (Nat.le_of_ble_eq_true rfl)) dDA_makeSignature_139 ⟨by omega, by omega⟩) (fun r32 u32 H locs hu32 hP hD hS => ?_)
          obtain ⟨q23, pl⟩ := u32
          obtain ⟨⟨eq32, rfl, hFc32, -⟩, hO⟩ := hu32
          have hO : okn g T q23.2 pl := hO
          have hP : va_P g.1 vcl ([] ++ pl) _ := hP
          have hD : va_D _ ([] ++ pl) := hD
          have hFc32 : frm (M_DA_makeHints_2) q22.2 q23.2 := hFc32
          replace hR := bnd_step hR eq32
          have hF := frm_tr hF hFc32 (fun k hk => by unfold M_DA_makeHints_2 at hk; unfold M_DA_makeSignature_2; omega)
          refine W.widen (k := 0) (n := 0) (by omega) (by omega) ?_
          refine lv_if_eq (tgt := 155) hx hb dDA_makeSignature_142 (by decide) (fun h25 => ?_) (fun h25 => ?_)
          · replace hR := hR.trans (if_pos h25)
            refine mi_iinc (k := 0) (x := i21) (d := 1) (y := i21 + 1) (lv' := [(7, .int (nI (i21 + 1))), (0, .ref h0), (1, .ref st), (6, .ref to)]) hx hb dDA_makeSignature_155 hl rfl (by decide) rfl (by decide) rfl (fun ls hl => ?_)
            refine lv_goto (tgt := 99) hx hb dDA_makeSignature_158 (by decide) ?_
            exact ih21 (i21 + 1) q23.2 pl ls H locs (by omega) (by omega) hF hR (lv_sub hl [0, 1, 2, 3] rfl) hO hP hD hS
          · replace hR := hR.trans (if_neg h25)
            refine lv_aload_n hx hb dDA_makeSignature_145 rfl (lv_at hl 1 rfl) ?_
            refine lv_aload_n hx hb dDA_makeSignature_146 rfl (lv_at hl 2 rfl) ?_
            refine lv_aload hx hb dDA_makeSignature_147 (lv_at hl 3 rfl) ?_
            refine mp_v (cx := []) (wr := []) hP hD hS hA [] [] rfl rfl rfl (by decide) (va_runV (As := [.ref st, .ref to]) (rest := []) F (N_DA_writeSignature_2 l g _ T q23.2 pl hO hU h0 st to pt k_h0 k_st k_to n_to) (cwV 2 hts (wg_app (wg_c kw_1248 (wg_c kw_1250 (wg_c ks_44 (wg_c kw_5 wg_n)))) kw_1251) rfl rfl rfl (by decide +kernel) ⟨by decide, by decide⟩) (pn_W "LatticeKeys$Dsa" (en_ok g) (ci := 6) (kn := 39) (fl := [(3, 16), (3, 22), (3, 37), (3, 40), (3, 97), (3, 105), (3, 114), (3, 123), (3, 131), (3, 140), (3, 141), (3, 142), (3, 143), (3, 144), (3, 145), (3, 146), (3, 147)]) hK hO k_h0 rfl hP hD hS hA hE [] rfl rfl rfl) rfl rfl hl.1 rfl (lv_room (Nat.le_of_ble_eq_true rfl)) dDA_makeSignature_149 ⟨by omega, by omega⟩) (fun  u33 H locs hu33 hP hD hS => ?_)
            obtain ⟨s32, pl⟩ := u33
            obtain ⟨⟨eq33, hFc33, -⟩, hO⟩ := hu33
            have hO : okn g T s32 pl := hO
            have hP : va_P g.1 vcl ([] ++ pl) _ := hP
            have hD : va_D _ ([] ++ pl) := hD
            have hFc33 : frm (M_DA_writeSignature_2 pt) q23.2 s32 := hFc33
            replace hR := bnd_step hR eq33
            have hF := frm_tr hF hFc33 (fun k hk => by unfold M_DA_writeSignature_2 at hk; unfold M_DA_makeSignature_2; omega)
            refine W.widen (k := 0) (n := 0) (by omega) (by omega) ?_
            refine lv_iload hx hb dDA_makeSignature_152 (lv_at hl 0 rfl) ?_
            exact mp_iret hx hb hr hlk hP hD hS ((nI i21, s32), pl) ⟨⟨hR.symm, rfl, hF, trivial⟩, hO⟩ [] rfl rfl rfl (by omega) (by omega) dDA_makeSignature_154
  exact lp21 (201 - 1) 1 s29 pl ls _ _ (by omega) (by omega) hF hR (lv_sub hl [0, 1, 2, 7] rfl) hO hP hD hS
