set_option linter.all false
abbrev c_SP_permute : ByteArray := prog_10_method_9_code
abbrev y_SP_permute : MethodName := ⟨"LatticeKeys$Sponge", "permute", "()V"⟩
abbrev w_SP_permute : List Cond := Cond.code y_SP_permute c_SP_permute 36 none :: WG
theorem dSP_permute_0 : decode c_SP_permute 0 = .ok (.aload_n 0, 1) := by decide +kernel
theorem dSP_permute_1 : decode c_SP_permute 1 = .ok (.getfield 7, 3) := by decide +kernel
theorem dSP_permute_4 : decode c_SP_permute 4 = .ok (.astore_n 1, 1) := by decide +kernel
theorem dSP_permute_5 : decode c_SP_permute 5 = .ok (.iconst 0, 1) := by decide +kernel
theorem dSP_permute_6 : decode c_SP_permute 6 = .ok (.istore_n 2, 1) := by decide +kernel
theorem dSP_permute_7 : decode c_SP_permute 7 = .ok (.iload_n 2, 1) := by decide +kernel
theorem dSP_permute_8 : decode c_SP_permute 8 = .ok (.bipush 24, 2) := by decide +kernel
theorem dSP_permute_10 : decode c_SP_permute 10 = .ok (.if_icmp .ge 491, 3) := by decide +kernel
theorem dSP_permute_13 : decode c_SP_permute 13 = .ok (.aload_n 1, 1) := by decide +kernel
theorem dSP_permute_14 : decode c_SP_permute 14 = .ok (.iconst 0, 1) := by decide +kernel
theorem dSP_permute_15 : decode c_SP_permute 15 = .ok (.laload, 1) := by decide +kernel
theorem dSP_permute_16 : decode c_SP_permute 16 = .ok (.aload_n 1, 1) := by decide +kernel
theorem dSP_permute_17 : decode c_SP_permute 17 = .ok (.iconst 5, 1) := by decide +kernel
theorem dSP_permute_18 : decode c_SP_permute 18 = .ok (.laload, 1) := by decide +kernel
theorem dSP_permute_19 : decode c_SP_permute 19 = .ok (.lxor, 1) := by decide +kernel
theorem dSP_permute_20 : decode c_SP_permute 20 = .ok (.aload_n 1, 1) := by decide +kernel
theorem dSP_permute_21 : decode c_SP_permute 21 = .ok (.bipush 10, 2) := by decide +kernel
theorem dSP_permute_23 : decode c_SP_permute 23 = .ok (.laload, 1) := by decide +kernel
theorem dSP_permute_24 : decode c_SP_permute 24 = .ok (.lxor, 1) := by decide +kernel
theorem dSP_permute_25 : decode c_SP_permute 25 = .ok (.aload_n 1, 1) := by decide +kernel
theorem dSP_permute_26 : decode c_SP_permute 26 = .ok (.bipush 15, 2) := by decide +kernel
theorem dSP_permute_28 : decode c_SP_permute 28 = .ok (.laload, 1) := by decide +kernel
theorem dSP_permute_29 : decode c_SP_permute 29 = .ok (.lxor, 1) := by decide +kernel
theorem dSP_permute_30 : decode c_SP_permute 30 = .ok (.aload_n 1, 1) := by decide +kernel
theorem dSP_permute_31 : decode c_SP_permute 31 = .ok (.bipush 20, 2) := by decide +kernel
theorem dSP_permute_33 : decode c_SP_permute 33 = .ok (.laload, 1) := by decide +kernel
theorem dSP_permute_34 : decode c_SP_permute 34 = .ok (.lxor, 1) := by decide +kernel
theorem dSP_permute_35 : decode c_SP_permute 35 = .ok (.lstore_n 3, 1) := by decide +kernel
theorem dSP_permute_36 : decode c_SP_permute 36 = .ok (.aload_n 1, 1) := by decide +kernel
theorem dSP_permute_37 : decode c_SP_permute 37 = .ok (.iconst 1, 1) := by decide +kernel
theorem dSP_permute_38 : decode c_SP_permute 38 = .ok (.laload, 1) := by decide +kernel
theorem dSP_permute_39 : decode c_SP_permute 39 = .ok (.aload_n 1, 1) := by decide +kernel
theorem dSP_permute_40 : decode c_SP_permute 40 = .ok (.bipush 6, 2) := by decide +kernel
theorem dSP_permute_42 : decode c_SP_permute 42 = .ok (.laload, 1) := by decide +kernel
theorem dSP_permute_43 : decode c_SP_permute 43 = .ok (.lxor, 1) := by decide +kernel
theorem dSP_permute_44 : decode c_SP_permute 44 = .ok (.aload_n 1, 1) := by decide +kernel
theorem dSP_permute_45 : decode c_SP_permute 45 = .ok (.bipush 11, 2) := by decide +kernel
theorem dSP_permute_47 : decode c_SP_permute 47 = .ok (.laload, 1) := by decide +kernel
theorem dSP_permute_48 : decode c_SP_permute 48 = .ok (.lxor, 1) := by decide +kernel
theorem dSP_permute_49 : decode c_SP_permute 49 = .ok (.aload_n 1, 1) := by decide +kernel
theorem dSP_permute_50 : decode c_SP_permute 50 = .ok (.bipush 16, 2) := by decide +kernel
theorem dSP_permute_52 : decode c_SP_permute 52 = .ok (.laload, 1) := by decide +kernel
theorem dSP_permute_53 : decode c_SP_permute 53 = .ok (.lxor, 1) := by decide +kernel
theorem dSP_permute_54 : decode c_SP_permute 54 = .ok (.aload_n 1, 1) := by decide +kernel
theorem dSP_permute_55 : decode c_SP_permute 55 = .ok (.bipush 21, 2) := by decide +kernel
theorem dSP_permute_57 : decode c_SP_permute 57 = .ok (.laload, 1) := by decide +kernel
theorem dSP_permute_58 : decode c_SP_permute 58 = .ok (.lxor, 1) := by decide +kernel
theorem dSP_permute_59 : decode c_SP_permute 59 = .ok (.lstore 5, 2) := by decide +kernel
theorem dSP_permute_61 : decode c_SP_permute 61 = .ok (.aload_n 1, 1) := by decide +kernel
theorem dSP_permute_62 : decode c_SP_permute 62 = .ok (.iconst 2, 1) := by decide +kernel
theorem dSP_permute_63 : decode c_SP_permute 63 = .ok (.laload, 1) := by decide +kernel
theorem dSP_permute_64 : decode c_SP_permute 64 = .ok (.aload_n 1, 1) := by decide +kernel
theorem dSP_permute_65 : decode c_SP_permute 65 = .ok (.bipush 7, 2) := by decide +kernel
theorem dSP_permute_67 : decode c_SP_permute 67 = .ok (.laload, 1) := by decide +kernel
theorem dSP_permute_68 : decode c_SP_permute 68 = .ok (.lxor, 1) := by decide +kernel
theorem dSP_permute_69 : decode c_SP_permute 69 = .ok (.aload_n 1, 1) := by decide +kernel
theorem dSP_permute_70 : decode c_SP_permute 70 = .ok (.bipush 12, 2) := by decide +kernel
theorem dSP_permute_72 : decode c_SP_permute 72 = .ok (.laload, 1) := by decide +kernel
theorem dSP_permute_73 : decode c_SP_permute 73 = .ok (.lxor, 1) := by decide +kernel
theorem dSP_permute_74 : decode c_SP_permute 74 = .ok (.aload_n 1, 1) := by decide +kernel
theorem dSP_permute_75 : decode c_SP_permute 75 = .ok (.bipush 17, 2) := by decide +kernel
theorem dSP_permute_77 : decode c_SP_permute 77 = .ok (.laload, 1) := by decide +kernel
theorem dSP_permute_78 : decode c_SP_permute 78 = .ok (.lxor, 1) := by decide +kernel
theorem dSP_permute_79 : decode c_SP_permute 79 = .ok (.aload_n 1, 1) := by decide +kernel
theorem dSP_permute_80 : decode c_SP_permute 80 = .ok (.bipush 22, 2) := by decide +kernel
theorem dSP_permute_82 : decode c_SP_permute 82 = .ok (.laload, 1) := by decide +kernel
theorem dSP_permute_83 : decode c_SP_permute 83 = .ok (.lxor, 1) := by decide +kernel
theorem dSP_permute_84 : decode c_SP_permute 84 = .ok (.lstore 7, 2) := by decide +kernel
theorem dSP_permute_86 : decode c_SP_permute 86 = .ok (.aload_n 1, 1) := by decide +kernel
theorem dSP_permute_87 : decode c_SP_permute 87 = .ok (.iconst 3, 1) := by decide +kernel
theorem dSP_permute_88 : decode c_SP_permute 88 = .ok (.laload, 1) := by decide +kernel
theorem dSP_permute_89 : decode c_SP_permute 89 = .ok (.aload_n 1, 1) := by decide +kernel
theorem dSP_permute_90 : decode c_SP_permute 90 = .ok (.bipush 8, 2) := by decide +kernel
theorem dSP_permute_92 : decode c_SP_permute 92 = .ok (.laload, 1) := by decide +kernel
theorem dSP_permute_93 : decode c_SP_permute 93 = .ok (.lxor, 1) := by decide +kernel
theorem dSP_permute_94 : decode c_SP_permute 94 = .ok (.aload_n 1, 1) := by decide +kernel
theorem dSP_permute_95 : decode c_SP_permute 95 = .ok (.bipush 13, 2) := by decide +kernel
theorem dSP_permute_97 : decode c_SP_permute 97 = .ok (.laload, 1) := by decide +kernel
theorem dSP_permute_98 : decode c_SP_permute 98 = .ok (.lxor, 1) := by decide +kernel
theorem dSP_permute_99 : decode c_SP_permute 99 = .ok (.aload_n 1, 1) := by decide +kernel
theorem dSP_permute_100 : decode c_SP_permute 100 = .ok (.bipush 18, 2) := by decide +kernel
theorem dSP_permute_102 : decode c_SP_permute 102 = .ok (.laload, 1) := by decide +kernel
theorem dSP_permute_103 : decode c_SP_permute 103 = .ok (.lxor, 1) := by decide +kernel
theorem dSP_permute_104 : decode c_SP_permute 104 = .ok (.aload_n 1, 1) := by decide +kernel
theorem dSP_permute_105 : decode c_SP_permute 105 = .ok (.bipush 23, 2) := by decide +kernel
theorem dSP_permute_107 : decode c_SP_permute 107 = .ok (.laload, 1) := by decide +kernel
theorem dSP_permute_108 : decode c_SP_permute 108 = .ok (.lxor, 1) := by decide +kernel
theorem dSP_permute_109 : decode c_SP_permute 109 = .ok (.lstore 9, 2) := by decide +kernel
theorem dSP_permute_111 : decode c_SP_permute 111 = .ok (.aload_n 1, 1) := by decide +kernel
theorem dSP_permute_112 : decode c_SP_permute 112 = .ok (.iconst 4, 1) := by decide +kernel
theorem dSP_permute_113 : decode c_SP_permute 113 = .ok (.laload, 1) := by decide +kernel
theorem dSP_permute_114 : decode c_SP_permute 114 = .ok (.aload_n 1, 1) := by decide +kernel
theorem dSP_permute_115 : decode c_SP_permute 115 = .ok (.bipush 9, 2) := by decide +kernel
theorem dSP_permute_117 : decode c_SP_permute 117 = .ok (.laload, 1) := by decide +kernel
theorem dSP_permute_118 : decode c_SP_permute 118 = .ok (.lxor, 1) := by decide +kernel
theorem dSP_permute_119 : decode c_SP_permute 119 = .ok (.aload_n 1, 1) := by decide +kernel
theorem dSP_permute_120 : decode c_SP_permute 120 = .ok (.bipush 14, 2) := by decide +kernel
theorem dSP_permute_122 : decode c_SP_permute 122 = .ok (.laload, 1) := by decide +kernel
theorem dSP_permute_123 : decode c_SP_permute 123 = .ok (.lxor, 1) := by decide +kernel
theorem dSP_permute_124 : decode c_SP_permute 124 = .ok (.aload_n 1, 1) := by decide +kernel
theorem dSP_permute_125 : decode c_SP_permute 125 = .ok (.bipush 19, 2) := by decide +kernel
theorem dSP_permute_127 : decode c_SP_permute 127 = .ok (.laload, 1) := by decide +kernel
theorem dSP_permute_128 : decode c_SP_permute 128 = .ok (.lxor, 1) := by decide +kernel
theorem dSP_permute_129 : decode c_SP_permute 129 = .ok (.aload_n 1, 1) := by decide +kernel
theorem dSP_permute_130 : decode c_SP_permute 130 = .ok (.bipush 24, 2) := by decide +kernel
theorem dSP_permute_132 : decode c_SP_permute 132 = .ok (.laload, 1) := by decide +kernel
theorem dSP_permute_133 : decode c_SP_permute 133 = .ok (.lxor, 1) := by decide +kernel
theorem dSP_permute_134 : decode c_SP_permute 134 = .ok (.lstore 11, 2) := by decide +kernel
theorem dSP_permute_136 : decode c_SP_permute 136 = .ok (.lload 11, 2) := by decide +kernel
theorem dSP_permute_138 : decode c_SP_permute 138 = .ok (.lload 5, 2) := by decide +kernel
theorem dSP_permute_140 : decode c_SP_permute 140 = .ok (.iconst 1, 1) := by decide +kernel
theorem dSP_permute_141 : decode c_SP_permute 141 = .ok (.lshl, 1) := by decide +kernel
theorem dSP_permute_142 : decode c_SP_permute 142 = .ok (.lload 5, 2) := by decide +kernel
theorem dSP_permute_144 : decode c_SP_permute 144 = .ok (.bipush 63, 2) := by decide +kernel
theorem dSP_permute_146 : decode c_SP_permute 146 = .ok (.lushr, 1) := by decide +kernel
theorem dSP_permute_147 : decode c_SP_permute 147 = .ok (.lor, 1) := by decide +kernel
theorem dSP_permute_148 : decode c_SP_permute 148 = .ok (.lxor, 1) := by decide +kernel
theorem dSP_permute_149 : decode c_SP_permute 149 = .ok (.lstore 13, 2) := by decide +kernel
theorem dSP_permute_151 : decode c_SP_permute 151 = .ok (.lload_n 3, 1) := by decide +kernel
theorem dSP_permute_152 : decode c_SP_permute 152 = .ok (.lload 7, 2) := by decide +kernel
theorem dSP_permute_154 : decode c_SP_permute 154 = .ok (.iconst 1, 1) := by decide +kernel
theorem dSP_permute_155 : decode c_SP_permute 155 = .ok (.lshl, 1) := by decide +kernel
theorem dSP_permute_156 : decode c_SP_permute 156 = .ok (.lload 7, 2) := by decide +kernel
theorem dSP_permute_158 : decode c_SP_permute 158 = .ok (.bipush 63, 2) := by decide +kernel
theorem dSP_permute_160 : decode c_SP_permute 160 = .ok (.lushr, 1) := by decide +kernel
theorem dSP_permute_161 : decode c_SP_permute 161 = .ok (.lor, 1) := by decide +kernel
theorem dSP_permute_162 : decode c_SP_permute 162 = .ok (.lxor, 1) := by decide +kernel
theorem dSP_permute_163 : decode c_SP_permute 163 = .ok (.lstore 15, 2) := by decide +kernel
theorem dSP_permute_165 : decode c_SP_permute 165 = .ok (.lload 5, 2) := by decide +kernel
theorem dSP_permute_167 : decode c_SP_permute 167 = .ok (.lload 9, 2) := by decide +kernel
theorem dSP_permute_169 : decode c_SP_permute 169 = .ok (.iconst 1, 1) := by decide +kernel
theorem dSP_permute_170 : decode c_SP_permute 170 = .ok (.lshl, 1) := by decide +kernel
theorem dSP_permute_171 : decode c_SP_permute 171 = .ok (.lload 9, 2) := by decide +kernel
theorem dSP_permute_173 : decode c_SP_permute 173 = .ok (.bipush 63, 2) := by decide +kernel
theorem dSP_permute_175 : decode c_SP_permute 175 = .ok (.lushr, 1) := by decide +kernel
theorem dSP_permute_176 : decode c_SP_permute 176 = .ok (.lor, 1) := by decide +kernel
theorem dSP_permute_177 : decode c_SP_permute 177 = .ok (.lxor, 1) := by decide +kernel
theorem dSP_permute_178 : decode c_SP_permute 178 = .ok (.lstore 17, 2) := by decide +kernel
theorem dSP_permute_180 : decode c_SP_permute 180 = .ok (.lload 7, 2) := by decide +kernel
theorem dSP_permute_182 : decode c_SP_permute 182 = .ok (.lload 11, 2) := by decide +kernel
theorem dSP_permute_184 : decode c_SP_permute 184 = .ok (.iconst 1, 1) := by decide +kernel
theorem dSP_permute_185 : decode c_SP_permute 185 = .ok (.lshl, 1) := by decide +kernel
theorem dSP_permute_186 : decode c_SP_permute 186 = .ok (.lload 11, 2) := by decide +kernel
theorem dSP_permute_188 : decode c_SP_permute 188 = .ok (.bipush 63, 2) := by decide +kernel
theorem dSP_permute_190 : decode c_SP_permute 190 = .ok (.lushr, 1) := by decide +kernel
theorem dSP_permute_191 : decode c_SP_permute 191 = .ok (.lor, 1) := by decide +kernel
theorem dSP_permute_192 : decode c_SP_permute 192 = .ok (.lxor, 1) := by decide +kernel
theorem dSP_permute_193 : decode c_SP_permute 193 = .ok (.lstore 19, 2) := by decide +kernel
theorem dSP_permute_195 : decode c_SP_permute 195 = .ok (.lload 9, 2) := by decide +kernel
theorem dSP_permute_197 : decode c_SP_permute 197 = .ok (.lload_n 3, 1) := by decide +kernel
theorem dSP_permute_198 : decode c_SP_permute 198 = .ok (.iconst 1, 1) := by decide +kernel
theorem dSP_permute_199 : decode c_SP_permute 199 = .ok (.lshl, 1) := by decide +kernel
theorem dSP_permute_200 : decode c_SP_permute 200 = .ok (.lload_n 3, 1) := by decide +kernel
theorem dSP_permute_201 : decode c_SP_permute 201 = .ok (.bipush 63, 2) := by decide +kernel
theorem dSP_permute_203 : decode c_SP_permute 203 = .ok (.lushr, 1) := by decide +kernel
theorem dSP_permute_204 : decode c_SP_permute 204 = .ok (.lor, 1) := by decide +kernel
theorem dSP_permute_205 : decode c_SP_permute 205 = .ok (.lxor, 1) := by decide +kernel
theorem dSP_permute_206 : decode c_SP_permute 206 = .ok (.lstore 21, 2) := by decide +kernel
theorem dSP_permute_208 : decode c_SP_permute 208 = .ok (.iconst 0, 1) := by decide +kernel
theorem dSP_permute_209 : decode c_SP_permute 209 = .ok (.istore 23, 2) := by decide +kernel
theorem dSP_permute_211 : decode c_SP_permute 211 = .ok (.iload 23, 2) := by decide +kernel
theorem dSP_permute_213 : decode c_SP_permute 213 = .ok (.bipush 25, 2) := by decide +kernel
theorem dSP_permute_215 : decode c_SP_permute 215 = .ok (.if_icmp .ge 62, 3) := by decide +kernel
theorem dSP_permute_218 : decode c_SP_permute 218 = .ok (.aload_n 1, 1) := by decide +kernel
theorem dSP_permute_219 : decode c_SP_permute 219 = .ok (.iload 23, 2) := by decide +kernel
theorem dSP_permute_221 : decode c_SP_permute 221 = .ok (.dup2, 1) := by decide +kernel
theorem dSP_permute_222 : decode c_SP_permute 222 = .ok (.laload, 1) := by decide +kernel
theorem dSP_permute_223 : decode c_SP_permute 223 = .ok (.lload 13, 2) := by decide +kernel
theorem dSP_permute_225 : decode c_SP_permute 225 = .ok (.lxor, 1) := by decide +kernel
theorem dSP_permute_226 : decode c_SP_permute 226 = .ok (.lastore, 1) := by decide +kernel
theorem dSP_permute_227 : decode c_SP_permute 227 = .ok (.aload_n 1, 1) := by decide +kernel
theorem dSP_permute_228 : decode c_SP_permute 228 = .ok (.iload 23, 2) := by decide +kernel
theorem dSP_permute_230 : decode c_SP_permute 230 = .ok (.iconst 1, 1) := by decide +kernel
theorem dSP_permute_231 : decode c_SP_permute 231 = .ok (.iadd, 1) := by decide +kernel
theorem dSP_permute_232 : decode c_SP_permute 232 = .ok (.dup2, 1) := by decide +kernel
theorem dSP_permute_233 : decode c_SP_permute 233 = .ok (.laload, 1) := by decide +kernel
theorem dSP_permute_234 : decode c_SP_permute 234 = .ok (.lload 15, 2) := by decide +kernel
theorem dSP_permute_236 : decode c_SP_permute 236 = .ok (.lxor, 1) := by decide +kernel
theorem dSP_permute_237 : decode c_SP_permute 237 = .ok (.lastore, 1) := by decide +kernel
theorem dSP_permute_238 : decode c_SP_permute 238 = .ok (.aload_n 1, 1) := by decide +kernel
theorem dSP_permute_239 : decode c_SP_permute 239 = .ok (.iload 23, 2) := by decide +kernel
theorem dSP_permute_241 : decode c_SP_permute 241 = .ok (.iconst 2, 1) := by decide +kernel
theorem dSP_permute_242 : decode c_SP_permute 242 = .ok (.iadd, 1) := by decide +kernel
theorem dSP_permute_243 : decode c_SP_permute 243 = .ok (.dup2, 1) := by decide +kernel
theorem dSP_permute_244 : decode c_SP_permute 244 = .ok (.laload, 1) := by decide +kernel
theorem dSP_permute_245 : decode c_SP_permute 245 = .ok (.lload 17, 2) := by decide +kernel
theorem dSP_permute_247 : decode c_SP_permute 247 = .ok (.lxor, 1) := by decide +kernel
theorem dSP_permute_248 : decode c_SP_permute 248 = .ok (.lastore, 1) := by decide +kernel
theorem dSP_permute_249 : decode c_SP_permute 249 = .ok (.aload_n 1, 1) := by decide +kernel
theorem dSP_permute_250 : decode c_SP_permute 250 = .ok (.iload 23, 2) := by decide +kernel
theorem dSP_permute_252 : decode c_SP_permute 252 = .ok (.iconst 3, 1) := by decide +kernel
theorem dSP_permute_253 : decode c_SP_permute 253 = .ok (.iadd, 1) := by decide +kernel
theorem dSP_permute_254 : decode c_SP_permute 254 = .ok (.dup2, 1) := by decide +kernel
theorem dSP_permute_255 : decode c_SP_permute 255 = .ok (.laload, 1) := by decide +kernel
theorem dSP_permute_256 : decode c_SP_permute 256 = .ok (.lload 19, 2) := by decide +kernel
theorem dSP_permute_258 : decode c_SP_permute 258 = .ok (.lxor, 1) := by decide +kernel
theorem dSP_permute_259 : decode c_SP_permute 259 = .ok (.lastore, 1) := by decide +kernel
theorem dSP_permute_260 : decode c_SP_permute 260 = .ok (.aload_n 1, 1) := by decide +kernel
theorem dSP_permute_261 : decode c_SP_permute 261 = .ok (.iload 23, 2) := by decide +kernel
theorem dSP_permute_263 : decode c_SP_permute 263 = .ok (.iconst 4, 1) := by decide +kernel
theorem dSP_permute_264 : decode c_SP_permute 264 = .ok (.iadd, 1) := by decide +kernel
theorem dSP_permute_265 : decode c_SP_permute 265 = .ok (.dup2, 1) := by decide +kernel
theorem dSP_permute_266 : decode c_SP_permute 266 = .ok (.laload, 1) := by decide +kernel
theorem dSP_permute_267 : decode c_SP_permute 267 = .ok (.lload 21, 2) := by decide +kernel
theorem dSP_permute_269 : decode c_SP_permute 269 = .ok (.lxor, 1) := by decide +kernel
theorem dSP_permute_270 : decode c_SP_permute 270 = .ok (.lastore, 1) := by decide +kernel
theorem dSP_permute_271 : decode c_SP_permute 271 = .ok (.iinc 23 5, 3) := by decide +kernel
theorem dSP_permute_274 : decode c_SP_permute 274 = .ok (.goto (-63), 3) := by decide +kernel
theorem dSP_permute_277 : decode c_SP_permute 277 = .ok (.aload_n 1, 1) := by decide +kernel
theorem dSP_permute_278 : decode c_SP_permute 278 = .ok (.iconst 1, 1) := by decide +kernel
theorem dSP_permute_279 : decode c_SP_permute 279 = .ok (.laload, 1) := by decide +kernel
theorem dSP_permute_280 : decode c_SP_permute 280 = .ok (.lstore 23, 2) := by decide +kernel
theorem dSP_permute_282 : decode c_SP_permute 282 = .ok (.iconst 0, 1) := by decide +kernel
theorem dSP_permute_283 : decode c_SP_permute 283 = .ok (.istore 25, 2) := by decide +kernel
theorem dSP_permute_285 : decode c_SP_permute 285 = .ok (.iload 25, 2) := by decide +kernel
theorem dSP_permute_287 : decode c_SP_permute 287 = .ok (.bipush 24, 2) := by decide +kernel
theorem dSP_permute_289 : decode c_SP_permute 289 = .ok (.if_icmp .ge 53, 3) := by decide +kernel
theorem dSP_permute_292 : decode c_SP_permute 292 = .ok (.getstatic 53, 3) := by decide +kernel
theorem dSP_permute_295 : decode c_SP_permute 295 = .ok (.iload 25, 2) := by decide +kernel
theorem dSP_permute_297 : decode c_SP_permute 297 = .ok (.iaload, 1) := by decide +kernel
theorem dSP_permute_298 : decode c_SP_permute 298 = .ok (.istore 26, 2) := by decide +kernel
theorem dSP_permute_300 : decode c_SP_permute 300 = .ok (.aload_n 1, 1) := by decide +kernel
theorem dSP_permute_301 : decode c_SP_permute 301 = .ok (.iload 26, 2) := by decide +kernel
theorem dSP_permute_303 : decode c_SP_permute 303 = .ok (.laload, 1) := by decide +kernel
theorem dSP_permute_304 : decode c_SP_permute 304 = .ok (.lstore 27, 2) := by decide +kernel
theorem dSP_permute_306 : decode c_SP_permute 306 = .ok (.aload_n 1, 1) := by decide +kernel
theorem dSP_permute_307 : decode c_SP_permute 307 = .ok (.iload 26, 2) := by decide +kernel
theorem dSP_permute_309 : decode c_SP_permute 309 = .ok (.lload 23, 2) := by decide +kernel
theorem dSP_permute_311 : decode c_SP_permute 311 = .ok (.getstatic 56, 3) := by decide +kernel
theorem dSP_permute_314 : decode c_SP_permute 314 = .ok (.iload 25, 2) := by decide +kernel
theorem dSP_permute_316 : decode c_SP_permute 316 = .ok (.iaload, 1) := by decide +kernel
theorem dSP_permute_317 : decode c_SP_permute 317 = .ok (.lshl, 1) := by decide +kernel
theorem dSP_permute_318 : decode c_SP_permute 318 = .ok (.lload 23, 2) := by decide +kernel
theorem dSP_permute_320 : decode c_SP_permute 320 = .ok (.bipush 64, 2) := by decide +kernel
theorem dSP_permute_322 : decode c_SP_permute 322 = .ok (.getstatic 56, 3) := by decide +kernel
theorem dSP_permute_325 : decode c_SP_permute 325 = .ok (.iload 25, 2) := by decide +kernel
theorem dSP_permute_327 : decode c_SP_permute 327 = .ok (.iaload, 1) := by decide +kernel
theorem dSP_permute_328 : decode c_SP_permute 328 = .ok (.isub, 1) := by decide +kernel
theorem dSP_permute_329 : decode c_SP_permute 329 = .ok (.lushr, 1) := by decide +kernel
theorem dSP_permute_330 : decode c_SP_permute 330 = .ok (.lor, 1) := by decide +kernel
theorem dSP_permute_331 : decode c_SP_permute 331 = .ok (.lastore, 1) := by decide +kernel
theorem dSP_permute_332 : decode c_SP_permute 332 = .ok (.lload 27, 2) := by decide +kernel
theorem dSP_permute_334 : decode c_SP_permute 334 = .ok (.lstore 23, 2) := by decide +kernel
theorem dSP_permute_336 : decode c_SP_permute 336 = .ok (.iinc 25 1, 3) := by decide +kernel
theorem dSP_permute_339 : decode c_SP_permute 339 = .ok (.goto (-54), 3) := by decide +kernel
theorem dSP_permute_342 : decode c_SP_permute 342 = .ok (.iconst 0, 1) := by decide +kernel
theorem dSP_permute_343 : decode c_SP_permute 343 = .ok (.istore 25, 2) := by decide +kernel
theorem dSP_permute_345 : decode c_SP_permute 345 = .ok (.iload 25, 2) := by decide +kernel
theorem dSP_permute_347 : decode c_SP_permute 347 = .ok (.bipush 25, 2) := by decide +kernel
theorem dSP_permute_349 : decode c_SP_permute 349 = .ok (.if_icmp .ge 135, 3) := by decide +kernel
theorem dSP_permute_352 : decode c_SP_permute 352 = .ok (.aload_n 1, 1) := by decide +kernel
theorem dSP_permute_353 : decode c_SP_permute 353 = .ok (.iload 25, 2) := by decide +kernel
theorem dSP_permute_355 : decode c_SP_permute 355 = .ok (.laload, 1) := by decide +kernel
theorem dSP_permute_356 : decode c_SP_permute 356 = .ok (.lstore 26, 2) := by decide +kernel
theorem dSP_permute_358 : decode c_SP_permute 358 = .ok (.aload_n 1, 1) := by decide +kernel
theorem dSP_permute_359 : decode c_SP_permute 359 = .ok (.iload 25, 2) := by decide +kernel
theorem dSP_permute_361 : decode c_SP_permute 361 = .ok (.iconst 1, 1) := by decide +kernel
theorem dSP_permute_362 : decode c_SP_permute 362 = .ok (.iadd, 1) := by decide +kernel
theorem dSP_permute_363 : decode c_SP_permute 363 = .ok (.laload, 1) := by decide +kernel
theorem dSP_permute_364 : decode c_SP_permute 364 = .ok (.lstore 28, 2) := by decide +kernel
theorem dSP_permute_366 : decode c_SP_permute 366 = .ok (.aload_n 1, 1) := by decide +kernel
theorem dSP_permute_367 : decode c_SP_permute 367 = .ok (.iload 25, 2) := by decide +kernel
theorem dSP_permute_369 : decode c_SP_permute 369 = .ok (.iconst 2, 1) := by decide +kernel
theorem dSP_permute_370 : decode c_SP_permute 370 = .ok (.iadd, 1) := by decide +kernel
theorem dSP_permute_371 : decode c_SP_permute 371 = .ok (.laload, 1) := by decide +kernel
theorem dSP_permute_372 : decode c_SP_permute 372 = .ok (.lstore 30, 2) := by decide +kernel
theorem dSP_permute_374 : decode c_SP_permute 374 = .ok (.aload_n 1, 1) := by decide +kernel
theorem dSP_permute_375 : decode c_SP_permute 375 = .ok (.iload 25, 2) := by decide +kernel
theorem dSP_permute_377 : decode c_SP_permute 377 = .ok (.iconst 3, 1) := by decide +kernel
theorem dSP_permute_378 : decode c_SP_permute 378 = .ok (.iadd, 1) := by decide +kernel
theorem dSP_permute_379 : decode c_SP_permute 379 = .ok (.laload, 1) := by decide +kernel
theorem dSP_permute_380 : decode c_SP_permute 380 = .ok (.lstore 32, 2) := by decide +kernel
theorem dSP_permute_382 : decode c_SP_permute 382 = .ok (.aload_n 1, 1) := by decide +kernel
theorem dSP_permute_383 : decode c_SP_permute 383 = .ok (.iload 25, 2) := by decide +kernel
theorem dSP_permute_385 : decode c_SP_permute 385 = .ok (.iconst 4, 1) := by decide +kernel
theorem dSP_permute_386 : decode c_SP_permute 386 = .ok (.iadd, 1) := by decide +kernel
theorem dSP_permute_387 : decode c_SP_permute 387 = .ok (.laload, 1) := by decide +kernel
theorem dSP_permute_388 : decode c_SP_permute 388 = .ok (.lstore 34, 2) := by decide +kernel
theorem dSP_permute_390 : decode c_SP_permute 390 = .ok (.aload_n 1, 1) := by decide +kernel
theorem dSP_permute_391 : decode c_SP_permute 391 = .ok (.iload 25, 2) := by decide +kernel
theorem dSP_permute_393 : decode c_SP_permute 393 = .ok (.lload 26, 2) := by decide +kernel
theorem dSP_permute_395 : decode c_SP_permute 395 = .ok (.lload 28, 2) := by decide +kernel
theorem dSP_permute_397 : decode c_SP_permute 397 = .ok (.ldc2_w 59, 3) := by decide +kernel
theorem dSP_permute_400 : decode c_SP_permute 400 = .ok (.lxor, 1) := by decide +kernel
theorem dSP_permute_401 : decode c_SP_permute 401 = .ok (.lload 30, 2) := by decide +kernel
theorem dSP_permute_403 : decode c_SP_permute 403 = .ok (.land, 1) := by decide +kernel
theorem dSP_permute_404 : decode c_SP_permute 404 = .ok (.lxor, 1) := by decide +kernel
theorem dSP_permute_405 : decode c_SP_permute 405 = .ok (.lastore, 1) := by decide +kernel
theorem dSP_permute_406 : decode c_SP_permute 406 = .ok (.aload_n 1, 1) := by decide +kernel
theorem dSP_permute_407 : decode c_SP_permute 407 = .ok (.iload 25, 2) := by decide +kernel
theorem dSP_permute_409 : decode c_SP_permute 409 = .ok (.iconst 1, 1) := by decide +kernel
theorem dSP_permute_410 : decode c_SP_permute 410 = .ok (.iadd, 1) := by decide +kernel
theorem dSP_permute_411 : decode c_SP_permute 411 = .ok (.lload 28, 2) := by decide +kernel
theorem dSP_permute_413 : decode c_SP_permute 413 = .ok (.lload 30, 2) := by decide +kernel
theorem dSP_permute_415 : decode c_SP_permute 415 = .ok (.ldc2_w 59, 3) := by decide +kernel
theorem dSP_permute_418 : decode c_SP_permute 418 = .ok (.lxor, 1) := by decide +kernel
theorem dSP_permute_419 : decode c_SP_permute 419 = .ok (.lload 32, 2) := by decide +kernel
theorem dSP_permute_421 : decode c_SP_permute 421 = .ok (.land, 1) := by decide +kernel
theorem dSP_permute_422 : decode c_SP_permute 422 = .ok (.lxor, 1) := by decide +kernel
theorem dSP_permute_423 : decode c_SP_permute 423 = .ok (.lastore, 1) := by decide +kernel
theorem dSP_permute_424 : decode c_SP_permute 424 = .ok (.aload_n 1, 1) := by decide +kernel
theorem dSP_permute_425 : decode c_SP_permute 425 = .ok (.iload 25, 2) := by decide +kernel
theorem dSP_permute_427 : decode c_SP_permute 427 = .ok (.iconst 2, 1) := by decide +kernel
theorem dSP_permute_428 : decode c_SP_permute 428 = .ok (.iadd, 1) := by decide +kernel
theorem dSP_permute_429 : decode c_SP_permute 429 = .ok (.lload 30, 2) := by decide +kernel
theorem dSP_permute_431 : decode c_SP_permute 431 = .ok (.lload 32, 2) := by decide +kernel
theorem dSP_permute_433 : decode c_SP_permute 433 = .ok (.ldc2_w 59, 3) := by decide +kernel
theorem dSP_permute_436 : decode c_SP_permute 436 = .ok (.lxor, 1) := by decide +kernel
theorem dSP_permute_437 : decode c_SP_permute 437 = .ok (.lload 34, 2) := by decide +kernel
theorem dSP_permute_439 : decode c_SP_permute 439 = .ok (.land, 1) := by decide +kernel
theorem dSP_permute_440 : decode c_SP_permute 440 = .ok (.lxor, 1) := by decide +kernel
theorem dSP_permute_441 : decode c_SP_permute 441 = .ok (.lastore, 1) := by decide +kernel
theorem dSP_permute_442 : decode c_SP_permute 442 = .ok (.aload_n 1, 1) := by decide +kernel
theorem dSP_permute_443 : decode c_SP_permute 443 = .ok (.iload 25, 2) := by decide +kernel
theorem dSP_permute_445 : decode c_SP_permute 445 = .ok (.iconst 3, 1) := by decide +kernel
theorem dSP_permute_446 : decode c_SP_permute 446 = .ok (.iadd, 1) := by decide +kernel
theorem dSP_permute_447 : decode c_SP_permute 447 = .ok (.lload 32, 2) := by decide +kernel
theorem dSP_permute_449 : decode c_SP_permute 449 = .ok (.lload 34, 2) := by decide +kernel
theorem dSP_permute_451 : decode c_SP_permute 451 = .ok (.ldc2_w 59, 3) := by decide +kernel
theorem dSP_permute_454 : decode c_SP_permute 454 = .ok (.lxor, 1) := by decide +kernel
theorem dSP_permute_455 : decode c_SP_permute 455 = .ok (.lload 26, 2) := by decide +kernel
theorem dSP_permute_457 : decode c_SP_permute 457 = .ok (.land, 1) := by decide +kernel
theorem dSP_permute_458 : decode c_SP_permute 458 = .ok (.lxor, 1) := by decide +kernel
theorem dSP_permute_459 : decode c_SP_permute 459 = .ok (.lastore, 1) := by decide +kernel
theorem dSP_permute_460 : decode c_SP_permute 460 = .ok (.aload_n 1, 1) := by decide +kernel
theorem dSP_permute_461 : decode c_SP_permute 461 = .ok (.iload 25, 2) := by decide +kernel
theorem dSP_permute_463 : decode c_SP_permute 463 = .ok (.iconst 4, 1) := by decide +kernel
theorem dSP_permute_464 : decode c_SP_permute 464 = .ok (.iadd, 1) := by decide +kernel
theorem dSP_permute_465 : decode c_SP_permute 465 = .ok (.lload 34, 2) := by decide +kernel
theorem dSP_permute_467 : decode c_SP_permute 467 = .ok (.lload 26, 2) := by decide +kernel
theorem dSP_permute_469 : decode c_SP_permute 469 = .ok (.ldc2_w 59, 3) := by decide +kernel
theorem dSP_permute_472 : decode c_SP_permute 472 = .ok (.lxor, 1) := by decide +kernel
theorem dSP_permute_473 : decode c_SP_permute 473 = .ok (.lload 28, 2) := by decide +kernel
theorem dSP_permute_475 : decode c_SP_permute 475 = .ok (.land, 1) := by decide +kernel
theorem dSP_permute_476 : decode c_SP_permute 476 = .ok (.lxor, 1) := by decide +kernel
theorem dSP_permute_477 : decode c_SP_permute 477 = .ok (.lastore, 1) := by decide +kernel
theorem dSP_permute_478 : decode c_SP_permute 478 = .ok (.iinc 25 5, 3) := by decide +kernel
theorem dSP_permute_481 : decode c_SP_permute 481 = .ok (.goto (-136), 3) := by decide +kernel
theorem dSP_permute_484 : decode c_SP_permute 484 = .ok (.aload_n 1, 1) := by decide +kernel
theorem dSP_permute_485 : decode c_SP_permute 485 = .ok (.iconst 0, 1) := by decide +kernel
theorem dSP_permute_486 : decode c_SP_permute 486 = .ok (.dup2, 1) := by decide +kernel
theorem dSP_permute_487 : decode c_SP_permute 487 = .ok (.laload, 1) := by decide +kernel
theorem dSP_permute_488 : decode c_SP_permute 488 = .ok (.getstatic 61, 3) := by decide +kernel
theorem dSP_permute_491 : decode c_SP_permute 491 = .ok (.iload_n 2, 1) := by decide +kernel
theorem dSP_permute_492 : decode c_SP_permute 492 = .ok (.laload, 1) := by decide +kernel
theorem dSP_permute_493 : decode c_SP_permute 493 = .ok (.lxor, 1) := by decide +kernel
theorem dSP_permute_494 : decode c_SP_permute 494 = .ok (.lastore, 1) := by decide +kernel
theorem dSP_permute_495 : decode c_SP_permute 495 = .ok (.iinc 2 1, 3) := by decide +kernel
theorem dSP_permute_498 : decode c_SP_permute 498 = .ok (.goto (-491), 3) := by decide +kernel
theorem dSP_permute_501 : decode c_SP_permute 501 = .ok (.return_, 1) := by decide +kernel
def plc : List Nat := [10, 7, 11, 17, 18, 3, 5, 16, 8, 21, 24, 4, 15, 23, 19, 13, 12, 2, 20, 14, 22, 9, 6, 1]
theorem st3_v : ∀ j, j < 24 → st_3 j = .int (nI (plc.getD j 0)) ∧ plc.getD j 0 < 25 := by decide +kernel
set_option maxHeartbeats 400000 in
set_option maxRecDepth 100000 in
theorem m_SP_permute (l : Launch) (g : Gd) (sz : Nat) (h0 ln : Nat) (x1 x2 x3 : Int32) (f : Nat → Int64)  : Met l y_SP_permute w_SP_permute ({ frames := 0, cells := 0, slots := 0, locals := 0 } : Room) (va_Pc [.ref h0] (pr (en g) g.1 vcl sz [(h0, .inr (3, [.ref ln, .int x1, .int x2, .int x3])), (ln, .inl (g.2.1 2, 25, .inr (.inl f)))])) (va_Qv (fun (u : Nat → Int64) => True) (po g.1 vcl (va_A [(h0, .inr (3, [.ref ln, .int x1, .int x2, .int x3])), (ln, .inl (g.2.1 2, 25, .inr (.inl f)))] sz) (fun (u : Nat → Int64) => [(h0, .inr (3, [.ref ln, .int x1, .int x2, .int x3])), (ln, .inl (g.2.1 2, 25, .inr (.inl u)))])) (va_A [(h0, .inr (3, [.ref ln, .int x1, .int x2, .int x3])), (ln, .inl (g.2.1 2, 25, .inr (.inl f)))] sz)) 0 0 (va_A [(h0, .inr (3, [.ref ln, .int x1, .int x2, .int x3])), (ln, .inl (g.2.1 2, 25, .inr (.inl f)))] sz) := by
  refine mc_entry (cc := c_SP_permute) (maxL := 36) (ret := none) (by decide) rfl (Nat.le_of_ble_eq_true rfl) ?_
  intro p e s m args below meth c ls F hr hlk hnm hsz hP hD hE hA hl
  obtain ⟨hx, hb, hml, hown, hts⟩ := id F
  have hK := hE.1
  generalize va_A [(h0, .inr (3, [.ref ln, .int x1, .int x2, .int x3])), (ln, .inl (g.2.1 2, 25, .inr (.inl f)))] sz = A at hD hE hA ⊢
  have hS : va_S A s.heap s.heap [] := va_S.rf
  have hl : lv_has ls 36 [(0, .ref h0)] := hl
  have lp : ∀ (n : Nat) (i : Nat) (f : Nat → Int64) (ls : Array Slot) (H : Heap) (locs : List Loc) , n + i = 24 → lv_has ls 36 [(2, .int (nI i)), (1, .ref ln)] → va_P g.1 vcl [(h0, .inr (3, [.ref ln, .int x1, .int x2, .int x3])), (ln, .inl (g.2.1 2, 25, .inr (.inl f)))] H → va_D A [(h0, .inr (3, [.ref ln, .int x1, .int x2, .int x3])), (ln, .inl (g.2.1 2, 25, .inr (.inl f)))] → va_S A s.heap H locs → W p l e ({ frames := 0, cells := 0, slots := 0, locals := 0 } : Room) s m args below meth c H locs 0 0 (MQ below (va_Qv (fun (u : Nat → Int64) => True) (po g.1 vcl A (fun (u : Nat → Int64) => [(h0, .inr (3, [.ref ln, .int x1, .int x2, .int x3])), (ln, .inl (g.2.1 2, 25, .inr (.inl u)))])) A) args s 0 0 A) (F0 m 7 ls []) := by
    intro n
    induction n with
    | zero =>
      intro i f ls H locs hi  hl hP hD hS
      refine lv_iload_n hx hb dSP_permute_7 rfl (lv_at hl 0 rfl) ?_
      refine lv_bipush (v := nI 24) hx hb dSP_permute_8 (by decide) ?_
      refine mi_ge (tgt := 501) hx hb dSP_permute_10 (by decide) (by omega) (by omega) (fun h1 => ?_) (fun h1 => absurd h1 (by omega))
      exact mc_vret hx hb hr hlk hP hD hS f trivial [0, 1] rfl rfl (by omega) (by omega) dSP_permute_501
    | succ n ihlp =>
      intro i f ls H locs hi  hl hP hD hS
      have hl0 := hl; have hP0 := hP; have hD0 := hD; have hS0 := hS; clear hl hP hD hS
      have lc : ∀ (n : Nat) (j : Nat) (f : Nat → Int64) (ls : Array Slot) (H : Heap) (locs : List Loc) , n + j = 5 → lv_has ls 36 [(25, .int (nI (5 * j))), (1, .ref ln), (2, .int (nI i))] → va_P g.1 vcl [(h0, .inr (3, [.ref ln, .int x1, .int x2, .int x3])), (ln, .inl (g.2.1 2, 25, .inr (.inl f)))] H → va_D A [(h0, .inr (3, [.ref ln, .int x1, .int x2, .int x3])), (ln, .inl (g.2.1 2, 25, .inr (.inl f)))] → va_S A s.heap H locs → W p l e ({ frames := 0, cells := 0, slots := 0, locals := 0 } : Room) s m args below meth c H locs 0 0 (MQ below (va_Qv (fun (u : Nat → Int64) => True) (po g.1 vcl A (fun (u : Nat → Int64) => [(h0, .inr (3, [.ref ln, .int x1, .int x2, .int x3])), (ln, .inl (g.2.1 2, 25, .inr (.inl u)))])) A) args s 0 0 A) (F0 m 345 ls []) := by
        intro n
        induction n with
        | zero =>
          intro j f ls H locs hi  hl hP hD hS
          refine lv_iload hx hb dSP_permute_345 (lv_at hl 0 rfl) ?_
          refine lv_bipush (v := nI 25) hx hb dSP_permute_347 (by decide) ?_
          refine mi_ge (tgt := 484) hx hb dSP_permute_349 (by decide) (by omega) (by omega) (fun h1 => ?_) (fun h1 => absurd h1 (by omega))
          refine lv_aload_n hx hb dSP_permute_484 rfl (lv_at hl 1 rfl) ?_
          refine lv_iconst (v := nI 0) hx hb dSP_permute_485 (by decide) ?_
          refine lv_dup2_11 hx hb dSP_permute_486 rfl rfl ?_
          refine ma_lald hx hb hK hP 1 2 rfl rfl (vp_in_nI (by omega) (by decide)) dSP_permute_487 (fun y1 => ?_)
          refine va_gets hx hb (hE.2.1 2 _ rfl).1 hS hown (hts _ (wg_t kw_607)) (fun _ h9 => h9) dSP_permute_488 ?_
          refine lv_iload_n hx hb dSP_permute_491 rfl (lv_at hl 2 rfl) ?_
          obtain ⟨y2, ey2⟩ : ∃ t : Int64, st_2 (nI i).toNatClampNeg = .long t := ⟨_, rfl⟩
          refine va_tl (v := .long y2) hx hb (hE.2.1 2 _ rfl).2 hS (vp_in_nI (N := 24) (by omega) (by decide)) ey2 dSP_permute_492 ?_
          refine lv_lxor hx hb dSP_permute_493 ?_
          refine ml_any (fun y3 => ?_)
          refine ma_last hx hb hK hP hD hS 1 2 rfl rfl (vp_in_nI (by omega) (by decide)) dSP_permute_494 (fun f1 H locs hP hD hS => ?_)
          have hP : va_P g.1 vcl [(h0, .inr (3, [.ref ln, .int x1, .int x2, .int x3])), (ln, .inl (g.2.1 2, 25, .inr (.inl f1)))] _ := hP
          have hD : va_D _ [(h0, .inr (3, [.ref ln, .int x1, .int x2, .int x3])), (ln, .inl (g.2.1 2, 25, .inr (.inl f1)))] := hD
          refine mi_iinc (k := 2) (x := i) (d := 1) (y := i + 1) (lv' := [(2, .int (nI (i + 1))), (25, .int (nI (5 * j))), (1, .ref ln)]) hx hb dSP_permute_495 hl rfl (by decide) rfl (by decide) rfl (fun ls hl => ?_)
          refine lv_goto (tgt := 7) hx hb dSP_permute_498 (by decide) ?_
          exact ihlp (i + 1) f1 ls _ _ (by omega)  (lv_sub hl [0, 2] rfl) hP hD hS
        | succ n ihlc =>
          intro j f ls H locs hi  hl hP hD hS
          refine lv_iload hx hb dSP_permute_345 (lv_at hl 0 rfl) ?_
          refine lv_bipush (v := nI 25) hx hb dSP_permute_347 (by decide) ?_
          refine mi_ge (tgt := 484) hx hb dSP_permute_349 (by decide) (by omega) (by omega) (fun h1 => absurd h1 (by omega)) (fun h1 => ?_)
          refine lv_aload_n hx hb dSP_permute_352 rfl (lv_at hl 1 rfl) ?_
          refine lv_iload hx hb dSP_permute_353 (lv_at hl 0 rfl) ?_
          refine ma_lald hx hb hK hP 1 2 rfl rfl (vp_in_nI (by omega) (by decide)) dSP_permute_355 (fun y1 => ?_)
          refine lv_lstore (lv' := [(26, .long y1), (25, .int (nI (5 * j))), (1, .ref ln), (2, .int (nI i))]) hx hb dSP_permute_356 hl (by decide) rfl (fun ls hl => ?_)
          refine lv_aload_n hx hb dSP_permute_358 rfl (lv_at hl 2 rfl) ?_
          refine lv_iload hx hb dSP_permute_359 (lv_at hl 1 rfl) ?_
          refine lv_iconst (v := nI 1) hx hb dSP_permute_361 (by decide) ?_
          refine mi_iadd hx hb dSP_permute_362 ?_
          refine ma_lald hx hb hK hP 1 2 rfl rfl (vp_in_nI (by omega) (by decide)) dSP_permute_363 (fun y2 => ?_)
          refine lv_lstore (lv' := [(28, .long y2), (26, .long y1), (25, .int (nI (5 * j))), (1, .ref ln), (2, .int (nI i))]) hx hb dSP_permute_364 hl (by decide) rfl (fun ls hl => ?_)
          refine lv_aload_n hx hb dSP_permute_366 rfl (lv_at hl 3 rfl) ?_
          refine lv_iload hx hb dSP_permute_367 (lv_at hl 2 rfl) ?_
          refine lv_iconst (v := nI 2) hx hb dSP_permute_369 (by decide) ?_
          refine mi_iadd hx hb dSP_permute_370 ?_
          refine ma_lald hx hb hK hP 1 2 rfl rfl (vp_in_nI (by omega) (by decide)) dSP_permute_371 (fun y3 => ?_)
          refine lv_lstore (lv' := [(30, .long y3), (28, .long y2), (26, .long y1), (25, .int (nI (5 * j))), (1, .ref ln), (2, .int (nI i))]) hx hb dSP_permute_372 hl (by decide) rfl (fun ls hl => ?_)
          refine lv_aload_n hx hb dSP_permute_374 rfl (lv_at hl 4 rfl) ?_
          refine lv_iload hx hb dSP_permute_375 (lv_at hl 3 rfl) ?_
          refine lv_iconst (v := nI 3) hx hb dSP_permute_377 (by decide) ?_
          refine mi_iadd hx hb dSP_permute_378 ?_
          refine ma_lald hx hb hK hP 1 2 rfl rfl (vp_in_nI (by omega) (by decide)) dSP_permute_379 (fun y4 => ?_)
          refine lv_lstore (lv' := [(32, .long y4), (30, .long y3), (28, .long y2), (26, .long y1), (25, .int (nI (5 * j))), (1, .ref ln), (2, .int (nI i))]) hx hb dSP_permute_380 hl (by decide) rfl (fun ls hl => ?_)
          refine lv_aload_n hx hb dSP_permute_382 rfl (lv_at hl 5 rfl) ?_
          refine lv_iload hx hb dSP_permute_383 (lv_at hl 4 rfl) ?_
          refine lv_iconst (v := nI 4) hx hb dSP_permute_385 (by decide) ?_
          refine mi_iadd hx hb dSP_permute_386 ?_
          refine ma_lald hx hb hK hP 1 2 rfl rfl (vp_in_nI (by omega) (by decide)) dSP_permute_387 (fun y5 => ?_)
          refine lv_lstore (lv' := [(34, .long y5), (32, .long y4), (30, .long y3), (28, .long y2), (26, .long y1), (25, .int (nI (5 * j))), (1, .ref ln), (2, .int (nI i))]) hx hb dSP_permute_388 hl (by decide) rfl (fun ls hl => ?_)
          refine lv_aload_n hx hb dSP_permute_390 rfl (lv_at hl 6 rfl) ?_
          refine lv_iload hx hb dSP_permute_391 (lv_at hl 5 rfl) ?_
          refine lv_lload hx hb dSP_permute_393 (lv_at hl 4 rfl) ?_
          refine lv_lload hx hb dSP_permute_395 (lv_at hl 3 rfl) ?_
          refine lv_ldc2 (v := (-1)) hx hb hown (hts _ (wg_t kw_606)) dSP_permute_397 ?_
          refine lv_lxor hx hb dSP_permute_400 ?_
          refine ml_any (fun y6 => ?_)
          refine lv_lload hx hb dSP_permute_401 (lv_at hl 2 rfl) ?_
          refine lv_land hx hb dSP_permute_403 ?_
          refine ml_any (fun y7 => ?_)
          refine lv_lxor hx hb dSP_permute_404 ?_
          refine ml_any (fun y8 => ?_)
          refine ma_last hx hb hK hP hD hS 1 2 rfl rfl (vp_in_nI (by omega) (by decide)) dSP_permute_405 (fun f1 H locs hP hD hS => ?_)
          have hP : va_P g.1 vcl [(h0, .inr (3, [.ref ln, .int x1, .int x2, .int x3])), (ln, .inl (g.2.1 2, 25, .inr (.inl f1)))] _ := hP
          have hD : va_D _ [(h0, .inr (3, [.ref ln, .int x1, .int x2, .int x3])), (ln, .inl (g.2.1 2, 25, .inr (.inl f1)))] := hD
          refine lv_aload_n hx hb dSP_permute_406 rfl (lv_at hl 6 rfl) ?_
          refine lv_iload hx hb dSP_permute_407 (lv_at hl 5 rfl) ?_
          refine lv_iconst (v := nI 1) hx hb dSP_permute_409 (by decide) ?_
          refine mi_iadd hx hb dSP_permute_410 ?_
          refine lv_lload hx hb dSP_permute_411 (lv_at hl 3 rfl) ?_
          refine lv_lload hx hb dSP_permute_413 (lv_at hl 2 rfl) ?_
          refine lv_ldc2 (v := (-1)) hx hb hown (hts _ (wg_t kw_606)) dSP_permute_415 ?_
          refine lv_lxor hx hb dSP_permute_418 ?_
          refine ml_any (fun y9 => ?_)
          refine lv_lload hx hb dSP_permute_419 (lv_at hl 1 rfl) ?_
          refine lv_land hx hb dSP_permute_421 ?_
          refine ml_any (fun y10 => ?_)
          refine lv_lxor hx hb dSP_permute_422 ?_
          refine ml_any (fun y11 => ?_)
          refine ma_last hx hb hK hP hD hS 1 2 rfl rfl (vp_in_nI (by omega) (by decide)) dSP_permute_423 (fun f2 H locs hP hD hS => ?_)
          have hP : va_P g.1 vcl [(h0, .inr (3, [.ref ln, .int x1, .int x2, .int x3])), (ln, .inl (g.2.1 2, 25, .inr (.inl f2)))] _ := hP
          have hD : va_D _ [(h0, .inr (3, [.ref ln, .int x1, .int x2, .int x3])), (ln, .inl (g.2.1 2, 25, .inr (.inl f2)))] := hD
          refine lv_aload_n hx hb dSP_permute_424 rfl (lv_at hl 6 rfl) ?_
          refine lv_iload hx hb dSP_permute_425 (lv_at hl 5 rfl) ?_
          refine lv_iconst (v := nI 2) hx hb dSP_permute_427 (by decide) ?_
          refine mi_iadd hx hb dSP_permute_428 ?_
          refine lv_lload hx hb dSP_permute_429 (lv_at hl 2 rfl) ?_
          refine lv_lload hx hb dSP_permute_431 (lv_at hl 1 rfl) ?_
          refine lv_ldc2 (v := (-1)) hx hb hown (hts _ (wg_t kw_606)) dSP_permute_433 ?_
          refine lv_lxor hx hb dSP_permute_436 ?_
          refine ml_any (fun y12 => ?_)
          refine lv_lload hx hb dSP_permute_437 (lv_at hl 0 rfl) ?_
          refine lv_land hx hb dSP_permute_439 ?_
          refine ml_any (fun y13 => ?_)
          refine lv_lxor hx hb dSP_permute_440 ?_
          refine ml_any (fun y14 => ?_)
          refine ma_last hx hb hK hP hD hS 1 2 rfl rfl (vp_in_nI (by omega) (by decide)) dSP_permute_441 (fun f3 H locs hP hD hS => ?_)
          have hP : va_P g.1 vcl [(h0, .inr (3, [.ref ln, .int x1, .int x2, .int x3])), (ln, .inl (g.2.1 2, 25, .inr (.inl f3)))] _ := hP
          have hD : va_D _ [(h0, .inr (3, [.ref ln, .int x1, .int x2, .int x3])), (ln, .inl (g.2.1 2, 25, .inr (.inl f3)))] := hD
          refine lv_aload_n hx hb dSP_permute_442 rfl (lv_at hl 6 rfl) ?_
          refine lv_iload hx hb dSP_permute_443 (lv_at hl 5 rfl) ?_
          refine lv_iconst (v := nI 3) hx hb dSP_permute_445 (by decide) ?_
          refine mi_iadd hx hb dSP_permute_446 ?_
          refine lv_lload hx hb dSP_permute_447 (lv_at hl 1 rfl) ?_
          refine lv_lload hx hb dSP_permute_449 (lv_at hl 0 rfl) ?_
          refine lv_ldc2 (v := (-1)) hx hb hown (hts _ (wg_t kw_606)) dSP_permute_451 ?_
          refine lv_lxor hx hb dSP_permute_454 ?_
          refine ml_any (fun y15 => ?_)
          refine lv_lload hx hb dSP_permute_455 (lv_at hl 4 rfl) ?_
          refine lv_land hx hb dSP_permute_457 ?_
          refine ml_any (fun y16 => ?_)
          refine lv_lxor hx hb dSP_permute_458 ?_
          refine ml_any (fun y17 => ?_)
          refine ma_last hx hb hK hP hD hS 1 2 rfl rfl (vp_in_nI (by omega) (by decide)) dSP_permute_459 (fun f4 H locs hP hD hS => ?_)
          have hP : va_P g.1 vcl [(h0, .inr (3, [.ref ln, .int x1, .int x2, .int x3])), (ln, .inl (g.2.1 2, 25, .inr (.inl f4)))] _ := hP
          have hD : va_D _ [(h0, .inr (3, [.ref ln, .int x1, .int x2, .int x3])), (ln, .inl (g.2.1 2, 25, .inr (.inl f4)))] := hD
          refine lv_aload_n hx hb dSP_permute_460 rfl (lv_at hl 6 rfl) ?_
          refine lv_iload hx hb dSP_permute_461 (lv_at hl 5 rfl) ?_
          refine lv_iconst (v := nI 4) hx hb dSP_permute_463 (by decide) ?_
          refine mi_iadd hx hb dSP_permute_464 ?_
          refine lv_lload hx hb dSP_permute_465 (lv_at hl 0 rfl) ?_
          refine lv_lload hx hb dSP_permute_467 (lv_at hl 4 rfl) ?_
          refine lv_ldc2 (v := (-1)) hx hb hown (hts _ (wg_t kw_606)) dSP_permute_469 ?_
          refine lv_lxor hx hb dSP_permute_472 ?_
          refine ml_any (fun y18 => ?_)
          refine lv_lload hx hb dSP_permute_473 (lv_at hl 3 rfl) ?_
          refine lv_land hx hb dSP_permute_475 ?_
          refine ml_any (fun y19 => ?_)
          refine lv_lxor hx hb dSP_permute_476 ?_
          refine ml_any (fun y20 => ?_)
          refine ma_last hx hb hK hP hD hS 1 2 rfl rfl (vp_in_nI (by omega) (by decide)) dSP_permute_477 (fun f5 H locs hP hD hS => ?_)
          have hP : va_P g.1 vcl [(h0, .inr (3, [.ref ln, .int x1, .int x2, .int x3])), (ln, .inl (g.2.1 2, 25, .inr (.inl f5)))] _ := hP
          have hD : va_D _ [(h0, .inr (3, [.ref ln, .int x1, .int x2, .int x3])), (ln, .inl (g.2.1 2, 25, .inr (.inl f5)))] := hD
          refine mi_iinc (k := 5) (x := 5 * j) (d := 5) (y := 5 * (j + 1)) (lv' := [(25, .int (nI (5 * (j + 1)))), (34, .long y5), (32, .long y4), (30, .long y3), (28, .long y2), (26, .long y1), (1, .ref ln), (2, .int (nI i))]) hx hb dSP_permute_478 hl rfl (by decide) (by omega) (by decide) rfl (fun ls hl => ?_)
          refine lv_goto (tgt := 345) hx hb dSP_permute_481 (by decide) ?_
          exact ihlc (j + 1) f5 ls _ _ (by omega)  (lv_sub hl [0, 6, 7] rfl) hP hD hS
      have lb : ∀ (n : Nat) (j : Nat) (f : Nat → Int64) (mv : Int64) (ls : Array Slot) (H : Heap) (locs : List Loc) , n + j = 24 → lv_has ls 36 [(25, .int (nI j)), (23, .long mv), (1, .ref ln), (2, .int (nI i))] → va_P g.1 vcl [(h0, .inr (3, [.ref ln, .int x1, .int x2, .int x3])), (ln, .inl (g.2.1 2, 25, .inr (.inl f)))] H → va_D A [(h0, .inr (3, [.ref ln, .int x1, .int x2, .int x3])), (ln, .inl (g.2.1 2, 25, .inr (.inl f)))] → va_S A s.heap H locs → W p l e ({ frames := 0, cells := 0, slots := 0, locals := 0 } : Room) s m args below meth c H locs 0 0 (MQ below (va_Qv (fun (u : Nat → Int64) => True) (po g.1 vcl A (fun (u : Nat → Int64) => [(h0, .inr (3, [.ref ln, .int x1, .int x2, .int x3])), (ln, .inl (g.2.1 2, 25, .inr (.inl u)))])) A) args s 0 0 A) (F0 m 285 ls []) := by
        intro n
        induction n with
        | zero =>
          intro j f mv ls H locs hi  hl hP hD hS
          refine lv_iload hx hb dSP_permute_285 (lv_at hl 0 rfl) ?_
          refine lv_bipush (v := nI 24) hx hb dSP_permute_287 (by decide) ?_
          refine mi_ge (tgt := 342) hx hb dSP_permute_289 (by decide) (by omega) (by omega) (fun h1 => ?_) (fun h1 => absurd h1 (by omega))
          refine lv_iconst (v := nI 0) hx hb dSP_permute_342 (by decide) ?_
          refine lv_istore (lv' := [(25, .int (nI 0)), (23, .long mv), (1, .ref ln), (2, .int (nI i))]) hx hb dSP_permute_343 hl (by decide) rfl (fun ls hl => ?_)
          exact lc 5 0 f ls _ _ (by omega)  (lv_sub hl [0, 2, 3] rfl) hP hD hS
        | succ n ihlb =>
          intro j f mv ls H locs hi  hl hP hD hS
          refine lv_iload hx hb dSP_permute_285 (lv_at hl 0 rfl) ?_
          refine lv_bipush (v := nI 24) hx hb dSP_permute_287 (by decide) ?_
          refine mi_ge (tgt := 342) hx hb dSP_permute_289 (by decide) (by omega) (by omega) (fun h1 => absurd h1 (by omega)) (fun h1 => ?_)
          refine va_gets hx hb (hE.2.1 3 _ rfl).1 hS hown (hts _ (wg_t kw_602)) (fun _ h9 => h9) dSP_permute_292 ?_
          refine lv_iload hx hb dSP_permute_295 (lv_at hl 0 rfl) ?_
          refine va_ti (v := .int (nI (plc.getD j 0))) hx hb (hE.2.1 3 _ rfl).2 hS (vp_in_nI (N := 24) (by omega) (by decide)) (by rw [nI_clamp (by omega)]; exact (st3_v j (by omega)).1) dSP_permute_297 ?_
          have hpl := (st3_v j (by omega)).2
          generalize plc.getD j 0 = pl at hpl ⊢
          refine lv_istore (lv' := [(26, .int (nI pl)), (25, .int (nI j)), (23, .long mv), (1, .ref ln), (2, .int (nI i))]) hx hb dSP_permute_298 hl (by decide) rfl (fun ls hl => ?_)
          refine lv_aload_n hx hb dSP_permute_300 rfl (lv_at hl 3 rfl) ?_
          refine lv_iload hx hb dSP_permute_301 (lv_at hl 0 rfl) ?_
          refine ma_lald hx hb hK hP 1 2 rfl rfl (vp_in_nI (by omega) (by decide)) dSP_permute_303 (fun y1 => ?_)
          refine lv_lstore (lv' := [(27, .long y1), (26, .int (nI pl)), (25, .int (nI j)), (23, .long mv), (1, .ref ln), (2, .int (nI i))]) hx hb dSP_permute_304 hl (by decide) rfl (fun ls hl => ?_)
          refine lv_aload_n hx hb dSP_permute_306 rfl (lv_at hl 4 rfl) ?_
          refine lv_iload hx hb dSP_permute_307 (lv_at hl 1 rfl) ?_
          refine lv_lload hx hb dSP_permute_309 (lv_at hl 3 rfl) ?_
          refine va_gets hx hb (hE.2.1 4 _ rfl).1 hS hown (hts _ (wg_t kw_604)) (fun _ h9 => h9) dSP_permute_311 ?_
          refine lv_iload hx hb dSP_permute_314 (lv_at hl 2 rfl) ?_
          obtain ⟨z1, ez1⟩ : ∃ t : Int32, st_4 (nI j).toNatClampNeg = .int t := ⟨_, rfl⟩
          refine va_ti (v := .int z1) hx hb (hE.2.1 4 _ rfl).2 hS (vp_in_nI (N := 24) (by omega) (by decide)) ez1 dSP_permute_316 ?_
          refine lv_lshl hx hb dSP_permute_317 rfl ?_
          refine ml_any (fun y2 => ?_)
          refine lv_lload hx hb dSP_permute_318 (lv_at hl 3 rfl) ?_
          refine lv_bipush (v := nI 64) hx hb dSP_permute_320 (by decide) ?_
          refine va_gets hx hb (hE.2.1 4 _ rfl).1 hS hown (hts _ (wg_t kw_604)) (fun _ h9 => h9) dSP_permute_322 ?_
          refine lv_iload hx hb dSP_permute_325 (lv_at hl 2 rfl) ?_
          obtain ⟨z2, ez2⟩ : ∃ t : Int32, st_4 (nI j).toNatClampNeg = .int t := ⟨_, rfl⟩
          refine va_ti (v := .int z2) hx hb (hE.2.1 4 _ rfl).2 hS (vp_in_nI (N := 24) (by omega) (by decide)) ez2 dSP_permute_327 ?_
          refine lv_isub hx hb dSP_permute_328 ?_
          refine mi_any (fun z3 => ?_)
          refine lv_lushr hx hb dSP_permute_329 rfl ?_
          refine ml_any (fun y3 => ?_)
          refine lv_lor hx hb dSP_permute_330 ?_
          refine ml_any (fun y4 => ?_)
          refine ma_last hx hb hK hP hD hS 1 2 rfl rfl (vp_in_nI (by omega) (by decide)) dSP_permute_331 (fun f1 H locs hP hD hS => ?_)
          have hP : va_P g.1 vcl [(h0, .inr (3, [.ref ln, .int x1, .int x2, .int x3])), (ln, .inl (g.2.1 2, 25, .inr (.inl f1)))] _ := hP
          have hD : va_D _ [(h0, .inr (3, [.ref ln, .int x1, .int x2, .int x3])), (ln, .inl (g.2.1 2, 25, .inr (.inl f1)))] := hD
          refine lv_lload hx hb dSP_permute_332 (lv_at hl 0 rfl) ?_
          refine lv_lstore (lv' := [(23, .long y1), (27, .long y1), (26, .int (nI pl)), (25, .int (nI j)), (1, .ref ln), (2, .int (nI i))]) hx hb dSP_permute_334 hl (by decide) rfl (fun ls hl => ?_)
          refine mi_iinc (k := 3) (x := j) (d := 1) (y := j + 1) (lv' := [(25, .int (nI (j + 1))), (23, .long y1), (27, .long y1), (26, .int (nI pl)), (1, .ref ln), (2, .int (nI i))]) hx hb dSP_permute_336 hl rfl (by decide) rfl (by decide) rfl (fun ls hl => ?_)
          refine lv_goto (tgt := 285) hx hb dSP_permute_339 (by decide) ?_
          exact ihlb (j + 1) f1 y1 ls _ _ (by omega)  (lv_sub hl [0, 1, 4, 5] rfl) hP hD hS
      have la : ∀ (n : Nat) (j : Nat) (f : Nat → Int64) (d0 d1 d2 d3 d4 : Int64) (ls : Array Slot) (H : Heap) (locs : List Loc) , n + j = 5 → lv_has ls 36 [(23, .int (nI (5 * j))), (1, .ref ln), (2, .int (nI i)), (13, .long d0), (15, .long d1), (17, .long d2), (19, .long d3), (21, .long d4)] → va_P g.1 vcl [(h0, .inr (3, [.ref ln, .int x1, .int x2, .int x3])), (ln, .inl (g.2.1 2, 25, .inr (.inl f)))] H → va_D A [(h0, .inr (3, [.ref ln, .int x1, .int x2, .int x3])), (ln, .inl (g.2.1 2, 25, .inr (.inl f)))] → va_S A s.heap H locs → W p l e ({ frames := 0, cells := 0, slots := 0, locals := 0 } : Room) s m args below meth c H locs 0 0 (MQ below (va_Qv (fun (u : Nat → Int64) => True) (po g.1 vcl A (fun (u : Nat → Int64) => [(h0, .inr (3, [.ref ln, .int x1, .int x2, .int x3])), (ln, .inl (g.2.1 2, 25, .inr (.inl u)))])) A) args s 0 0 A) (F0 m 211 ls []) := by
        intro n
        induction n with
        | zero =>
          intro j f d0 d1 d2 d3 d4 ls H locs hi  hl hP hD hS
          refine lv_iload hx hb dSP_permute_211 (lv_at hl 0 rfl) ?_
          refine lv_bipush (v := nI 25) hx hb dSP_permute_213 (by decide) ?_
          refine mi_ge (tgt := 277) hx hb dSP_permute_215 (by decide) (by omega) (by omega) (fun h1 => ?_) (fun h1 => absurd h1 (by omega))
          refine lv_aload_n hx hb dSP_permute_277 rfl (lv_at hl 1 rfl) ?_
          refine lv_iconst (v := nI 1) hx hb dSP_permute_278 (by decide) ?_
          refine ma_lald hx hb hK hP 1 2 rfl rfl (vp_in_nI (by omega) (by decide)) dSP_permute_279 (fun y1 => ?_)
          refine lv_lstore (lv' := [(23, .long y1), (1, .ref ln), (2, .int (nI i)), (13, .long d0), (15, .long d1), (17, .long d2), (19, .long d3), (21, .long d4)]) hx hb dSP_permute_280 hl (by decide) rfl (fun ls hl => ?_)
          refine lv_iconst (v := nI 0) hx hb dSP_permute_282 (by decide) ?_
          refine lv_istore (lv' := [(25, .int (nI 0)), (23, .long y1), (1, .ref ln), (2, .int (nI i)), (13, .long d0), (15, .long d1), (17, .long d2), (19, .long d3), (21, .long d4)]) hx hb dSP_permute_283 hl (by decide) rfl (fun ls hl => ?_)
          exact lb 24 0 f y1 ls _ _ (by omega)  (lv_sub hl [0, 1, 2, 3] rfl) hP hD hS
        | succ n ihla =>
          intro j f d0 d1 d2 d3 d4 ls H locs hi  hl hP hD hS
          refine lv_iload hx hb dSP_permute_211 (lv_at hl 0 rfl) ?_
          refine lv_bipush (v := nI 25) hx hb dSP_permute_213 (by decide) ?_
          refine mi_ge (tgt := 277) hx hb dSP_permute_215 (by decide) (by omega) (by omega) (fun h1 => absurd h1 (by omega)) (fun h1 => ?_)
          refine lv_aload_n hx hb dSP_permute_218 rfl (lv_at hl 1 rfl) ?_
          refine lv_iload hx hb dSP_permute_219 (lv_at hl 0 rfl) ?_
          refine lv_dup2_11 hx hb dSP_permute_221 rfl rfl ?_
          refine ma_lald hx hb hK hP 1 2 rfl rfl (vp_in_nI (by omega) (by decide)) dSP_permute_222 (fun y1 => ?_)
          refine lv_lload hx hb dSP_permute_223 (lv_at hl 3 rfl) ?_
          refine lv_lxor hx hb dSP_permute_225 ?_
          refine ml_any (fun y2 => ?_)
          refine ma_last hx hb hK hP hD hS 1 2 rfl rfl (vp_in_nI (by omega) (by decide)) dSP_permute_226 (fun f1 H locs hP hD hS => ?_)
          have hP : va_P g.1 vcl [(h0, .inr (3, [.ref ln, .int x1, .int x2, .int x3])), (ln, .inl (g.2.1 2, 25, .inr (.inl f1)))] _ := hP
          have hD : va_D _ [(h0, .inr (3, [.ref ln, .int x1, .int x2, .int x3])), (ln, .inl (g.2.1 2, 25, .inr (.inl f1)))] := hD
          refine lv_aload_n hx hb dSP_permute_227 rfl (lv_at hl 1 rfl) ?_
          refine lv_iload hx hb dSP_permute_228 (lv_at hl 0 rfl) ?_
          refine lv_iconst (v := nI 1) hx hb dSP_permute_230 (by decide) ?_
          refine mi_iadd hx hb dSP_permute_231 ?_
          refine lv_dup2_11 hx hb dSP_permute_232 rfl rfl ?_
          refine ma_lald hx hb hK hP 1 2 rfl rfl (vp_in_nI (by omega) (by decide)) dSP_permute_233 (fun y3 => ?_)
          refine lv_lload hx hb dSP_permute_234 (lv_at hl 4 rfl) ?_
          refine lv_lxor hx hb dSP_permute_236 ?_
          refine ml_any (fun y4 => ?_)
          refine ma_last hx hb hK hP hD hS 1 2 rfl rfl (vp_in_nI (by omega) (by decide)) dSP_permute_237 (fun f2 H locs hP hD hS => ?_)
          have hP : va_P g.1 vcl [(h0, .inr (3, [.ref ln, .int x1, .int x2, .int x3])), (ln, .inl (g.2.1 2, 25, .inr (.inl f2)))] _ := hP
          have hD : va_D _ [(h0, .inr (3, [.ref ln, .int x1, .int x2, .int x3])), (ln, .inl (g.2.1 2, 25, .inr (.inl f2)))] := hD
          refine lv_aload_n hx hb dSP_permute_238 rfl (lv_at hl 1 rfl) ?_
          refine lv_iload hx hb dSP_permute_239 (lv_at hl 0 rfl) ?_
          refine lv_iconst (v := nI 2) hx hb dSP_permute_241 (by decide) ?_
          refine mi_iadd hx hb dSP_permute_242 ?_
          refine lv_dup2_11 hx hb dSP_permute_243 rfl rfl ?_
          refine ma_lald hx hb hK hP 1 2 rfl rfl (vp_in_nI (by omega) (by decide)) dSP_permute_244 (fun y5 => ?_)
          refine lv_lload hx hb dSP_permute_245 (lv_at hl 5 rfl) ?_
          refine lv_lxor hx hb dSP_permute_247 ?_
          refine ml_any (fun y6 => ?_)
          refine ma_last hx hb hK hP hD hS 1 2 rfl rfl (vp_in_nI (by omega) (by decide)) dSP_permute_248 (fun f3 H locs hP hD hS => ?_)
          have hP : va_P g.1 vcl [(h0, .inr (3, [.ref ln, .int x1, .int x2, .int x3])), (ln, .inl (g.2.1 2, 25, .inr (.inl f3)))] _ := hP
          have hD : va_D _ [(h0, .inr (3, [.ref ln, .int x1, .int x2, .int x3])), (ln, .inl (g.2.1 2, 25, .inr (.inl f3)))] := hD
          refine lv_aload_n hx hb dSP_permute_249 rfl (lv_at hl 1 rfl) ?_
          refine lv_iload hx hb dSP_permute_250 (lv_at hl 0 rfl) ?_
          refine lv_iconst (v := nI 3) hx hb dSP_permute_252 (by decide) ?_
          refine mi_iadd hx hb dSP_permute_253 ?_
          refine lv_dup2_11 hx hb dSP_permute_254 rfl rfl ?_
          refine ma_lald hx hb hK hP 1 2 rfl rfl (vp_in_nI (by omega) (by decide)) dSP_permute_255 (fun y7 => ?_)
          refine lv_lload hx hb dSP_permute_256 (lv_at hl 6 rfl) ?_
          refine lv_lxor hx hb dSP_permute_258 ?_
          refine ml_any (fun y8 => ?_)
          refine ma_last hx hb hK hP hD hS 1 2 rfl rfl (vp_in_nI (by omega) (by decide)) dSP_permute_259 (fun f4 H locs hP hD hS => ?_)
          have hP : va_P g.1 vcl [(h0, .inr (3, [.ref ln, .int x1, .int x2, .int x3])), (ln, .inl (g.2.1 2, 25, .inr (.inl f4)))] _ := hP
          have hD : va_D _ [(h0, .inr (3, [.ref ln, .int x1, .int x2, .int x3])), (ln, .inl (g.2.1 2, 25, .inr (.inl f4)))] := hD
          refine lv_aload_n hx hb dSP_permute_260 rfl (lv_at hl 1 rfl) ?_
          refine lv_iload hx hb dSP_permute_261 (lv_at hl 0 rfl) ?_
          refine lv_iconst (v := nI 4) hx hb dSP_permute_263 (by decide) ?_
          refine mi_iadd hx hb dSP_permute_264 ?_
          refine lv_dup2_11 hx hb dSP_permute_265 rfl rfl ?_
          refine ma_lald hx hb hK hP 1 2 rfl rfl (vp_in_nI (by omega) (by decide)) dSP_permute_266 (fun y9 => ?_)
          refine lv_lload hx hb dSP_permute_267 (lv_at hl 7 rfl) ?_
          refine lv_lxor hx hb dSP_permute_269 ?_
          refine ml_any (fun y10 => ?_)
          refine ma_last hx hb hK hP hD hS 1 2 rfl rfl (vp_in_nI (by omega) (by decide)) dSP_permute_270 (fun f5 H locs hP hD hS => ?_)
          have hP : va_P g.1 vcl [(h0, .inr (3, [.ref ln, .int x1, .int x2, .int x3])), (ln, .inl (g.2.1 2, 25, .inr (.inl f5)))] _ := hP
          have hD : va_D _ [(h0, .inr (3, [.ref ln, .int x1, .int x2, .int x3])), (ln, .inl (g.2.1 2, 25, .inr (.inl f5)))] := hD
          refine mi_iinc (k := 0) (x := 5 * j) (d := 5) (y := 5 * (j + 1)) (lv' := [(23, .int (nI (5 * (j + 1)))), (1, .ref ln), (2, .int (nI i)), (13, .long d0), (15, .long d1), (17, .long d2), (19, .long d3), (21, .long d4)]) hx hb dSP_permute_271 hl rfl (by decide) (by omega) (by decide) rfl (fun ls hl => ?_)
          refine lv_goto (tgt := 211) hx hb dSP_permute_274 (by decide) ?_
          exact ihla (j + 1) f5 d0 d1 d2 d3 d4 ls _ _ (by omega)  (lv_sub hl [0, 1, 2, 3, 4, 5, 6, 7] rfl) hP hD hS
      have hl := hl0; have hP := hP0; have hD := hD0; have hS := hS0
      refine lv_iload_n hx hb dSP_permute_7 rfl (lv_at hl 0 rfl) ?_
      refine lv_bipush (v := nI 24) hx hb dSP_permute_8 (by decide) ?_
      refine mi_ge (tgt := 501) hx hb dSP_permute_10 (by decide) (by omega) (by omega) (fun h1 => absurd h1 (by omega)) (fun h1 => ?_)
      refine lv_aload_n hx hb dSP_permute_13 rfl (lv_at hl 1 rfl) ?_
      refine lv_iconst (v := nI 0) hx hb dSP_permute_14 (by decide) ?_
      refine ma_lald hx hb hK hP 1 2 rfl rfl (vp_in_nI (by omega) (by decide)) dSP_permute_15 (fun y1 => ?_)
      refine lv_aload_n hx hb dSP_permute_16 rfl (lv_at hl 1 rfl) ?_
      refine lv_iconst (v := nI 5) hx hb dSP_permute_17 (by decide) ?_
      refine ma_lald hx hb hK hP 1 2 rfl rfl (vp_in_nI (by omega) (by decide)) dSP_permute_18 (fun y2 => ?_)
      refine lv_lxor hx hb dSP_permute_19 ?_
      refine ml_any (fun y3 => ?_)
      refine lv_aload_n hx hb dSP_permute_20 rfl (lv_at hl 1 rfl) ?_
      refine lv_bipush (v := nI 10) hx hb dSP_permute_21 (by decide) ?_
      refine ma_lald hx hb hK hP 1 2 rfl rfl (vp_in_nI (by omega) (by decide)) dSP_permute_23 (fun y4 => ?_)
      refine lv_lxor hx hb dSP_permute_24 ?_
      refine ml_any (fun y5 => ?_)
      refine lv_aload_n hx hb dSP_permute_25 rfl (lv_at hl 1 rfl) ?_
      refine lv_bipush (v := nI 15) hx hb dSP_permute_26 (by decide) ?_
      refine ma_lald hx hb hK hP 1 2 rfl rfl (vp_in_nI (by omega) (by decide)) dSP_permute_28 (fun y6 => ?_)
      refine lv_lxor hx hb dSP_permute_29 ?_
      refine ml_any (fun y7 => ?_)
      refine lv_aload_n hx hb dSP_permute_30 rfl (lv_at hl 1 rfl) ?_
      refine lv_bipush (v := nI 20) hx hb dSP_permute_31 (by decide) ?_
      refine ma_lald hx hb hK hP 1 2 rfl rfl (vp_in_nI (by omega) (by decide)) dSP_permute_33 (fun y8 => ?_)
      refine lv_lxor hx hb dSP_permute_34 ?_
      refine ml_any (fun y9 => ?_)
      refine lv_lstore_n (lv' := [(3, .long y9), (2, .int (nI i)), (1, .ref ln)]) hx hb dSP_permute_35 rfl hl (by decide) rfl (fun ls hl => ?_)
      refine lv_aload_n hx hb dSP_permute_36 rfl (lv_at hl 2 rfl) ?_
      refine lv_iconst (v := nI 1) hx hb dSP_permute_37 (by decide) ?_
      refine ma_lald hx hb hK hP 1 2 rfl rfl (vp_in_nI (by omega) (by decide)) dSP_permute_38 (fun y10 => ?_)
      refine lv_aload_n hx hb dSP_permute_39 rfl (lv_at hl 2 rfl) ?_
      refine lv_bipush (v := nI 6) hx hb dSP_permute_40 (by decide) ?_
      refine ma_lald hx hb hK hP 1 2 rfl rfl (vp_in_nI (by omega) (by decide)) dSP_permute_42 (fun y11 => ?_)
      refine lv_lxor hx hb dSP_permute_43 ?_
      refine ml_any (fun y12 => ?_)
      refine lv_aload_n hx hb dSP_permute_44 rfl (lv_at hl 2 rfl) ?_
      refine lv_bipush (v := nI 11) hx hb dSP_permute_45 (by decide) ?_
      refine ma_lald hx hb hK hP 1 2 rfl rfl (vp_in_nI (by omega) (by decide)) dSP_permute_47 (fun y13 => ?_)
      refine lv_lxor hx hb dSP_permute_48 ?_
      refine ml_any (fun y14 => ?_)
      refine lv_aload_n hx hb dSP_permute_49 rfl (lv_at hl 2 rfl) ?_
      refine lv_bipush (v := nI 16) hx hb dSP_permute_50 (by decide) ?_
      refine ma_lald hx hb hK hP 1 2 rfl rfl (vp_in_nI (by omega) (by decide)) dSP_permute_52 (fun y15 => ?_)
      refine lv_lxor hx hb dSP_permute_53 ?_
      refine ml_any (fun y16 => ?_)
      refine lv_aload_n hx hb dSP_permute_54 rfl (lv_at hl 2 rfl) ?_
      refine lv_bipush (v := nI 21) hx hb dSP_permute_55 (by decide) ?_
      refine ma_lald hx hb hK hP 1 2 rfl rfl (vp_in_nI (by omega) (by decide)) dSP_permute_57 (fun y17 => ?_)
      refine lv_lxor hx hb dSP_permute_58 ?_
      refine ml_any (fun y18 => ?_)
      refine lv_lstore (lv' := [(5, .long y18), (3, .long y9), (2, .int (nI i)), (1, .ref ln)]) hx hb dSP_permute_59 hl (by decide) rfl (fun ls hl => ?_)
      refine lv_aload_n hx hb dSP_permute_61 rfl (lv_at hl 3 rfl) ?_
      refine lv_iconst (v := nI 2) hx hb dSP_permute_62 (by decide) ?_
      refine ma_lald hx hb hK hP 1 2 rfl rfl (vp_in_nI (by omega) (by decide)) dSP_permute_63 (fun y19 => ?_)
      refine lv_aload_n hx hb dSP_permute_64 rfl (lv_at hl 3 rfl) ?_
      refine lv_bipush (v := nI 7) hx hb dSP_permute_65 (by decide) ?_
      refine ma_lald hx hb hK hP 1 2 rfl rfl (vp_in_nI (by omega) (by decide)) dSP_permute_67 (fun y20 => ?_)
      refine lv_lxor hx hb dSP_permute_68 ?_
      refine ml_any (fun y21 => ?_)
      refine lv_aload_n hx hb dSP_permute_69 rfl (lv_at hl 3 rfl) ?_
      refine lv_bipush (v := nI 12) hx hb dSP_permute_70 (by decide) ?_
      refine ma_lald hx hb hK hP 1 2 rfl rfl (vp_in_nI (by omega) (by decide)) dSP_permute_72 (fun y22 => ?_)
      refine lv_lxor hx hb dSP_permute_73 ?_
      refine ml_any (fun y23 => ?_)
      refine lv_aload_n hx hb dSP_permute_74 rfl (lv_at hl 3 rfl) ?_
      refine lv_bipush (v := nI 17) hx hb dSP_permute_75 (by decide) ?_
      refine ma_lald hx hb hK hP 1 2 rfl rfl (vp_in_nI (by omega) (by decide)) dSP_permute_77 (fun y24 => ?_)
      refine lv_lxor hx hb dSP_permute_78 ?_
      refine ml_any (fun y25 => ?_)
      refine lv_aload_n hx hb dSP_permute_79 rfl (lv_at hl 3 rfl) ?_
      refine lv_bipush (v := nI 22) hx hb dSP_permute_80 (by decide) ?_
      refine ma_lald hx hb hK hP 1 2 rfl rfl (vp_in_nI (by omega) (by decide)) dSP_permute_82 (fun y26 => ?_)
      refine lv_lxor hx hb dSP_permute_83 ?_
      refine ml_any (fun y27 => ?_)
      refine lv_lstore (lv' := [(7, .long y27), (5, .long y18), (3, .long y9), (2, .int (nI i)), (1, .ref ln)]) hx hb dSP_permute_84 hl (by decide) rfl (fun ls hl => ?_)
      refine lv_aload_n hx hb dSP_permute_86 rfl (lv_at hl 4 rfl) ?_
      refine lv_iconst (v := nI 3) hx hb dSP_permute_87 (by decide) ?_
      refine ma_lald hx hb hK hP 1 2 rfl rfl (vp_in_nI (by omega) (by decide)) dSP_permute_88 (fun y28 => ?_)
      refine lv_aload_n hx hb dSP_permute_89 rfl (lv_at hl 4 rfl) ?_
      refine lv_bipush (v := nI 8) hx hb dSP_permute_90 (by decide) ?_
      refine ma_lald hx hb hK hP 1 2 rfl rfl (vp_in_nI (by omega) (by decide)) dSP_permute_92 (fun y29 => ?_)
      refine lv_lxor hx hb dSP_permute_93 ?_
      refine ml_any (fun y30 => ?_)
      refine lv_aload_n hx hb dSP_permute_94 rfl (lv_at hl 4 rfl) ?_
      refine lv_bipush (v := nI 13) hx hb dSP_permute_95 (by decide) ?_
      refine ma_lald hx hb hK hP 1 2 rfl rfl (vp_in_nI (by omega) (by decide)) dSP_permute_97 (fun y31 => ?_)
      refine lv_lxor hx hb dSP_permute_98 ?_
      refine ml_any (fun y32 => ?_)
      refine lv_aload_n hx hb dSP_permute_99 rfl (lv_at hl 4 rfl) ?_
      refine lv_bipush (v := nI 18) hx hb dSP_permute_100 (by decide) ?_
      refine ma_lald hx hb hK hP 1 2 rfl rfl (vp_in_nI (by omega) (by decide)) dSP_permute_102 (fun y33 => ?_)
      refine lv_lxor hx hb dSP_permute_103 ?_
      refine ml_any (fun y34 => ?_)
      refine lv_aload_n hx hb dSP_permute_104 rfl (lv_at hl 4 rfl) ?_
      refine lv_bipush (v := nI 23) hx hb dSP_permute_105 (by decide) ?_
      refine ma_lald hx hb hK hP 1 2 rfl rfl (vp_in_nI (by omega) (by decide)) dSP_permute_107 (fun y35 => ?_)
      refine lv_lxor hx hb dSP_permute_108 ?_
      refine ml_any (fun y36 => ?_)
      refine lv_lstore (lv' := [(9, .long y36), (7, .long y27), (5, .long y18), (3, .long y9), (2, .int (nI i)), (1, .ref ln)]) hx hb dSP_permute_109 hl (by decide) rfl (fun ls hl => ?_)
      refine lv_aload_n hx hb dSP_permute_111 rfl (lv_at hl 5 rfl) ?_
      refine lv_iconst (v := nI 4) hx hb dSP_permute_112 (by decide) ?_
      refine ma_lald hx hb hK hP 1 2 rfl rfl (vp_in_nI (by omega) (by decide)) dSP_permute_113 (fun y37 => ?_)
      refine lv_aload_n hx hb dSP_permute_114 rfl (lv_at hl 5 rfl) ?_
      refine lv_bipush (v := nI 9) hx hb dSP_permute_115 (by decide) ?_
      refine ma_lald hx hb hK hP 1 2 rfl rfl (vp_in_nI (by omega) (by decide)) dSP_permute_117 (fun y38 => ?_)
      refine lv_lxor hx hb dSP_permute_118 ?_
      refine ml_any (fun y39 => ?_)
      refine lv_aload_n hx hb dSP_permute_119 rfl (lv_at hl 5 rfl) ?_
      refine lv_bipush (v := nI 14) hx hb dSP_permute_120 (by decide) ?_
      refine ma_lald hx hb hK hP 1 2 rfl rfl (vp_in_nI (by omega) (by decide)) dSP_permute_122 (fun y40 => ?_)
      refine lv_lxor hx hb dSP_permute_123 ?_
      refine ml_any (fun y41 => ?_)
      refine lv_aload_n hx hb dSP_permute_124 rfl (lv_at hl 5 rfl) ?_
      refine lv_bipush (v := nI 19) hx hb dSP_permute_125 (by decide) ?_
      refine ma_lald hx hb hK hP 1 2 rfl rfl (vp_in_nI (by omega) (by decide)) dSP_permute_127 (fun y42 => ?_)
      refine lv_lxor hx hb dSP_permute_128 ?_
      refine ml_any (fun y43 => ?_)
      refine lv_aload_n hx hb dSP_permute_129 rfl (lv_at hl 5 rfl) ?_
      refine lv_bipush (v := nI 24) hx hb dSP_permute_130 (by decide) ?_
      refine ma_lald hx hb hK hP 1 2 rfl rfl (vp_in_nI (by omega) (by decide)) dSP_permute_132 (fun y44 => ?_)
      refine lv_lxor hx hb dSP_permute_133 ?_
      refine ml_any (fun y45 => ?_)
      refine lv_lstore (lv' := [(11, .long y45), (9, .long y36), (7, .long y27), (5, .long y18), (3, .long y9), (2, .int (nI i)), (1, .ref ln)]) hx hb dSP_permute_134 hl (by decide) rfl (fun ls hl => ?_)
      refine lv_lload hx hb dSP_permute_136 (lv_at hl 0 rfl) ?_
      refine lv_lload hx hb dSP_permute_138 (lv_at hl 3 rfl) ?_
      refine lv_iconst (v := nI 1) hx hb dSP_permute_140 (by decide) ?_
      refine lv_lshl hx hb dSP_permute_141 rfl ?_
      refine ml_any (fun y46 => ?_)
      refine lv_lload hx hb dSP_permute_142 (lv_at hl 3 rfl) ?_
      refine lv_bipush (v := nI 63) hx hb dSP_permute_144 (by decide) ?_
      refine lv_lushr hx hb dSP_permute_146 rfl ?_
      refine ml_any (fun y47 => ?_)
      refine lv_lor hx hb dSP_permute_147 ?_
      refine ml_any (fun y48 => ?_)
      refine lv_lxor hx hb dSP_permute_148 ?_
      refine ml_any (fun y49 => ?_)
      refine lv_lstore (lv' := [(13, .long y49), (11, .long y45), (9, .long y36), (7, .long y27), (5, .long y18), (3, .long y9), (2, .int (nI i)), (1, .ref ln)]) hx hb dSP_permute_149 hl (by decide) rfl (fun ls hl => ?_)
      refine lv_lload_n hx hb dSP_permute_151 rfl (lv_at hl 5 rfl) ?_
      refine lv_lload hx hb dSP_permute_152 (lv_at hl 3 rfl) ?_
      refine lv_iconst (v := nI 1) hx hb dSP_permute_154 (by decide) ?_
      refine lv_lshl hx hb dSP_permute_155 rfl ?_
      refine ml_any (fun y50 => ?_)
      refine lv_lload hx hb dSP_permute_156 (lv_at hl 3 rfl) ?_
      refine lv_bipush (v := nI 63) hx hb dSP_permute_158 (by decide) ?_
      refine lv_lushr hx hb dSP_permute_160 rfl ?_
      refine ml_any (fun y51 => ?_)
      refine lv_lor hx hb dSP_permute_161 ?_
      refine ml_any (fun y52 => ?_)
      refine lv_lxor hx hb dSP_permute_162 ?_
      refine ml_any (fun y53 => ?_)
      refine lv_lstore (lv' := [(15, .long y53), (13, .long y49), (11, .long y45), (9, .long y36), (7, .long y27), (5, .long y18), (3, .long y9), (2, .int (nI i)), (1, .ref ln)]) hx hb dSP_permute_163 hl (by decide) rfl (fun ls hl => ?_)
      refine lv_lload hx hb dSP_permute_165 (lv_at hl 5 rfl) ?_
      refine lv_lload hx hb dSP_permute_167 (lv_at hl 3 rfl) ?_
      refine lv_iconst (v := nI 1) hx hb dSP_permute_169 (by decide) ?_
      refine lv_lshl hx hb dSP_permute_170 rfl ?_
      refine ml_any (fun y54 => ?_)
      refine lv_lload hx hb dSP_permute_171 (lv_at hl 3 rfl) ?_
      refine lv_bipush (v := nI 63) hx hb dSP_permute_173 (by decide) ?_
      refine lv_lushr hx hb dSP_permute_175 rfl ?_
      refine ml_any (fun y55 => ?_)
      refine lv_lor hx hb dSP_permute_176 ?_
      refine ml_any (fun y56 => ?_)
      refine lv_lxor hx hb dSP_permute_177 ?_
      refine ml_any (fun y57 => ?_)
      refine lv_lstore (lv' := [(17, .long y57), (15, .long y53), (13, .long y49), (11, .long y45), (9, .long y36), (7, .long y27), (5, .long y18), (3, .long y9), (2, .int (nI i)), (1, .ref ln)]) hx hb dSP_permute_178 hl (by decide) rfl (fun ls hl => ?_)
      refine lv_lload hx hb dSP_permute_180 (lv_at hl 5 rfl) ?_
      refine lv_lload hx hb dSP_permute_182 (lv_at hl 3 rfl) ?_
      refine lv_iconst (v := nI 1) hx hb dSP_permute_184 (by decide) ?_
      refine lv_lshl hx hb dSP_permute_185 rfl ?_
      refine ml_any (fun y58 => ?_)
      refine lv_lload hx hb dSP_permute_186 (lv_at hl 3 rfl) ?_
      refine lv_bipush (v := nI 63) hx hb dSP_permute_188 (by decide) ?_
      refine lv_lushr hx hb dSP_permute_190 rfl ?_
      refine ml_any (fun y59 => ?_)
      refine lv_lor hx hb dSP_permute_191 ?_
      refine ml_any (fun y60 => ?_)
      refine lv_lxor hx hb dSP_permute_192 ?_
      refine ml_any (fun y61 => ?_)
      refine lv_lstore (lv' := [(19, .long y61), (17, .long y57), (15, .long y53), (13, .long y49), (11, .long y45), (9, .long y36), (7, .long y27), (5, .long y18), (3, .long y9), (2, .int (nI i)), (1, .ref ln)]) hx hb dSP_permute_193 hl (by decide) rfl (fun ls hl => ?_)
      refine lv_lload hx hb dSP_permute_195 (lv_at hl 5 rfl) ?_
      refine lv_lload_n hx hb dSP_permute_197 rfl (lv_at hl 8 rfl) ?_
      refine lv_iconst (v := nI 1) hx hb dSP_permute_198 (by decide) ?_
      refine lv_lshl hx hb dSP_permute_199 rfl ?_
      refine ml_any (fun y62 => ?_)
      refine lv_lload_n hx hb dSP_permute_200 rfl (lv_at hl 8 rfl) ?_
      refine lv_bipush (v := nI 63) hx hb dSP_permute_201 (by decide) ?_
      refine lv_lushr hx hb dSP_permute_203 rfl ?_
      refine ml_any (fun y63 => ?_)
      refine lv_lor hx hb dSP_permute_204 ?_
      refine ml_any (fun y64 => ?_)
      refine lv_lxor hx hb dSP_permute_205 ?_
      refine ml_any (fun y65 => ?_)
      refine lv_lstore (lv' := [(21, .long y65), (19, .long y61), (17, .long y57), (15, .long y53), (13, .long y49), (11, .long y45), (9, .long y36), (7, .long y27), (5, .long y18), (3, .long y9), (2, .int (nI i)), (1, .ref ln)]) hx hb dSP_permute_206 hl (by decide) rfl (fun ls hl => ?_)
      refine lv_iconst (v := nI 0) hx hb dSP_permute_208 (by decide) ?_
      refine lv_istore (lv' := [(23, .int (nI 0)), (21, .long y65), (19, .long y61), (17, .long y57), (15, .long y53), (13, .long y49), (11, .long y45), (9, .long y36), (7, .long y27), (5, .long y18), (3, .long y9), (2, .int (nI i)), (1, .ref ln)]) hx hb dSP_permute_209 hl (by decide) rfl (fun ls hl => ?_)
      exact la 5 0 f y49 y53 y57 y61 y65 ls _ _ (by omega)  (lv_sub hl [0, 12, 11, 5, 4, 3, 2, 1] rfl) hP hD hS
  refine lv_aload_n hx hb dSP_permute_0 rfl (lv_at hl 0 rfl) ?_
  refine va_get (D := g.1) (ci := 3) (C := "LatticeKeys$Sponge") (T := T_SP) (N := 4) hx hb hts (wg_ft i_SP) hown hK hP 0 rfl rfl 0 (by decide) (hts _ (wg_t kw_59)) (fun _ h9 => h9) rfl dSP_permute_1 ?_
  refine lv_astore_n (lv' := [(1, .ref ln), (0, .ref h0)]) hx hb dSP_permute_4 rfl hl (by decide) rfl (fun ls hl => ?_)
  refine lv_iconst (v := nI 0) hx hb dSP_permute_5 (by decide) ?_
  refine lv_istore_n (lv' := [(2, .int (nI 0)), (1, .ref ln), (0, .ref h0)]) hx hb dSP_permute_6 rfl hl (by decide) rfl (fun ls hl => ?_)
  exact lp 24 0 f ls _ _ (by omega)  (lv_sub hl [0, 1] rfl) hP hD hS
