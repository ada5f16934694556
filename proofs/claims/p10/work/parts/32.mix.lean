set_option linter.all false
abbrev c_MS_mix : ByteArray := prog_16_method_3_code
abbrev y_MS_mix : MethodName := ⟨"LatticeKeysModel$Sponge", "mix", "()V"⟩
abbrev w_MS_mix : List Cond := Cond.code y_MS_mix c_MS_mix 4 none :: WG
theorem dMS_mix_0 : decode c_MS_mix 0 = .ok (.iconst 0, 1) := by decide +kernel
theorem dMS_mix_1 : decode c_MS_mix 1 = .ok (.istore_n 1, 1) := by decide +kernel
theorem dMS_mix_2 : decode c_MS_mix 2 = .ok (.iload_n 1, 1) := by decide +kernel
theorem dMS_mix_3 : decode c_MS_mix 3 = .ok (.bipush 24, 2) := by decide +kernel
theorem dMS_mix_5 : decode c_MS_mix 5 = .ok (.if_icmp .ge 283, 3) := by decide +kernel
theorem dMS_mix_8 : decode c_MS_mix 8 = .ok (.iconst 0, 1) := by decide +kernel
theorem dMS_mix_9 : decode c_MS_mix 9 = .ok (.istore_n 2, 1) := by decide +kernel
theorem dMS_mix_10 : decode c_MS_mix 10 = .ok (.iload_n 2, 1) := by decide +kernel
theorem dMS_mix_11 : decode c_MS_mix 11 = .ok (.iconst 5, 1) := by decide +kernel
theorem dMS_mix_12 : decode c_MS_mix 12 = .ok (.if_icmp .ge 60, 3) := by decide +kernel
theorem dMS_mix_15 : decode c_MS_mix 15 = .ok (.aload_n 0, 1) := by decide +kernel
theorem dMS_mix_16 : decode c_MS_mix 16 = .ok (.getfield 16, 3) := by decide +kernel
theorem dMS_mix_19 : decode c_MS_mix 19 = .ok (.iload_n 2, 1) := by decide +kernel
theorem dMS_mix_20 : decode c_MS_mix 20 = .ok (.aload_n 0, 1) := by decide +kernel
theorem dMS_mix_21 : decode c_MS_mix 21 = .ok (.getfield 7, 3) := by decide +kernel
theorem dMS_mix_24 : decode c_MS_mix 24 = .ok (.iload_n 2, 1) := by decide +kernel
theorem dMS_mix_25 : decode c_MS_mix 25 = .ok (.laload, 1) := by decide +kernel
theorem dMS_mix_26 : decode c_MS_mix 26 = .ok (.aload_n 0, 1) := by decide +kernel
theorem dMS_mix_27 : decode c_MS_mix 27 = .ok (.getfield 7, 3) := by decide +kernel
theorem dMS_mix_30 : decode c_MS_mix 30 = .ok (.iload_n 2, 1) := by decide +kernel
theorem dMS_mix_31 : decode c_MS_mix 31 = .ok (.iconst 5, 1) := by decide +kernel
theorem dMS_mix_32 : decode c_MS_mix 32 = .ok (.iadd, 1) := by decide +kernel
theorem dMS_mix_33 : decode c_MS_mix 33 = .ok (.laload, 1) := by decide +kernel
theorem dMS_mix_34 : decode c_MS_mix 34 = .ok (.lxor, 1) := by decide +kernel
theorem dMS_mix_35 : decode c_MS_mix 35 = .ok (.aload_n 0, 1) := by decide +kernel
theorem dMS_mix_36 : decode c_MS_mix 36 = .ok (.getfield 7, 3) := by decide +kernel
theorem dMS_mix_39 : decode c_MS_mix 39 = .ok (.iload_n 2, 1) := by decide +kernel
theorem dMS_mix_40 : decode c_MS_mix 40 = .ok (.bipush 10, 2) := by decide +kernel
theorem dMS_mix_42 : decode c_MS_mix 42 = .ok (.iadd, 1) := by decide +kernel
theorem dMS_mix_43 : decode c_MS_mix 43 = .ok (.laload, 1) := by decide +kernel
theorem dMS_mix_44 : decode c_MS_mix 44 = .ok (.lxor, 1) := by decide +kernel
theorem dMS_mix_45 : decode c_MS_mix 45 = .ok (.aload_n 0, 1) := by decide +kernel
theorem dMS_mix_46 : decode c_MS_mix 46 = .ok (.getfield 7, 3) := by decide +kernel
theorem dMS_mix_49 : decode c_MS_mix 49 = .ok (.iload_n 2, 1) := by decide +kernel
theorem dMS_mix_50 : decode c_MS_mix 50 = .ok (.bipush 15, 2) := by decide +kernel
theorem dMS_mix_52 : decode c_MS_mix 52 = .ok (.iadd, 1) := by decide +kernel
theorem dMS_mix_53 : decode c_MS_mix 53 = .ok (.laload, 1) := by decide +kernel
theorem dMS_mix_54 : decode c_MS_mix 54 = .ok (.lxor, 1) := by decide +kernel
theorem dMS_mix_55 : decode c_MS_mix 55 = .ok (.aload_n 0, 1) := by decide +kernel
theorem dMS_mix_56 : decode c_MS_mix 56 = .ok (.getfield 7, 3) := by decide +kernel
theorem dMS_mix_59 : decode c_MS_mix 59 = .ok (.iload_n 2, 1) := by decide +kernel
theorem dMS_mix_60 : decode c_MS_mix 60 = .ok (.bipush 20, 2) := by decide +kernel
theorem dMS_mix_62 : decode c_MS_mix 62 = .ok (.iadd, 1) := by decide +kernel
theorem dMS_mix_63 : decode c_MS_mix 63 = .ok (.laload, 1) := by decide +kernel
theorem dMS_mix_64 : decode c_MS_mix 64 = .ok (.lxor, 1) := by decide +kernel
theorem dMS_mix_65 : decode c_MS_mix 65 = .ok (.lastore, 1) := by decide +kernel
theorem dMS_mix_66 : decode c_MS_mix 66 = .ok (.iinc 2 1, 3) := by decide +kernel
theorem dMS_mix_69 : decode c_MS_mix 69 = .ok (.goto (-59), 3) := by decide +kernel
theorem dMS_mix_72 : decode c_MS_mix 72 = .ok (.iconst 0, 1) := by decide +kernel
theorem dMS_mix_73 : decode c_MS_mix 73 = .ok (.istore_n 2, 1) := by decide +kernel
theorem dMS_mix_74 : decode c_MS_mix 74 = .ok (.iload_n 2, 1) := by decide +kernel
theorem dMS_mix_75 : decode c_MS_mix 75 = .ok (.bipush 25, 2) := by decide +kernel
theorem dMS_mix_77 : decode c_MS_mix 77 = .ok (.if_icmp .ge 43, 3) := by decide +kernel
theorem dMS_mix_80 : decode c_MS_mix 80 = .ok (.aload_n 0, 1) := by decide +kernel
theorem dMS_mix_81 : decode c_MS_mix 81 = .ok (.getfield 7, 3) := by decide +kernel
theorem dMS_mix_84 : decode c_MS_mix 84 = .ok (.iload_n 2, 1) := by decide +kernel
theorem dMS_mix_85 : decode c_MS_mix 85 = .ok (.dup2, 1) := by decide +kernel
theorem dMS_mix_86 : decode c_MS_mix 86 = .ok (.laload, 1) := by decide +kernel
theorem dMS_mix_87 : decode c_MS_mix 87 = .ok (.aload_n 0, 1) := by decide +kernel
theorem dMS_mix_88 : decode c_MS_mix 88 = .ok (.getfield 16, 3) := by decide +kernel
theorem dMS_mix_91 : decode c_MS_mix 91 = .ok (.iload_n 2, 1) := by decide +kernel
theorem dMS_mix_92 : decode c_MS_mix 92 = .ok (.iconst 4, 1) := by decide +kernel
theorem dMS_mix_93 : decode c_MS_mix 93 = .ok (.iadd, 1) := by decide +kernel
theorem dMS_mix_94 : decode c_MS_mix 94 = .ok (.iconst 5, 1) := by decide +kernel
theorem dMS_mix_95 : decode c_MS_mix 95 = .ok (.irem, 1) := by decide +kernel
theorem dMS_mix_96 : decode c_MS_mix 96 = .ok (.laload, 1) := by decide +kernel
theorem dMS_mix_97 : decode c_MS_mix 97 = .ok (.aload_n 0, 1) := by decide +kernel
theorem dMS_mix_98 : decode c_MS_mix 98 = .ok (.getfield 16, 3) := by decide +kernel
theorem dMS_mix_101 : decode c_MS_mix 101 = .ok (.iload_n 2, 1) := by decide +kernel
theorem dMS_mix_102 : decode c_MS_mix 102 = .ok (.iconst 1, 1) := by decide +kernel
theorem dMS_mix_103 : decode c_MS_mix 103 = .ok (.iadd, 1) := by decide +kernel
theorem dMS_mix_104 : decode c_MS_mix 104 = .ok (.iconst 5, 1) := by decide +kernel
theorem dMS_mix_105 : decode c_MS_mix 105 = .ok (.irem, 1) := by decide +kernel
theorem dMS_mix_106 : decode c_MS_mix 106 = .ok (.laload, 1) := by decide +kernel
theorem dMS_mix_107 : decode c_MS_mix 107 = .ok (.iconst 1, 1) := by decide +kernel
theorem dMS_mix_108 : decode c_MS_mix 108 = .ok (.invokestatic 26, 3) := by decide +kernel
theorem dMS_mix_111 : decode c_MS_mix 111 = .ok (.lxor, 1) := by decide +kernel
theorem dMS_mix_112 : decode c_MS_mix 112 = .ok (.lxor, 1) := by decide +kernel
theorem dMS_mix_113 : decode c_MS_mix 113 = .ok (.lastore, 1) := by decide +kernel
theorem dMS_mix_114 : decode c_MS_mix 114 = .ok (.iinc 2 1, 3) := by decide +kernel
theorem dMS_mix_117 : decode c_MS_mix 117 = .ok (.goto (-43), 3) := by decide +kernel
theorem dMS_mix_120 : decode c_MS_mix 120 = .ok (.iconst 0, 1) := by decide +kernel
theorem dMS_mix_121 : decode c_MS_mix 121 = .ok (.istore_n 2, 1) := by decide +kernel
theorem dMS_mix_122 : decode c_MS_mix 122 = .ok (.iload_n 2, 1) := by decide +kernel
theorem dMS_mix_123 : decode c_MS_mix 123 = .ok (.iconst 5, 1) := by decide +kernel
theorem dMS_mix_124 : decode c_MS_mix 124 = .ok (.if_icmp .ge 63, 3) := by decide +kernel
theorem dMS_mix_127 : decode c_MS_mix 127 = .ok (.iconst 0, 1) := by decide +kernel
theorem dMS_mix_128 : decode c_MS_mix 128 = .ok (.istore_n 3, 1) := by decide +kernel
theorem dMS_mix_129 : decode c_MS_mix 129 = .ok (.iload_n 3, 1) := by decide +kernel
theorem dMS_mix_130 : decode c_MS_mix 130 = .ok (.iconst 5, 1) := by decide +kernel
theorem dMS_mix_131 : decode c_MS_mix 131 = .ok (.if_icmp .ge 50, 3) := by decide +kernel
theorem dMS_mix_134 : decode c_MS_mix 134 = .ok (.aload_n 0, 1) := by decide +kernel
theorem dMS_mix_135 : decode c_MS_mix 135 = .ok (.getfield 13, 3) := by decide +kernel
theorem dMS_mix_138 : decode c_MS_mix 138 = .ok (.iload_n 3, 1) := by decide +kernel
theorem dMS_mix_139 : decode c_MS_mix 139 = .ok (.iconst 5, 1) := by decide +kernel
theorem dMS_mix_140 : decode c_MS_mix 140 = .ok (.iconst 2, 1) := by decide +kernel
theorem dMS_mix_141 : decode c_MS_mix 141 = .ok (.iload_n 2, 1) := by decide +kernel
theorem dMS_mix_142 : decode c_MS_mix 142 = .ok (.imul, 1) := by decide +kernel
theorem dMS_mix_143 : decode c_MS_mix 143 = .ok (.iconst 3, 1) := by decide +kernel
theorem dMS_mix_144 : decode c_MS_mix 144 = .ok (.iload_n 3, 1) := by decide +kernel
theorem dMS_mix_145 : decode c_MS_mix 145 = .ok (.imul, 1) := by decide +kernel
theorem dMS_mix_146 : decode c_MS_mix 146 = .ok (.iadd, 1) := by decide +kernel
theorem dMS_mix_147 : decode c_MS_mix 147 = .ok (.iconst 5, 1) := by decide +kernel
theorem dMS_mix_148 : decode c_MS_mix 148 = .ok (.irem, 1) := by decide +kernel
theorem dMS_mix_149 : decode c_MS_mix 149 = .ok (.imul, 1) := by decide +kernel
theorem dMS_mix_150 : decode c_MS_mix 150 = .ok (.iadd, 1) := by decide +kernel
theorem dMS_mix_151 : decode c_MS_mix 151 = .ok (.aload_n 0, 1) := by decide +kernel
theorem dMS_mix_152 : decode c_MS_mix 152 = .ok (.getfield 7, 3) := by decide +kernel
theorem dMS_mix_155 : decode c_MS_mix 155 = .ok (.iload_n 2, 1) := by decide +kernel
theorem dMS_mix_156 : decode c_MS_mix 156 = .ok (.iconst 5, 1) := by decide +kernel
theorem dMS_mix_157 : decode c_MS_mix 157 = .ok (.iload_n 3, 1) := by decide +kernel
theorem dMS_mix_158 : decode c_MS_mix 158 = .ok (.imul, 1) := by decide +kernel
theorem dMS_mix_159 : decode c_MS_mix 159 = .ok (.iadd, 1) := by decide +kernel
theorem dMS_mix_160 : decode c_MS_mix 160 = .ok (.laload, 1) := by decide +kernel
theorem dMS_mix_161 : decode c_MS_mix 161 = .ok (.aload_n 0, 1) := by decide +kernel
theorem dMS_mix_162 : decode c_MS_mix 162 = .ok (.getfield 22, 3) := by decide +kernel
theorem dMS_mix_165 : decode c_MS_mix 165 = .ok (.iload_n 2, 1) := by decide +kernel
theorem dMS_mix_166 : decode c_MS_mix 166 = .ok (.iconst 5, 1) := by decide +kernel
theorem dMS_mix_167 : decode c_MS_mix 167 = .ok (.iload_n 3, 1) := by decide +kernel
theorem dMS_mix_168 : decode c_MS_mix 168 = .ok (.imul, 1) := by decide +kernel
theorem dMS_mix_169 : decode c_MS_mix 169 = .ok (.iadd, 1) := by decide +kernel
theorem dMS_mix_170 : decode c_MS_mix 170 = .ok (.iaload, 1) := by decide +kernel
theorem dMS_mix_171 : decode c_MS_mix 171 = .ok (.invokestatic 26, 3) := by decide +kernel
theorem dMS_mix_174 : decode c_MS_mix 174 = .ok (.lastore, 1) := by decide +kernel
theorem dMS_mix_175 : decode c_MS_mix 175 = .ok (.iinc 3 1, 3) := by decide +kernel
theorem dMS_mix_178 : decode c_MS_mix 178 = .ok (.goto (-49), 3) := by decide +kernel
theorem dMS_mix_181 : decode c_MS_mix 181 = .ok (.iinc 2 1, 3) := by decide +kernel
theorem dMS_mix_184 : decode c_MS_mix 184 = .ok (.goto (-62), 3) := by decide +kernel
theorem dMS_mix_187 : decode c_MS_mix 187 = .ok (.iconst 0, 1) := by decide +kernel
theorem dMS_mix_188 : decode c_MS_mix 188 = .ok (.istore_n 2, 1) := by decide +kernel
theorem dMS_mix_189 : decode c_MS_mix 189 = .ok (.iload_n 2, 1) := by decide +kernel
theorem dMS_mix_190 : decode c_MS_mix 190 = .ok (.iconst 5, 1) := by decide +kernel
theorem dMS_mix_191 : decode c_MS_mix 191 = .ok (.if_icmp .ge 76, 3) := by decide +kernel
theorem dMS_mix_194 : decode c_MS_mix 194 = .ok (.iconst 0, 1) := by decide +kernel
theorem dMS_mix_195 : decode c_MS_mix 195 = .ok (.istore_n 3, 1) := by decide +kernel
theorem dMS_mix_196 : decode c_MS_mix 196 = .ok (.iload_n 3, 1) := by decide +kernel
theorem dMS_mix_197 : decode c_MS_mix 197 = .ok (.iconst 5, 1) := by decide +kernel
theorem dMS_mix_198 : decode c_MS_mix 198 = .ok (.if_icmp .ge 63, 3) := by decide +kernel
theorem dMS_mix_201 : decode c_MS_mix 201 = .ok (.aload_n 0, 1) := by decide +kernel
theorem dMS_mix_202 : decode c_MS_mix 202 = .ok (.getfield 7, 3) := by decide +kernel
theorem dMS_mix_205 : decode c_MS_mix 205 = .ok (.iload_n 2, 1) := by decide +kernel
theorem dMS_mix_206 : decode c_MS_mix 206 = .ok (.iconst 5, 1) := by decide +kernel
theorem dMS_mix_207 : decode c_MS_mix 207 = .ok (.iload_n 3, 1) := by decide +kernel
theorem dMS_mix_208 : decode c_MS_mix 208 = .ok (.imul, 1) := by decide +kernel
theorem dMS_mix_209 : decode c_MS_mix 209 = .ok (.iadd, 1) := by decide +kernel
theorem dMS_mix_210 : decode c_MS_mix 210 = .ok (.aload_n 0, 1) := by decide +kernel
theorem dMS_mix_211 : decode c_MS_mix 211 = .ok (.getfield 13, 3) := by decide +kernel
theorem dMS_mix_214 : decode c_MS_mix 214 = .ok (.iload_n 2, 1) := by decide +kernel
theorem dMS_mix_215 : decode c_MS_mix 215 = .ok (.iconst 5, 1) := by decide +kernel
theorem dMS_mix_216 : decode c_MS_mix 216 = .ok (.iload_n 3, 1) := by decide +kernel
theorem dMS_mix_217 : decode c_MS_mix 217 = .ok (.imul, 1) := by decide +kernel
theorem dMS_mix_218 : decode c_MS_mix 218 = .ok (.iadd, 1) := by decide +kernel
theorem dMS_mix_219 : decode c_MS_mix 219 = .ok (.laload, 1) := by decide +kernel
theorem dMS_mix_220 : decode c_MS_mix 220 = .ok (.aload_n 0, 1) := by decide +kernel
theorem dMS_mix_221 : decode c_MS_mix 221 = .ok (.getfield 13, 3) := by decide +kernel
theorem dMS_mix_224 : decode c_MS_mix 224 = .ok (.iload_n 2, 1) := by decide +kernel
theorem dMS_mix_225 : decode c_MS_mix 225 = .ok (.iconst 1, 1) := by decide +kernel
theorem dMS_mix_226 : decode c_MS_mix 226 = .ok (.iadd, 1) := by decide +kernel
theorem dMS_mix_227 : decode c_MS_mix 227 = .ok (.iconst 5, 1) := by decide +kernel
theorem dMS_mix_228 : decode c_MS_mix 228 = .ok (.irem, 1) := by decide +kernel
theorem dMS_mix_229 : decode c_MS_mix 229 = .ok (.iconst 5, 1) := by decide +kernel
theorem dMS_mix_230 : decode c_MS_mix 230 = .ok (.iload_n 3, 1) := by decide +kernel
theorem dMS_mix_231 : decode c_MS_mix 231 = .ok (.imul, 1) := by decide +kernel
theorem dMS_mix_232 : decode c_MS_mix 232 = .ok (.iadd, 1) := by decide +kernel
theorem dMS_mix_233 : decode c_MS_mix 233 = .ok (.laload, 1) := by decide +kernel
theorem dMS_mix_234 : decode c_MS_mix 234 = .ok (.ldc2_w 30, 3) := by decide +kernel
theorem dMS_mix_237 : decode c_MS_mix 237 = .ok (.lxor, 1) := by decide +kernel
theorem dMS_mix_238 : decode c_MS_mix 238 = .ok (.aload_n 0, 1) := by decide +kernel
theorem dMS_mix_239 : decode c_MS_mix 239 = .ok (.getfield 13, 3) := by decide +kernel
theorem dMS_mix_242 : decode c_MS_mix 242 = .ok (.iload_n 2, 1) := by decide +kernel
theorem dMS_mix_243 : decode c_MS_mix 243 = .ok (.iconst 2, 1) := by decide +kernel
theorem dMS_mix_244 : decode c_MS_mix 244 = .ok (.iadd, 1) := by decide +kernel
theorem dMS_mix_245 : decode c_MS_mix 245 = .ok (.iconst 5, 1) := by decide +kernel
theorem dMS_mix_246 : decode c_MS_mix 246 = .ok (.irem, 1) := by decide +kernel
theorem dMS_mix_247 : decode c_MS_mix 247 = .ok (.iconst 5, 1) := by decide +kernel
theorem dMS_mix_248 : decode c_MS_mix 248 = .ok (.iload_n 3, 1) := by decide +kernel
theorem dMS_mix_249 : decode c_MS_mix 249 = .ok (.imul, 1) := by decide +kernel
theorem dMS_mix_250 : decode c_MS_mix 250 = .ok (.iadd, 1) := by decide +kernel
theorem dMS_mix_251 : decode c_MS_mix 251 = .ok (.laload, 1) := by decide +kernel
theorem dMS_mix_252 : decode c_MS_mix 252 = .ok (.land, 1) := by decide +kernel
theorem dMS_mix_253 : decode c_MS_mix 253 = .ok (.lxor, 1) := by decide +kernel
theorem dMS_mix_254 : decode c_MS_mix 254 = .ok (.lastore, 1) := by decide +kernel
theorem dMS_mix_255 : decode c_MS_mix 255 = .ok (.iinc 3 1, 3) := by decide +kernel
theorem dMS_mix_258 : decode c_MS_mix 258 = .ok (.goto (-62), 3) := by decide +kernel
theorem dMS_mix_261 : decode c_MS_mix 261 = .ok (.iinc 2 1, 3) := by decide +kernel
theorem dMS_mix_264 : decode c_MS_mix 264 = .ok (.goto (-75), 3) := by decide +kernel
theorem dMS_mix_267 : decode c_MS_mix 267 = .ok (.aload_n 0, 1) := by decide +kernel
theorem dMS_mix_268 : decode c_MS_mix 268 = .ok (.getfield 7, 3) := by decide +kernel
theorem dMS_mix_271 : decode c_MS_mix 271 = .ok (.iconst 0, 1) := by decide +kernel
theorem dMS_mix_272 : decode c_MS_mix 272 = .ok (.dup2, 1) := by decide +kernel
theorem dMS_mix_273 : decode c_MS_mix 273 = .ok (.laload, 1) := by decide +kernel
theorem dMS_mix_274 : decode c_MS_mix 274 = .ok (.aload_n 0, 1) := by decide +kernel
theorem dMS_mix_275 : decode c_MS_mix 275 = .ok (.getfield 19, 3) := by decide +kernel
theorem dMS_mix_278 : decode c_MS_mix 278 = .ok (.iload_n 1, 1) := by decide +kernel
theorem dMS_mix_279 : decode c_MS_mix 279 = .ok (.laload, 1) := by decide +kernel
theorem dMS_mix_280 : decode c_MS_mix 280 = .ok (.lxor, 1) := by decide +kernel
theorem dMS_mix_281 : decode c_MS_mix 281 = .ok (.lastore, 1) := by decide +kernel
theorem dMS_mix_282 : decode c_MS_mix 282 = .ok (.iinc 1 1, 3) := by decide +kernel
theorem dMS_mix_285 : decode c_MS_mix 285 = .ok (.goto (-283), 3) := by decide +kernel
theorem dMS_mix_288 : decode c_MS_mix 288 = .ok (.return_, 1) := by decide +kernel
set_option maxHeartbeats 400000 in
set_option maxRecDepth 100000 in
theorem m_MS_mix (l : Launch) (g : Gd) (sz : Nat) (h0 sa ta ca ra ua : Nat) (x1 x2 x3 : Int32) (fs ft fc fr : Nat → Int64) (fu : Nat → Int32)  : Met l y_MS_mix w_MS_mix ({ frames := 1, cells := 0, slots := 0, locals := 24 } : Room) (va_Pc [.ref h0] (pr (en g) g.1 vcl sz [(h0, .inr (9, [.ref sa, .ref ta, .ref ca, .ref ra, .ref ua, .int x1, .int x2, .int x3])), (sa, .inl (g.2.1 2, 25, .inr (.inl fs))), (ta, .inl (g.2.1 2, 25, .inr (.inl ft))), (ca, .inl (g.2.1 2, 5, .inr (.inl fc))), (ra, .inl (g.2.1 2, 24, .inr (.inl fr))), (ua, .inl (g.2.1 0, 25, .inl fu))])) (va_Qv (fun (u : (Nat → Int64) × (Nat → Int64) × (Nat → Int64)) => True) (po g.1 vcl (va_A [(h0, .inr (9, [.ref sa, .ref ta, .ref ca, .ref ra, .ref ua, .int x1, .int x2, .int x3])), (sa, .inl (g.2.1 2, 25, .inr (.inl fs))), (ta, .inl (g.2.1 2, 25, .inr (.inl ft))), (ca, .inl (g.2.1 2, 5, .inr (.inl fc))), (ra, .inl (g.2.1 2, 24, .inr (.inl fr))), (ua, .inl (g.2.1 0, 25, .inl fu))] sz) (fun (u : (Nat → Int64) × (Nat → Int64) × (Nat → Int64)) => [(h0, .inr (9, [.ref sa, .ref ta, .ref ca, .ref ra, .ref ua, .int x1, .int x2, .int x3])), (sa, .inl (g.2.1 2, 25, .inr (.inl ((u.1))))), (ta, .inl (g.2.1 2, 25, .inr (.inl ((u.2.1))))), (ca, .inl (g.2.1 2, 5, .inr (.inl ((u.2.2))))), (ra, .inl (g.2.1 2, 24, .inr (.inl fr))), (ua, .inl (g.2.1 0, 25, .inl fu))])) (va_A [(h0, .inr (9, [.ref sa, .ref ta, .ref ca, .ref ra, .ref ua, .int x1, .int x2, .int x3])), (sa, .inl (g.2.1 2, 25, .inr (.inl fs))), (ta, .inl (g.2.1 2, 25, .inr (.inl ft))), (ca, .inl (g.2.1 2, 5, .inr (.inl fc))), (ra, .inl (g.2.1 2, 24, .inr (.inl fr))), (ua, .inl (g.2.1 0, 25, .inl fu))] sz)) 0 0 (va_A [(h0, .inr (9, [.ref sa, .ref ta, .ref ca, .ref ra, .ref ua, .int x1, .int x2, .int x3])), (sa, .inl (g.2.1 2, 25, .inr (.inl fs))), (ta, .inl (g.2.1 2, 25, .inr (.inl ft))), (ca, .inl (g.2.1 2, 5, .inr (.inl fc))), (ra, .inl (g.2.1 2, 24, .inr (.inl fr))), (ua, .inl (g.2.1 0, 25, .inl fu))] sz) := by
  refine mc_entry (cc := c_MS_mix) (maxL := 4) (ret := none) (by decide) rfl (Nat.le_of_ble_eq_true rfl) ?_
  intro p e s m args below meth c ls F hr hlk hnm hsz hP hD hE hA hl
  obtain ⟨hx, hb, hml, hown, hts⟩ := id F
  have hK := hE.1
  generalize va_A [(h0, .inr (9, [.ref sa, .ref ta, .ref ca, .ref ra, .ref ua, .int x1, .int x2, .int x3])), (sa, .inl (g.2.1 2, 25, .inr (.inl fs))), (ta, .inl (g.2.1 2, 25, .inr (.inl ft))), (ca, .inl (g.2.1 2, 5, .inr (.inl fc))), (ra, .inl (g.2.1 2, 24, .inr (.inl fr))), (ua, .inl (g.2.1 0, 25, .inl fu))] sz = A at hD hE hA ⊢
  have hS : va_S A s.heap s.heap [] := va_S.rf
  have hl : lv_has ls 4 [(0, .ref h0)] := hl
  have lp : ∀ (n : Nat) (i : Nat) (fs ft fc : Nat → Int64) (ls : Array Slot) (H : Heap) (locs : List Loc) , n + i = 24 → lv_has ls 4 [(1, .int (nI i)), (0, .ref h0)] → va_P g.1 vcl [(h0, .inr (9, [.ref sa, .ref ta, .ref ca, .ref ra, .ref ua, .int x1, .int x2, .int x3])), (sa, .inl (g.2.1 2, 25, .inr (.inl fs))), (ta, .inl (g.2.1 2, 25, .inr (.inl ft))), (ca, .inl (g.2.1 2, 5, .inr (.inl fc))), (ra, .inl (g.2.1 2, 24, .inr (.inl fr))), (ua, .inl (g.2.1 0, 25, .inl fu))] H → va_D A [(h0, .inr (9, [.ref sa, .ref ta, .ref ca, .ref ra, .ref ua, .int x1, .int x2, .int x3])), (sa, .inl (g.2.1 2, 25, .inr (.inl fs))), (ta, .inl (g.2.1 2, 25, .inr (.inl ft))), (ca, .inl (g.2.1 2, 5, .inr (.inl fc))), (ra, .inl (g.2.1 2, 24, .inr (.inl fr))), (ua, .inl (g.2.1 0, 25, .inl fu))] → va_S A s.heap H locs → W p l e ({ frames := 1, cells := 0, slots := 0, locals := 24 } : Room) s m args below meth c H locs 0 0 (MQ below (va_Qv (fun (u : (Nat → Int64) × (Nat → Int64) × (Nat → Int64)) => True) (po g.1 vcl A (fun (u : (Nat → Int64) × (Nat → Int64) × (Nat → Int64)) => [(h0, .inr (9, [.ref sa, .ref ta, .ref ca, .ref ra, .ref ua, .int x1, .int x2, .int x3])), (sa, .inl (g.2.1 2, 25, .inr (.inl ((u.1))))), (ta, .inl (g.2.1 2, 25, .inr (.inl ((u.2.1))))), (ca, .inl (g.2.1 2, 5, .inr (.inl ((u.2.2))))), (ra, .inl (g.2.1 2, 24, .inr (.inl fr))), (ua, .inl (g.2.1 0, 25, .inl fu))])) A) args s 0 0 A) (F0 m 2 ls []) := by
    intro n
    induction n with
    | zero =>
      intro i fs ft fc ls H locs hi  hl hP hD hS
      refine lv_iload_n hx hb dMS_mix_2 rfl (lv_at hl 0 rfl) ?_
      refine lv_bipush (v := nI 24) hx hb dMS_mix_3 (by decide) ?_
      refine mi_ge (tgt := 288) hx hb dMS_mix_5 (by decide) (by omega) (by omega) (fun h1 => ?_) (fun h1 => absurd h1 (by omega))
      exact mc_vret hx hb hr hlk hP hD hS (fs, ft, fc) trivial [0, 1, 2, 3, 4, 5] rfl rfl (by omega) (by omega) dMS_mix_288
    | succ n ihlp =>
      intro i fs ft fc ls H locs hi  hl hP hD hS
      have ld : ∀ (n : Nat) (x : Nat) (fs ft fc : Nat → Int64) (ls : Array Slot) (H : Heap) (locs : List Loc) , n + x = 5 → lv_has ls 4 [(2, .int (nI x)), (1, .int (nI i)), (0, .ref h0)] → va_P g.1 vcl [(h0, .inr (9, [.ref sa, .ref ta, .ref ca, .ref ra, .ref ua, .int x1, .int x2, .int x3])), (sa, .inl (g.2.1 2, 25, .inr (.inl fs))), (ta, .inl (g.2.1 2, 25, .inr (.inl ft))), (ca, .inl (g.2.1 2, 5, .inr (.inl fc))), (ra, .inl (g.2.1 2, 24, .inr (.inl fr))), (ua, .inl (g.2.1 0, 25, .inl fu))] H → va_D A [(h0, .inr (9, [.ref sa, .ref ta, .ref ca, .ref ra, .ref ua, .int x1, .int x2, .int x3])), (sa, .inl (g.2.1 2, 25, .inr (.inl fs))), (ta, .inl (g.2.1 2, 25, .inr (.inl ft))), (ca, .inl (g.2.1 2, 5, .inr (.inl fc))), (ra, .inl (g.2.1 2, 24, .inr (.inl fr))), (ua, .inl (g.2.1 0, 25, .inl fu))] → va_S A s.heap H locs → W p l e ({ frames := 1, cells := 0, slots := 0, locals := 24 } : Room) s m args below meth c H locs 0 0 (MQ below (va_Qv (fun (u : (Nat → Int64) × (Nat → Int64) × (Nat → Int64)) => True) (po g.1 vcl A (fun (u : (Nat → Int64) × (Nat → Int64) × (Nat → Int64)) => [(h0, .inr (9, [.ref sa, .ref ta, .ref ca, .ref ra, .ref ua, .int x1, .int x2, .int x3])), (sa, .inl (g.2.1 2, 25, .inr (.inl ((u.1))))), (ta, .inl (g.2.1 2, 25, .inr (.inl ((u.2.1))))), (ca, .inl (g.2.1 2, 5, .inr (.inl ((u.2.2))))), (ra, .inl (g.2.1 2, 24, .inr (.inl fr))), (ua, .inl (g.2.1 0, 25, .inl fu))])) A) args s 0 0 A) (F0 m 189 ls []) := by
        intro n
        induction n with
        | zero =>
          intro x fs ft fc ls H locs hi  hl hP hD hS
          refine lv_iload_n hx hb dMS_mix_189 rfl (lv_at hl 0 rfl) ?_
          refine lv_iconst (v := nI 5) hx hb dMS_mix_190 (by decide) ?_
          refine mi_ge (tgt := 267) hx hb dMS_mix_191 (by decide) (by omega) (by omega) (fun h1 => ?_) (fun h1 => absurd h1 (by omega))
          refine lv_aload_n hx hb dMS_mix_267 rfl (lv_at hl 2 rfl) ?_
          refine va_get (D := g.1) (ci := 9) (C := "LatticeKeysModel$Sponge") (T := T_MS) (N := 8) hx hb hts (wg_ft i_MS) hown hK hP 0 rfl rfl 0 (by decide) (hts _ (wg_t kw_1325)) (fun _ h9 => h9) rfl dMS_mix_268 ?_
          refine lv_iconst (v := nI 0) hx hb dMS_mix_271 (by decide) ?_
          refine lv_dup2_11 hx hb dMS_mix_272 rfl rfl ?_
          refine ma_lald hx hb hK hP 1 2 rfl rfl (vp_in_nI (by omega) (by decide)) dMS_mix_273 (fun y1 => ?_)
          refine lv_aload_n hx hb dMS_mix_274 rfl (lv_at hl 2 rfl) ?_
          refine va_get (D := g.1) (ci := 9) (C := "LatticeKeysModel$Sponge") (T := T_MS) (N := 8) hx hb hts (wg_ft i_MS) hown hK hP 0 rfl rfl 3 (by decide) (hts _ (wg_t kw_1328)) (fun _ h9 => h9) rfl dMS_mix_275 ?_
          refine lv_iload_n hx hb dMS_mix_278 rfl (lv_at hl 1 rfl) ?_
          refine ma_lald hx hb hK hP 4 2 rfl rfl (vp_in_nI (by omega) (by decide)) dMS_mix_279 (fun y2 => ?_)
          refine lv_lxor hx hb dMS_mix_280 ?_
          refine ml_any (fun y3 => ?_)
          refine ma_last hx hb hK hP hD hS 1 2 rfl rfl (vp_in_nI (by omega) (by decide)) dMS_mix_281 (fun f1 H locs hP hD hS => ?_)
          have hP : va_P g.1 vcl [(h0, .inr (9, [.ref sa, .ref ta, .ref ca, .ref ra, .ref ua, .int x1, .int x2, .int x3])), (sa, .inl (g.2.1 2, 25, .inr (.inl f1))), (ta, .inl (g.2.1 2, 25, .inr (.inl ft))), (ca, .inl (g.2.1 2, 5, .inr (.inl fc))), (ra, .inl (g.2.1 2, 24, .inr (.inl fr))), (ua, .inl (g.2.1 0, 25, .inl fu))] _ := hP
          have hD : va_D _ [(h0, .inr (9, [.ref sa, .ref ta, .ref ca, .ref ra, .ref ua, .int x1, .int x2, .int x3])), (sa, .inl (g.2.1 2, 25, .inr (.inl f1))), (ta, .inl (g.2.1 2, 25, .inr (.inl ft))), (ca, .inl (g.2.1 2, 5, .inr (.inl fc))), (ra, .inl (g.2.1 2, 24, .inr (.inl fr))), (ua, .inl (g.2.1 0, 25, .inl fu))] := hD
          refine mi_iinc (k := 1) (x := i) (d := 1) (y := i + 1) (lv' := [(1, .int (nI (i + 1))), (2, .int (nI x)), (0, .ref h0)]) hx hb dMS_mix_282 hl rfl (by decide) rfl (by decide) rfl (fun ls hl => ?_)
          refine lv_goto (tgt := 2) hx hb dMS_mix_285 (by decide) ?_
          exact ihlp (i + 1) f1 ft fc ls _ _ (by omega)  (lv_sub hl [0, 2] rfl) hP hD hS
        | succ n ihld =>
          intro x fs ft fc ls H locs hi  hl hP hD hS
          have ldy : ∀ (n : Nat) (y : Nat) (fs ft fc : Nat → Int64) (ls : Array Slot) (H : Heap) (locs : List Loc) , n + y = 5 → lv_has ls 4 [(3, .int (nI y)), (2, .int (nI x)), (1, .int (nI i)), (0, .ref h0)] → va_P g.1 vcl [(h0, .inr (9, [.ref sa, .ref ta, .ref ca, .ref ra, .ref ua, .int x1, .int x2, .int x3])), (sa, .inl (g.2.1 2, 25, .inr (.inl fs))), (ta, .inl (g.2.1 2, 25, .inr (.inl ft))), (ca, .inl (g.2.1 2, 5, .inr (.inl fc))), (ra, .inl (g.2.1 2, 24, .inr (.inl fr))), (ua, .inl (g.2.1 0, 25, .inl fu))] H → va_D A [(h0, .inr (9, [.ref sa, .ref ta, .ref ca, .ref ra, .ref ua, .int x1, .int x2, .int x3])), (sa, .inl (g.2.1 2, 25, .inr (.inl fs))), (ta, .inl (g.2.1 2, 25, .inr (.inl ft))), (ca, .inl (g.2.1 2, 5, .inr (.inl fc))), (ra, .inl (g.2.1 2, 24, .inr (.inl fr))), (ua, .inl (g.2.1 0, 25, .inl fu))] → va_S A s.heap H locs → W p l e ({ frames := 1, cells := 0, slots := 0, locals := 24 } : Room) s m args below meth c H locs 0 0 (MQ below (va_Qv (fun (u : (Nat → Int64) × (Nat → Int64) × (Nat → Int64)) => True) (po g.1 vcl A (fun (u : (Nat → Int64) × (Nat → Int64) × (Nat → Int64)) => [(h0, .inr (9, [.ref sa, .ref ta, .ref ca, .ref ra, .ref ua, .int x1, .int x2, .int x3])), (sa, .inl (g.2.1 2, 25, .inr (.inl ((u.1))))), (ta, .inl (g.2.1 2, 25, .inr (.inl ((u.2.1))))), (ca, .inl (g.2.1 2, 5, .inr (.inl ((u.2.2))))), (ra, .inl (g.2.1 2, 24, .inr (.inl fr))), (ua, .inl (g.2.1 0, 25, .inl fu))])) A) args s 0 0 A) (F0 m 196 ls []) := by
            intro n
            induction n with
            | zero =>
              intro y fs ft fc ls H locs hi  hl hP hD hS
              refine lv_iload_n hx hb dMS_mix_196 rfl (lv_at hl 0 rfl) ?_
              refine lv_iconst (v := nI 5) hx hb dMS_mix_197 (by decide) ?_
              refine mi_ge (tgt := 261) hx hb dMS_mix_198 (by decide) (by omega) (by omega) (fun h1 => ?_) (fun h1 => absurd h1 (by omega))
              refine mi_iinc (k := 1) (x := x) (d := 1) (y := x + 1) (lv' := [(2, .int (nI (x + 1))), (3, .int (nI y)), (1, .int (nI i)), (0, .ref h0)]) hx hb dMS_mix_261 hl rfl (by decide) rfl (by decide) rfl (fun ls hl => ?_)
              refine lv_goto (tgt := 189) hx hb dMS_mix_264 (by decide) ?_
              exact ihld (x + 1) fs ft fc ls _ _ (by omega)  (lv_sub hl [0, 2, 3] rfl) hP hD hS
            | succ n ihldy =>
              intro y fs ft fc ls H locs hi  hl hP hD hS
              refine lv_iload_n hx hb dMS_mix_196 rfl (lv_at hl 0 rfl) ?_
              refine lv_iconst (v := nI 5) hx hb dMS_mix_197 (by decide) ?_
              refine mi_ge (tgt := 261) hx hb dMS_mix_198 (by decide) (by omega) (by omega) (fun h1 => absurd h1 (by omega)) (fun h1 => ?_)
              refine lv_aload_n hx hb dMS_mix_201 rfl (lv_at hl 3 rfl) ?_
              refine va_get (D := g.1) (ci := 9) (C := "LatticeKeysModel$Sponge") (T := T_MS) (N := 8) hx hb hts (wg_ft i_MS) hown hK hP 0 rfl rfl 0 (by decide) (hts _ (wg_t kw_1325)) (fun _ h9 => h9) rfl dMS_mix_202 ?_
              refine lv_iload_n hx hb dMS_mix_205 rfl (lv_at hl 1 rfl) ?_
              refine lv_iconst (v := nI 5) hx hb dMS_mix_206 (by decide) ?_
              refine lv_iload_n hx hb dMS_mix_207 rfl (lv_at hl 0 rfl) ?_
              refine mi_imul hx hb dMS_mix_208 ?_
              refine mi_iadd hx hb dMS_mix_209 ?_
              refine lv_aload_n hx hb dMS_mix_210 rfl (lv_at hl 3 rfl) ?_
              refine va_get (D := g.1) (ci := 9) (C := "LatticeKeysModel$Sponge") (T := T_MS) (N := 8) hx hb hts (wg_ft i_MS) hown hK hP 0 rfl rfl 1 (by decide) (hts _ (wg_t kw_1326)) (fun _ h9 => h9) rfl dMS_mix_211 ?_
              refine lv_iload_n hx hb dMS_mix_214 rfl (lv_at hl 1 rfl) ?_
              refine lv_iconst (v := nI 5) hx hb dMS_mix_215 (by decide) ?_
              refine lv_iload_n hx hb dMS_mix_216 rfl (lv_at hl 0 rfl) ?_
              refine mi_imul hx hb dMS_mix_217 ?_
              refine mi_iadd hx hb dMS_mix_218 ?_
              refine ma_lald hx hb hK hP 2 2 rfl rfl (vp_in_nI (by omega) (by decide)) dMS_mix_219 (fun y1 => ?_)
              refine lv_aload_n hx hb dMS_mix_220 rfl (lv_at hl 3 rfl) ?_
              refine va_get (D := g.1) (ci := 9) (C := "LatticeKeysModel$Sponge") (T := T_MS) (N := 8) hx hb hts (wg_ft i_MS) hown hK hP 0 rfl rfl 1 (by decide) (hts _ (wg_t kw_1326)) (fun _ h9 => h9) rfl dMS_mix_221 ?_
              refine lv_iload_n hx hb dMS_mix_224 rfl (lv_at hl 1 rfl) ?_
              refine lv_iconst (v := nI 1) hx hb dMS_mix_225 (by decide) ?_
              refine mi_iadd hx hb dMS_mix_226 ?_
              refine lv_iconst (v := nI 5) hx hb dMS_mix_227 (by decide) ?_
              refine mi_irem hx hb dMS_mix_228 (by omega) (by omega) (by omega) ?_
              refine lv_iconst (v := nI 5) hx hb dMS_mix_229 (by decide) ?_
              refine lv_iload_n hx hb dMS_mix_230 rfl (lv_at hl 0 rfl) ?_
              refine mi_imul hx hb dMS_mix_231 ?_
              refine mi_iadd hx hb dMS_mix_232 ?_
              refine ma_lald hx hb hK hP 2 2 rfl rfl (vp_in_nI (by omega) (by decide)) dMS_mix_233 (fun y2 => ?_)
              refine lv_ldc2 (v := (-1)) hx hb hown (hts _ (wg_t kw_1631)) dMS_mix_234 ?_
              refine lv_lxor hx hb dMS_mix_237 ?_
              refine ml_any (fun y3 => ?_)
              refine lv_aload_n hx hb dMS_mix_238 rfl (lv_at hl 3 rfl) ?_
              refine va_get (D := g.1) (ci := 9) (C := "LatticeKeysModel$Sponge") (T := T_MS) (N := 8) hx hb hts (wg_ft i_MS) hown hK hP 0 rfl rfl 1 (by decide) (hts _ (wg_t kw_1326)) (fun _ h9 => h9) rfl dMS_mix_239 ?_
              refine lv_iload_n hx hb dMS_mix_242 rfl (lv_at hl 1 rfl) ?_
              refine lv_iconst (v := nI 2) hx hb dMS_mix_243 (by decide) ?_
              refine mi_iadd hx hb dMS_mix_244 ?_
              refine lv_iconst (v := nI 5) hx hb dMS_mix_245 (by decide) ?_
              refine mi_irem hx hb dMS_mix_246 (by omega) (by omega) (by omega) ?_
              refine lv_iconst (v := nI 5) hx hb dMS_mix_247 (by decide) ?_
              refine lv_iload_n hx hb dMS_mix_248 rfl (lv_at hl 0 rfl) ?_
              refine mi_imul hx hb dMS_mix_249 ?_
              refine mi_iadd hx hb dMS_mix_250 ?_
              refine ma_lald hx hb hK hP 2 2 rfl rfl (vp_in_nI (by omega) (by decide)) dMS_mix_251 (fun y4 => ?_)
              refine lv_land hx hb dMS_mix_252 ?_
              refine ml_any (fun y5 => ?_)
              refine lv_lxor hx hb dMS_mix_253 ?_
              refine ml_any (fun y6 => ?_)
              refine ma_last hx hb hK hP hD hS 1 2 rfl rfl (vp_in_nI (by omega) (by decide)) dMS_mix_254 (fun f1 H locs hP hD hS => ?_)
              have hP : va_P g.1 vcl [(h0, .inr (9, [.ref sa, .ref ta, .ref ca, .ref ra, .ref ua, .int x1, .int x2, .int x3])), (sa, .inl (g.2.1 2, 25, .inr (.inl f1))), (ta, .inl (g.2.1 2, 25, .inr (.inl ft))), (ca, .inl (g.2.1 2, 5, .inr (.inl fc))), (ra, .inl (g.2.1 2, 24, .inr (.inl fr))), (ua, .inl (g.2.1 0, 25, .inl fu))] _ := hP
              have hD : va_D _ [(h0, .inr (9, [.ref sa, .ref ta, .ref ca, .ref ra, .ref ua, .int x1, .int x2, .int x3])), (sa, .inl (g.2.1 2, 25, .inr (.inl f1))), (ta, .inl (g.2.1 2, 25, .inr (.inl ft))), (ca, .inl (g.2.1 2, 5, .inr (.inl fc))), (ra, .inl (g.2.1 2, 24, .inr (.inl fr))), (ua, .inl (g.2.1 0, 25, .inl fu))] := hD
              refine mi_iinc (k := 0) (x := y) (d := 1) (y := y + 1) (lv' := [(3, .int (nI (y + 1))), (2, .int (nI x)), (1, .int (nI i)), (0, .ref h0)]) hx hb dMS_mix_255 hl rfl (by decide) rfl (by decide) rfl (fun ls hl => ?_)
              refine lv_goto (tgt := 196) hx hb dMS_mix_258 (by decide) ?_
              exact ihldy (y + 1) f1 ft fc ls _ _ (by omega)  (lv_sub hl [0, 1, 2, 3] rfl) hP hD hS
          refine lv_iload_n hx hb dMS_mix_189 rfl (lv_at hl 0 rfl) ?_
          refine lv_iconst (v := nI 5) hx hb dMS_mix_190 (by decide) ?_
          refine mi_ge (tgt := 267) hx hb dMS_mix_191 (by decide) (by omega) (by omega) (fun h1 => absurd h1 (by omega)) (fun h1 => ?_)
          refine lv_iconst (v := nI 0) hx hb dMS_mix_194 (by decide) ?_
          refine lv_istore_n (lv' := [(3, .int (nI 0)), (2, .int (nI x)), (1, .int (nI i)), (0, .ref h0)]) hx hb dMS_mix_195 rfl hl (by decide) rfl (fun ls hl => ?_)
          exact ldy 5 0 fs ft fc ls _ _ (by omega)  (lv_sub hl [0, 1, 2, 3] rfl) hP hD hS
      have lc : ∀ (n : Nat) (x : Nat) (fs ft fc : Nat → Int64) (ls : Array Slot) (H : Heap) (locs : List Loc) , n + x = 5 → lv_has ls 4 [(2, .int (nI x)), (1, .int (nI i)), (0, .ref h0)] → va_P g.1 vcl [(h0, .inr (9, [.ref sa, .ref ta, .ref ca, .ref ra, .ref ua, .int x1, .int x2, .int x3])), (sa, .inl (g.2.1 2, 25, .inr (.inl fs))), (ta, .inl (g.2.1 2, 25, .inr (.inl ft))), (ca, .inl (g.2.1 2, 5, .inr (.inl fc))), (ra, .inl (g.2.1 2, 24, .inr (.inl fr))), (ua, .inl (g.2.1 0, 25, .inl fu))] H → va_D A [(h0, .inr (9, [.ref sa, .ref ta, .ref ca, .ref ra, .ref ua, .int x1, .int x2, .int x3])), (sa, .inl (g.2.1 2, 25, .inr (.inl fs))), (ta, .inl (g.2.1 2, 25, .inr (.inl ft))), (ca, .inl (g.2.1 2, 5, .inr (.inl fc))), (ra, .inl (g.2.1 2, 24, .inr (.inl fr))), (ua, .inl (g.2.1 0, 25, .inl fu))] → va_S A s.heap H locs → W p l e ({ frames := 1, cells := 0, slots := 0, locals := 24 } : Room) s m args below meth c H locs 0 0 (MQ below (va_Qv (fun (u : (Nat → Int64) × (Nat → Int64) × (Nat → Int64)) => True) (po g.1 vcl A (fun (u : (Nat → Int64) × (Nat → Int64) × (Nat → Int64)) => [(h0, .inr (9, [.ref sa, .ref ta, .ref ca, .ref ra, .ref ua, .int x1, .int x2, .int x3])), (sa, .inl (g.2.1 2, 25, .inr (.inl ((u.1))))), (ta, .inl (g.2.1 2, 25, .inr (.inl ((u.2.1))))), (ca, .inl (g.2.1 2, 5, .inr (.inl ((u.2.2))))), (ra, .inl (g.2.1 2, 24, .inr (.inl fr))), (ua, .inl (g.2.1 0, 25, .inl fu))])) A) args s 0 0 A) (F0 m 122 ls []) := by
        intro n
        induction n with
        | zero =>
          intro x fs ft fc ls H locs hi  hl hP hD hS
          refine lv_iload_n hx hb dMS_mix_122 rfl (lv_at hl 0 rfl) ?_
          refine lv_iconst (v := nI 5) hx hb dMS_mix_123 (by decide) ?_
          refine mi_ge (tgt := 187) hx hb dMS_mix_124 (by decide) (by omega) (by omega) (fun h1 => ?_) (fun h1 => absurd h1 (by omega))
          refine lv_iconst (v := nI 0) hx hb dMS_mix_187 (by decide) ?_
          refine lv_istore_n (lv' := [(2, .int (nI 0)), (1, .int (nI i)), (0, .ref h0)]) hx hb dMS_mix_188 rfl hl (by decide) rfl (fun ls hl => ?_)
          exact ld 5 0 fs ft fc ls _ _ (by omega)  (lv_sub hl [0, 1, 2] rfl) hP hD hS
        | succ n ihlc =>
          intro x fs ft fc ls H locs hi  hl hP hD hS
          have lcy : ∀ (n : Nat) (y : Nat) (fs ft fc : Nat → Int64) (ls : Array Slot) (H : Heap) (locs : List Loc) , n + y = 5 → lv_has ls 4 [(3, .int (nI y)), (2, .int (nI x)), (1, .int (nI i)), (0, .ref h0)] → va_P g.1 vcl [(h0, .inr (9, [.ref sa, .ref ta, .ref ca, .ref ra, .ref ua, .int x1, .int x2, .int x3])), (sa, .inl (g.2.1 2, 25, .inr (.inl fs))), (ta, .inl (g.2.1 2, 25, .inr (.inl ft))), (ca, .inl (g.2.1 2, 5, .inr (.inl fc))), (ra, .inl (g.2.1 2, 24, .inr (.inl fr))), (ua, .inl (g.2.1 0, 25, .inl fu))] H → va_D A [(h0, .inr (9, [.ref sa, .ref ta, .ref ca, .ref ra, .ref ua, .int x1, .int x2, .int x3])), (sa, .inl (g.2.1 2, 25, .inr (.inl fs))), (ta, .inl (g.2.1 2, 25, .inr (.inl ft))), (ca, .inl (g.2.1 2, 5, .inr (.inl fc))), (ra, .inl (g.2.1 2, 24, .inr (.inl fr))), (ua, .inl (g.2.1 0, 25, .inl fu))] → va_S A s.heap H locs → W p l e ({ frames := 1, cells := 0, slots := 0, locals := 24 } : Room) s m args below meth c H locs 0 0 (MQ below (va_Qv (fun (u : (Nat → Int64) × (Nat → Int64) × (Nat → Int64)) => True) (po g.1 vcl A (fun (u : (Nat → Int64) × (Nat → Int64) × (Nat → Int64)) => [(h0, .inr (9, [.ref sa, .ref ta, .ref ca, .ref ra, .ref ua, .int x1, .int x2, .int x3])), (sa, .inl (g.2.1 2, 25, .inr (.inl ((u.1))))), (ta, .inl (g.2.1 2, 25, .inr (.inl ((u.2.1))))), (ca, .inl (g.2.1 2, 5, .inr (.inl ((u.2.2))))), (ra, .inl (g.2.1 2, 24, .inr (.inl fr))), (ua, .inl (g.2.1 0, 25, .inl fu))])) A) args s 0 0 A) (F0 m 129 ls []) := by
            intro n
            induction n with
            | zero =>
              intro y fs ft fc ls H locs hi  hl hP hD hS
              refine lv_iload_n hx hb dMS_mix_129 rfl (lv_at hl 0 rfl) ?_
              refine lv_iconst (v := nI 5) hx hb dMS_mix_130 (by decide) ?_
              refine mi_ge (tgt := 181) hx hb dMS_mix_131 (by decide) (by omega) (by omega) (fun h1 => ?_) (fun h1 => absurd h1 (by omega))
              refine mi_iinc (k := 1) (x := x) (d := 1) (y := x + 1) (lv' := [(2, .int (nI (x + 1))), (3, .int (nI y)), (1, .int (nI i)), (0, .ref h0)]) hx hb dMS_mix_181 hl rfl (by decide) rfl (by decide) rfl (fun ls hl => ?_)
              refine lv_goto (tgt := 122) hx hb dMS_mix_184 (by decide) ?_
              exact ihlc (x + 1) fs ft fc ls _ _ (by omega)  (lv_sub hl [0, 2, 3] rfl) hP hD hS
            | succ n ihlcy =>
              intro y fs ft fc ls H locs hi  hl hP hD hS
              refine lv_iload_n hx hb dMS_mix_129 rfl (lv_at hl 0 rfl) ?_
              refine lv_iconst (v := nI 5) hx hb dMS_mix_130 (by decide) ?_
              refine mi_ge (tgt := 181) hx hb dMS_mix_131 (by decide) (by omega) (by omega) (fun h1 => absurd h1 (by omega)) (fun h1 => ?_)
              refine lv_aload_n hx hb dMS_mix_134 rfl (lv_at hl 3 rfl) ?_
              refine va_get (D := g.1) (ci := 9) (C := "LatticeKeysModel$Sponge") (T := T_MS) (N := 8) hx hb hts (wg_ft i_MS) hown hK hP 0 rfl rfl 1 (by decide) (hts _ (wg_t kw_1326)) (fun _ h9 => h9) rfl dMS_mix_135 ?_
              refine lv_iload_n hx hb dMS_mix_138 rfl (lv_at hl 0 rfl) ?_
              refine lv_iconst (v := nI 5) hx hb dMS_mix_139 (by decide) ?_
              refine lv_iconst (v := nI 2) hx hb dMS_mix_140 (by decide) ?_
              refine lv_iload_n hx hb dMS_mix_141 rfl (lv_at hl 1 rfl) ?_
              refine mi_imul hx hb dMS_mix_142 ?_
              refine lv_iconst (v := nI 3) hx hb dMS_mix_143 (by decide) ?_
              refine lv_iload_n hx hb dMS_mix_144 rfl (lv_at hl 0 rfl) ?_
              refine mi_imul hx hb dMS_mix_145 ?_
              refine mi_iadd hx hb dMS_mix_146 ?_
              refine lv_iconst (v := nI 5) hx hb dMS_mix_147 (by decide) ?_
              refine mi_irem hx hb dMS_mix_148 (by omega) (by omega) (by omega) ?_
              refine mi_imul hx hb dMS_mix_149 ?_
              refine mi_iadd hx hb dMS_mix_150 ?_
              refine lv_aload_n hx hb dMS_mix_151 rfl (lv_at hl 3 rfl) ?_
              refine va_get (D := g.1) (ci := 9) (C := "LatticeKeysModel$Sponge") (T := T_MS) (N := 8) hx hb hts (wg_ft i_MS) hown hK hP 0 rfl rfl 0 (by decide) (hts _ (wg_t kw_1325)) (fun _ h9 => h9) rfl dMS_mix_152 ?_
              refine lv_iload_n hx hb dMS_mix_155 rfl (lv_at hl 1 rfl) ?_
              refine lv_iconst (v := nI 5) hx hb dMS_mix_156 (by decide) ?_
              refine lv_iload_n hx hb dMS_mix_157 rfl (lv_at hl 0 rfl) ?_
              refine mi_imul hx hb dMS_mix_158 ?_
              refine mi_iadd hx hb dMS_mix_159 ?_
              refine ma_lald hx hb hK hP 1 2 rfl rfl (vp_in_nI (by omega) (by decide)) dMS_mix_160 (fun y1 => ?_)
              refine lv_aload_n hx hb dMS_mix_161 rfl (lv_at hl 3 rfl) ?_
              refine va_get (D := g.1) (ci := 9) (C := "LatticeKeysModel$Sponge") (T := T_MS) (N := 8) hx hb hts (wg_ft i_MS) hown hK hP 0 rfl rfl 4 (by decide) (hts _ (wg_t kw_1329)) (fun _ h9 => h9) rfl dMS_mix_162 ?_
              refine lv_iload_n hx hb dMS_mix_165 rfl (lv_at hl 1 rfl) ?_
              refine lv_iconst (v := nI 5) hx hb dMS_mix_166 (by decide) ?_
              refine lv_iload_n hx hb dMS_mix_167 rfl (lv_at hl 0 rfl) ?_
              refine mi_imul hx hb dMS_mix_168 ?_
              refine mi_iadd hx hb dMS_mix_169 ?_
              refine ma_iald hx hb hK hP 5 0 rfl rfl (vp_in_nI (by omega) (by decide)) dMS_mix_170 (fun z1 => ?_)
              refine mc_l (wc := []) (wr := [(h0, .inr (9, [.ref sa, .ref ta, .ref ca, .ref ra, .ref ua, .int x1, .int x2, .int x3])), (sa, .inl (g.2.1 2, 25, .inr (.inl fs))), (ta, .inl (g.2.1 2, 25, .inr (.inl ft))), (ca, .inl (g.2.1 2, 5, .inr (.inl fc))), (ra, .inl (g.2.1 2, 24, .inr (.inl fr))), (ua, .inl (g.2.1 0, 25, .inl fu))]) hP hD hS hA [] [0, 1, 2, 3, 4, 5] rfl rfl rfl (by decide) (va_runS (As := [.long y1, .int z1]) (rest := [.int (nI (y + (5 * (((2 * x) + (3 * y)) % 5)))), .ref ta]) F (m_MS_left l g _ y1 z1) (va_cwS 2 hts (wg_app (wg_c kw_1628 (wg_c kw_1629 (wg_c kw_10 wg_n))) kw_1630) rfl rfl rfl (by decide +kernel) ⟨by decide, by decide⟩) (pr_S (en_ok g) hP hD hS hA hE [] rfl rfl) rfl rfl hl.1 rfl (lv_room (Nat.le_of_ble_eq_true rfl)) dMS_mix_171 ⟨(by decide), (by decide)⟩) (fun r1 u1 H locs hu1 hP hD hS => ?_)
              have hP : va_P g.1 vcl [(h0, .inr (9, [.ref sa, .ref ta, .ref ca, .ref ra, .ref ua, .int x1, .int x2, .int x3])), (sa, .inl (g.2.1 2, 25, .inr (.inl fs))), (ta, .inl (g.2.1 2, 25, .inr (.inl ft))), (ca, .inl (g.2.1 2, 5, .inr (.inl fc))), (ra, .inl (g.2.1 2, 24, .inr (.inl fr))), (ua, .inl (g.2.1 0, 25, .inl fu))] _ := hP
              have hD : va_D _ [(h0, .inr (9, [.ref sa, .ref ta, .ref ca, .ref ra, .ref ua, .int x1, .int x2, .int x3])), (sa, .inl (g.2.1 2, 25, .inr (.inl fs))), (ta, .inl (g.2.1 2, 25, .inr (.inl ft))), (ca, .inl (g.2.1 2, 5, .inr (.inl fc))), (ra, .inl (g.2.1 2, 24, .inr (.inl fr))), (ua, .inl (g.2.1 0, 25, .inl fu))] := hD
              refine W.widen (k := 0) (n := 0) (by omega) (by omega) ?_
              refine ma_last hx hb hK hP hD hS 2 2 rfl rfl (vp_in_nI (by omega) (by decide)) dMS_mix_174 (fun f1 H locs hP hD hS => ?_)
              have hP : va_P g.1 vcl [(h0, .inr (9, [.ref sa, .ref ta, .ref ca, .ref ra, .ref ua, .int x1, .int x2, .int x3])), (sa, .inl (g.2.1 2, 25, .inr (.inl fs))), (ta, .inl (g.2.1 2, 25, .inr (.inl f1))), (ca, .inl (g.2.1 2, 5, .inr (.inl fc))), (ra, .inl (g.2.1 2, 24, .inr (.inl fr))), (ua, .inl (g.2.1 0, 25, .inl fu))] _ := hP
              have hD : va_D _ [(h0, .inr (9, [.ref sa, .ref ta, .ref ca, .ref ra, .ref ua, .int x1, .int x2, .int x3])), (sa, .inl (g.2.1 2, 25, .inr (.inl fs))), (ta, .inl (g.2.1 2, 25, .inr (.inl f1))), (ca, .inl (g.2.1 2, 5, .inr (.inl fc))), (ra, .inl (g.2.1 2, 24, .inr (.inl fr))), (ua, .inl (g.2.1 0, 25, .inl fu))] := hD
              refine mi_iinc (k := 0) (x := y) (d := 1) (y := y + 1) (lv' := [(3, .int (nI (y + 1))), (2, .int (nI x)), (1, .int (nI i)), (0, .ref h0)]) hx hb dMS_mix_175 hl rfl (by decide) rfl (by decide) rfl (fun ls hl => ?_)
              refine lv_goto (tgt := 129) hx hb dMS_mix_178 (by decide) ?_
              exact ihlcy (y + 1) fs f1 fc ls _ _ (by omega)  (lv_sub hl [0, 1, 2, 3] rfl) hP hD hS
          refine lv_iload_n hx hb dMS_mix_122 rfl (lv_at hl 0 rfl) ?_
          refine lv_iconst (v := nI 5) hx hb dMS_mix_123 (by decide) ?_
          refine mi_ge (tgt := 187) hx hb dMS_mix_124 (by decide) (by omega) (by omega) (fun h1 => absurd h1 (by omega)) (fun h1 => ?_)
          refine lv_iconst (v := nI 0) hx hb dMS_mix_127 (by decide) ?_
          refine lv_istore_n (lv' := [(3, .int (nI 0)), (2, .int (nI x)), (1, .int (nI i)), (0, .ref h0)]) hx hb dMS_mix_128 rfl hl (by decide) rfl (fun ls hl => ?_)
          exact lcy 5 0 fs ft fc ls _ _ (by omega)  (lv_sub hl [0, 1, 2, 3] rfl) hP hD hS
      have lb : ∀ (n : Nat) (x : Nat) (fs ft fc : Nat → Int64) (ls : Array Slot) (H : Heap) (locs : List Loc) , n + x = 25 → lv_has ls 4 [(2, .int (nI x)), (1, .int (nI i)), (0, .ref h0)] → va_P g.1 vcl [(h0, .inr (9, [.ref sa, .ref ta, .ref ca, .ref ra, .ref ua, .int x1, .int x2, .int x3])), (sa, .inl (g.2.1 2, 25, .inr (.inl fs))), (ta, .inl (g.2.1 2, 25, .inr (.inl ft))), (ca, .inl (g.2.1 2, 5, .inr (.inl fc))), (ra, .inl (g.2.1 2, 24, .inr (.inl fr))), (ua, .inl (g.2.1 0, 25, .inl fu))] H → va_D A [(h0, .inr (9, [.ref sa, .ref ta, .ref ca, .ref ra, .ref ua, .int x1, .int x2, .int x3])), (sa, .inl (g.2.1 2, 25, .inr (.inl fs))), (ta, .inl (g.2.1 2, 25, .inr (.inl ft))), (ca, .inl (g.2.1 2, 5, .inr (.inl fc))), (ra, .inl (g.2.1 2, 24, .inr (.inl fr))), (ua, .inl (g.2.1 0, 25, .inl fu))] → va_S A s.heap H locs → W p l e ({ frames := 1, cells := 0, slots := 0, locals := 24 } : Room) s m args below meth c H locs 0 0 (MQ below (va_Qv (fun (u : (Nat → Int64) × (Nat → Int64) × (Nat → Int64)) => True) (po g.1 vcl A (fun (u : (Nat → Int64) × (Nat → Int64) × (Nat → Int64)) => [(h0, .inr (9, [.ref sa, .ref ta, .ref ca, .ref ra, .ref ua, .int x1, .int x2, .int x3])), (sa, .inl (g.2.1 2, 25, .inr (.inl ((u.1))))), (ta, .inl (g.2.1 2, 25, .inr (.inl ((u.2.1))))), (ca, .inl (g.2.1 2, 5, .inr (.inl ((u.2.2))))), (ra, .inl (g.2.1 2, 24, .inr (.inl fr))), (ua, .inl (g.2.1 0, 25, .inl fu))])) A) args s 0 0 A) (F0 m 74 ls []) := by
        intro n
        induction n with
        | zero =>
          intro x fs ft fc ls H locs hi  hl hP hD hS
          refine lv_iload_n hx hb dMS_mix_74 rfl (lv_at hl 0 rfl) ?_
          refine lv_bipush (v := nI 25) hx hb dMS_mix_75 (by decide) ?_
          refine mi_ge (tgt := 120) hx hb dMS_mix_77 (by decide) (by omega) (by omega) (fun h1 => ?_) (fun h1 => absurd h1 (by omega))
          refine lv_iconst (v := nI 0) hx hb dMS_mix_120 (by decide) ?_
          refine lv_istore_n (lv' := [(2, .int (nI 0)), (1, .int (nI i)), (0, .ref h0)]) hx hb dMS_mix_121 rfl hl (by decide) rfl (fun ls hl => ?_)
          exact lc 5 0 fs ft fc ls _ _ (by omega)  (lv_sub hl [0, 1, 2] rfl) hP hD hS
        | succ n ihlb =>
          intro x fs ft fc ls H locs hi  hl hP hD hS
          refine lv_iload_n hx hb dMS_mix_74 rfl (lv_at hl 0 rfl) ?_
          refine lv_bipush (v := nI 25) hx hb dMS_mix_75 (by decide) ?_
          refine mi_ge (tgt := 120) hx hb dMS_mix_77 (by decide) (by omega) (by omega) (fun h1 => absurd h1 (by omega)) (fun h1 => ?_)
          refine lv_aload_n hx hb dMS_mix_80 rfl (lv_at hl 2 rfl) ?_
          refine va_get (D := g.1) (ci := 9) (C := "LatticeKeysModel$Sponge") (T := T_MS) (N := 8) hx hb hts (wg_ft i_MS) hown hK hP 0 rfl rfl 0 (by decide) (hts _ (wg_t kw_1325)) (fun _ h9 => h9) rfl dMS_mix_81 ?_
          refine lv_iload_n hx hb dMS_mix_84 rfl (lv_at hl 0 rfl) ?_
          refine lv_dup2_11 hx hb dMS_mix_85 rfl rfl ?_
          refine ma_lald hx hb hK hP 1 2 rfl rfl (vp_in_nI (by omega) (by decide)) dMS_mix_86 (fun y1 => ?_)
          refine lv_aload_n hx hb dMS_mix_87 rfl (lv_at hl 2 rfl) ?_
          refine va_get (D := g.1) (ci := 9) (C := "LatticeKeysModel$Sponge") (T := T_MS) (N := 8) hx hb hts (wg_ft i_MS) hown hK hP 0 rfl rfl 2 (by decide) (hts _ (wg_t kw_1327)) (fun _ h9 => h9) rfl dMS_mix_88 ?_
          refine lv_iload_n hx hb dMS_mix_91 rfl (lv_at hl 0 rfl) ?_
          refine lv_iconst (v := nI 4) hx hb dMS_mix_92 (by decide) ?_
          refine mi_iadd hx hb dMS_mix_93 ?_
          refine lv_iconst (v := nI 5) hx hb dMS_mix_94 (by decide) ?_
          refine mi_irem hx hb dMS_mix_95 (by omega) (by omega) (by omega) ?_
          refine ma_lald hx hb hK hP 3 2 rfl rfl (vp_in_nI (by omega) (by decide)) dMS_mix_96 (fun y2 => ?_)
          refine lv_aload_n hx hb dMS_mix_97 rfl (lv_at hl 2 rfl) ?_
          refine va_get (D := g.1) (ci := 9) (C := "LatticeKeysModel$Sponge") (T := T_MS) (N := 8) hx hb hts (wg_ft i_MS) hown hK hP 0 rfl rfl 2 (by decide) (hts _ (wg_t kw_1327)) (fun _ h9 => h9) rfl dMS_mix_98 ?_
          refine lv_iload_n hx hb dMS_mix_101 rfl (lv_at hl 0 rfl) ?_
          refine lv_iconst (v := nI 1) hx hb dMS_mix_102 (by decide) ?_
          refine mi_iadd hx hb dMS_mix_103 ?_
          refine lv_iconst (v := nI 5) hx hb dMS_mix_104 (by decide) ?_
          refine mi_irem hx hb dMS_mix_105 (by omega) (by omega) (by omega) ?_
          refine ma_lald hx hb hK hP 3 2 rfl rfl (vp_in_nI (by omega) (by decide)) dMS_mix_106 (fun y3 => ?_)
          refine lv_iconst (v := nI 1) hx hb dMS_mix_107 (by decide) ?_
          refine mc_l (wc := []) (wr := [(h0, .inr (9, [.ref sa, .ref ta, .ref ca, .ref ra, .ref ua, .int x1, .int x2, .int x3])), (sa, .inl (g.2.1 2, 25, .inr (.inl fs))), (ta, .inl (g.2.1 2, 25, .inr (.inl ft))), (ca, .inl (g.2.1 2, 5, .inr (.inl fc))), (ra, .inl (g.2.1 2, 24, .inr (.inl fr))), (ua, .inl (g.2.1 0, 25, .inl fu))]) hP hD hS hA [] [0, 1, 2, 3, 4, 5] rfl rfl rfl (by decide) (va_runS (As := [.long y3, .int (nI 1)]) (rest := [.long y2, .long y1, .int (nI x), .ref sa]) F (m_MS_left l g _ y3 (nI 1)) (va_cwS 2 hts (wg_app (wg_c kw_1628 (wg_c kw_1629 (wg_c kw_10 wg_n))) kw_1630) rfl rfl rfl (by decide +kernel) ⟨by decide, by decide⟩) (pr_S (en_ok g) hP hD hS hA hE [] rfl rfl) rfl rfl hl.1 rfl (lv_room (Nat.le_of_ble_eq_true rfl)) dMS_mix_108 ⟨(by decide), (by decide)⟩) (fun r1 u1 H locs hu1 hP hD hS => ?_)
          have hP : va_P g.1 vcl [(h0, .inr (9, [.ref sa, .ref ta, .ref ca, .ref ra, .ref ua, .int x1, .int x2, .int x3])), (sa, .inl (g.2.1 2, 25, .inr (.inl fs))), (ta, .inl (g.2.1 2, 25, .inr (.inl ft))), (ca, .inl (g.2.1 2, 5, .inr (.inl fc))), (ra, .inl (g.2.1 2, 24, .inr (.inl fr))), (ua, .inl (g.2.1 0, 25, .inl fu))] _ := hP
          have hD : va_D _ [(h0, .inr (9, [.ref sa, .ref ta, .ref ca, .ref ra, .ref ua, .int x1, .int x2, .int x3])), (sa, .inl (g.2.1 2, 25, .inr (.inl fs))), (ta, .inl (g.2.1 2, 25, .inr (.inl ft))), (ca, .inl (g.2.1 2, 5, .inr (.inl fc))), (ra, .inl (g.2.1 2, 24, .inr (.inl fr))), (ua, .inl (g.2.1 0, 25, .inl fu))] := hD
          refine W.widen (k := 0) (n := 0) (by omega) (by omega) ?_
          refine lv_lxor hx hb dMS_mix_111 ?_
          refine ml_any (fun y4 => ?_)
          refine lv_lxor hx hb dMS_mix_112 ?_
          refine ml_any (fun y5 => ?_)
          refine ma_last hx hb hK hP hD hS 1 2 rfl rfl (vp_in_nI (by omega) (by decide)) dMS_mix_113 (fun f1 H locs hP hD hS => ?_)
          have hP : va_P g.1 vcl [(h0, .inr (9, [.ref sa, .ref ta, .ref ca, .ref ra, .ref ua, .int x1, .int x2, .int x3])), (sa, .inl (g.2.1 2, 25, .inr (.inl f1))), (ta, .inl (g.2.1 2, 25, .inr (.inl ft))), (ca, .inl (g.2.1 2, 5, .inr (.inl fc))), (ra, .inl (g.2.1 2, 24, .inr (.inl fr))), (ua, .inl (g.2.1 0, 25, .inl fu))] _ := hP
          have hD : va_D _ [(h0, .inr (9, [.ref sa, .ref ta, .ref ca, .ref ra, .ref ua, .int x1, .int x2, .int x3])), (sa, .inl (g.2.1 2, 25, .inr (.inl f1))), (ta, .inl (g.2.1 2, 25, .inr (.inl ft))), (ca, .inl (g.2.1 2, 5, .inr (.inl fc))), (ra, .inl (g.2.1 2, 24, .inr (.inl fr))), (ua, .inl (g.2.1 0, 25, .inl fu))] := hD
          refine mi_iinc (k := 0) (x := x) (d := 1) (y := x + 1) (lv' := [(2, .int (nI (x + 1))), (1, .int (nI i)), (0, .ref h0)]) hx hb dMS_mix_114 hl rfl (by decide) rfl (by decide) rfl (fun ls hl => ?_)
          refine lv_goto (tgt := 74) hx hb dMS_mix_117 (by decide) ?_
          exact ihlb (x + 1) f1 ft fc ls _ _ (by omega)  (lv_sub hl [0, 1, 2] rfl) hP hD hS
      have la : ∀ (n : Nat) (x : Nat) (fs ft fc : Nat → Int64) (ls : Array Slot) (H : Heap) (locs : List Loc) , n + x = 5 → lv_has ls 4 [(2, .int (nI x)), (1, .int (nI i)), (0, .ref h0)] → va_P g.1 vcl [(h0, .inr (9, [.ref sa, .ref ta, .ref ca, .ref ra, .ref ua, .int x1, .int x2, .int x3])), (sa, .inl (g.2.1 2, 25, .inr (.inl fs))), (ta, .inl (g.2.1 2, 25, .inr (.inl ft))), (ca, .inl (g.2.1 2, 5, .inr (.inl fc))), (ra, .inl (g.2.1 2, 24, .inr (.inl fr))), (ua, .inl (g.2.1 0, 25, .inl fu))] H → va_D A [(h0, .inr (9, [.ref sa, .ref ta, .ref ca, .ref ra, .ref ua, .int x1, .int x2, .int x3])), (sa, .inl (g.2.1 2, 25, .inr (.inl fs))), (ta, .inl (g.2.1 2, 25, .inr (.inl ft))), (ca, .inl (g.2.1 2, 5, .inr (.inl fc))), (ra, .inl (g.2.1 2, 24, .inr (.inl fr))), (ua, .inl (g.2.1 0, 25, .inl fu))] → va_S A s.heap H locs → W p l e ({ frames := 1, cells := 0, slots := 0, locals := 24 } : Room) s m args below meth c H locs 0 0 (MQ below (va_Qv (fun (u : (Nat → Int64) × (Nat → Int64) × (Nat → Int64)) => True) (po g.1 vcl A (fun (u : (Nat → Int64) × (Nat → Int64) × (Nat → Int64)) => [(h0, .inr (9, [.ref sa, .ref ta, .ref ca, .ref ra, .ref ua, .int x1, .int x2, .int x3])), (sa, .inl (g.2.1 2, 25, .inr (.inl ((u.1))))), (ta, .inl (g.2.1 2, 25, .inr (.inl ((u.2.1))))), (ca, .inl (g.2.1 2, 5, .inr (.inl ((u.2.2))))), (ra, .inl (g.2.1 2, 24, .inr (.inl fr))), (ua, .inl (g.2.1 0, 25, .inl fu))])) A) args s 0 0 A) (F0 m 10 ls []) := by
        intro n
        induction n with
        | zero =>
          intro x fs ft fc ls H locs hi  hl hP hD hS
          refine lv_iload_n hx hb dMS_mix_10 rfl (lv_at hl 0 rfl) ?_
          refine lv_iconst (v := nI 5) hx hb dMS_mix_11 (by decide) ?_
          refine mi_ge (tgt := 72) hx hb dMS_mix_12 (by decide) (by omega) (by omega) (fun h1 => ?_) (fun h1 => absurd h1 (by omega))
          refine lv_iconst (v := nI 0) hx hb dMS_mix_72 (by decide) ?_
          refine lv_istore_n (lv' := [(2, .int (nI 0)), (1, .int (nI i)), (0, .ref h0)]) hx hb dMS_mix_73 rfl hl (by decide) rfl (fun ls hl => ?_)
          exact lb 25 0 fs ft fc ls _ _ (by omega)  (lv_sub hl [0, 1, 2] rfl) hP hD hS
        | succ n ihla =>
          intro x fs ft fc ls H locs hi  hl hP hD hS
          refine lv_iload_n hx hb dMS_mix_10 rfl (lv_at hl 0 rfl) ?_
          refine lv_iconst (v := nI 5) hx hb dMS_mix_11 (by decide) ?_
          refine mi_ge (tgt := 72) hx hb dMS_mix_12 (by decide) (by omega) (by omega) (fun h1 => absurd h1 (by omega)) (fun h1 => ?_)
          refine lv_aload_n hx hb dMS_mix_15 rfl (lv_at hl 2 rfl) ?_
          refine va_get (D := g.1) (ci := 9) (C := "LatticeKeysModel$Sponge") (T := T_MS) (N := 8) hx hb hts (wg_ft i_MS) hown hK hP 0 rfl rfl 2 (by decide) (hts _ (wg_t kw_1327)) (fun _ h9 => h9) rfl dMS_mix_16 ?_
          refine lv_iload_n hx hb dMS_mix_19 rfl (lv_at hl 0 rfl) ?_
          refine lv_aload_n hx hb dMS_mix_20 rfl (lv_at hl 2 rfl) ?_
          refine va_get (D := g.1) (ci := 9) (C := "LatticeKeysModel$Sponge") (T := T_MS) (N := 8) hx hb hts (wg_ft i_MS) hown hK hP 0 rfl rfl 0 (by decide) (hts _ (wg_t kw_1325)) (fun _ h9 => h9) rfl dMS_mix_21 ?_
          refine lv_iload_n hx hb dMS_mix_24 rfl (lv_at hl 0 rfl) ?_
          refine ma_lald hx hb hK hP 1 2 rfl rfl (vp_in_nI (by omega) (by decide)) dMS_mix_25 (fun y1 => ?_)
          refine lv_aload_n hx hb dMS_mix_26 rfl (lv_at hl 2 rfl) ?_
          refine va_get (D := g.1) (ci := 9) (C := "LatticeKeysModel$Sponge") (T := T_MS) (N := 8) hx hb hts (wg_ft i_MS) hown hK hP 0 rfl rfl 0 (by decide) (hts _ (wg_t kw_1325)) (fun _ h9 => h9) rfl dMS_mix_27 ?_
          refine lv_iload_n hx hb dMS_mix_30 rfl (lv_at hl 0 rfl) ?_
          refine lv_iconst (v := nI 5) hx hb dMS_mix_31 (by decide) ?_
          refine mi_iadd hx hb dMS_mix_32 ?_
          refine ma_lald hx hb hK hP 1 2 rfl rfl (vp_in_nI (by omega) (by decide)) dMS_mix_33 (fun y2 => ?_)
          refine lv_lxor hx hb dMS_mix_34 ?_
          refine ml_any (fun y3 => ?_)
          refine lv_aload_n hx hb dMS_mix_35 rfl (lv_at hl 2 rfl) ?_
          refine va_get (D := g.1) (ci := 9) (C := "LatticeKeysModel$Sponge") (T := T_MS) (N := 8) hx hb hts (wg_ft i_MS) hown hK hP 0 rfl rfl 0 (by decide) (hts _ (wg_t kw_1325)) (fun _ h9 => h9) rfl dMS_mix_36 ?_
          refine lv_iload_n hx hb dMS_mix_39 rfl (lv_at hl 0 rfl) ?_
          refine lv_bipush (v := nI 10) hx hb dMS_mix_40 (by decide) ?_
          refine mi_iadd hx hb dMS_mix_42 ?_
          refine ma_lald hx hb hK hP 1 2 rfl rfl (vp_in_nI (by omega) (by decide)) dMS_mix_43 (fun y4 => ?_)
          refine lv_lxor hx hb dMS_mix_44 ?_
          refine ml_any (fun y5 => ?_)
          refine lv_aload_n hx hb dMS_mix_45 rfl (lv_at hl 2 rfl) ?_
          refine va_get (D := g.1) (ci := 9) (C := "LatticeKeysModel$Sponge") (T := T_MS) (N := 8) hx hb hts (wg_ft i_MS) hown hK hP 0 rfl rfl 0 (by decide) (hts _ (wg_t kw_1325)) (fun _ h9 => h9) rfl dMS_mix_46 ?_
          refine lv_iload_n hx hb dMS_mix_49 rfl (lv_at hl 0 rfl) ?_
          refine lv_bipush (v := nI 15) hx hb dMS_mix_50 (by decide) ?_
          refine mi_iadd hx hb dMS_mix_52 ?_
          refine ma_lald hx hb hK hP 1 2 rfl rfl (vp_in_nI (by omega) (by decide)) dMS_mix_53 (fun y6 => ?_)
          refine lv_lxor hx hb dMS_mix_54 ?_
          refine ml_any (fun y7 => ?_)
          refine lv_aload_n hx hb dMS_mix_55 rfl (lv_at hl 2 rfl) ?_
          refine va_get (D := g.1) (ci := 9) (C := "LatticeKeysModel$Sponge") (T := T_MS) (N := 8) hx hb hts (wg_ft i_MS) hown hK hP 0 rfl rfl 0 (by decide) (hts _ (wg_t kw_1325)) (fun _ h9 => h9) rfl dMS_mix_56 ?_
          refine lv_iload_n hx hb dMS_mix_59 rfl (lv_at hl 0 rfl) ?_
          refine lv_bipush (v := nI 20) hx hb dMS_mix_60 (by decide) ?_
          refine mi_iadd hx hb dMS_mix_62 ?_
          refine ma_lald hx hb hK hP 1 2 rfl rfl (vp_in_nI (by omega) (by decide)) dMS_mix_63 (fun y8 => ?_)
          refine lv_lxor hx hb dMS_mix_64 ?_
          refine ml_any (fun y9 => ?_)
          refine ma_last hx hb hK hP hD hS 3 2 rfl rfl (vp_in_nI (by omega) (by decide)) dMS_mix_65 (fun f1 H locs hP hD hS => ?_)
          have hP : va_P g.1 vcl [(h0, .inr (9, [.ref sa, .ref ta, .ref ca, .ref ra, .ref ua, .int x1, .int x2, .int x3])), (sa, .inl (g.2.1 2, 25, .inr (.inl fs))), (ta, .inl (g.2.1 2, 25, .inr (.inl ft))), (ca, .inl (g.2.1 2, 5, .inr (.inl f1))), (ra, .inl (g.2.1 2, 24, .inr (.inl fr))), (ua, .inl (g.2.1 0, 25, .inl fu))] _ := hP
          have hD : va_D _ [(h0, .inr (9, [.ref sa, .ref ta, .ref ca, .ref ra, .ref ua, .int x1, .int x2, .int x3])), (sa, .inl (g.2.1 2, 25, .inr (.inl fs))), (ta, .inl (g.2.1 2, 25, .inr (.inl ft))), (ca, .inl (g.2.1 2, 5, .inr (.inl f1))), (ra, .inl (g.2.1 2, 24, .inr (.inl fr))), (ua, .inl (g.2.1 0, 25, .inl fu))] := hD
          refine mi_iinc (k := 0) (x := x) (d := 1) (y := x + 1) (lv' := [(2, .int (nI (x + 1))), (1, .int (nI i)), (0, .ref h0)]) hx hb dMS_mix_66 hl rfl (by decide) rfl (by decide) rfl (fun ls hl => ?_)
          refine lv_goto (tgt := 10) hx hb dMS_mix_69 (by decide) ?_
          exact ihla (x + 1) fs ft f1 ls _ _ (by omega)  (lv_sub hl [0, 1, 2] rfl) hP hD hS
      refine lv_iload_n hx hb dMS_mix_2 rfl (lv_at hl 0 rfl) ?_
      refine lv_bipush (v := nI 24) hx hb dMS_mix_3 (by decide) ?_
      refine mi_ge (tgt := 288) hx hb dMS_mix_5 (by decide) (by omega) (by omega) (fun h1 => absurd h1 (by omega)) (fun h1 => ?_)
      refine lv_iconst (v := nI 0) hx hb dMS_mix_8 (by decide) ?_
      refine lv_istore_n (lv' := [(2, .int (nI 0)), (1, .int (nI i)), (0, .ref h0)]) hx hb dMS_mix_9 rfl hl (by decide) rfl (fun ls hl => ?_)
      exact la 5 0 fs ft fc ls _ _ (by omega)  (lv_sub hl [0, 1, 2] rfl) hP hD hS
  refine lv_iconst (v := nI 0) hx hb dMS_mix_0 (by decide) ?_
  refine lv_istore_n (lv' := [(1, .int (nI 0)), (0, .ref h0)]) hx hb dMS_mix_1 rfl hl (by decide) rfl (fun ls hl => ?_)
  exact lp 24 0 fs ft fc ls _ _ (by omega)  (lv_sub hl [0, 1] rfl) hP hD hS
