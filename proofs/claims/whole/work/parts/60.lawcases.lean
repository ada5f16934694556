set_option maxRecDepth 100000 in
theorem kw_414 : (Jvm.Cond.codeWith ({ cls := "LatticeKeysLaw", name := "feed", desc := "(LLatticeKeys;IIIII[J)I" } : Jvm.MethodName) method_3_code (8 : Nat) (Option.some Jvm.ClassFile.FieldType.int) [((0 : Nat), (16 : Nat), (19 : Nat), (13 : Nat))]) ∈ WG := wgr_2 174 (by rfl) (by rfl)
set_option maxRecDepth 100000 in
theorem kw_495 : (Jvm.Cond.codeWith ({ cls := "LatticeKeysLaw", name := "end", desc := "(LLatticeKeys;I[J)I" } : Jvm.MethodName) method_4_code (4 : Nat) (Option.some Jvm.ClassFile.FieldType.int) [((0 : Nat), (9 : Nat), (12 : Nat), (19 : Nat))]) ∈ WG := wgr_3 15 (by rfl) (by rfl)
set_option maxRecDepth 100000 in
theorem kw_519 : (Jvm.Cond.codeWith ({ cls := "LatticeKeysLaw", name := "again", desc := "(LLatticeKeys;[J)I" } : Jvm.MethodName) method_5_code (3 : Nat) (Option.some Jvm.ClassFile.FieldType.int) [((0 : Nat), (8 : Nat), (11 : Nat), (13 : Nat))]) ∈ WG := wgr_3 39 (by rfl) (by rfl)
set_option maxRecDepth 100000 in
theorem kw_529 : (Jvm.Cond.codeWith ({ cls := "LatticeKeysLaw", name := "alter", desc := "(LLatticeKeys;II[J)I" } : Jvm.MethodName) method_6_code (5 : Nat) (Option.some Jvm.ClassFile.FieldType.int) [((0 : Nat), (10 : Nat), (13 : Nat), (29 : Nat))]) ∈ WG := wgr_3 49 (by rfl) (by rfl)
set_option maxRecDepth 100000 in
theorem kw_553 : (Jvm.Cond.codeWith ({ cls := "LatticeKeysLaw", name := "keys", desc := "(LLatticeKeys;I[J)I" } : Jvm.MethodName) method_7_code (4 : Nat) (Option.some Jvm.ClassFile.FieldType.int) [((0 : Nat), (9 : Nat), (12 : Nat), (19 : Nat)), ((0 : Nat), (9 : Nat), (15 : Nat), (13 : Nat))]) ∈ WG := wgr_3 73 (by rfl) (by rfl)
set_option maxRecDepth 100000 in
theorem kw_766 : (Jvm.Cond.codeWith ({ cls := "LatticeKeysLaw", name := "load", desc := "(LLatticeKeys;IZ[J)I" } : Jvm.MethodName) method_8_code (5 : Nat) (Option.some Jvm.ClassFile.FieldType.int) [((0 : Nat), (10 : Nat), (13 : Nat), (19 : Nat)), ((0 : Nat), (10 : Nat), (17 : Nat), (38 : Nat)), ((0 : Nat), (10 : Nat), (21 : Nat), (13 : Nat))]) ∈ WG := wgr_4 46 (by rfl) (by rfl)
set_option maxRecDepth 100000 in
theorem kw_1050 : (Jvm.Cond.codeWith ({ cls := "LatticeKeysLaw", name := "part", desc := "(LLatticeKeys;IZI[J)I" } : Jvm.MethodName) method_9_code (6 : Nat) (Option.some Jvm.ClassFile.FieldType.int) [((0 : Nat), (12 : Nat), (15 : Nat), (44 : Nat)), ((0 : Nat), (12 : Nat), (19 : Nat), (29 : Nat))]) ∈ WG := wgr_5 90 (by rfl) (by rfl)
set_option maxRecDepth 100000 in
theorem kw_1083 : (Jvm.Cond.codeWith ({ cls := "LatticeKeysLaw", name := "show", desc := "(LLatticeKeys;IZ[J)I" } : Jvm.MethodName) method_10_code (5 : Nat) (Option.some Jvm.ClassFile.FieldType.int) [((0 : Nat), (10 : Nat), (13 : Nat), (44 : Nat))]) ∈ WG := wgr_5 123 (by rfl) (by rfl)
set_option maxRecDepth 100000 in
theorem kw_1090 : (Jvm.Cond.codeWith ({ cls := "LatticeKeysLaw", name := "told", desc := "(LLatticeKeys;II[J)I" } : Jvm.MethodName) method_11_code (5 : Nat) (Option.some Jvm.ClassFile.FieldType.int) [((0 : Nat), (10 : Nat), (13 : Nat), (44 : Nat)), ((0 : Nat), (10 : Nat), (17 : Nat), (19 : Nat))]) ∈ WG := wgr_5 130 (by rfl) (by rfl)
set_option maxRecDepth 100000 in
theorem kw_1099 : (Jvm.Cond.codeWith ({ cls := "LatticeKeysLaw", name := "seal", desc := "(LLatticeKeys;I[J)I" } : Jvm.MethodName) method_12_code (4 : Nat) (Option.some Jvm.ClassFile.FieldType.int) [((0 : Nat), (9 : Nat), (12 : Nat), (44 : Nat)), ((0 : Nat), (9 : Nat), (15 : Nat), (19 : Nat))]) ∈ WG := wgr_5 139 (by rfl) (by rfl)
set_option maxRecDepth 100000 in
theorem kw_1139 : (Jvm.Cond.codeWith ({ cls := "LatticeKeysLaw", name := "open", desc := "(LLatticeKeys;I[J)I" } : Jvm.MethodName) method_13_code (4 : Nat) (Option.some Jvm.ClassFile.FieldType.int) [((0 : Nat), (9 : Nat), (12 : Nat), (44 : Nat)), ((0 : Nat), (9 : Nat), (15 : Nat), (19 : Nat))]) ∈ WG := wgr_5 179 (by rfl) (by rfl)
set_option maxRecDepth 100000 in
theorem kw_1160 : (Jvm.Cond.codeWith ({ cls := "LatticeKeysLaw", name := "sign", desc := "(LLatticeKeys;II[J)I" } : Jvm.MethodName) method_14_code (5 : Nat) (Option.some Jvm.ClassFile.FieldType.int) [((0 : Nat), (10 : Nat), (13 : Nat), (44 : Nat)), ((0 : Nat), (10 : Nat), (17 : Nat), (19 : Nat)), ((0 : Nat), (10 : Nat), (21 : Nat), (13 : Nat))]) ∈ WG := wgr_5 200 (by rfl) (by rfl)
set_option maxRecDepth 100000 in
theorem kw_1255 : (Jvm.Cond.codeWith ({ cls := "LatticeKeysLaw", name := "verify", desc := "(LLatticeKeys;II[J)I" } : Jvm.MethodName) method_15_code (5 : Nat) (Option.some Jvm.ClassFile.FieldType.int) [((0 : Nat), (17 : Nat), (20 : Nat), (44 : Nat)), ((0 : Nat), (17 : Nat), (24 : Nat), (19 : Nat))]) ∈ WG := wgr_6 55 (by rfl) (by rfl)
set_option maxRecDepth 100000 in
theorem kw_1293 : (Jvm.Cond.codeWith ({ cls := "LatticeKeysLaw", name := "hash", desc := "(LLatticeKeys;II[J)I" } : Jvm.MethodName) method_16_code (5 : Nat) (Option.some Jvm.ClassFile.FieldType.int) [((0 : Nat), (10 : Nat), (13 : Nat), (19 : Nat))]) ∈ WG := wgr_6 93 (by rfl) (by rfl)
set_option maxRecDepth 100000 in
theorem kw_1305 : (Jvm.Cond.codeWith ({ cls := "LatticeKeysLaw", name := "result", desc := "(LLatticeKeys;I[J)I" } : Jvm.MethodName) method_17_code (4 : Nat) (Option.some Jvm.ClassFile.FieldType.int) [((0 : Nat), (9 : Nat), (12 : Nat), (29 : Nat))]) ∈ WG := wgr_6 105 (by rfl) (by rfl)
abbrev c_L_law : ByteArray := code
theorem dL_law_0 : decode c_L_law 0 = .ok (.new 8, 3) := by decide +kernel
theorem dL_law_3 : decode c_L_law 3 = .ok (.dup, 1) := by decide +kernel
theorem dL_law_4 : decode c_L_law 4 = .ok (.invokespecial 71, 3) := by decide +kernel
theorem dL_law_7 : decode c_L_law 7 = .ok (.astore_n 1, 1) := by decide +kernel
theorem dL_law_8 : decode c_L_law 8 = .ok (.new 72, 3) := by decide +kernel
theorem dL_law_11 : decode c_L_law 11 = .ok (.dup, 1) := by decide +kernel
theorem dL_law_12 : decode c_L_law 12 = .ok (.invokespecial 74, 3) := by decide +kernel
theorem dL_law_15 : decode c_L_law 15 = .ok (.astore_n 2, 1) := by decide +kernel
theorem dL_law_16 : decode c_L_law 16 = .ok (.iconst 1, 1) := by decide +kernel
theorem dL_law_17 : decode c_L_law 17 = .ok (.newarray .long, 2) := by decide +kernel
theorem dL_law_19 : decode c_L_law 19 = .ok (.astore_n 3, 1) := by decide +kernel
theorem dL_law_20 : decode c_L_law 20 = .ok (.iconst 0, 1) := by decide +kernel
theorem dL_law_21 : decode c_L_law 21 = .ok (.istore 4, 2) := by decide +kernel
theorem dL_law_23 : decode c_L_law 23 = .ok (.iload 4, 2) := by decide +kernel
theorem dL_law_25 : decode c_L_law 25 = .ok (.aload_n 0, 1) := by decide +kernel
theorem dL_law_26 : decode c_L_law 26 = .ok (.arraylength, 1) := by decide +kernel
theorem dL_law_27 : decode c_L_law 27 = .ok (.bipush 6, 2) := by decide +kernel
theorem dL_law_29 : decode c_L_law 29 = .ok (.isub, 1) := by decide +kernel
theorem dL_law_30 : decode c_L_law 30 = .ok (.if_icmp .gt 1160, 3) := by decide +kernel
theorem dL_law_33 : decode c_L_law 33 = .ok (.aload_n 0, 1) := by decide +kernel
theorem dL_law_34 : decode c_L_law 34 = .ok (.iload 4, 2) := by decide +kernel
theorem dL_law_36 : decode c_L_law 36 = .ok (.iaload, 1) := by decide +kernel
theorem dL_law_37 : decode c_L_law 37 = .ok (.bipush 15, 2) := by decide +kernel
theorem dL_law_39 : decode c_L_law 39 = .ok (.iand, 1) := by decide +kernel
theorem dL_law_40 : decode c_L_law 40 = .ok (.tableswitch 1144 0 15 #[80, 184, 240, 284, 352, 408, 492, 588, 672, 740, 796, 852, 920, 995, 1063, 1119], 80) := by decide +kernel
theorem dL_law_120 : decode c_L_law 120 = .ok (.aload_n 1, 1) := by decide +kernel
theorem dL_law_121 : decode c_L_law 121 = .ok (.aload_n 0, 1) := by decide +kernel
theorem dL_law_122 : decode c_L_law 122 = .ok (.iload 4, 2) := by decide +kernel
theorem dL_law_124 : decode c_L_law 124 = .ok (.iconst 1, 1) := by decide +kernel
theorem dL_law_125 : decode c_L_law 125 = .ok (.iadd, 1) := by decide +kernel
theorem dL_law_126 : decode c_L_law 126 = .ok (.iaload, 1) := by decide +kernel
theorem dL_law_127 : decode c_L_law 127 = .ok (.aload_n 0, 1) := by decide +kernel
theorem dL_law_128 : decode c_L_law 128 = .ok (.iload 4, 2) := by decide +kernel
theorem dL_law_130 : decode c_L_law 130 = .ok (.iconst 2, 1) := by decide +kernel
theorem dL_law_131 : decode c_L_law 131 = .ok (.iadd, 1) := by decide +kernel
theorem dL_law_132 : decode c_L_law 132 = .ok (.iaload, 1) := by decide +kernel
theorem dL_law_133 : decode c_L_law 133 = .ok (.aload_n 0, 1) := by decide +kernel
theorem dL_law_134 : decode c_L_law 134 = .ok (.iload 4, 2) := by decide +kernel
theorem dL_law_136 : decode c_L_law 136 = .ok (.iconst 3, 1) := by decide +kernel
theorem dL_law_137 : decode c_L_law 137 = .ok (.iadd, 1) := by decide +kernel
theorem dL_law_138 : decode c_L_law 138 = .ok (.iaload, 1) := by decide +kernel
theorem dL_law_139 : decode c_L_law 139 = .ok (.aload_n 0, 1) := by decide +kernel
theorem dL_law_140 : decode c_L_law 140 = .ok (.iload 4, 2) := by decide +kernel
theorem dL_law_142 : decode c_L_law 142 = .ok (.iconst 4, 1) := by decide +kernel
theorem dL_law_143 : decode c_L_law 143 = .ok (.iadd, 1) := by decide +kernel
theorem dL_law_144 : decode c_L_law 144 = .ok (.iaload, 1) := by decide +kernel
theorem dL_law_145 : decode c_L_law 145 = .ok (.aload_n 0, 1) := by decide +kernel
theorem dL_law_146 : decode c_L_law 146 = .ok (.iload 4, 2) := by decide +kernel
theorem dL_law_148 : decode c_L_law 148 = .ok (.iconst 5, 1) := by decide +kernel
theorem dL_law_149 : decode c_L_law 149 = .ok (.iadd, 1) := by decide +kernel
theorem dL_law_150 : decode c_L_law 150 = .ok (.iaload, 1) := by decide +kernel
theorem dL_law_151 : decode c_L_law 151 = .ok (.aload_n 3, 1) := by decide +kernel
theorem dL_law_152 : decode c_L_law 152 = .ok (.invokestatic 75, 3) := by decide +kernel
theorem dL_law_155 : decode c_L_law 155 = .ok (.istore 5, 2) := by decide +kernel
theorem dL_law_157 : decode c_L_law 157 = .ok (.aload_n 2, 1) := by decide +kernel
theorem dL_law_158 : decode c_L_law 158 = .ok (.aload_n 0, 1) := by decide +kernel
theorem dL_law_159 : decode c_L_law 159 = .ok (.iload 4, 2) := by decide +kernel
theorem dL_law_161 : decode c_L_law 161 = .ok (.iconst 1, 1) := by decide +kernel
theorem dL_law_162 : decode c_L_law 162 = .ok (.iadd, 1) := by decide +kernel
theorem dL_law_163 : decode c_L_law 163 = .ok (.iaload, 1) := by decide +kernel
theorem dL_law_164 : decode c_L_law 164 = .ok (.aload_n 0, 1) := by decide +kernel
theorem dL_law_165 : decode c_L_law 165 = .ok (.iload 4, 2) := by decide +kernel
theorem dL_law_167 : decode c_L_law 167 = .ok (.iconst 2, 1) := by decide +kernel
theorem dL_law_168 : decode c_L_law 168 = .ok (.iadd, 1) := by decide +kernel
theorem dL_law_169 : decode c_L_law 169 = .ok (.iaload, 1) := by decide +kernel
theorem dL_law_170 : decode c_L_law 170 = .ok (.aload_n 0, 1) := by decide +kernel
theorem dL_law_171 : decode c_L_law 171 = .ok (.iload 4, 2) := by decide +kernel
theorem dL_law_173 : decode c_L_law 173 = .ok (.iconst 3, 1) := by decide +kernel
theorem dL_law_174 : decode c_L_law 174 = .ok (.iadd, 1) := by decide +kernel
theorem dL_law_175 : decode c_L_law 175 = .ok (.iaload, 1) := by decide +kernel
theorem dL_law_176 : decode c_L_law 176 = .ok (.aload_n 0, 1) := by decide +kernel
theorem dL_law_177 : decode c_L_law 177 = .ok (.iload 4, 2) := by decide +kernel
theorem dL_law_179 : decode c_L_law 179 = .ok (.iconst 4, 1) := by decide +kernel
theorem dL_law_180 : decode c_L_law 180 = .ok (.iadd, 1) := by decide +kernel
theorem dL_law_181 : decode c_L_law 181 = .ok (.iaload, 1) := by decide +kernel
theorem dL_law_182 : decode c_L_law 182 = .ok (.aload_n 0, 1) := by decide +kernel
theorem dL_law_183 : decode c_L_law 183 = .ok (.iload 4, 2) := by decide +kernel
theorem dL_law_185 : decode c_L_law 185 = .ok (.iconst 5, 1) := by decide +kernel
theorem dL_law_186 : decode c_L_law 186 = .ok (.iadd, 1) := by decide +kernel
theorem dL_law_187 : decode c_L_law 187 = .ok (.iaload, 1) := by decide +kernel
theorem dL_law_188 : decode c_L_law 188 = .ok (.invokevirtual 80, 3) := by decide +kernel
theorem dL_law_191 : decode c_L_law 191 = .ok (.istore 6, 2) := by decide +kernel
theorem dL_law_193 : decode c_L_law 193 = .ok (.aload_n 2, 1) := by decide +kernel
theorem dL_law_194 : decode c_L_law 194 = .ok (.invokevirtual 81, 3) := by decide +kernel
theorem dL_law_197 : decode c_L_law 197 = .ok (.iload 5, 2) := by decide +kernel
theorem dL_law_199 : decode c_L_law 199 = .ok (.if_icmp .eq 5, 3) := by decide +kernel
theorem dL_law_202 : decode c_L_law 202 = .ok (.iconst 0, 1) := by decide +kernel
theorem dL_law_203 : decode c_L_law 203 = .ok (.ireturn, 1) := by decide +kernel
theorem dL_law_204 : decode c_L_law 204 = .ok (.iload 5, 2) := by decide +kernel
theorem dL_law_206 : decode c_L_law 206 = .ok (.ifCond .ne 15, 3) := by decide +kernel
theorem dL_law_209 : decode c_L_law 209 = .ok (.aload_n 3, 1) := by decide +kernel
theorem dL_law_210 : decode c_L_law 210 = .ok (.iconst 0, 1) := by decide +kernel
theorem dL_law_211 : decode c_L_law 211 = .ok (.laload, 1) := by decide +kernel
theorem dL_law_212 : decode c_L_law 212 = .ok (.iload 6, 2) := by decide +kernel
theorem dL_law_214 : decode c_L_law 214 = .ok (.i2l, 1) := by decide +kernel
theorem dL_law_215 : decode c_L_law 215 = .ok (.lcmp, 1) := by decide +kernel
theorem dL_law_216 : decode c_L_law 216 = .ok (.ifCond .eq 5, 3) := by decide +kernel
theorem dL_law_219 : decode c_L_law 219 = .ok (.iconst 0, 1) := by decide +kernel
theorem dL_law_220 : decode c_L_law 220 = .ok (.ireturn, 1) := by decide +kernel
theorem dL_law_221 : decode c_L_law 221 = .ok (.goto 963, 3) := by decide +kernel
theorem dL_law_224 : decode c_L_law 224 = .ok (.aload_n 1, 1) := by decide +kernel
theorem dL_law_225 : decode c_L_law 225 = .ok (.aload_n 0, 1) := by decide +kernel
theorem dL_law_226 : decode c_L_law 226 = .ok (.iload 4, 2) := by decide +kernel
theorem dL_law_228 : decode c_L_law 228 = .ok (.iconst 1, 1) := by decide +kernel
theorem dL_law_229 : decode c_L_law 229 = .ok (.iadd, 1) := by decide +kernel
theorem dL_law_230 : decode c_L_law 230 = .ok (.iaload, 1) := by decide +kernel
theorem dL_law_231 : decode c_L_law 231 = .ok (.aload_n 3, 1) := by decide +kernel
theorem dL_law_232 : decode c_L_law 232 = .ok (.invokestatic 84, 3) := by decide +kernel
theorem dL_law_235 : decode c_L_law 235 = .ok (.istore 5, 2) := by decide +kernel
theorem dL_law_237 : decode c_L_law 237 = .ok (.aload_n 2, 1) := by decide +kernel
theorem dL_law_238 : decode c_L_law 238 = .ok (.aload_n 0, 1) := by decide +kernel
theorem dL_law_239 : decode c_L_law 239 = .ok (.iload 4, 2) := by decide +kernel
theorem dL_law_241 : decode c_L_law 241 = .ok (.iconst 1, 1) := by decide +kernel
theorem dL_law_242 : decode c_L_law 242 = .ok (.iadd, 1) := by decide +kernel
theorem dL_law_243 : decode c_L_law 243 = .ok (.iaload, 1) := by decide +kernel
theorem dL_law_244 : decode c_L_law 244 = .ok (.invokevirtual 87, 3) := by decide +kernel
theorem dL_law_247 : decode c_L_law 247 = .ok (.istore 6, 2) := by decide +kernel
theorem dL_law_249 : decode c_L_law 249 = .ok (.aload_n 2, 1) := by decide +kernel
theorem dL_law_250 : decode c_L_law 250 = .ok (.invokevirtual 81, 3) := by decide +kernel
theorem dL_law_253 : decode c_L_law 253 = .ok (.iload 5, 2) := by decide +kernel
theorem dL_law_255 : decode c_L_law 255 = .ok (.if_icmp .eq 5, 3) := by decide +kernel
theorem dL_law_258 : decode c_L_law 258 = .ok (.iconst 0, 1) := by decide +kernel
theorem dL_law_259 : decode c_L_law 259 = .ok (.ireturn, 1) := by decide +kernel
theorem dL_law_260 : decode c_L_law 260 = .ok (.iload 5, 2) := by decide +kernel
theorem dL_law_262 : decode c_L_law 262 = .ok (.ifCond .ne 15, 3) := by decide +kernel
theorem dL_law_265 : decode c_L_law 265 = .ok (.aload_n 3, 1) := by decide +kernel
theorem dL_law_266 : decode c_L_law 266 = .ok (.iconst 0, 1) := by decide +kernel
theorem dL_law_267 : decode c_L_law 267 = .ok (.laload, 1) := by decide +kernel
theorem dL_law_268 : decode c_L_law 268 = .ok (.iload 6, 2) := by decide +kernel
theorem dL_law_270 : decode c_L_law 270 = .ok (.i2l, 1) := by decide +kernel
theorem dL_law_271 : decode c_L_law 271 = .ok (.lcmp, 1) := by decide +kernel
theorem dL_law_272 : decode c_L_law 272 = .ok (.ifCond .eq 5, 3) := by decide +kernel
theorem dL_law_275 : decode c_L_law 275 = .ok (.iconst 0, 1) := by decide +kernel
theorem dL_law_276 : decode c_L_law 276 = .ok (.ireturn, 1) := by decide +kernel
theorem dL_law_277 : decode c_L_law 277 = .ok (.goto 907, 3) := by decide +kernel
theorem dL_law_280 : decode c_L_law 280 = .ok (.aload_n 1, 1) := by decide +kernel
theorem dL_law_281 : decode c_L_law 281 = .ok (.aload_n 3, 1) := by decide +kernel
theorem dL_law_282 : decode c_L_law 282 = .ok (.invokestatic 88, 3) := by decide +kernel
theorem dL_law_285 : decode c_L_law 285 = .ok (.istore 5, 2) := by decide +kernel
theorem dL_law_287 : decode c_L_law 287 = .ok (.aload_n 2, 1) := by decide +kernel
theorem dL_law_288 : decode c_L_law 288 = .ok (.invokevirtual 91, 3) := by decide +kernel
theorem dL_law_291 : decode c_L_law 291 = .ok (.istore 6, 2) := by decide +kernel
theorem dL_law_293 : decode c_L_law 293 = .ok (.aload_n 2, 1) := by decide +kernel
theorem dL_law_294 : decode c_L_law 294 = .ok (.invokevirtual 81, 3) := by decide +kernel
theorem dL_law_297 : decode c_L_law 297 = .ok (.iload 5, 2) := by decide +kernel
theorem dL_law_299 : decode c_L_law 299 = .ok (.if_icmp .eq 5, 3) := by decide +kernel
theorem dL_law_302 : decode c_L_law 302 = .ok (.iconst 0, 1) := by decide +kernel
theorem dL_law_303 : decode c_L_law 303 = .ok (.ireturn, 1) := by decide +kernel
theorem dL_law_304 : decode c_L_law 304 = .ok (.iload 5, 2) := by decide +kernel
theorem dL_law_306 : decode c_L_law 306 = .ok (.ifCond .ne 15, 3) := by decide +kernel
theorem dL_law_309 : decode c_L_law 309 = .ok (.aload_n 3, 1) := by decide +kernel
theorem dL_law_310 : decode c_L_law 310 = .ok (.iconst 0, 1) := by decide +kernel
theorem dL_law_311 : decode c_L_law 311 = .ok (.laload, 1) := by decide +kernel
theorem dL_law_312 : decode c_L_law 312 = .ok (.iload 6, 2) := by decide +kernel
theorem dL_law_314 : decode c_L_law 314 = .ok (.i2l, 1) := by decide +kernel
theorem dL_law_315 : decode c_L_law 315 = .ok (.lcmp, 1) := by decide +kernel
theorem dL_law_316 : decode c_L_law 316 = .ok (.ifCond .eq 5, 3) := by decide +kernel
theorem dL_law_319 : decode c_L_law 319 = .ok (.iconst 0, 1) := by decide +kernel
theorem dL_law_320 : decode c_L_law 320 = .ok (.ireturn, 1) := by decide +kernel
theorem dL_law_321 : decode c_L_law 321 = .ok (.goto 863, 3) := by decide +kernel
theorem dL_law_324 : decode c_L_law 324 = .ok (.aload_n 1, 1) := by decide +kernel
theorem dL_law_325 : decode c_L_law 325 = .ok (.aload_n 0, 1) := by decide +kernel
theorem dL_law_326 : decode c_L_law 326 = .ok (.iload 4, 2) := by decide +kernel
theorem dL_law_328 : decode c_L_law 328 = .ok (.iconst 1, 1) := by decide +kernel
theorem dL_law_329 : decode c_L_law 329 = .ok (.iadd, 1) := by decide +kernel
theorem dL_law_330 : decode c_L_law 330 = .ok (.iaload, 1) := by decide +kernel
theorem dL_law_331 : decode c_L_law 331 = .ok (.aload_n 0, 1) := by decide +kernel
theorem dL_law_332 : decode c_L_law 332 = .ok (.iload 4, 2) := by decide +kernel
theorem dL_law_334 : decode c_L_law 334 = .ok (.iconst 2, 1) := by decide +kernel
theorem dL_law_335 : decode c_L_law 335 = .ok (.iadd, 1) := by decide +kernel
theorem dL_law_336 : decode c_L_law 336 = .ok (.iaload, 1) := by decide +kernel
theorem dL_law_337 : decode c_L_law 337 = .ok (.aload_n 3, 1) := by decide +kernel
theorem dL_law_338 : decode c_L_law 338 = .ok (.invokestatic 92, 3) := by decide +kernel
theorem dL_law_341 : decode c_L_law 341 = .ok (.istore 5, 2) := by decide +kernel
theorem dL_law_343 : decode c_L_law 343 = .ok (.aload_n 2, 1) := by decide +kernel
theorem dL_law_344 : decode c_L_law 344 = .ok (.aload_n 0, 1) := by decide +kernel
theorem dL_law_345 : decode c_L_law 345 = .ok (.iload 4, 2) := by decide +kernel
theorem dL_law_347 : decode c_L_law 347 = .ok (.iconst 1, 1) := by decide +kernel
theorem dL_law_348 : decode c_L_law 348 = .ok (.iadd, 1) := by decide +kernel
theorem dL_law_349 : decode c_L_law 349 = .ok (.iaload, 1) := by decide +kernel
theorem dL_law_350 : decode c_L_law 350 = .ok (.aload_n 0, 1) := by decide +kernel
theorem dL_law_351 : decode c_L_law 351 = .ok (.iload 4, 2) := by decide +kernel
theorem dL_law_353 : decode c_L_law 353 = .ok (.iconst 2, 1) := by decide +kernel
theorem dL_law_354 : decode c_L_law 354 = .ok (.iadd, 1) := by decide +kernel
theorem dL_law_355 : decode c_L_law 355 = .ok (.iaload, 1) := by decide +kernel
theorem dL_law_356 : decode c_L_law 356 = .ok (.invokevirtual 95, 3) := by decide +kernel
theorem dL_law_359 : decode c_L_law 359 = .ok (.istore 6, 2) := by decide +kernel
theorem dL_law_361 : decode c_L_law 361 = .ok (.aload_n 2, 1) := by decide +kernel
theorem dL_law_362 : decode c_L_law 362 = .ok (.invokevirtual 81, 3) := by decide +kernel
theorem dL_law_365 : decode c_L_law 365 = .ok (.iload 5, 2) := by decide +kernel
theorem dL_law_367 : decode c_L_law 367 = .ok (.if_icmp .eq 5, 3) := by decide +kernel
theorem dL_law_370 : decode c_L_law 370 = .ok (.iconst 0, 1) := by decide +kernel
theorem dL_law_371 : decode c_L_law 371 = .ok (.ireturn, 1) := by decide +kernel
theorem dL_law_372 : decode c_L_law 372 = .ok (.iload 5, 2) := by decide +kernel
theorem dL_law_374 : decode c_L_law 374 = .ok (.ifCond .ne 15, 3) := by decide +kernel
theorem dL_law_377 : decode c_L_law 377 = .ok (.aload_n 3, 1) := by decide +kernel
theorem dL_law_378 : decode c_L_law 378 = .ok (.iconst 0, 1) := by decide +kernel
theorem dL_law_379 : decode c_L_law 379 = .ok (.laload, 1) := by decide +kernel
theorem dL_law_380 : decode c_L_law 380 = .ok (.iload 6, 2) := by decide +kernel
theorem dL_law_382 : decode c_L_law 382 = .ok (.i2l, 1) := by decide +kernel
theorem dL_law_383 : decode c_L_law 383 = .ok (.lcmp, 1) := by decide +kernel
theorem dL_law_384 : decode c_L_law 384 = .ok (.ifCond .eq 5, 3) := by decide +kernel
theorem dL_law_387 : decode c_L_law 387 = .ok (.iconst 0, 1) := by decide +kernel
theorem dL_law_388 : decode c_L_law 388 = .ok (.ireturn, 1) := by decide +kernel
theorem dL_law_389 : decode c_L_law 389 = .ok (.goto 795, 3) := by decide +kernel
theorem dL_law_392 : decode c_L_law 392 = .ok (.aload_n 1, 1) := by decide +kernel
theorem dL_law_393 : decode c_L_law 393 = .ok (.aload_n 0, 1) := by decide +kernel
theorem dL_law_394 : decode c_L_law 394 = .ok (.iload 4, 2) := by decide +kernel
theorem dL_law_396 : decode c_L_law 396 = .ok (.iconst 1, 1) := by decide +kernel
theorem dL_law_397 : decode c_L_law 397 = .ok (.iadd, 1) := by decide +kernel
theorem dL_law_398 : decode c_L_law 398 = .ok (.iaload, 1) := by decide +kernel
theorem dL_law_399 : decode c_L_law 399 = .ok (.aload_n 3, 1) := by decide +kernel
theorem dL_law_400 : decode c_L_law 400 = .ok (.invokestatic 96, 3) := by decide +kernel
theorem dL_law_403 : decode c_L_law 403 = .ok (.istore 5, 2) := by decide +kernel
theorem dL_law_405 : decode c_L_law 405 = .ok (.aload_n 2, 1) := by decide +kernel
theorem dL_law_406 : decode c_L_law 406 = .ok (.aload_n 0, 1) := by decide +kernel
theorem dL_law_407 : decode c_L_law 407 = .ok (.iload 4, 2) := by decide +kernel
theorem dL_law_409 : decode c_L_law 409 = .ok (.iconst 1, 1) := by decide +kernel
theorem dL_law_410 : decode c_L_law 410 = .ok (.iadd, 1) := by decide +kernel
theorem dL_law_411 : decode c_L_law 411 = .ok (.iaload, 1) := by decide +kernel
theorem dL_law_412 : decode c_L_law 412 = .ok (.invokevirtual 98, 3) := by decide +kernel
theorem dL_law_415 : decode c_L_law 415 = .ok (.istore 6, 2) := by decide +kernel
theorem dL_law_417 : decode c_L_law 417 = .ok (.aload_n 2, 1) := by decide +kernel
theorem dL_law_418 : decode c_L_law 418 = .ok (.invokevirtual 81, 3) := by decide +kernel
theorem dL_law_421 : decode c_L_law 421 = .ok (.iload 5, 2) := by decide +kernel
theorem dL_law_423 : decode c_L_law 423 = .ok (.if_icmp .eq 5, 3) := by decide +kernel
theorem dL_law_426 : decode c_L_law 426 = .ok (.iconst 0, 1) := by decide +kernel
theorem dL_law_427 : decode c_L_law 427 = .ok (.ireturn, 1) := by decide +kernel
theorem dL_law_428 : decode c_L_law 428 = .ok (.iload 5, 2) := by decide +kernel
theorem dL_law_430 : decode c_L_law 430 = .ok (.ifCond .ne 15, 3) := by decide +kernel
theorem dL_law_433 : decode c_L_law 433 = .ok (.aload_n 3, 1) := by decide +kernel
theorem dL_law_434 : decode c_L_law 434 = .ok (.iconst 0, 1) := by decide +kernel
theorem dL_law_435 : decode c_L_law 435 = .ok (.laload, 1) := by decide +kernel
theorem dL_law_436 : decode c_L_law 436 = .ok (.iload 6, 2) := by decide +kernel
theorem dL_law_438 : decode c_L_law 438 = .ok (.i2l, 1) := by decide +kernel
theorem dL_law_439 : decode c_L_law 439 = .ok (.lcmp, 1) := by decide +kernel
theorem dL_law_440 : decode c_L_law 440 = .ok (.ifCond .eq 5, 3) := by decide +kernel
theorem dL_law_443 : decode c_L_law 443 = .ok (.iconst 0, 1) := by decide +kernel
theorem dL_law_444 : decode c_L_law 444 = .ok (.ireturn, 1) := by decide +kernel
theorem dL_law_445 : decode c_L_law 445 = .ok (.goto 739, 3) := by decide +kernel
theorem dL_law_448 : decode c_L_law 448 = .ok (.aload_n 1, 1) := by decide +kernel
theorem dL_law_449 : decode c_L_law 449 = .ok (.aload_n 0, 1) := by decide +kernel
theorem dL_law_450 : decode c_L_law 450 = .ok (.iload 4, 2) := by decide +kernel
theorem dL_law_452 : decode c_L_law 452 = .ok (.iconst 1, 1) := by decide +kernel
theorem dL_law_453 : decode c_L_law 453 = .ok (.iadd, 1) := by decide +kernel
theorem dL_law_454 : decode c_L_law 454 = .ok (.iaload, 1) := by decide +kernel
theorem dL_law_455 : decode c_L_law 455 = .ok (.aload_n 0, 1) := by decide +kernel
theorem dL_law_456 : decode c_L_law 456 = .ok (.iload 4, 2) := by decide +kernel
theorem dL_law_458 : decode c_L_law 458 = .ok (.iconst 2, 1) := by decide +kernel
theorem dL_law_459 : decode c_L_law 459 = .ok (.iadd, 1) := by decide +kernel
theorem dL_law_460 : decode c_L_law 460 = .ok (.iaload, 1) := by decide +kernel
theorem dL_law_461 : decode c_L_law 461 = .ok (.ifCond .eq 7, 3) := by decide +kernel
theorem dL_law_464 : decode c_L_law 464 = .ok (.iconst 1, 1) := by decide +kernel
theorem dL_law_465 : decode c_L_law 465 = .ok (.goto 4, 3) := by decide +kernel
theorem dL_law_468 : decode c_L_law 468 = .ok (.iconst 0, 1) := by decide +kernel
theorem dL_law_469 : decode c_L_law 469 = .ok (.aload_n 3, 1) := by decide +kernel
theorem dL_law_470 : decode c_L_law 470 = .ok (.invokestatic 99, 3) := by decide +kernel
theorem dL_law_473 : decode c_L_law 473 = .ok (.istore 5, 2) := by decide +kernel
theorem dL_law_475 : decode c_L_law 475 = .ok (.aload_n 2, 1) := by decide +kernel
theorem dL_law_476 : decode c_L_law 476 = .ok (.aload_n 0, 1) := by decide +kernel
theorem dL_law_477 : decode c_L_law 477 = .ok (.iload 4, 2) := by decide +kernel
theorem dL_law_479 : decode c_L_law 479 = .ok (.iconst 1, 1) := by decide +kernel
theorem dL_law_480 : decode c_L_law 480 = .ok (.iadd, 1) := by decide +kernel
theorem dL_law_481 : decode c_L_law 481 = .ok (.iaload, 1) := by decide +kernel
theorem dL_law_482 : decode c_L_law 482 = .ok (.aload_n 0, 1) := by decide +kernel
theorem dL_law_483 : decode c_L_law 483 = .ok (.iload 4, 2) := by decide +kernel
theorem dL_law_485 : decode c_L_law 485 = .ok (.iconst 2, 1) := by decide +kernel
theorem dL_law_486 : decode c_L_law 486 = .ok (.iadd, 1) := by decide +kernel
theorem dL_law_487 : decode c_L_law 487 = .ok (.iaload, 1) := by decide +kernel
theorem dL_law_488 : decode c_L_law 488 = .ok (.ifCond .eq 7, 3) := by decide +kernel
theorem dL_law_491 : decode c_L_law 491 = .ok (.iconst 1, 1) := by decide +kernel
theorem dL_law_492 : decode c_L_law 492 = .ok (.goto 4, 3) := by decide +kernel
theorem dL_law_495 : decode c_L_law 495 = .ok (.iconst 0, 1) := by decide +kernel
theorem dL_law_496 : decode c_L_law 496 = .ok (.invokevirtual 102, 3) := by decide +kernel
theorem dL_law_499 : decode c_L_law 499 = .ok (.istore 6, 2) := by decide +kernel
theorem dL_law_501 : decode c_L_law 501 = .ok (.aload_n 2, 1) := by decide +kernel
theorem dL_law_502 : decode c_L_law 502 = .ok (.invokevirtual 81, 3) := by decide +kernel
theorem dL_law_505 : decode c_L_law 505 = .ok (.iload 5, 2) := by decide +kernel
theorem dL_law_507 : decode c_L_law 507 = .ok (.if_icmp .eq 5, 3) := by decide +kernel
theorem dL_law_510 : decode c_L_law 510 = .ok (.iconst 0, 1) := by decide +kernel
theorem dL_law_511 : decode c_L_law 511 = .ok (.ireturn, 1) := by decide +kernel
theorem dL_law_512 : decode c_L_law 512 = .ok (.iload 5, 2) := by decide +kernel
theorem dL_law_514 : decode c_L_law 514 = .ok (.ifCond .ne 15, 3) := by decide +kernel
theorem dL_law_517 : decode c_L_law 517 = .ok (.aload_n 3, 1) := by decide +kernel
theorem dL_law_518 : decode c_L_law 518 = .ok (.iconst 0, 1) := by decide +kernel
theorem dL_law_519 : decode c_L_law 519 = .ok (.laload, 1) := by decide +kernel
theorem dL_law_520 : decode c_L_law 520 = .ok (.iload 6, 2) := by decide +kernel
theorem dL_law_522 : decode c_L_law 522 = .ok (.i2l, 1) := by decide +kernel
theorem dL_law_523 : decode c_L_law 523 = .ok (.lcmp, 1) := by decide +kernel
theorem dL_law_524 : decode c_L_law 524 = .ok (.ifCond .eq 5, 3) := by decide +kernel
theorem dL_law_527 : decode c_L_law 527 = .ok (.iconst 0, 1) := by decide +kernel
theorem dL_law_528 : decode c_L_law 528 = .ok (.ireturn, 1) := by decide +kernel
theorem dL_law_529 : decode c_L_law 529 = .ok (.goto 655, 3) := by decide +kernel
theorem dL_law_532 : decode c_L_law 532 = .ok (.aload_n 1, 1) := by decide +kernel
theorem dL_law_533 : decode c_L_law 533 = .ok (.aload_n 0, 1) := by decide +kernel
theorem dL_law_534 : decode c_L_law 534 = .ok (.iload 4, 2) := by decide +kernel
theorem dL_law_536 : decode c_L_law 536 = .ok (.iconst 1, 1) := by decide +kernel
theorem dL_law_537 : decode c_L_law 537 = .ok (.iadd, 1) := by decide +kernel
theorem dL_law_538 : decode c_L_law 538 = .ok (.iaload, 1) := by decide +kernel
theorem dL_law_539 : decode c_L_law 539 = .ok (.aload_n 0, 1) := by decide +kernel
theorem dL_law_540 : decode c_L_law 540 = .ok (.iload 4, 2) := by decide +kernel
theorem dL_law_542 : decode c_L_law 542 = .ok (.iconst 2, 1) := by decide +kernel
theorem dL_law_543 : decode c_L_law 543 = .ok (.iadd, 1) := by decide +kernel
theorem dL_law_544 : decode c_L_law 544 = .ok (.iaload, 1) := by decide +kernel
theorem dL_law_545 : decode c_L_law 545 = .ok (.ifCond .eq 7, 3) := by decide +kernel
theorem dL_law_548 : decode c_L_law 548 = .ok (.iconst 1, 1) := by decide +kernel
theorem dL_law_549 : decode c_L_law 549 = .ok (.goto 4, 3) := by decide +kernel
theorem dL_law_552 : decode c_L_law 552 = .ok (.iconst 0, 1) := by decide +kernel
theorem dL_law_553 : decode c_L_law 553 = .ok (.aload_n 0, 1) := by decide +kernel
theorem dL_law_554 : decode c_L_law 554 = .ok (.iload 4, 2) := by decide +kernel
theorem dL_law_556 : decode c_L_law 556 = .ok (.iconst 3, 1) := by decide +kernel
theorem dL_law_557 : decode c_L_law 557 = .ok (.iadd, 1) := by decide +kernel
theorem dL_law_558 : decode c_L_law 558 = .ok (.iaload, 1) := by decide +kernel
theorem dL_law_559 : decode c_L_law 559 = .ok (.aload_n 3, 1) := by decide +kernel
theorem dL_law_560 : decode c_L_law 560 = .ok (.invokestatic 103, 3) := by decide +kernel
theorem dL_law_563 : decode c_L_law 563 = .ok (.istore 5, 2) := by decide +kernel
theorem dL_law_565 : decode c_L_law 565 = .ok (.aload_n 2, 1) := by decide +kernel
theorem dL_law_566 : decode c_L_law 566 = .ok (.aload_n 0, 1) := by decide +kernel
theorem dL_law_567 : decode c_L_law 567 = .ok (.iload 4, 2) := by decide +kernel
theorem dL_law_569 : decode c_L_law 569 = .ok (.iconst 1, 1) := by decide +kernel
theorem dL_law_570 : decode c_L_law 570 = .ok (.iadd, 1) := by decide +kernel
theorem dL_law_571 : decode c_L_law 571 = .ok (.iaload, 1) := by decide +kernel
theorem dL_law_572 : decode c_L_law 572 = .ok (.aload_n 0, 1) := by decide +kernel
theorem dL_law_573 : decode c_L_law 573 = .ok (.iload 4, 2) := by decide +kernel
theorem dL_law_575 : decode c_L_law 575 = .ok (.iconst 2, 1) := by decide +kernel
theorem dL_law_576 : decode c_L_law 576 = .ok (.iadd, 1) := by decide +kernel
theorem dL_law_577 : decode c_L_law 577 = .ok (.iaload, 1) := by decide +kernel
theorem dL_law_578 : decode c_L_law 578 = .ok (.ifCond .eq 7, 3) := by decide +kernel
theorem dL_law_581 : decode c_L_law 581 = .ok (.iconst 1, 1) := by decide +kernel
theorem dL_law_582 : decode c_L_law 582 = .ok (.goto 4, 3) := by decide +kernel
theorem dL_law_585 : decode c_L_law 585 = .ok (.iconst 0, 1) := by decide +kernel
theorem dL_law_586 : decode c_L_law 586 = .ok (.aload_n 0, 1) := by decide +kernel
theorem dL_law_587 : decode c_L_law 587 = .ok (.iload 4, 2) := by decide +kernel
theorem dL_law_589 : decode c_L_law 589 = .ok (.iconst 3, 1) := by decide +kernel
theorem dL_law_590 : decode c_L_law 590 = .ok (.iadd, 1) := by decide +kernel
theorem dL_law_591 : decode c_L_law 591 = .ok (.iaload, 1) := by decide +kernel
theorem dL_law_592 : decode c_L_law 592 = .ok (.invokevirtual 106, 3) := by decide +kernel
theorem dL_law_595 : decode c_L_law 595 = .ok (.istore 6, 2) := by decide +kernel
theorem dL_law_597 : decode c_L_law 597 = .ok (.aload_n 2, 1) := by decide +kernel
theorem dL_law_598 : decode c_L_law 598 = .ok (.invokevirtual 81, 3) := by decide +kernel
theorem dL_law_601 : decode c_L_law 601 = .ok (.iload 5, 2) := by decide +kernel
theorem dL_law_603 : decode c_L_law 603 = .ok (.if_icmp .eq 5, 3) := by decide +kernel
theorem dL_law_606 : decode c_L_law 606 = .ok (.iconst 0, 1) := by decide +kernel
theorem dL_law_607 : decode c_L_law 607 = .ok (.ireturn, 1) := by decide +kernel
theorem dL_law_608 : decode c_L_law 608 = .ok (.iload 5, 2) := by decide +kernel
theorem dL_law_610 : decode c_L_law 610 = .ok (.ifCond .ne 15, 3) := by decide +kernel
theorem dL_law_613 : decode c_L_law 613 = .ok (.aload_n 3, 1) := by decide +kernel
theorem dL_law_614 : decode c_L_law 614 = .ok (.iconst 0, 1) := by decide +kernel
theorem dL_law_615 : decode c_L_law 615 = .ok (.laload, 1) := by decide +kernel
theorem dL_law_616 : decode c_L_law 616 = .ok (.iload 6, 2) := by decide +kernel
theorem dL_law_618 : decode c_L_law 618 = .ok (.i2l, 1) := by decide +kernel
theorem dL_law_619 : decode c_L_law 619 = .ok (.lcmp, 1) := by decide +kernel
theorem dL_law_620 : decode c_L_law 620 = .ok (.ifCond .eq 5, 3) := by decide +kernel
theorem dL_law_623 : decode c_L_law 623 = .ok (.iconst 0, 1) := by decide +kernel
theorem dL_law_624 : decode c_L_law 624 = .ok (.ireturn, 1) := by decide +kernel
theorem dL_law_625 : decode c_L_law 625 = .ok (.goto 559, 3) := by decide +kernel
theorem dL_law_628 : decode c_L_law 628 = .ok (.aload_n 1, 1) := by decide +kernel
theorem dL_law_629 : decode c_L_law 629 = .ok (.aload_n 0, 1) := by decide +kernel
theorem dL_law_630 : decode c_L_law 630 = .ok (.iload 4, 2) := by decide +kernel
theorem dL_law_632 : decode c_L_law 632 = .ok (.iconst 1, 1) := by decide +kernel
theorem dL_law_633 : decode c_L_law 633 = .ok (.iadd, 1) := by decide +kernel
theorem dL_law_634 : decode c_L_law 634 = .ok (.iaload, 1) := by decide +kernel
theorem dL_law_635 : decode c_L_law 635 = .ok (.aload_n 0, 1) := by decide +kernel
theorem dL_law_636 : decode c_L_law 636 = .ok (.iload 4, 2) := by decide +kernel
theorem dL_law_638 : decode c_L_law 638 = .ok (.iconst 2, 1) := by decide +kernel
theorem dL_law_639 : decode c_L_law 639 = .ok (.iadd, 1) := by decide +kernel
theorem dL_law_640 : decode c_L_law 640 = .ok (.iaload, 1) := by decide +kernel
theorem dL_law_641 : decode c_L_law 641 = .ok (.ifCond .eq 7, 3) := by decide +kernel
theorem dL_law_644 : decode c_L_law 644 = .ok (.iconst 1, 1) := by decide +kernel
theorem dL_law_645 : decode c_L_law 645 = .ok (.goto 4, 3) := by decide +kernel
theorem dL_law_648 : decode c_L_law 648 = .ok (.iconst 0, 1) := by decide +kernel
theorem dL_law_649 : decode c_L_law 649 = .ok (.aload_n 3, 1) := by decide +kernel
theorem dL_law_650 : decode c_L_law 650 = .ok (.invokestatic 107, 3) := by decide +kernel
theorem dL_law_653 : decode c_L_law 653 = .ok (.istore 5, 2) := by decide +kernel
theorem dL_law_655 : decode c_L_law 655 = .ok (.aload_n 2, 1) := by decide +kernel
theorem dL_law_656 : decode c_L_law 656 = .ok (.aload_n 0, 1) := by decide +kernel
theorem dL_law_657 : decode c_L_law 657 = .ok (.iload 4, 2) := by decide +kernel
theorem dL_law_659 : decode c_L_law 659 = .ok (.iconst 1, 1) := by decide +kernel
theorem dL_law_660 : decode c_L_law 660 = .ok (.iadd, 1) := by decide +kernel
theorem dL_law_661 : decode c_L_law 661 = .ok (.iaload, 1) := by decide +kernel
theorem dL_law_662 : decode c_L_law 662 = .ok (.aload_n 0, 1) := by decide +kernel
theorem dL_law_663 : decode c_L_law 663 = .ok (.iload 4, 2) := by decide +kernel
theorem dL_law_665 : decode c_L_law 665 = .ok (.iconst 2, 1) := by decide +kernel
theorem dL_law_666 : decode c_L_law 666 = .ok (.iadd, 1) := by decide +kernel
theorem dL_law_667 : decode c_L_law 667 = .ok (.iaload, 1) := by decide +kernel
theorem dL_law_668 : decode c_L_law 668 = .ok (.ifCond .eq 7, 3) := by decide +kernel
theorem dL_law_671 : decode c_L_law 671 = .ok (.iconst 1, 1) := by decide +kernel
theorem dL_law_672 : decode c_L_law 672 = .ok (.goto 4, 3) := by decide +kernel
theorem dL_law_675 : decode c_L_law 675 = .ok (.iconst 0, 1) := by decide +kernel
theorem dL_law_676 : decode c_L_law 676 = .ok (.invokevirtual 109, 3) := by decide +kernel
theorem dL_law_679 : decode c_L_law 679 = .ok (.istore 6, 2) := by decide +kernel
theorem dL_law_681 : decode c_L_law 681 = .ok (.aload_n 2, 1) := by decide +kernel
theorem dL_law_682 : decode c_L_law 682 = .ok (.invokevirtual 81, 3) := by decide +kernel
theorem dL_law_685 : decode c_L_law 685 = .ok (.iload 5, 2) := by decide +kernel
theorem dL_law_687 : decode c_L_law 687 = .ok (.if_icmp .eq 5, 3) := by decide +kernel
theorem dL_law_690 : decode c_L_law 690 = .ok (.iconst 0, 1) := by decide +kernel
theorem dL_law_691 : decode c_L_law 691 = .ok (.ireturn, 1) := by decide +kernel
theorem dL_law_692 : decode c_L_law 692 = .ok (.iload 5, 2) := by decide +kernel
theorem dL_law_694 : decode c_L_law 694 = .ok (.ifCond .ne 15, 3) := by decide +kernel
theorem dL_law_697 : decode c_L_law 697 = .ok (.aload_n 3, 1) := by decide +kernel
theorem dL_law_698 : decode c_L_law 698 = .ok (.iconst 0, 1) := by decide +kernel
theorem dL_law_699 : decode c_L_law 699 = .ok (.laload, 1) := by decide +kernel
theorem dL_law_700 : decode c_L_law 700 = .ok (.iload 6, 2) := by decide +kernel
theorem dL_law_702 : decode c_L_law 702 = .ok (.i2l, 1) := by decide +kernel
theorem dL_law_703 : decode c_L_law 703 = .ok (.lcmp, 1) := by decide +kernel
theorem dL_law_704 : decode c_L_law 704 = .ok (.ifCond .eq 5, 3) := by decide +kernel
theorem dL_law_707 : decode c_L_law 707 = .ok (.iconst 0, 1) := by decide +kernel
theorem dL_law_708 : decode c_L_law 708 = .ok (.ireturn, 1) := by decide +kernel
theorem dL_law_709 : decode c_L_law 709 = .ok (.goto 475, 3) := by decide +kernel
theorem dL_law_712 : decode c_L_law 712 = .ok (.aload_n 1, 1) := by decide +kernel
theorem dL_law_713 : decode c_L_law 713 = .ok (.aload_n 0, 1) := by decide +kernel
theorem dL_law_714 : decode c_L_law 714 = .ok (.iload 4, 2) := by decide +kernel
theorem dL_law_716 : decode c_L_law 716 = .ok (.iconst 1, 1) := by decide +kernel
theorem dL_law_717 : decode c_L_law 717 = .ok (.iadd, 1) := by decide +kernel
theorem dL_law_718 : decode c_L_law 718 = .ok (.iaload, 1) := by decide +kernel
theorem dL_law_719 : decode c_L_law 719 = .ok (.aload_n 0, 1) := by decide +kernel
theorem dL_law_720 : decode c_L_law 720 = .ok (.iload 4, 2) := by decide +kernel
theorem dL_law_722 : decode c_L_law 722 = .ok (.iconst 2, 1) := by decide +kernel
theorem dL_law_723 : decode c_L_law 723 = .ok (.iadd, 1) := by decide +kernel
theorem dL_law_724 : decode c_L_law 724 = .ok (.iaload, 1) := by decide +kernel
theorem dL_law_725 : decode c_L_law 725 = .ok (.aload_n 3, 1) := by decide +kernel
theorem dL_law_726 : decode c_L_law 726 = .ok (.invokestatic 110, 3) := by decide +kernel
theorem dL_law_729 : decode c_L_law 729 = .ok (.istore 5, 2) := by decide +kernel
theorem dL_law_731 : decode c_L_law 731 = .ok (.aload_n 2, 1) := by decide +kernel
theorem dL_law_732 : decode c_L_law 732 = .ok (.aload_n 0, 1) := by decide +kernel
theorem dL_law_733 : decode c_L_law 733 = .ok (.iload 4, 2) := by decide +kernel
theorem dL_law_735 : decode c_L_law 735 = .ok (.iconst 1, 1) := by decide +kernel
theorem dL_law_736 : decode c_L_law 736 = .ok (.iadd, 1) := by decide +kernel
theorem dL_law_737 : decode c_L_law 737 = .ok (.iaload, 1) := by decide +kernel
theorem dL_law_738 : decode c_L_law 738 = .ok (.aload_n 0, 1) := by decide +kernel
theorem dL_law_739 : decode c_L_law 739 = .ok (.iload 4, 2) := by decide +kernel
theorem dL_law_741 : decode c_L_law 741 = .ok (.iconst 2, 1) := by decide +kernel
theorem dL_law_742 : decode c_L_law 742 = .ok (.iadd, 1) := by decide +kernel
theorem dL_law_743 : decode c_L_law 743 = .ok (.iaload, 1) := by decide +kernel
theorem dL_law_744 : decode c_L_law 744 = .ok (.invokevirtual 112, 3) := by decide +kernel
theorem dL_law_747 : decode c_L_law 747 = .ok (.istore 6, 2) := by decide +kernel
theorem dL_law_749 : decode c_L_law 749 = .ok (.aload_n 2, 1) := by decide +kernel
theorem dL_law_750 : decode c_L_law 750 = .ok (.invokevirtual 81, 3) := by decide +kernel
theorem dL_law_753 : decode c_L_law 753 = .ok (.iload 5, 2) := by decide +kernel
theorem dL_law_755 : decode c_L_law 755 = .ok (.if_icmp .eq 5, 3) := by decide +kernel
theorem dL_law_758 : decode c_L_law 758 = .ok (.iconst 0, 1) := by decide +kernel
theorem dL_law_759 : decode c_L_law 759 = .ok (.ireturn, 1) := by decide +kernel
theorem dL_law_760 : decode c_L_law 760 = .ok (.iload 5, 2) := by decide +kernel
theorem dL_law_762 : decode c_L_law 762 = .ok (.ifCond .ne 15, 3) := by decide +kernel
theorem dL_law_765 : decode c_L_law 765 = .ok (.aload_n 3, 1) := by decide +kernel
theorem dL_law_766 : decode c_L_law 766 = .ok (.iconst 0, 1) := by decide +kernel
theorem dL_law_767 : decode c_L_law 767 = .ok (.laload, 1) := by decide +kernel
theorem dL_law_768 : decode c_L_law 768 = .ok (.iload 6, 2) := by decide +kernel
theorem dL_law_770 : decode c_L_law 770 = .ok (.i2l, 1) := by decide +kernel
theorem dL_law_771 : decode c_L_law 771 = .ok (.lcmp, 1) := by decide +kernel
theorem dL_law_772 : decode c_L_law 772 = .ok (.ifCond .eq 5, 3) := by decide +kernel
theorem dL_law_775 : decode c_L_law 775 = .ok (.iconst 0, 1) := by decide +kernel
theorem dL_law_776 : decode c_L_law 776 = .ok (.ireturn, 1) := by decide +kernel
theorem dL_law_777 : decode c_L_law 777 = .ok (.goto 407, 3) := by decide +kernel
theorem dL_law_780 : decode c_L_law 780 = .ok (.aload_n 1, 1) := by decide +kernel
theorem dL_law_781 : decode c_L_law 781 = .ok (.aload_n 0, 1) := by decide +kernel
theorem dL_law_782 : decode c_L_law 782 = .ok (.iload 4, 2) := by decide +kernel
theorem dL_law_784 : decode c_L_law 784 = .ok (.iconst 1, 1) := by decide +kernel
theorem dL_law_785 : decode c_L_law 785 = .ok (.iadd, 1) := by decide +kernel
theorem dL_law_786 : decode c_L_law 786 = .ok (.iaload, 1) := by decide +kernel
theorem dL_law_787 : decode c_L_law 787 = .ok (.aload_n 3, 1) := by decide +kernel
theorem dL_law_788 : decode c_L_law 788 = .ok (.invokestatic 113, 3) := by decide +kernel
theorem dL_law_791 : decode c_L_law 791 = .ok (.istore 5, 2) := by decide +kernel
theorem dL_law_793 : decode c_L_law 793 = .ok (.aload_n 2, 1) := by decide +kernel
theorem dL_law_794 : decode c_L_law 794 = .ok (.aload_n 0, 1) := by decide +kernel
theorem dL_law_795 : decode c_L_law 795 = .ok (.iload 4, 2) := by decide +kernel
theorem dL_law_797 : decode c_L_law 797 = .ok (.iconst 1, 1) := by decide +kernel
theorem dL_law_798 : decode c_L_law 798 = .ok (.iadd, 1) := by decide +kernel
theorem dL_law_799 : decode c_L_law 799 = .ok (.iaload, 1) := by decide +kernel
theorem dL_law_800 : decode c_L_law 800 = .ok (.invokevirtual 115, 3) := by decide +kernel
theorem dL_law_803 : decode c_L_law 803 = .ok (.istore 6, 2) := by decide +kernel
theorem dL_law_805 : decode c_L_law 805 = .ok (.aload_n 2, 1) := by decide +kernel
theorem dL_law_806 : decode c_L_law 806 = .ok (.invokevirtual 81, 3) := by decide +kernel
theorem dL_law_809 : decode c_L_law 809 = .ok (.iload 5, 2) := by decide +kernel
theorem dL_law_811 : decode c_L_law 811 = .ok (.if_icmp .eq 5, 3) := by decide +kernel
theorem dL_law_814 : decode c_L_law 814 = .ok (.iconst 0, 1) := by decide +kernel
theorem dL_law_815 : decode c_L_law 815 = .ok (.ireturn, 1) := by decide +kernel
theorem dL_law_816 : decode c_L_law 816 = .ok (.iload 5, 2) := by decide +kernel
theorem dL_law_818 : decode c_L_law 818 = .ok (.ifCond .ne 15, 3) := by decide +kernel
theorem dL_law_821 : decode c_L_law 821 = .ok (.aload_n 3, 1) := by decide +kernel
theorem dL_law_822 : decode c_L_law 822 = .ok (.iconst 0, 1) := by decide +kernel
theorem dL_law_823 : decode c_L_law 823 = .ok (.laload, 1) := by decide +kernel
theorem dL_law_824 : decode c_L_law 824 = .ok (.iload 6, 2) := by decide +kernel
theorem dL_law_826 : decode c_L_law 826 = .ok (.i2l, 1) := by decide +kernel
theorem dL_law_827 : decode c_L_law 827 = .ok (.lcmp, 1) := by decide +kernel
theorem dL_law_828 : decode c_L_law 828 = .ok (.ifCond .eq 5, 3) := by decide +kernel
theorem dL_law_831 : decode c_L_law 831 = .ok (.iconst 0, 1) := by decide +kernel
theorem dL_law_832 : decode c_L_law 832 = .ok (.ireturn, 1) := by decide +kernel
theorem dL_law_833 : decode c_L_law 833 = .ok (.goto 351, 3) := by decide +kernel
theorem dL_law_836 : decode c_L_law 836 = .ok (.aload_n 1, 1) := by decide +kernel
theorem dL_law_837 : decode c_L_law 837 = .ok (.aload_n 0, 1) := by decide +kernel
theorem dL_law_838 : decode c_L_law 838 = .ok (.iload 4, 2) := by decide +kernel
theorem dL_law_840 : decode c_L_law 840 = .ok (.iconst 1, 1) := by decide +kernel
theorem dL_law_841 : decode c_L_law 841 = .ok (.iadd, 1) := by decide +kernel
theorem dL_law_842 : decode c_L_law 842 = .ok (.iaload, 1) := by decide +kernel
theorem dL_law_843 : decode c_L_law 843 = .ok (.aload_n 3, 1) := by decide +kernel
theorem dL_law_844 : decode c_L_law 844 = .ok (.invokestatic 116, 3) := by decide +kernel
theorem dL_law_847 : decode c_L_law 847 = .ok (.istore 5, 2) := by decide +kernel
theorem dL_law_849 : decode c_L_law 849 = .ok (.aload_n 2, 1) := by decide +kernel
theorem dL_law_850 : decode c_L_law 850 = .ok (.aload_n 0, 1) := by decide +kernel
theorem dL_law_851 : decode c_L_law 851 = .ok (.iload 4, 2) := by decide +kernel
theorem dL_law_853 : decode c_L_law 853 = .ok (.iconst 1, 1) := by decide +kernel
theorem dL_law_854 : decode c_L_law 854 = .ok (.iadd, 1) := by decide +kernel
theorem dL_law_855 : decode c_L_law 855 = .ok (.iaload, 1) := by decide +kernel
theorem dL_law_856 : decode c_L_law 856 = .ok (.invokevirtual 118, 3) := by decide +kernel
theorem dL_law_859 : decode c_L_law 859 = .ok (.istore 6, 2) := by decide +kernel
theorem dL_law_861 : decode c_L_law 861 = .ok (.aload_n 2, 1) := by decide +kernel
theorem dL_law_862 : decode c_L_law 862 = .ok (.invokevirtual 81, 3) := by decide +kernel
theorem dL_law_865 : decode c_L_law 865 = .ok (.iload 5, 2) := by decide +kernel
theorem dL_law_867 : decode c_L_law 867 = .ok (.if_icmp .eq 5, 3) := by decide +kernel
theorem dL_law_870 : decode c_L_law 870 = .ok (.iconst 0, 1) := by decide +kernel
theorem dL_law_871 : decode c_L_law 871 = .ok (.ireturn, 1) := by decide +kernel
theorem dL_law_872 : decode c_L_law 872 = .ok (.iload 5, 2) := by decide +kernel
theorem dL_law_874 : decode c_L_law 874 = .ok (.ifCond .ne 15, 3) := by decide +kernel
theorem dL_law_877 : decode c_L_law 877 = .ok (.aload_n 3, 1) := by decide +kernel
theorem dL_law_878 : decode c_L_law 878 = .ok (.iconst 0, 1) := by decide +kernel
theorem dL_law_879 : decode c_L_law 879 = .ok (.laload, 1) := by decide +kernel
theorem dL_law_880 : decode c_L_law 880 = .ok (.iload 6, 2) := by decide +kernel
theorem dL_law_882 : decode c_L_law 882 = .ok (.i2l, 1) := by decide +kernel
theorem dL_law_883 : decode c_L_law 883 = .ok (.lcmp, 1) := by decide +kernel
theorem dL_law_884 : decode c_L_law 884 = .ok (.ifCond .eq 5, 3) := by decide +kernel
theorem dL_law_887 : decode c_L_law 887 = .ok (.iconst 0, 1) := by decide +kernel
theorem dL_law_888 : decode c_L_law 888 = .ok (.ireturn, 1) := by decide +kernel
theorem dL_law_889 : decode c_L_law 889 = .ok (.goto 295, 3) := by decide +kernel
theorem dL_law_892 : decode c_L_law 892 = .ok (.aload_n 1, 1) := by decide +kernel
theorem dL_law_893 : decode c_L_law 893 = .ok (.aload_n 0, 1) := by decide +kernel
theorem dL_law_894 : decode c_L_law 894 = .ok (.iload 4, 2) := by decide +kernel
theorem dL_law_896 : decode c_L_law 896 = .ok (.iconst 1, 1) := by decide +kernel
theorem dL_law_897 : decode c_L_law 897 = .ok (.iadd, 1) := by decide +kernel
theorem dL_law_898 : decode c_L_law 898 = .ok (.iaload, 1) := by decide +kernel
theorem dL_law_899 : decode c_L_law 899 = .ok (.aload_n 0, 1) := by decide +kernel
theorem dL_law_900 : decode c_L_law 900 = .ok (.iload 4, 2) := by decide +kernel
theorem dL_law_902 : decode c_L_law 902 = .ok (.iconst 2, 1) := by decide +kernel
theorem dL_law_903 : decode c_L_law 903 = .ok (.iadd, 1) := by decide +kernel
theorem dL_law_904 : decode c_L_law 904 = .ok (.iaload, 1) := by decide +kernel
theorem dL_law_905 : decode c_L_law 905 = .ok (.aload_n 3, 1) := by decide +kernel
theorem dL_law_906 : decode c_L_law 906 = .ok (.invokestatic 119, 3) := by decide +kernel
theorem dL_law_909 : decode c_L_law 909 = .ok (.istore 5, 2) := by decide +kernel
theorem dL_law_911 : decode c_L_law 911 = .ok (.aload_n 2, 1) := by decide +kernel
theorem dL_law_912 : decode c_L_law 912 = .ok (.aload_n 0, 1) := by decide +kernel
theorem dL_law_913 : decode c_L_law 913 = .ok (.iload 4, 2) := by decide +kernel
theorem dL_law_915 : decode c_L_law 915 = .ok (.iconst 1, 1) := by decide +kernel
theorem dL_law_916 : decode c_L_law 916 = .ok (.iadd, 1) := by decide +kernel
theorem dL_law_917 : decode c_L_law 917 = .ok (.iaload, 1) := by decide +kernel
theorem dL_law_918 : decode c_L_law 918 = .ok (.aload_n 0, 1) := by decide +kernel
theorem dL_law_919 : decode c_L_law 919 = .ok (.iload 4, 2) := by decide +kernel
theorem dL_law_921 : decode c_L_law 921 = .ok (.iconst 2, 1) := by decide +kernel
theorem dL_law_922 : decode c_L_law 922 = .ok (.iadd, 1) := by decide +kernel
theorem dL_law_923 : decode c_L_law 923 = .ok (.iaload, 1) := by decide +kernel
theorem dL_law_924 : decode c_L_law 924 = .ok (.invokevirtual 121, 3) := by decide +kernel
theorem dL_law_927 : decode c_L_law 927 = .ok (.istore 6, 2) := by decide +kernel
theorem dL_law_929 : decode c_L_law 929 = .ok (.aload_n 2, 1) := by decide +kernel
theorem dL_law_930 : decode c_L_law 930 = .ok (.invokevirtual 81, 3) := by decide +kernel
theorem dL_law_933 : decode c_L_law 933 = .ok (.iload 5, 2) := by decide +kernel
theorem dL_law_935 : decode c_L_law 935 = .ok (.if_icmp .eq 5, 3) := by decide +kernel
theorem dL_law_938 : decode c_L_law 938 = .ok (.iconst 0, 1) := by decide +kernel
theorem dL_law_939 : decode c_L_law 939 = .ok (.ireturn, 1) := by decide +kernel
theorem dL_law_940 : decode c_L_law 940 = .ok (.iload 5, 2) := by decide +kernel
theorem dL_law_942 : decode c_L_law 942 = .ok (.ifCond .ne 15, 3) := by decide +kernel
theorem dL_law_945 : decode c_L_law 945 = .ok (.aload_n 3, 1) := by decide +kernel
theorem dL_law_946 : decode c_L_law 946 = .ok (.iconst 0, 1) := by decide +kernel
theorem dL_law_947 : decode c_L_law 947 = .ok (.laload, 1) := by decide +kernel
theorem dL_law_948 : decode c_L_law 948 = .ok (.iload 6, 2) := by decide +kernel
theorem dL_law_950 : decode c_L_law 950 = .ok (.i2l, 1) := by decide +kernel
theorem dL_law_951 : decode c_L_law 951 = .ok (.lcmp, 1) := by decide +kernel
theorem dL_law_952 : decode c_L_law 952 = .ok (.ifCond .eq 5, 3) := by decide +kernel
theorem dL_law_955 : decode c_L_law 955 = .ok (.iconst 0, 1) := by decide +kernel
theorem dL_law_956 : decode c_L_law 956 = .ok (.ireturn, 1) := by decide +kernel
theorem dL_law_957 : decode c_L_law 957 = .ok (.goto 227, 3) := by decide +kernel
theorem dL_law_960 : decode c_L_law 960 = .ok (.aload_n 1, 1) := by decide +kernel
theorem dL_law_961 : decode c_L_law 961 = .ok (.aload_n 0, 1) := by decide +kernel
theorem dL_law_962 : decode c_L_law 962 = .ok (.iload 4, 2) := by decide +kernel
theorem dL_law_964 : decode c_L_law 964 = .ok (.iconst 1, 1) := by decide +kernel
theorem dL_law_965 : decode c_L_law 965 = .ok (.iadd, 1) := by decide +kernel
theorem dL_law_966 : decode c_L_law 966 = .ok (.iaload, 1) := by decide +kernel
theorem dL_law_967 : decode c_L_law 967 = .ok (.aload_n 0, 1) := by decide +kernel
theorem dL_law_968 : decode c_L_law 968 = .ok (.iload 4, 2) := by decide +kernel
theorem dL_law_970 : decode c_L_law 970 = .ok (.iconst 2, 1) := by decide +kernel
theorem dL_law_971 : decode c_L_law 971 = .ok (.iadd, 1) := by decide +kernel
theorem dL_law_972 : decode c_L_law 972 = .ok (.iaload, 1) := by decide +kernel
theorem dL_law_973 : decode c_L_law 973 = .ok (.aload_n 3, 1) := by decide +kernel
theorem dL_law_974 : decode c_L_law 974 = .ok (.invokestatic 122, 3) := by decide +kernel
theorem dL_law_977 : decode c_L_law 977 = .ok (.istore 5, 2) := by decide +kernel
theorem dL_law_979 : decode c_L_law 979 = .ok (.aload_n 2, 1) := by decide +kernel
theorem dL_law_980 : decode c_L_law 980 = .ok (.aload_n 0, 1) := by decide +kernel
theorem dL_law_981 : decode c_L_law 981 = .ok (.iload 4, 2) := by decide +kernel
theorem dL_law_983 : decode c_L_law 983 = .ok (.iconst 1, 1) := by decide +kernel
theorem dL_law_984 : decode c_L_law 984 = .ok (.iadd, 1) := by decide +kernel
theorem dL_law_985 : decode c_L_law 985 = .ok (.iaload, 1) := by decide +kernel
theorem dL_law_986 : decode c_L_law 986 = .ok (.aload_n 0, 1) := by decide +kernel
theorem dL_law_987 : decode c_L_law 987 = .ok (.iload 4, 2) := by decide +kernel
theorem dL_law_989 : decode c_L_law 989 = .ok (.iconst 2, 1) := by decide +kernel
theorem dL_law_990 : decode c_L_law 990 = .ok (.iadd, 1) := by decide +kernel
theorem dL_law_991 : decode c_L_law 991 = .ok (.iaload, 1) := by decide +kernel
theorem dL_law_992 : decode c_L_law 992 = .ok (.invokevirtual 124, 3) := by decide +kernel
theorem dL_law_995 : decode c_L_law 995 = .ok (.istore 6, 2) := by decide +kernel
theorem dL_law_997 : decode c_L_law 997 = .ok (.aload_n 2, 1) := by decide +kernel
theorem dL_law_998 : decode c_L_law 998 = .ok (.invokevirtual 81, 3) := by decide +kernel
theorem dL_law_1001 : decode c_L_law 1001 = .ok (.iload 5, 2) := by decide +kernel
theorem dL_law_1003 : decode c_L_law 1003 = .ok (.if_icmp .eq 5, 3) := by decide +kernel
theorem dL_law_1006 : decode c_L_law 1006 = .ok (.iconst 0, 1) := by decide +kernel
theorem dL_law_1007 : decode c_L_law 1007 = .ok (.ireturn, 1) := by decide +kernel
theorem dL_law_1008 : decode c_L_law 1008 = .ok (.iload 5, 2) := by decide +kernel
theorem dL_law_1010 : decode c_L_law 1010 = .ok (.ifCond .ne 22, 3) := by decide +kernel
theorem dL_law_1013 : decode c_L_law 1013 = .ok (.aload_n 3, 1) := by decide +kernel
theorem dL_law_1014 : decode c_L_law 1014 = .ok (.iconst 0, 1) := by decide +kernel
theorem dL_law_1015 : decode c_L_law 1015 = .ok (.laload, 1) := by decide +kernel
theorem dL_law_1016 : decode c_L_law 1016 = .ok (.iload 6, 2) := by decide +kernel
theorem dL_law_1018 : decode c_L_law 1018 = .ok (.ifCond .eq 7, 3) := by decide +kernel
theorem dL_law_1021 : decode c_L_law 1021 = .ok (.lconst 1, 1) := by decide +kernel
theorem dL_law_1022 : decode c_L_law 1022 = .ok (.goto 4, 3) := by decide +kernel
theorem dL_law_1025 : decode c_L_law 1025 = .ok (.lconst 0, 1) := by decide +kernel
theorem dL_law_1026 : decode c_L_law 1026 = .ok (.lcmp, 1) := by decide +kernel
theorem dL_law_1027 : decode c_L_law 1027 = .ok (.ifCond .eq 5, 3) := by decide +kernel
theorem dL_law_1030 : decode c_L_law 1030 = .ok (.iconst 0, 1) := by decide +kernel
theorem dL_law_1031 : decode c_L_law 1031 = .ok (.ireturn, 1) := by decide +kernel
theorem dL_law_1032 : decode c_L_law 1032 = .ok (.goto 152, 3) := by decide +kernel
theorem dL_law_1035 : decode c_L_law 1035 = .ok (.aload_n 1, 1) := by decide +kernel
theorem dL_law_1036 : decode c_L_law 1036 = .ok (.aload_n 0, 1) := by decide +kernel
theorem dL_law_1037 : decode c_L_law 1037 = .ok (.iload 4, 2) := by decide +kernel
theorem dL_law_1039 : decode c_L_law 1039 = .ok (.iconst 1, 1) := by decide +kernel
theorem dL_law_1040 : decode c_L_law 1040 = .ok (.iadd, 1) := by decide +kernel
theorem dL_law_1041 : decode c_L_law 1041 = .ok (.iaload, 1) := by decide +kernel
theorem dL_law_1042 : decode c_L_law 1042 = .ok (.aload_n 0, 1) := by decide +kernel
theorem dL_law_1043 : decode c_L_law 1043 = .ok (.iload 4, 2) := by decide +kernel
theorem dL_law_1045 : decode c_L_law 1045 = .ok (.iconst 2, 1) := by decide +kernel
theorem dL_law_1046 : decode c_L_law 1046 = .ok (.iadd, 1) := by decide +kernel
theorem dL_law_1047 : decode c_L_law 1047 = .ok (.iaload, 1) := by decide +kernel
theorem dL_law_1048 : decode c_L_law 1048 = .ok (.aload_n 3, 1) := by decide +kernel
theorem dL_law_1049 : decode c_L_law 1049 = .ok (.invokestatic 125, 3) := by decide +kernel
theorem dL_law_1052 : decode c_L_law 1052 = .ok (.istore 5, 2) := by decide +kernel
theorem dL_law_1054 : decode c_L_law 1054 = .ok (.aload_n 2, 1) := by decide +kernel
theorem dL_law_1055 : decode c_L_law 1055 = .ok (.aload_n 0, 1) := by decide +kernel
theorem dL_law_1056 : decode c_L_law 1056 = .ok (.iload 4, 2) := by decide +kernel
theorem dL_law_1058 : decode c_L_law 1058 = .ok (.iconst 1, 1) := by decide +kernel
theorem dL_law_1059 : decode c_L_law 1059 = .ok (.iadd, 1) := by decide +kernel
theorem dL_law_1060 : decode c_L_law 1060 = .ok (.iaload, 1) := by decide +kernel
theorem dL_law_1061 : decode c_L_law 1061 = .ok (.aload_n 0, 1) := by decide +kernel
theorem dL_law_1062 : decode c_L_law 1062 = .ok (.iload 4, 2) := by decide +kernel
theorem dL_law_1064 : decode c_L_law 1064 = .ok (.iconst 2, 1) := by decide +kernel
theorem dL_law_1065 : decode c_L_law 1065 = .ok (.iadd, 1) := by decide +kernel
theorem dL_law_1066 : decode c_L_law 1066 = .ok (.iaload, 1) := by decide +kernel
theorem dL_law_1067 : decode c_L_law 1067 = .ok (.invokevirtual 127, 3) := by decide +kernel
theorem dL_law_1070 : decode c_L_law 1070 = .ok (.istore 6, 2) := by decide +kernel
theorem dL_law_1072 : decode c_L_law 1072 = .ok (.aload_n 2, 1) := by decide +kernel
theorem dL_law_1073 : decode c_L_law 1073 = .ok (.invokevirtual 81, 3) := by decide +kernel
theorem dL_law_1076 : decode c_L_law 1076 = .ok (.iload 5, 2) := by decide +kernel
theorem dL_law_1078 : decode c_L_law 1078 = .ok (.if_icmp .eq 5, 3) := by decide +kernel
theorem dL_law_1081 : decode c_L_law 1081 = .ok (.iconst 0, 1) := by decide +kernel
theorem dL_law_1082 : decode c_L_law 1082 = .ok (.ireturn, 1) := by decide +kernel
theorem dL_law_1083 : decode c_L_law 1083 = .ok (.iload 5, 2) := by decide +kernel
theorem dL_law_1085 : decode c_L_law 1085 = .ok (.ifCond .ne 15, 3) := by decide +kernel
theorem dL_law_1088 : decode c_L_law 1088 = .ok (.aload_n 3, 1) := by decide +kernel
theorem dL_law_1089 : decode c_L_law 1089 = .ok (.iconst 0, 1) := by decide +kernel
theorem dL_law_1090 : decode c_L_law 1090 = .ok (.laload, 1) := by decide +kernel
theorem dL_law_1091 : decode c_L_law 1091 = .ok (.iload 6, 2) := by decide +kernel
theorem dL_law_1093 : decode c_L_law 1093 = .ok (.i2l, 1) := by decide +kernel
theorem dL_law_1094 : decode c_L_law 1094 = .ok (.lcmp, 1) := by decide +kernel
theorem dL_law_1095 : decode c_L_law 1095 = .ok (.ifCond .eq 5, 3) := by decide +kernel
theorem dL_law_1098 : decode c_L_law 1098 = .ok (.iconst 0, 1) := by decide +kernel
theorem dL_law_1099 : decode c_L_law 1099 = .ok (.ireturn, 1) := by decide +kernel
theorem dL_law_1100 : decode c_L_law 1100 = .ok (.goto 84, 3) := by decide +kernel
theorem dL_law_1103 : decode c_L_law 1103 = .ok (.aload_n 1, 1) := by decide +kernel
theorem dL_law_1104 : decode c_L_law 1104 = .ok (.aload_n 0, 1) := by decide +kernel
theorem dL_law_1105 : decode c_L_law 1105 = .ok (.iload 4, 2) := by decide +kernel
theorem dL_law_1107 : decode c_L_law 1107 = .ok (.iconst 1, 1) := by decide +kernel
theorem dL_law_1108 : decode c_L_law 1108 = .ok (.iadd, 1) := by decide +kernel
theorem dL_law_1109 : decode c_L_law 1109 = .ok (.iaload, 1) := by decide +kernel
theorem dL_law_1110 : decode c_L_law 1110 = .ok (.aload_n 3, 1) := by decide +kernel
theorem dL_law_1111 : decode c_L_law 1111 = .ok (.invokestatic 128, 3) := by decide +kernel
theorem dL_law_1114 : decode c_L_law 1114 = .ok (.istore 5, 2) := by decide +kernel
theorem dL_law_1116 : decode c_L_law 1116 = .ok (.aload_n 2, 1) := by decide +kernel
theorem dL_law_1117 : decode c_L_law 1117 = .ok (.aload_n 0, 1) := by decide +kernel
theorem dL_law_1118 : decode c_L_law 1118 = .ok (.iload 4, 2) := by decide +kernel
theorem dL_law_1120 : decode c_L_law 1120 = .ok (.iconst 1, 1) := by decide +kernel
theorem dL_law_1121 : decode c_L_law 1121 = .ok (.iadd, 1) := by decide +kernel
theorem dL_law_1122 : decode c_L_law 1122 = .ok (.iaload, 1) := by decide +kernel
theorem dL_law_1123 : decode c_L_law 1123 = .ok (.invokevirtual 130, 3) := by decide +kernel
theorem dL_law_1126 : decode c_L_law 1126 = .ok (.istore 6, 2) := by decide +kernel
theorem dL_law_1128 : decode c_L_law 1128 = .ok (.aload_n 2, 1) := by decide +kernel
theorem dL_law_1129 : decode c_L_law 1129 = .ok (.invokevirtual 81, 3) := by decide +kernel
theorem dL_law_1132 : decode c_L_law 1132 = .ok (.iload 5, 2) := by decide +kernel
theorem dL_law_1134 : decode c_L_law 1134 = .ok (.if_icmp .eq 5, 3) := by decide +kernel
theorem dL_law_1137 : decode c_L_law 1137 = .ok (.iconst 0, 1) := by decide +kernel
theorem dL_law_1138 : decode c_L_law 1138 = .ok (.ireturn, 1) := by decide +kernel
theorem dL_law_1139 : decode c_L_law 1139 = .ok (.iload 5, 2) := by decide +kernel
theorem dL_law_1141 : decode c_L_law 1141 = .ok (.ifCond .ne 15, 3) := by decide +kernel
theorem dL_law_1144 : decode c_L_law 1144 = .ok (.aload_n 3, 1) := by decide +kernel
theorem dL_law_1145 : decode c_L_law 1145 = .ok (.iconst 0, 1) := by decide +kernel
theorem dL_law_1146 : decode c_L_law 1146 = .ok (.laload, 1) := by decide +kernel
theorem dL_law_1147 : decode c_L_law 1147 = .ok (.iload 6, 2) := by decide +kernel
theorem dL_law_1149 : decode c_L_law 1149 = .ok (.i2l, 1) := by decide +kernel
theorem dL_law_1150 : decode c_L_law 1150 = .ok (.lcmp, 1) := by decide +kernel
theorem dL_law_1151 : decode c_L_law 1151 = .ok (.ifCond .eq 5, 3) := by decide +kernel
theorem dL_law_1154 : decode c_L_law 1154 = .ok (.iconst 0, 1) := by decide +kernel
theorem dL_law_1155 : decode c_L_law 1155 = .ok (.ireturn, 1) := by decide +kernel
theorem dL_law_1156 : decode c_L_law 1156 = .ok (.goto 28, 3) := by decide +kernel
theorem dL_law_1159 : decode c_L_law 1159 = .ok (.aload_n 1, 1) := by decide +kernel
theorem dL_law_1160 : decode c_L_law 1160 = .ok (.aload_n 0, 1) := by decide +kernel
theorem dL_law_1161 : decode c_L_law 1161 = .ok (.iload 4, 2) := by decide +kernel
theorem dL_law_1163 : decode c_L_law 1163 = .ok (.iconst 1, 1) := by decide +kernel
theorem dL_law_1164 : decode c_L_law 1164 = .ok (.iadd, 1) := by decide +kernel
theorem dL_law_1165 : decode c_L_law 1165 = .ok (.iaload, 1) := by decide +kernel
theorem dL_law_1166 : decode c_L_law 1166 = .ok (.invokevirtual 131, 3) := by decide +kernel
theorem dL_law_1169 : decode c_L_law 1169 = .ok (.aload_n 2, 1) := by decide +kernel
theorem dL_law_1170 : decode c_L_law 1170 = .ok (.aload_n 0, 1) := by decide +kernel
theorem dL_law_1171 : decode c_L_law 1171 = .ok (.iload 4, 2) := by decide +kernel
theorem dL_law_1173 : decode c_L_law 1173 = .ok (.iconst 1, 1) := by decide +kernel
theorem dL_law_1174 : decode c_L_law 1174 = .ok (.iadd, 1) := by decide +kernel
theorem dL_law_1175 : decode c_L_law 1175 = .ok (.iaload, 1) := by decide +kernel
theorem dL_law_1176 : decode c_L_law 1176 = .ok (.invokevirtual 134, 3) := by decide +kernel
theorem dL_law_1179 : decode c_L_law 1179 = .ok (.if_icmp .eq 5, 3) := by decide +kernel
theorem dL_law_1182 : decode c_L_law 1182 = .ok (.iconst 0, 1) := by decide +kernel
theorem dL_law_1183 : decode c_L_law 1183 = .ok (.ireturn, 1) := by decide +kernel
theorem dL_law_1184 : decode c_L_law 1184 = .ok (.iinc 4 6, 3) := by decide +kernel
theorem dL_law_1187 : decode c_L_law 1187 = .ok (.goto (-1164), 3) := by decide +kernel
theorem dL_law_1190 : decode c_L_law 1190 = .ok (.iconst 1, 1) := by decide +kernel
theorem dL_law_1191 : decode c_L_law 1191 = .ok (.ireturn, 1) := by decide +kernel
set_option maxRecDepth 100000 in
theorem law_end {p : Program} {e : Env} {s : State} {m : MethodId} {below : List Frame} {meth : Method} {c : Code} (l : Launch) {b : Nat} {xs : Nat → Int32} (C0 : lw_At p s m meth c b 6 xs) (F : CallFix p m c c_L_law 7 s #[Value.ref b] wL "LatticeKeysLaw") {H : Heap} {locs : List Loc} {ls : Array Slot} {kc ks : Nat} (hS : va_S (Alaw s) s.heap H locs) (hl : lv_has ls 7 [(4, .int (nI 0)), (0, .ref b)]) (hkc : kc ≤ 299670) (hks : ks ≤ 8197096) : W p l e room_1 s m #[Value.ref b] below meth c H locs kc ks (lw_Z below #[Value.ref b] s) (F0 m 1184 ls []) := by
  obtain ⟨hx, hb, hml, hown, hts⟩ := id F
  obtain ⟨-, -, hr, -, -, -, hXs, hbl, hlk, -⟩ := id C0
  have hbA : ¬ Alaw s b := fun h => Nat.not_lt.mpr h hbl
  refine W.widen hkc hks ?_
  refine va_forget hS.2.2 ?_
  replace hS : va_S (Alaw s) s.heap H [] := ⟨hS.1, hS.2.1, fun _ h => nomatch h⟩
  refine mi_iinc (k := 0) (x := 0) (d := 6) (y := 6) (lv' := [(4, .int (nI 6)), (0, .ref b)]) hx hb dL_law_1184 hl rfl (by decide) rfl (by decide) rfl (fun ls hl => ?_)
  refine lv_goto (tgt := 23) hx hb dL_law_1187 (by decide) ?_
  refine lv_iload hx hb dL_law_23 (lv_at hl 0 rfl) ?_
  refine lv_aload_n hx hb dL_law_25 rfl (lv_at hl 1 rfl) ?_
  refine va_slen hx hb hXs hbl hbA hS dL_law_26 ?_
  refine mi_as (show Int32.ofNat 6 = nI 6 from rfl) ?_
  refine lv_bipush (v := nI 6) hx hb dL_law_27 (by decide) ?_
  refine mi_isub hx hb dL_law_29 (by omega) ?_
  refine mi_as (show nI (6 - 6) = nI 0 from rfl) ?_
  refine mi_gt (tgt := 1190) hx hb dL_law_30 (by decide) (by omega) (by omega) (fun h21 => ?_) (fun h21 => absurd h21 (by omega))
  refine lv_iconst (v := nI 1) hx hb dL_law_1190 (by decide) ?_
  exact lw_ret hx hb hr hlk dL_law_1191
set_option maxHeartbeats 400000 in
set_option maxRecDepth 100000 in
theorem law_feed {p : Program} {e : Env} {s : State} {m : MethodId} {below : List Frame} {meth : Method} {c : Code} (l : Launch) (htr : l.stackTraces = false) {b : Nat} {xs : Nat → Int32} (C0 : lw_At p s m meth c b 6 xs) (g : Gd) (F : CallFix p m c c_L_law 7 s #[Value.ref b] wL "LatticeKeysLaw") (hX : ex g (Alaw s) s s.heap) (h0 h1 a : Nat) (u w : Nat → Nat) (fa : Nat → Nat → Int64) (fu : Nat → Int32) (f : Nat → Int64) (v1 : Int32) (v2 : Int32) (v3 : Int32) (v4 : Int32) (v5 : Int32) (hv1 : xs (nI 1).toNatClampNeg = v1) (hv2 : xs (nI 2).toNatClampNeg = v2) (hv3 : xs (nI 3).toNatClampNeg = v3) (hv4 : xs (nI 4).toNatClampNeg = v4) (hv5 : xs (nI 5).toNatClampNeg = v5) {H : Heap} {locs : List Loc} {ls : Array Slot} (hP : va_P g.1 vcl [(h0, .inr (0, [.ref (u 0), .int (nI 0), .ref (u 1), .int (nI 0), .ref (u 12), .int (nI 0), .ref (u 2), .ref (u 3), .ref (u 4), .ref (u 13), .ref (u 14)])), (u 0, .inl (g.2.1 1, 16384, .inl ((fun _ => 0)))), (h1, .inr (8, [.int 0, .int 0, .int 0, .int 0, .ref (w 0), .ref (w 1), .ref (w 2), .ref (w 3), .ref (w 4), .ref (w 5), .ref (w 6), .ref (w 7), .ref (w 8), .ref (w 9)])), (w 0, .inl (g.2.1 1, 16384, .inl ((fun _ => 0)))), (a, .inl (g.2.1 2, 1, .inr (.inl f)))] H) (hD : va_D (Alaw s) [(h0, .inr (0, [.ref (u 0), .int (nI 0), .ref (u 1), .int (nI 0), .ref (u 12), .int (nI 0), .ref (u 2), .ref (u 3), .ref (u 4), .ref (u 13), .ref (u 14)])), (u 0, .inl (g.2.1 1, 16384, .inl ((fun _ => 0)))), (h1, .inr (8, [.int 0, .int 0, .int 0, .int 0, .ref (w 0), .ref (w 1), .ref (w 2), .ref (w 3), .ref (w 4), .ref (w 5), .ref (w 6), .ref (w 7), .ref (w 8), .ref (w 9)])), (w 0, .inl (g.2.1 1, 16384, .inl ((fun _ => 0)))), (a, .inl (g.2.1 2, 1, .inr (.inl f)))]) (hS : va_S (Alaw s) s.heap H locs) (hl : lv_has ls 7 [(4, .int (nI 0)), (3, .ref a), (2, .ref h1), (1, .ref h0), (0, .ref b)]) : W p l e room_1 s m #[Value.ref b] below meth c H locs 380 194479 (lw_Z below #[Value.ref b] s) (F0 m 120 ls []) := by
  obtain ⟨hx, hb, hml, hown, hts⟩ := id F
  have hE := hX.1
  have hK := hE.1
  have hA : ∀ q, s.heap.size ≤ q → Alaw s q := fun _ h => h
  obtain ⟨-, -, hr, -, -, -, hXs, hbl, hlk, -⟩ := id C0
  have hbA : ¬ Alaw s b := fun h => Nat.not_lt.mpr h hbl
  refine lv_aload_n hx hb dL_law_120 rfl (lv_at hl 3 rfl) ?_
  refine lv_aload_n hx hb dL_law_121 rfl (lv_at hl 4 rfl) ?_
  refine lv_iload hx hb dL_law_122 (lv_at hl 0 rfl) ?_
  refine lv_iconst (v := nI 1) hx hb dL_law_124 (by decide) ?_
  refine mi_iadd hx hb dL_law_125 ?_
  refine mi_as (show nI (0 + 1) = nI 1 from rfl) ?_
  refine va_sld hx hb hXs hbl hbA hS (vp_in_nI (N := 6) (by omega) (by omega)) dL_law_126 ?_
  refine mi_as hv1 ?_
  refine lv_aload_n hx hb dL_law_127 rfl (lv_at hl 4 rfl) ?_
  refine lv_iload hx hb dL_law_128 (lv_at hl 0 rfl) ?_
  refine lv_iconst (v := nI 2) hx hb dL_law_130 (by decide) ?_
  refine mi_iadd hx hb dL_law_131 ?_
  refine mi_as (show nI (0 + 2) = nI 2 from rfl) ?_
  refine va_sld hx hb hXs hbl hbA hS (vp_in_nI (N := 6) (by omega) (by omega)) dL_law_132 ?_
  refine mi_as hv2 ?_
  refine lv_aload_n hx hb dL_law_133 rfl (lv_at hl 4 rfl) ?_
  refine lv_iload hx hb dL_law_134 (lv_at hl 0 rfl) ?_
  refine lv_iconst (v := nI 3) hx hb dL_law_136 (by decide) ?_
  refine mi_iadd hx hb dL_law_137 ?_
  refine mi_as (show nI (0 + 3) = nI 3 from rfl) ?_
  refine va_sld hx hb hXs hbl hbA hS (vp_in_nI (N := 6) (by omega) (by omega)) dL_law_138 ?_
  refine mi_as hv3 ?_
  refine lv_aload_n hx hb dL_law_139 rfl (lv_at hl 4 rfl) ?_
  refine lv_iload hx hb dL_law_140 (lv_at hl 0 rfl) ?_
  refine lv_iconst (v := nI 4) hx hb dL_law_142 (by decide) ?_
  refine mi_iadd hx hb dL_law_143 ?_
  refine mi_as (show nI (0 + 4) = nI 4 from rfl) ?_
  refine va_sld hx hb hXs hbl hbA hS (vp_in_nI (N := 6) (by omega) (by omega)) dL_law_144 ?_
  refine mi_as hv4 ?_
  refine lv_aload_n hx hb dL_law_145 rfl (lv_at hl 4 rfl) ?_
  refine lv_iload hx hb dL_law_146 (lv_at hl 0 rfl) ?_
  refine lv_iconst (v := nI 5) hx hb dL_law_148 (by decide) ?_
  refine mi_iadd hx hb dL_law_149 ?_
  refine mi_as (show nI (0 + 5) = nI 5 from rfl) ?_
  refine va_sld hx hb hXs hbl hbA hS (vp_in_nI (N := 6) (by omega) (by omega)) dL_law_150 ?_
  refine mi_as hv5 ?_
  refine lv_aload_n hx hb dL_law_151 rfl (lv_at hl 1 rfl) ?_
  refine mc_i (wc := [(h0, .inr (0, [.ref (u 0), .int (nI 0), .ref (u 1), .int (nI 0), .ref (u 12), .int (nI 0), .ref (u 2), .ref (u 3), .ref (u 4), .ref (u 13), .ref (u 14)])), (u 0, .inl (g.2.1 1, 16384, .inl ((fun _ => 0)))), (a, .inl (g.2.1 2, 1, .inr (.inl f)))]) (wr := [(h1, .inr (8, [.int 0, .int 0, .int 0, .int 0, .ref (w 0), .ref (w 1), .ref (w 2), .ref (w 3), .ref (w 4), .ref (w 5), .ref (w 6), .ref (w 7), .ref (w 8), .ref (w 9)])), (w 0, .inl (g.2.1 1, 16384, .inl ((fun _ => 0))))]) hP hD hS hA [0, 1, 4] [2, 3] rfl rfl rfl (by decide) (lc_run (As := [.ref h0, .int v1, .int v2, .int v3, .int v4, .int v5, .ref a]) (rest := []) F (lk_feed l g _ h0 u v1 v2 v3 v4 v5 a f) (lc_cw 7 hts (wg_app (wg_c kw_412 (wg_c kw_413 (wg_c kw_0 wg_n))) kw_414) rfl rfl rfl (by decide +kernel) ⟨by decide, by decide⟩) (pr_S (en_ok g) hP hD hS hA hE [0, 1, 4] rfl rfl) rfl rfl hl.1 rfl (lv_room (Nat.le_of_ble_eq_true rfl)) dL_law_152 ⟨(by decide), (by decide)⟩) (fun r1 u1 H locs hu1 hP hD hS => ?_)
  obtain ⟨hr1, ho1⟩ := hu1
  subst hr1
  have hP : va_P g.1 vcl [(h1, .inr (8, [.int 0, .int 0, .int 0, .int 0, .ref (w 0), .ref (w 1), .ref (w 2), .ref (w 3), .ref (w 4), .ref (w 5), .ref (w 6), .ref (w 7), .ref (w 8), .ref (w 9)])), (w 0, .inl (g.2.1 1, 16384, .inl ((fun _ => 0)))), (a, .inl (g.2.1 2, 1, .inr (.inl u1)))] _ := hP
  have hD : va_D _ [(h1, .inr (8, [.int 0, .int 0, .int 0, .int 0, .ref (w 0), .ref (w 1), .ref (w 2), .ref (w 3), .ref (w 4), .ref (w 5), .ref (w 6), .ref (w 7), .ref (w 8), .ref (w 9)])), (w 0, .inl (g.2.1 1, 16384, .inl ((fun _ => 0)))), (a, .inl (g.2.1 2, 1, .inr (.inl u1)))] := hD
  refine W.widen (k := 380) (n := 194479) (by omega) (by omega) ?_
  refine lv_istore (lv' := [(5, .int (nI 0)), (4, .int (nI 0)), (3, .ref a), (2, .ref h1), (1, .ref h0), (0, .ref b)]) hx hb dL_law_155 hl (by decide) rfl (fun ls hl => ?_)
  refine lv_aload_n hx hb dL_law_157 rfl (lv_at hl 3 rfl) ?_
  refine lv_aload_n hx hb dL_law_158 rfl (lv_at hl 5 rfl) ?_
  refine lv_iload hx hb dL_law_159 (lv_at hl 1 rfl) ?_
  refine lv_iconst (v := nI 1) hx hb dL_law_161 (by decide) ?_
  refine mi_iadd hx hb dL_law_162 ?_
  refine mi_as (show nI (0 + 1) = nI 1 from rfl) ?_
  refine va_sld hx hb hXs hbl hbA hS (vp_in_nI (N := 6) (by omega) (by omega)) dL_law_163 ?_
  refine mi_as hv1 ?_
  refine lv_aload_n hx hb dL_law_164 rfl (lv_at hl 5 rfl) ?_
  refine lv_iload hx hb dL_law_165 (lv_at hl 1 rfl) ?_
  refine lv_iconst (v := nI 2) hx hb dL_law_167 (by decide) ?_
  refine mi_iadd hx hb dL_law_168 ?_
  refine mi_as (show nI (0 + 2) = nI 2 from rfl) ?_
  refine va_sld hx hb hXs hbl hbA hS (vp_in_nI (N := 6) (by omega) (by omega)) dL_law_169 ?_
  refine mi_as hv2 ?_
  refine lv_aload_n hx hb dL_law_170 rfl (lv_at hl 5 rfl) ?_
  refine lv_iload hx hb dL_law_171 (lv_at hl 1 rfl) ?_
  refine lv_iconst (v := nI 3) hx hb dL_law_173 (by decide) ?_
  refine mi_iadd hx hb dL_law_174 ?_
  refine mi_as (show nI (0 + 3) = nI 3 from rfl) ?_
  refine va_sld hx hb hXs hbl hbA hS (vp_in_nI (N := 6) (by omega) (by omega)) dL_law_175 ?_
  refine mi_as hv3 ?_
  refine lv_aload_n hx hb dL_law_176 rfl (lv_at hl 5 rfl) ?_
  refine lv_iload hx hb dL_law_177 (lv_at hl 1 rfl) ?_
  refine lv_iconst (v := nI 4) hx hb dL_law_179 (by decide) ?_
  refine mi_iadd hx hb dL_law_180 ?_
  refine mi_as (show nI (0 + 4) = nI 4 from rfl) ?_
  refine va_sld hx hb hXs hbl hbA hS (vp_in_nI (N := 6) (by omega) (by omega)) dL_law_181 ?_
  refine mi_as hv4 ?_
  refine lv_aload_n hx hb dL_law_182 rfl (lv_at hl 5 rfl) ?_
  refine lv_iload hx hb dL_law_183 (lv_at hl 1 rfl) ?_
  refine lv_iconst (v := nI 5) hx hb dL_law_185 (by decide) ?_
  refine mi_iadd hx hb dL_law_186 ?_
  refine mi_as (show nI (0 + 5) = nI 5 from rfl) ?_
  refine va_sld hx hb hXs hbl hbA hS (vp_in_nI (N := 6) (by omega) (by omega)) dL_law_187 ?_
  refine mi_as hv5 ?_
  refine mc_i (wc := [(h1, .inr (8, [.int 0, .int 0, .int 0, .int 0, .ref (w 0), .ref (w 1), .ref (w 2), .ref (w 3), .ref (w 4), .ref (w 5), .ref (w 6), .ref (w 7), .ref (w 8), .ref (w 9)])), (w 0, .inl (g.2.1 1, 16384, .inl ((fun _ => 0))))]) (wr := [(a, .inl (g.2.1 2, 1, .inr (.inl u1)))]) hP hD hS hA [0, 1] [2] rfl rfl rfl (by decide) (va_runV (As := [.int v1, .int v2, .int v3, .int v4, .int v5]) (rest := []) F (m_M_feed l g _ h1 w v1 v2 v3 v4 v5) (cwV 5 hts (wg_app (wg_c kw_1573 (wg_c kw_1574 (wg_c kw_1575 (wg_c kw_9 wg_n)))) kw_1576) rfl rfl rfl (by decide +kernel) ⟨by decide, by decide⟩) (pr_V (en_ok g) (q0 := 0) hK hP hD hS hA hE [0, 1] rfl rfl rfl rfl) rfl rfl hl.1 rfl (lv_room (Nat.le_of_ble_eq_true rfl)) dL_law_188 ⟨(by decide), (by decide)⟩) (fun r2 u2 H locs hu2 hP hD hS => ?_)
  subst hu2
  have hP : va_P g.1 vcl [(a, .inl (g.2.1 2, 1, .inr (.inl u1))), (h1, .inr (8, [.int (nI 0), .int (nI 20), .int 0, .int 0, .ref (w 0), .ref (w 1), .ref (w 2), .ref (w 3), .ref (w 4), .ref (w 5), .ref (w 6), .ref (w 7), .ref (w 8), .ref (w 9)]))] _ := hP
  have hD : va_D _ [(a, .inl (g.2.1 2, 1, .inr (.inl u1))), (h1, .inr (8, [.int (nI 0), .int (nI 20), .int 0, .int 0, .ref (w 0), .ref (w 1), .ref (w 2), .ref (w 3), .ref (w 4), .ref (w 5), .ref (w 6), .ref (w 7), .ref (w 8), .ref (w 9)]))] := hD
  refine W.widen (k := 380) (n := 194479) (by omega) (by omega) ?_
  refine lv_istore (lv' := [(6, .int (nI 20)), (5, .int (nI 0)), (4, .int (nI 0)), (3, .ref a), (2, .ref h1), (1, .ref h0), (0, .ref b)]) hx hb dL_law_191 hl (by decide) rfl (fun ls hl => ?_)
  refine lv_aload_n hx hb dL_law_193 rfl (lv_at hl 4 rfl) ?_
  refine mr_i (wc := [(h1, .inr (8, [.int (nI 0), .int (nI 20), .int 0, .int 0, .ref (w 0), .ref (w 1), .ref (w 2), .ref (w 3), .ref (w 4), .ref (w 5), .ref (w 6), .ref (w 7), .ref (w 8), .ref (w 9)]))]) (wr := [(a, .inl (g.2.1 2, 1, .inr (.inl u1)))]) hP hD hS hA [1] [0] rfl rfl rfl (by decide) (va_runV (As := []) (rest := []) F (m_M_thrown l g _ h1 w (nI 0) (nI 20) 0 0) (cwV 0 hts (wg_app (wg_c kw_1569 (wg_c kw_1570 (wg_c kw_1571 (wg_c kw_9 wg_n)))) kw_1572) rfl rfl rfl (by decide +kernel) ⟨by decide, by decide⟩) (pr_V (en_ok g) (q0 := 1) hK hP hD hS hA hE [1] rfl rfl rfl rfl) rfl rfl hl.1 rfl (lv_room (Nat.le_of_ble_eq_true rfl)) dL_law_194 ⟨(by decide), (by decide)⟩) (fun r3 u3 H hu3 hP hD hS => ?_)
  subst hu3
  have hP : va_P g.1 vcl [(a, .inl (g.2.1 2, 1, .inr (.inl u1)))] _ := hP
  have hD : va_D _ [(a, .inl (g.2.1 2, 1, .inr (.inl u1)))] := hD
  refine W.widen (k := 380) (n := 194479) (by omega) (by omega) ?_
  refine lv_iload hx hb dL_law_197 (lv_at hl 1 rfl) ?_
  refine mi_eq (tgt := 204) hx hb dL_law_199 (by decide) (by omega) (by omega) (fun h21 => ?_) (fun h21 => absurd h21 (by omega))
  refine lv_iload hx hb dL_law_204 (lv_at hl 1 rfl) ?_
  refine lv_if_ne (tgt := 221) hx hb dL_law_206 (by decide) (fun h22 => absurd h22 (by decide)) (fun h22 => ?_)
  refine lv_aload_n hx hb dL_law_209 rfl (lv_at hl 3 rfl) ?_
  refine lv_iconst (v := nI 0) hx hb dL_law_210 (by decide) ?_
  refine va_lald hx hb hK hP 0 2 rfl rfl (vp_in_nI (by decide) (by decide)) dL_law_211 ?_
  refine ml_as (show u1 (nI 0).toNatClampNeg = (nI 20).toInt64 from ho1) ?_
  refine lv_iload hx hb dL_law_212 (lv_at hl 0 rfl) ?_
  refine lv_i2l (v := (nI 20).toInt64) hx hb dL_law_214 rfl ?_
  refine W.lcmp hx hb dL_law_215 ?_
  refine mi_as (lc_cmp _) ?_
  refine lv_if_eq (tgt := 221) hx hb dL_law_216 (by decide) (fun h23 => ?_) (fun h23 => absurd h23 (by decide))
  refine lv_goto (tgt := 1184) hx hb dL_law_221 (by decide) ?_
  exact law_end l C0 F hS (lv_subm hl [2, 6] rfl) (by decide) (by decide)
set_option maxHeartbeats 400000 in
set_option maxRecDepth 100000 in
theorem law_end0 {p : Program} {e : Env} {s : State} {m : MethodId} {below : List Frame} {meth : Method} {c : Code} (l : Launch) (htr : l.stackTraces = false) {b : Nat} {xs : Nat → Int32} (C0 : lw_At p s m meth c b 6 xs) (g : Gd) (F : CallFix p m c c_L_law 7 s #[Value.ref b] wL "LatticeKeysLaw") (hX : ex g (Alaw s) s s.heap) (h0 h1 a : Nat) (u w : Nat → Nat) (fa : Nat → Nat → Int64) (fu : Nat → Int32) (f : Nat → Int64) (hv1 : xs (nI 1).toNatClampNeg = nI 0) {H : Heap} {locs : List Loc} {ls : Array Slot} (hP : va_P g.1 vcl [(h0, .inr (0, [.ref (u 0), .int (nI 0), .ref (u 1), .int (nI 0), .ref (u 12), .int (nI 0), .ref (u 2), .ref (u 3), .ref (u 4), .ref (u 13), .ref (u 14)])), (h1, .inr (8, [.int 0, .int 0, .int 0, .int 0, .ref (w 0), .ref (w 1), .ref (w 2), .ref (w 3), .ref (w 4), .ref (w 5), .ref (w 6), .ref (w 7), .ref (w 8), .ref (w 9)])), (a, .inl (g.2.1 2, 1, .inr (.inl f)))] H) (hD : va_D (Alaw s) [(h0, .inr (0, [.ref (u 0), .int (nI 0), .ref (u 1), .int (nI 0), .ref (u 12), .int (nI 0), .ref (u 2), .ref (u 3), .ref (u 4), .ref (u 13), .ref (u 14)])), (h1, .inr (8, [.int 0, .int 0, .int 0, .int 0, .ref (w 0), .ref (w 1), .ref (w 2), .ref (w 3), .ref (w 4), .ref (w 5), .ref (w 6), .ref (w 7), .ref (w 8), .ref (w 9)])), (a, .inl (g.2.1 2, 1, .inr (.inl f)))]) (hS : va_S (Alaw s) s.heap H locs) (hl : lv_has ls 7 [(4, .int (nI 0)), (3, .ref a), (2, .ref h1), (1, .ref h0), (0, .ref b)]) : W p l e room_1 s m #[Value.ref b] below meth c H locs 380 194479 (lw_Z below #[Value.ref b] s) (F0 m 224 ls []) := by
  obtain ⟨hx, hb, hml, hown, hts⟩ := id F
  have hE := hX.1
  have hK := hE.1
  have hA : ∀ q, s.heap.size ≤ q → Alaw s q := fun _ h => h
  obtain ⟨-, -, hr, -, -, -, hXs, hbl, hlk, -⟩ := id C0
  have hbA : ¬ Alaw s b := fun h => Nat.not_lt.mpr h hbl
  refine lv_aload_n hx hb dL_law_224 rfl (lv_at hl 3 rfl) ?_
  refine lv_aload_n hx hb dL_law_225 rfl (lv_at hl 4 rfl) ?_
  refine lv_iload hx hb dL_law_226 (lv_at hl 0 rfl) ?_
  refine lv_iconst (v := nI 1) hx hb dL_law_228 (by decide) ?_
  refine mi_iadd hx hb dL_law_229 ?_
  refine mi_as (show nI (0 + 1) = nI 1 from rfl) ?_
  refine va_sld hx hb hXs hbl hbA hS (vp_in_nI (N := 6) (by omega) (by omega)) dL_law_230 ?_
  refine mi_as hv1 ?_
  refine lv_aload_n hx hb dL_law_231 rfl (lv_at hl 1 rfl) ?_
  refine mc_i (wc := [(h0, .inr (0, [.ref (u 0), .int (nI 0), .ref (u 1), .int (nI 0), .ref (u 12), .int (nI 0), .ref (u 2), .ref (u 3), .ref (u 4), .ref (u 13), .ref (u 14)])), (a, .inl (g.2.1 2, 1, .inr (.inl f)))]) (wr := [(h1, .inr (8, [.int 0, .int 0, .int 0, .int 0, .ref (w 0), .ref (w 1), .ref (w 2), .ref (w 3), .ref (w 4), .ref (w 5), .ref (w 6), .ref (w 7), .ref (w 8), .ref (w 9)]))]) hP hD hS hA [0, 2] [1] rfl rfl rfl (by decide) (lc_run (As := [.ref h0, .int (nI 0), .ref a]) (rest := []) F (lk_end l g _ h0 u a f) (lc_cw 3 hts (wg_app (wg_c kw_493 (wg_c kw_494 (wg_c kw_0 wg_n))) kw_495) rfl rfl rfl (by decide +kernel) ⟨by decide, by decide⟩) (pr_S (en_ok g) hP hD hS hA hE [0, 2] rfl rfl) rfl rfl hl.1 rfl (lv_room (Nat.le_of_ble_eq_true rfl)) dL_law_232 ⟨(by decide), (by decide)⟩) (fun r1 u1 H locs hu1 hP hD hS => ?_)
  obtain ⟨hr1, ho1⟩ := hu1
  subst hr1
  have hP : va_P g.1 vcl [(h1, .inr (8, [.int 0, .int 0, .int 0, .int 0, .ref (w 0), .ref (w 1), .ref (w 2), .ref (w 3), .ref (w 4), .ref (w 5), .ref (w 6), .ref (w 7), .ref (w 8), .ref (w 9)])), (a, .inl (g.2.1 2, 1, .inr (.inl u1)))] _ := hP
  have hD : va_D _ [(h1, .inr (8, [.int 0, .int 0, .int 0, .int 0, .ref (w 0), .ref (w 1), .ref (w 2), .ref (w 3), .ref (w 4), .ref (w 5), .ref (w 6), .ref (w 7), .ref (w 8), .ref (w 9)])), (a, .inl (g.2.1 2, 1, .inr (.inl u1)))] := hD
  refine W.widen (k := 380) (n := 194479) (by omega) (by omega) ?_
  refine lv_istore (lv' := [(5, .int (nI 0)), (4, .int (nI 0)), (3, .ref a), (2, .ref h1), (1, .ref h0), (0, .ref b)]) hx hb dL_law_235 hl (by decide) rfl (fun ls hl => ?_)
  refine lv_aload_n hx hb dL_law_237 rfl (lv_at hl 3 rfl) ?_
  refine lv_aload_n hx hb dL_law_238 rfl (lv_at hl 5 rfl) ?_
  refine lv_iload hx hb dL_law_239 (lv_at hl 1 rfl) ?_
  refine lv_iconst (v := nI 1) hx hb dL_law_241 (by decide) ?_
  refine mi_iadd hx hb dL_law_242 ?_
  refine mi_as (show nI (0 + 1) = nI 1 from rfl) ?_
  refine va_sld hx hb hXs hbl hbA hS (vp_in_nI (N := 6) (by omega) (by omega)) dL_law_243 ?_
  refine mi_as hv1 ?_
  refine mc_i (wc := [(h1, .inr (8, [.int 0, .int 0, .int 0, .int 0, .ref (w 0), .ref (w 1), .ref (w 2), .ref (w 3), .ref (w 4), .ref (w 5), .ref (w 6), .ref (w 7), .ref (w 8), .ref (w 9)]))]) (wr := [(a, .inl (g.2.1 2, 1, .inr (.inl u1)))]) hP hD hS hA [0] [1] rfl rfl rfl (by decide) (va_runV (As := [.int (nI 0)]) (rest := []) F (m_M_end0 l g _ h1 w) (cwV 1 hts (wg_app (wg_c kw_1585 (wg_c kw_1586 (wg_c kw_1587 (wg_c kw_9 wg_n)))) kw_1588) rfl rfl rfl (by decide +kernel) ⟨by decide, by decide⟩) (pr_V (en_ok g) (q0 := 0) hK hP hD hS hA hE [0] rfl rfl rfl rfl) rfl rfl hl.1 rfl (lv_room (Nat.le_of_ble_eq_true rfl)) dL_law_244 ⟨(by decide), (by decide)⟩) (fun r2 u2 H locs hu2 hP hD hS => ?_)
  subst hu2
  have hP : va_P g.1 vcl [(a, .inl (g.2.1 2, 1, .inr (.inl u1))), (h1, .inr (8, [.int (nI 0), .int (nI 0), .int 0, .int 0, .ref (w 0), .ref (w 1), .ref (w 2), .ref (w 3), .ref (w 4), .ref (w 5), .ref (w 6), .ref (w 7), .ref (w 8), .ref (w 9)]))] _ := hP
  have hD : va_D _ [(a, .inl (g.2.1 2, 1, .inr (.inl u1))), (h1, .inr (8, [.int (nI 0), .int (nI 0), .int 0, .int 0, .ref (w 0), .ref (w 1), .ref (w 2), .ref (w 3), .ref (w 4), .ref (w 5), .ref (w 6), .ref (w 7), .ref (w 8), .ref (w 9)]))] := hD
  refine W.widen (k := 380) (n := 194479) (by omega) (by omega) ?_
  refine lv_istore (lv' := [(6, .int (nI 0)), (5, .int (nI 0)), (4, .int (nI 0)), (3, .ref a), (2, .ref h1), (1, .ref h0), (0, .ref b)]) hx hb dL_law_247 hl (by decide) rfl (fun ls hl => ?_)
  refine lv_aload_n hx hb dL_law_249 rfl (lv_at hl 4 rfl) ?_
  refine mr_i (wc := [(h1, .inr (8, [.int (nI 0), .int (nI 0), .int 0, .int 0, .ref (w 0), .ref (w 1), .ref (w 2), .ref (w 3), .ref (w 4), .ref (w 5), .ref (w 6), .ref (w 7), .ref (w 8), .ref (w 9)]))]) (wr := [(a, .inl (g.2.1 2, 1, .inr (.inl u1)))]) hP hD hS hA [1] [0] rfl rfl rfl (by decide) (va_runV (As := []) (rest := []) F (m_M_thrown l g _ h1 w (nI 0) (nI 0) 0 0) (cwV 0 hts (wg_app (wg_c kw_1569 (wg_c kw_1570 (wg_c kw_1571 (wg_c kw_9 wg_n)))) kw_1572) rfl rfl rfl (by decide +kernel) ⟨by decide, by decide⟩) (pr_V (en_ok g) (q0 := 1) hK hP hD hS hA hE [1] rfl rfl rfl rfl) rfl rfl hl.1 rfl (lv_room (Nat.le_of_ble_eq_true rfl)) dL_law_250 ⟨(by decide), (by decide)⟩) (fun r3 u3 H hu3 hP hD hS => ?_)
  subst hu3
  have hP : va_P g.1 vcl [(a, .inl (g.2.1 2, 1, .inr (.inl u1)))] _ := hP
  have hD : va_D _ [(a, .inl (g.2.1 2, 1, .inr (.inl u1)))] := hD
  refine W.widen (k := 380) (n := 194479) (by omega) (by omega) ?_
  refine lv_iload hx hb dL_law_253 (lv_at hl 1 rfl) ?_
  refine mi_eq (tgt := 260) hx hb dL_law_255 (by decide) (by omega) (by omega) (fun h21 => ?_) (fun h21 => absurd h21 (by omega))
  refine lv_iload hx hb dL_law_260 (lv_at hl 1 rfl) ?_
  refine lv_if_ne (tgt := 277) hx hb dL_law_262 (by decide) (fun h22 => absurd h22 (by decide)) (fun h22 => ?_)
  refine lv_aload_n hx hb dL_law_265 rfl (lv_at hl 3 rfl) ?_
  refine lv_iconst (v := nI 0) hx hb dL_law_266 (by decide) ?_
  refine va_lald hx hb hK hP 0 2 rfl rfl (vp_in_nI (by decide) (by decide)) dL_law_267 ?_
  refine ml_as (show u1 (nI 0).toNatClampNeg = (nI 0).toInt64 from ho1) ?_
  refine lv_iload hx hb dL_law_268 (lv_at hl 0 rfl) ?_
  refine lv_i2l (v := (nI 0).toInt64) hx hb dL_law_270 rfl ?_
  refine W.lcmp hx hb dL_law_271 ?_
  refine mi_as (lc_cmp _) ?_
  refine lv_if_eq (tgt := 277) hx hb dL_law_272 (by decide) (fun h23 => ?_) (fun h23 => absurd h23 (by decide))
  refine lv_goto (tgt := 1184) hx hb dL_law_277 (by decide) ?_
  exact law_end l C0 F hS (lv_subm hl [2, 6] rfl) (by decide) (by decide)
set_option maxHeartbeats 400000 in
set_option maxRecDepth 100000 in
theorem law_endx {p : Program} {e : Env} {s : State} {m : MethodId} {below : List Frame} {meth : Method} {c : Code} (l : Launch) (htr : l.stackTraces = false) {b : Nat} {xs : Nat → Int32} (C0 : lw_At p s m meth c b 6 xs) (g : Gd) (F : CallFix p m c c_L_law 7 s #[Value.ref b] wL "LatticeKeysLaw") (hX : ex g (Alaw s) s s.heap) (h0 h1 a : Nat) (u w : Nat → Nat) (fa : Nat → Nat → Int64) (fu : Nat → Int32) (f : Nat → Int64) (v1 : Int32) (hv1 : xs (nI 1).toNatClampNeg = v1) (hn : ¬ v1 = 0) {H : Heap} {locs : List Loc} {ls : Array Slot} (hP : va_P g.1 vcl [(h0, .inr (0, [.ref (u 0), .int (nI 0), .ref (u 1), .int (nI 0), .ref (u 12), .int (nI 0), .ref (u 2), .ref (u 3), .ref (u 4), .ref (u 13), .ref (u 14)])), (h1, .inr (8, [.int 0, .int 0, .int 0, .int 0, .ref (w 0), .ref (w 1), .ref (w 2), .ref (w 3), .ref (w 4), .ref (w 5), .ref (w 6), .ref (w 7), .ref (w 8), .ref (w 9)])), (a, .inl (g.2.1 2, 1, .inr (.inl f)))] H) (hD : va_D (Alaw s) [(h0, .inr (0, [.ref (u 0), .int (nI 0), .ref (u 1), .int (nI 0), .ref (u 12), .int (nI 0), .ref (u 2), .ref (u 3), .ref (u 4), .ref (u 13), .ref (u 14)])), (h1, .inr (8, [.int 0, .int 0, .int 0, .int 0, .ref (w 0), .ref (w 1), .ref (w 2), .ref (w 3), .ref (w 4), .ref (w 5), .ref (w 6), .ref (w 7), .ref (w 8), .ref (w 9)])), (a, .inl (g.2.1 2, 1, .inr (.inl f)))]) (hS : va_S (Alaw s) s.heap H locs) (hl : lv_has ls 7 [(4, .int (nI 0)), (3, .ref a), (2, .ref h1), (1, .ref h0), (0, .ref b)]) : W p l e room_1 s m #[Value.ref b] below meth c H locs 380 194479 (lw_Z below #[Value.ref b] s) (F0 m 224 ls []) := by
  obtain ⟨hx, hb, hml, hown, hts⟩ := id F
  have hE := hX.1
  have hK := hE.1
  have hA : ∀ q, s.heap.size ≤ q → Alaw s q := fun _ h => h
  obtain ⟨-, -, hr, -, -, -, hXs, hbl, hlk, -⟩ := id C0
  have hbA : ¬ Alaw s b := fun h => Nat.not_lt.mpr h hbl
  refine lv_aload_n hx hb dL_law_224 rfl (lv_at hl 3 rfl) ?_
  refine lv_aload_n hx hb dL_law_225 rfl (lv_at hl 4 rfl) ?_
  refine lv_iload hx hb dL_law_226 (lv_at hl 0 rfl) ?_
  refine lv_iconst (v := nI 1) hx hb dL_law_228 (by decide) ?_
  refine mi_iadd hx hb dL_law_229 ?_
  refine mi_as (show nI (0 + 1) = nI 1 from rfl) ?_
  refine va_sld hx hb hXs hbl hbA hS (vp_in_nI (N := 6) (by omega) (by omega)) dL_law_230 ?_
  refine mi_as hv1 ?_
  refine lv_aload_n hx hb dL_law_231 rfl (lv_at hl 1 rfl) ?_
  refine mc_i (wc := [(h0, .inr (0, [.ref (u 0), .int (nI 0), .ref (u 1), .int (nI 0), .ref (u 12), .int (nI 0), .ref (u 2), .ref (u 3), .ref (u 4), .ref (u 13), .ref (u 14)])), (a, .inl (g.2.1 2, 1, .inr (.inl f)))]) (wr := [(h1, .inr (8, [.int 0, .int 0, .int 0, .int 0, .ref (w 0), .ref (w 1), .ref (w 2), .ref (w 3), .ref (w 4), .ref (w 5), .ref (w 6), .ref (w 7), .ref (w 8), .ref (w 9)]))]) hP hD hS hA [0, 2] [1] rfl rfl rfl (by decide) (lc_run (As := [.ref h0, .int v1, .ref a]) (rest := []) F (lx_end l htr g _ h0 u v1 a f hn) (lc_cw 3 hts (wg_app (wg_c kw_493 (wg_c kw_494 (wg_c kw_0 wg_n))) kw_495) rfl rfl rfl (by decide +kernel) ⟨by decide, by decide⟩) (pr_S (ex_ok g) hP hD hS hA hX [0, 2] rfl rfl) rfl rfl hl.1 rfl (lv_room (Nat.le_of_ble_eq_true rfl)) dL_law_232 ⟨(by decide), (by decide)⟩) (fun r1 u1 H locs hu1 hP hD hS => ?_)
  subst hu1
  have hP : va_P g.1 vcl [(h1, .inr (8, [.int 0, .int 0, .int 0, .int 0, .ref (w 0), .ref (w 1), .ref (w 2), .ref (w 3), .ref (w 4), .ref (w 5), .ref (w 6), .ref (w 7), .ref (w 8), .ref (w 9)])), (a, .inl (g.2.1 2, 1, .inr (.inl f)))] _ := hP
  have hD : va_D _ [(h1, .inr (8, [.int 0, .int 0, .int 0, .int 0, .ref (w 0), .ref (w 1), .ref (w 2), .ref (w 3), .ref (w 4), .ref (w 5), .ref (w 6), .ref (w 7), .ref (w 8), .ref (w 9)])), (a, .inl (g.2.1 2, 1, .inr (.inl f)))] := hD
  refine W.widen (k := 381) (n := 194485) (by decide) (by decide) ?_
  refine lv_istore (lv' := [(5, .int (nI 1)), (4, .int (nI 0)), (3, .ref a), (2, .ref h1), (1, .ref h0), (0, .ref b)]) hx hb dL_law_235 hl (by decide) rfl (fun ls hl => ?_)
  refine lv_aload_n hx hb dL_law_237 rfl (lv_at hl 3 rfl) ?_
  refine lv_aload_n hx hb dL_law_238 rfl (lv_at hl 5 rfl) ?_
  refine lv_iload hx hb dL_law_239 (lv_at hl 1 rfl) ?_
  refine lv_iconst (v := nI 1) hx hb dL_law_241 (by decide) ?_
  refine mi_iadd hx hb dL_law_242 ?_
  refine mi_as (show nI (0 + 1) = nI 1 from rfl) ?_
  refine va_sld hx hb hXs hbl hbA hS (vp_in_nI (N := 6) (by omega) (by omega)) dL_law_243 ?_
  refine mi_as hv1 ?_
  refine mc_i (wc := [(h1, .inr (8, [.int 0, .int 0, .int 0, .int 0, .ref (w 0), .ref (w 1), .ref (w 2), .ref (w 3), .ref (w 4), .ref (w 5), .ref (w 6), .ref (w 7), .ref (w 8), .ref (w 9)]))]) (wr := [(a, .inl (g.2.1 2, 1, .inr (.inl f)))]) hP hD hS hA [0] [1] rfl rfl rfl (by decide) (va_runV (As := [.int v1]) (rest := []) F (x_M_end l g _ h1 w v1 hn) (cwV 1 hts (wg_app (wg_c kw_1585 (wg_c kw_1586 (wg_c kw_1587 (wg_c kw_9 wg_n)))) kw_1588) rfl rfl rfl (by decide +kernel) ⟨by decide, by decide⟩) (pr_V (en_ok g) (q0 := 0) hK hP hD hS hA hE [0] rfl rfl rfl rfl) rfl rfl hl.1 rfl (lv_room (Nat.le_of_ble_eq_true rfl)) dL_law_244 ⟨(by decide), (by decide)⟩) (fun r2 u2 H locs hu2 hP hD hS => ?_)
  subst hu2
  have hP : va_P g.1 vcl [(a, .inl (g.2.1 2, 1, .inr (.inl f))), (h1, .inr (8, [.int (nI 1), .int 0, .int 0, .int 0, .ref (w 0), .ref (w 1), .ref (w 2), .ref (w 3), .ref (w 4), .ref (w 5), .ref (w 6), .ref (w 7), .ref (w 8), .ref (w 9)]))] _ := hP
  have hD : va_D _ [(a, .inl (g.2.1 2, 1, .inr (.inl f))), (h1, .inr (8, [.int (nI 1), .int 0, .int 0, .int 0, .ref (w 0), .ref (w 1), .ref (w 2), .ref (w 3), .ref (w 4), .ref (w 5), .ref (w 6), .ref (w 7), .ref (w 8), .ref (w 9)]))] := hD
  refine W.widen (k := 381) (n := 194485) (by omega) (by omega) ?_
  refine lv_istore (lv' := [(6, .int (nI 0)), (5, .int (nI 1)), (4, .int (nI 0)), (3, .ref a), (2, .ref h1), (1, .ref h0), (0, .ref b)]) hx hb dL_law_247 hl (by decide) rfl (fun ls hl => ?_)
  refine lv_aload_n hx hb dL_law_249 rfl (lv_at hl 4 rfl) ?_
  refine mr_i (wc := [(h1, .inr (8, [.int (nI 1), .int 0, .int 0, .int 0, .ref (w 0), .ref (w 1), .ref (w 2), .ref (w 3), .ref (w 4), .ref (w 5), .ref (w 6), .ref (w 7), .ref (w 8), .ref (w 9)]))]) (wr := [(a, .inl (g.2.1 2, 1, .inr (.inl f)))]) hP hD hS hA [1] [0] rfl rfl rfl (by decide) (va_runV (As := []) (rest := []) F (m_M_thrown l g _ h1 w (nI 1) 0 0 0) (cwV 0 hts (wg_app (wg_c kw_1569 (wg_c kw_1570 (wg_c kw_1571 (wg_c kw_9 wg_n)))) kw_1572) rfl rfl rfl (by decide +kernel) ⟨by decide, by decide⟩) (pr_V (en_ok g) (q0 := 1) hK hP hD hS hA hE [1] rfl rfl rfl rfl) rfl rfl hl.1 rfl (lv_room (Nat.le_of_ble_eq_true rfl)) dL_law_250 ⟨(by decide), (by decide)⟩) (fun r3 u3 H hu3 hP hD hS => ?_)
  subst hu3
  have hP : va_P g.1 vcl [(a, .inl (g.2.1 2, 1, .inr (.inl f)))] _ := hP
  have hD : va_D _ [(a, .inl (g.2.1 2, 1, .inr (.inl f)))] := hD
  refine W.widen (k := 381) (n := 194485) (by omega) (by omega) ?_
  refine lv_iload hx hb dL_law_253 (lv_at hl 1 rfl) ?_
  refine mi_eq (tgt := 260) hx hb dL_law_255 (by decide) (by omega) (by omega) (fun h21 => ?_) (fun h21 => absurd h21 (by omega))
  refine lv_iload hx hb dL_law_260 (lv_at hl 1 rfl) ?_
  refine lv_if_ne (tgt := 277) hx hb dL_law_262 (by decide) (fun h22 => ?_) (fun h22 => absurd h22 (by decide))
  refine lv_goto (tgt := 1184) hx hb dL_law_277 (by decide) ?_
  exact law_end l C0 F hS (lv_subm hl [2, 6] rfl) (by decide) (by decide)
set_option maxHeartbeats 400000 in
set_option maxRecDepth 100000 in
theorem law_again {p : Program} {e : Env} {s : State} {m : MethodId} {below : List Frame} {meth : Method} {c : Code} (l : Launch) (htr : l.stackTraces = false) {b : Nat} {xs : Nat → Int32} (C0 : lw_At p s m meth c b 6 xs) (g : Gd) (F : CallFix p m c c_L_law 7 s #[Value.ref b] wL "LatticeKeysLaw") (hX : ex g (Alaw s) s s.heap) (h0 h1 a : Nat) (u w : Nat → Nat) (fa : Nat → Nat → Int64) (fu : Nat → Int32) (f : Nat → Int64) {H : Heap} {locs : List Loc} {ls : Array Slot} (hP : va_P g.1 vcl [(h0, .inr (0, [.ref (u 0), .int (nI 0), .ref (u 1), .int (nI 0), .ref (u 12), .int (nI 0), .ref (u 2), .ref (u 3), .ref (u 4), .ref (u 13), .ref (u 14)])), (u 0, .inl (g.2.1 1, 16384, .inl ((fun _ => 0)))), (u 1, .inl (g.2.1 1, 8192, .inl ((fun _ => 0)))), (h1, .inr (8, [.int 0, .int 0, .int 0, .int 0, .ref (w 0), .ref (w 1), .ref (w 2), .ref (w 3), .ref (w 4), .ref (w 5), .ref (w 6), .ref (w 7), .ref (w 8), .ref (w 9)])), (a, .inl (g.2.1 2, 1, .inr (.inl f)))] H) (hD : va_D (Alaw s) [(h0, .inr (0, [.ref (u 0), .int (nI 0), .ref (u 1), .int (nI 0), .ref (u 12), .int (nI 0), .ref (u 2), .ref (u 3), .ref (u 4), .ref (u 13), .ref (u 14)])), (u 0, .inl (g.2.1 1, 16384, .inl ((fun _ => 0)))), (u 1, .inl (g.2.1 1, 8192, .inl ((fun _ => 0)))), (h1, .inr (8, [.int 0, .int 0, .int 0, .int 0, .ref (w 0), .ref (w 1), .ref (w 2), .ref (w 3), .ref (w 4), .ref (w 5), .ref (w 6), .ref (w 7), .ref (w 8), .ref (w 9)])), (a, .inl (g.2.1 2, 1, .inr (.inl f)))]) (hS : va_S (Alaw s) s.heap H locs) (hl : lv_has ls 7 [(4, .int (nI 0)), (3, .ref a), (2, .ref h1), (1, .ref h0), (0, .ref b)]) : W p l e room_1 s m #[Value.ref b] below meth c H locs 380 194479 (lw_Z below #[Value.ref b] s) (F0 m 280 ls []) := by
  obtain ⟨hx, hb, hml, hown, hts⟩ := id F
  have hE := hX.1
  have hK := hE.1
  have hA : ∀ q, s.heap.size ≤ q → Alaw s q := fun _ h => h
  obtain ⟨-, -, hr, -, -, -, hXs, hbl, hlk, -⟩ := id C0
  have hbA : ¬ Alaw s b := fun h => Nat.not_lt.mpr h hbl
  refine lv_aload_n hx hb dL_law_280 rfl (lv_at hl 3 rfl) ?_
  refine lv_aload_n hx hb dL_law_281 rfl (lv_at hl 1 rfl) ?_
  refine mc_i (wc := [(h0, .inr (0, [.ref (u 0), .int (nI 0), .ref (u 1), .int (nI 0), .ref (u 12), .int (nI 0), .ref (u 2), .ref (u 3), .ref (u 4), .ref (u 13), .ref (u 14)])), (u 0, .inl (g.2.1 1, 16384, .inl ((fun _ => 0)))), (u 1, .inl (g.2.1 1, 8192, .inl ((fun _ => 0)))), (a, .inl (g.2.1 2, 1, .inr (.inl f)))]) (wr := [(h1, .inr (8, [.int 0, .int 0, .int 0, .int 0, .ref (w 0), .ref (w 1), .ref (w 2), .ref (w 3), .ref (w 4), .ref (w 5), .ref (w 6), .ref (w 7), .ref (w 8), .ref (w 9)]))]) hP hD hS hA [0, 1, 2, 4] [3] rfl rfl rfl (by decide) (lc_run (As := [.ref h0, .ref a]) (rest := []) F (lk_again l g _ h0 u a f) (lc_cw 2 hts (wg_app (wg_c kw_517 (wg_c kw_518 (wg_c kw_0 wg_n))) kw_519) rfl rfl rfl (by decide +kernel) ⟨by decide, by decide⟩) (pr_S (en_ok g) hP hD hS hA hE [0, 1, 2, 4] rfl rfl) rfl rfl hl.1 rfl (lv_room (Nat.le_of_ble_eq_true rfl)) dL_law_282 ⟨(by decide), (by decide)⟩) (fun r1 u1 H locs hu1 hP hD hS => ?_)
  obtain ⟨hr1, ho1⟩ := hu1
  subst hr1
  have hP : va_P g.1 vcl [(h1, .inr (8, [.int 0, .int 0, .int 0, .int 0, .ref (w 0), .ref (w 1), .ref (w 2), .ref (w 3), .ref (w 4), .ref (w 5), .ref (w 6), .ref (w 7), .ref (w 8), .ref (w 9)])), (a, .inl (g.2.1 2, 1, .inr (.inl u1)))] _ := hP
  have hD : va_D _ [(h1, .inr (8, [.int 0, .int 0, .int 0, .int 0, .ref (w 0), .ref (w 1), .ref (w 2), .ref (w 3), .ref (w 4), .ref (w 5), .ref (w 6), .ref (w 7), .ref (w 8), .ref (w 9)])), (a, .inl (g.2.1 2, 1, .inr (.inl u1)))] := hD
  refine W.widen (k := 380) (n := 194479) (by omega) (by omega) ?_
  refine lv_istore (lv' := [(5, .int (nI 0)), (4, .int (nI 0)), (3, .ref a), (2, .ref h1), (1, .ref h0), (0, .ref b)]) hx hb dL_law_285 hl (by decide) rfl (fun ls hl => ?_)
  refine lv_aload_n hx hb dL_law_287 rfl (lv_at hl 3 rfl) ?_
  refine mc_i (wc := [(h1, .inr (8, [.int 0, .int 0, .int 0, .int 0, .ref (w 0), .ref (w 1), .ref (w 2), .ref (w 3), .ref (w 4), .ref (w 5), .ref (w 6), .ref (w 7), .ref (w 8), .ref (w 9)]))]) (wr := [(a, .inl (g.2.1 2, 1, .inr (.inl u1)))]) hP hD hS hA [0] [1] rfl rfl rfl (by decide) (va_runV (As := []) (rest := []) F (m_M_again l g _ h1 w) (cwV 0 hts (wg_app (wg_c kw_1589 (wg_c kw_1590 (wg_c kw_1591 (wg_c kw_9 wg_n)))) kw_1592) rfl rfl rfl (by decide +kernel) ⟨by decide, by decide⟩) (pr_V (en_ok g) (q0 := 0) hK hP hD hS hA hE [0] rfl rfl rfl rfl) rfl rfl hl.1 rfl (lv_room (Nat.le_of_ble_eq_true rfl)) dL_law_288 ⟨(by decide), (by decide)⟩) (fun r2 u2 H locs hu2 hP hD hS => ?_)
  subst hu2
  have hP : va_P g.1 vcl [(a, .inl (g.2.1 2, 1, .inr (.inl u1))), (h1, .inr (8, [.int (nI 0), .int (nI 0), .int 0, .int 0, .ref (w 0), .ref (w 1), .ref (w 2), .ref (w 3), .ref (w 4), .ref (w 5), .ref (w 6), .ref (w 7), .ref (w 8), .ref (w 9)]))] _ := hP
  have hD : va_D _ [(a, .inl (g.2.1 2, 1, .inr (.inl u1))), (h1, .inr (8, [.int (nI 0), .int (nI 0), .int 0, .int 0, .ref (w 0), .ref (w 1), .ref (w 2), .ref (w 3), .ref (w 4), .ref (w 5), .ref (w 6), .ref (w 7), .ref (w 8), .ref (w 9)]))] := hD
  refine W.widen (k := 380) (n := 194479) (by omega) (by omega) ?_
  refine lv_istore (lv' := [(6, .int (nI 0)), (5, .int (nI 0)), (4, .int (nI 0)), (3, .ref a), (2, .ref h1), (1, .ref h0), (0, .ref b)]) hx hb dL_law_291 hl (by decide) rfl (fun ls hl => ?_)
  refine lv_aload_n hx hb dL_law_293 rfl (lv_at hl 4 rfl) ?_
  refine mr_i (wc := [(h1, .inr (8, [.int (nI 0), .int (nI 0), .int 0, .int 0, .ref (w 0), .ref (w 1), .ref (w 2), .ref (w 3), .ref (w 4), .ref (w 5), .ref (w 6), .ref (w 7), .ref (w 8), .ref (w 9)]))]) (wr := [(a, .inl (g.2.1 2, 1, .inr (.inl u1)))]) hP hD hS hA [1] [0] rfl rfl rfl (by decide) (va_runV (As := []) (rest := []) F (m_M_thrown l g _ h1 w (nI 0) (nI 0) 0 0) (cwV 0 hts (wg_app (wg_c kw_1569 (wg_c kw_1570 (wg_c kw_1571 (wg_c kw_9 wg_n)))) kw_1572) rfl rfl rfl (by decide +kernel) ⟨by decide, by decide⟩) (pr_V (en_ok g) (q0 := 1) hK hP hD hS hA hE [1] rfl rfl rfl rfl) rfl rfl hl.1 rfl (lv_room (Nat.le_of_ble_eq_true rfl)) dL_law_294 ⟨(by decide), (by decide)⟩) (fun r3 u3 H hu3 hP hD hS => ?_)
  subst hu3
  have hP : va_P g.1 vcl [(a, .inl (g.2.1 2, 1, .inr (.inl u1)))] _ := hP
  have hD : va_D _ [(a, .inl (g.2.1 2, 1, .inr (.inl u1)))] := hD
  refine W.widen (k := 380) (n := 194479) (by omega) (by omega) ?_
  refine lv_iload hx hb dL_law_297 (lv_at hl 1 rfl) ?_
  refine mi_eq (tgt := 304) hx hb dL_law_299 (by decide) (by omega) (by omega) (fun h21 => ?_) (fun h21 => absurd h21 (by omega))
  refine lv_iload hx hb dL_law_304 (lv_at hl 1 rfl) ?_
  refine lv_if_ne (tgt := 321) hx hb dL_law_306 (by decide) (fun h22 => absurd h22 (by decide)) (fun h22 => ?_)
  refine lv_aload_n hx hb dL_law_309 rfl (lv_at hl 3 rfl) ?_
  refine lv_iconst (v := nI 0) hx hb dL_law_310 (by decide) ?_
  refine va_lald hx hb hK hP 0 2 rfl rfl (vp_in_nI (by decide) (by decide)) dL_law_311 ?_
  refine ml_as (show u1 (nI 0).toNatClampNeg = (nI 0).toInt64 from ho1) ?_
  refine lv_iload hx hb dL_law_312 (lv_at hl 0 rfl) ?_
  refine lv_i2l (v := (nI 0).toInt64) hx hb dL_law_314 rfl ?_
  refine W.lcmp hx hb dL_law_315 ?_
  refine mi_as (lc_cmp _) ?_
  refine lv_if_eq (tgt := 321) hx hb dL_law_316 (by decide) (fun h23 => ?_) (fun h23 => absurd h23 (by decide))
  refine lv_goto (tgt := 1184) hx hb dL_law_321 (by decide) ?_
  exact law_end l C0 F hS (lv_subm hl [2, 6] rfl) (by decide) (by decide)
set_option maxHeartbeats 400000 in
set_option maxRecDepth 100000 in
theorem law_alter {p : Program} {e : Env} {s : State} {m : MethodId} {below : List Frame} {meth : Method} {c : Code} (l : Launch) (htr : l.stackTraces = false) {b : Nat} {xs : Nat → Int32} (C0 : lw_At p s m meth c b 6 xs) (g : Gd) (F : CallFix p m c c_L_law 7 s #[Value.ref b] wL "LatticeKeysLaw") (hX : ex g (Alaw s) s s.heap) (h0 h1 a : Nat) (u w : Nat → Nat) (fa : Nat → Nat → Int64) (fu : Nat → Int32) (f : Nat → Int64) (v1 : Int32) (v2 : Int32) (hv1 : xs (nI 1).toNatClampNeg = v1) (hv2 : xs (nI 2).toNatClampNeg = v2) {H : Heap} {locs : List Loc} {ls : Array Slot} (hP : va_P g.1 vcl [(h0, .inr (0, [.ref (u 0), .int (nI 0), .ref (u 1), .int (nI 0), .ref (u 12), .int (nI 0), .ref (u 2), .ref (u 3), .ref (u 4), .ref (u 13), .ref (u 14)])), (h1, .inr (8, [.int 0, .int 0, .int 0, .int 0, .ref (w 0), .ref (w 1), .ref (w 2), .ref (w 3), .ref (w 4), .ref (w 5), .ref (w 6), .ref (w 7), .ref (w 8), .ref (w 9)])), (a, .inl (g.2.1 2, 1, .inr (.inl f)))] H) (hD : va_D (Alaw s) [(h0, .inr (0, [.ref (u 0), .int (nI 0), .ref (u 1), .int (nI 0), .ref (u 12), .int (nI 0), .ref (u 2), .ref (u 3), .ref (u 4), .ref (u 13), .ref (u 14)])), (h1, .inr (8, [.int 0, .int 0, .int 0, .int 0, .ref (w 0), .ref (w 1), .ref (w 2), .ref (w 3), .ref (w 4), .ref (w 5), .ref (w 6), .ref (w 7), .ref (w 8), .ref (w 9)])), (a, .inl (g.2.1 2, 1, .inr (.inl f)))]) (hS : va_S (Alaw s) s.heap H locs) (hl : lv_has ls 7 [(4, .int (nI 0)), (3, .ref a), (2, .ref h1), (1, .ref h0), (0, .ref b)]) : W p l e room_1 s m #[Value.ref b] below meth c H locs 380 194479 (lw_Z below #[Value.ref b] s) (F0 m 324 ls []) := by
  obtain ⟨hx, hb, hml, hown, hts⟩ := id F
  have hE := hX.1
  have hK := hE.1
  have hA : ∀ q, s.heap.size ≤ q → Alaw s q := fun _ h => h
  obtain ⟨-, -, hr, -, -, -, hXs, hbl, hlk, -⟩ := id C0
  have hbA : ¬ Alaw s b := fun h => Nat.not_lt.mpr h hbl
  refine lv_aload_n hx hb dL_law_324 rfl (lv_at hl 3 rfl) ?_
  refine lv_aload_n hx hb dL_law_325 rfl (lv_at hl 4 rfl) ?_
  refine lv_iload hx hb dL_law_326 (lv_at hl 0 rfl) ?_
  refine lv_iconst (v := nI 1) hx hb dL_law_328 (by decide) ?_
  refine mi_iadd hx hb dL_law_329 ?_
  refine mi_as (show nI (0 + 1) = nI 1 from rfl) ?_
  refine va_sld hx hb hXs hbl hbA hS (vp_in_nI (N := 6) (by omega) (by omega)) dL_law_330 ?_
  refine mi_as hv1 ?_
  refine lv_aload_n hx hb dL_law_331 rfl (lv_at hl 4 rfl) ?_
  refine lv_iload hx hb dL_law_332 (lv_at hl 0 rfl) ?_
  refine lv_iconst (v := nI 2) hx hb dL_law_334 (by decide) ?_
  refine mi_iadd hx hb dL_law_335 ?_
  refine mi_as (show nI (0 + 2) = nI 2 from rfl) ?_
  refine va_sld hx hb hXs hbl hbA hS (vp_in_nI (N := 6) (by omega) (by omega)) dL_law_336 ?_
  refine mi_as hv2 ?_
  refine lv_aload_n hx hb dL_law_337 rfl (lv_at hl 1 rfl) ?_
  refine mc_i (wc := [(h0, .inr (0, [.ref (u 0), .int (nI 0), .ref (u 1), .int (nI 0), .ref (u 12), .int (nI 0), .ref (u 2), .ref (u 3), .ref (u 4), .ref (u 13), .ref (u 14)])), (a, .inl (g.2.1 2, 1, .inr (.inl f)))]) (wr := [(h1, .inr (8, [.int 0, .int 0, .int 0, .int 0, .ref (w 0), .ref (w 1), .ref (w 2), .ref (w 3), .ref (w 4), .ref (w 5), .ref (w 6), .ref (w 7), .ref (w 8), .ref (w 9)]))]) hP hD hS hA [0, 2] [1] rfl rfl rfl (by decide) (lc_run (As := [.ref h0, .int v1, .int v2, .ref a]) (rest := []) F (lx_alter l htr g _ h0 u v1 v2 a f) (lc_cw 4 hts (wg_app (wg_c kw_527 (wg_c kw_528 (wg_c kw_0 wg_n))) kw_529) rfl rfl rfl (by decide +kernel) ⟨by decide, by decide⟩) (pr_S (ex_ok g) hP hD hS hA hX [0, 2] rfl rfl) rfl rfl hl.1 rfl (lv_room (Nat.le_of_ble_eq_true rfl)) dL_law_338 ⟨(by decide), (by decide)⟩) (fun r1 u1 H locs hu1 hP hD hS => ?_)
  subst hu1
  have hP : va_P g.1 vcl [(h1, .inr (8, [.int 0, .int 0, .int 0, .int 0, .ref (w 0), .ref (w 1), .ref (w 2), .ref (w 3), .ref (w 4), .ref (w 5), .ref (w 6), .ref (w 7), .ref (w 8), .ref (w 9)])), (a, .inl (g.2.1 2, 1, .inr (.inl f)))] _ := hP
  have hD : va_D _ [(h1, .inr (8, [.int 0, .int 0, .int 0, .int 0, .ref (w 0), .ref (w 1), .ref (w 2), .ref (w 3), .ref (w 4), .ref (w 5), .ref (w 6), .ref (w 7), .ref (w 8), .ref (w 9)])), (a, .inl (g.2.1 2, 1, .inr (.inl f)))] := hD
  refine W.widen (k := 381) (n := 194485) (by decide) (by decide) ?_
  refine lv_istore (lv' := [(5, .int (nI 1)), (4, .int (nI 0)), (3, .ref a), (2, .ref h1), (1, .ref h0), (0, .ref b)]) hx hb dL_law_341 hl (by decide) rfl (fun ls hl => ?_)
  refine lv_aload_n hx hb dL_law_343 rfl (lv_at hl 3 rfl) ?_
  refine lv_aload_n hx hb dL_law_344 rfl (lv_at hl 5 rfl) ?_
  refine lv_iload hx hb dL_law_345 (lv_at hl 1 rfl) ?_
  refine lv_iconst (v := nI 1) hx hb dL_law_347 (by decide) ?_
  refine mi_iadd hx hb dL_law_348 ?_
  refine mi_as (show nI (0 + 1) = nI 1 from rfl) ?_
  refine va_sld hx hb hXs hbl hbA hS (vp_in_nI (N := 6) (by omega) (by omega)) dL_law_349 ?_
  refine mi_as hv1 ?_
  refine lv_aload_n hx hb dL_law_350 rfl (lv_at hl 5 rfl) ?_
  refine lv_iload hx hb dL_law_351 (lv_at hl 1 rfl) ?_
  refine lv_iconst (v := nI 2) hx hb dL_law_353 (by decide) ?_
  refine mi_iadd hx hb dL_law_354 ?_
  refine mi_as (show nI (0 + 2) = nI 2 from rfl) ?_
  refine va_sld hx hb hXs hbl hbA hS (vp_in_nI (N := 6) (by omega) (by omega)) dL_law_355 ?_
  refine mi_as hv2 ?_
  refine mc_i (wc := [(h1, .inr (8, [.int 0, .int 0, .int 0, .int 0, .ref (w 0), .ref (w 1), .ref (w 2), .ref (w 3), .ref (w 4), .ref (w 5), .ref (w 6), .ref (w 7), .ref (w 8), .ref (w 9)]))]) (wr := [(a, .inl (g.2.1 2, 1, .inr (.inl f)))]) hP hD hS hA [0] [1] rfl rfl rfl (by decide) (va_runV (As := [.int v1, .int v2]) (rest := []) F (x_M_alter l g _ h1 w v1 v2) (cwV 2 hts (wg_app (wg_c kw_1593 (wg_c kw_1594 (wg_c kw_1595 (wg_c kw_9 wg_n)))) kw_1596) rfl rfl rfl (by decide +kernel) ⟨by decide, by decide⟩) (pr_V (en_ok g) (q0 := 0) hK hP hD hS hA hE [0] rfl rfl rfl rfl) rfl rfl hl.1 rfl (lv_room (Nat.le_of_ble_eq_true rfl)) dL_law_356 ⟨(by decide), (by decide)⟩) (fun r2 u2 H locs hu2 hP hD hS => ?_)
  subst hu2
  have hP : va_P g.1 vcl [(a, .inl (g.2.1 2, 1, .inr (.inl f))), (h1, .inr (8, [.int (nI 1), .int 0, .int 0, .int 0, .ref (w 0), .ref (w 1), .ref (w 2), .ref (w 3), .ref (w 4), .ref (w 5), .ref (w 6), .ref (w 7), .ref (w 8), .ref (w 9)]))] _ := hP
  have hD : va_D _ [(a, .inl (g.2.1 2, 1, .inr (.inl f))), (h1, .inr (8, [.int (nI 1), .int 0, .int 0, .int 0, .ref (w 0), .ref (w 1), .ref (w 2), .ref (w 3), .ref (w 4), .ref (w 5), .ref (w 6), .ref (w 7), .ref (w 8), .ref (w 9)]))] := hD
  refine W.widen (k := 381) (n := 194485) (by omega) (by omega) ?_
  refine lv_istore (lv' := [(6, .int (nI 0)), (5, .int (nI 1)), (4, .int (nI 0)), (3, .ref a), (2, .ref h1), (1, .ref h0), (0, .ref b)]) hx hb dL_law_359 hl (by decide) rfl (fun ls hl => ?_)
  refine lv_aload_n hx hb dL_law_361 rfl (lv_at hl 4 rfl) ?_
  refine mr_i (wc := [(h1, .inr (8, [.int (nI 1), .int 0, .int 0, .int 0, .ref (w 0), .ref (w 1), .ref (w 2), .ref (w 3), .ref (w 4), .ref (w 5), .ref (w 6), .ref (w 7), .ref (w 8), .ref (w 9)]))]) (wr := [(a, .inl (g.2.1 2, 1, .inr (.inl f)))]) hP hD hS hA [1] [0] rfl rfl rfl (by decide) (va_runV (As := []) (rest := []) F (m_M_thrown l g _ h1 w (nI 1) 0 0 0) (cwV 0 hts (wg_app (wg_c kw_1569 (wg_c kw_1570 (wg_c kw_1571 (wg_c kw_9 wg_n)))) kw_1572) rfl rfl rfl (by decide +kernel) ⟨by decide, by decide⟩) (pr_V (en_ok g) (q0 := 1) hK hP hD hS hA hE [1] rfl rfl rfl rfl) rfl rfl hl.1 rfl (lv_room (Nat.le_of_ble_eq_true rfl)) dL_law_362 ⟨(by decide), (by decide)⟩) (fun r3 u3 H hu3 hP hD hS => ?_)
  subst hu3
  have hP : va_P g.1 vcl [(a, .inl (g.2.1 2, 1, .inr (.inl f)))] _ := hP
  have hD : va_D _ [(a, .inl (g.2.1 2, 1, .inr (.inl f)))] := hD
  refine W.widen (k := 381) (n := 194485) (by omega) (by omega) ?_
  refine lv_iload hx hb dL_law_365 (lv_at hl 1 rfl) ?_
  refine mi_eq (tgt := 372) hx hb dL_law_367 (by decide) (by omega) (by omega) (fun h21 => ?_) (fun h21 => absurd h21 (by omega))
  refine lv_iload hx hb dL_law_372 (lv_at hl 1 rfl) ?_
  refine lv_if_ne (tgt := 389) hx hb dL_law_374 (by decide) (fun h22 => ?_) (fun h22 => absurd h22 (by decide))
  refine lv_goto (tgt := 1184) hx hb dL_law_389 (by decide) ?_
  exact law_end l C0 F hS (lv_subm hl [2, 6] rfl) (by decide) (by decide)
set_option maxHeartbeats 400000 in
set_option maxRecDepth 100000 in
theorem law_keys {p : Program} {e : Env} {s : State} {m : MethodId} {below : List Frame} {meth : Method} {c : Code} (l : Launch) (htr : l.stackTraces = false) {b : Nat} {xs : Nat → Int32} (C0 : lw_At p s m meth c b 6 xs) (g : Gd) (F : CallFix p m c c_L_law 7 s #[Value.ref b] wL "LatticeKeysLaw") (hX : ex g (Alaw s) s s.heap) (h0 h1 a : Nat) (u w : Nat → Nat) (fa : Nat → Nat → Int64) (fu : Nat → Int32) (f : Nat → Int64) (v1 : Int32) (hv1 : xs (nI 1).toNatClampNeg = v1) {H : Heap} {locs : List Loc} {ls : Array Slot} (hP : va_P g.1 vcl [(h0, .inr (0, [.ref (u 0), .int (nI 0), .ref (u 1), .int (nI 0), .ref (u 12), .int (nI 0), .ref (u 2), .ref (u 3), .ref (u 4), .ref (u 13), .ref (u 14)])), (h1, .inr (8, [.int 0, .int 0, .int 0, .int 0, .ref (w 0), .ref (w 1), .ref (w 2), .ref (w 3), .ref (w 4), .ref (w 5), .ref (w 6), .ref (w 7), .ref (w 8), .ref (w 9)])), (a, .inl (g.2.1 2, 1, .inr (.inl f)))] H) (hD : va_D (Alaw s) [(h0, .inr (0, [.ref (u 0), .int (nI 0), .ref (u 1), .int (nI 0), .ref (u 12), .int (nI 0), .ref (u 2), .ref (u 3), .ref (u 4), .ref (u 13), .ref (u 14)])), (h1, .inr (8, [.int 0, .int 0, .int 0, .int 0, .ref (w 0), .ref (w 1), .ref (w 2), .ref (w 3), .ref (w 4), .ref (w 5), .ref (w 6), .ref (w 7), .ref (w 8), .ref (w 9)])), (a, .inl (g.2.1 2, 1, .inr (.inl f)))]) (hS : va_S (Alaw s) s.heap H locs) (hl : lv_has ls 7 [(4, .int (nI 0)), (3, .ref a), (2, .ref h1), (1, .ref h0), (0, .ref b)]) : W p l e room_1 s m #[Value.ref b] below meth c H locs 380 194479 (lw_Z below #[Value.ref b] s) (F0 m 392 ls []) := by
  obtain ⟨hx, hb, hml, hown, hts⟩ := id F
  have hE := hX.1
  have hK := hE.1
  have hA : ∀ q, s.heap.size ≤ q → Alaw s q := fun _ h => h
  obtain ⟨-, -, hr, -, -, -, hXs, hbl, hlk, -⟩ := id C0
  have hbA : ¬ Alaw s b := fun h => Nat.not_lt.mpr h hbl
  refine lv_aload_n hx hb dL_law_392 rfl (lv_at hl 3 rfl) ?_
  refine lv_aload_n hx hb dL_law_393 rfl (lv_at hl 4 rfl) ?_
  refine lv_iload hx hb dL_law_394 (lv_at hl 0 rfl) ?_
  refine lv_iconst (v := nI 1) hx hb dL_law_396 (by decide) ?_
  refine mi_iadd hx hb dL_law_397 ?_
  refine mi_as (show nI (0 + 1) = nI 1 from rfl) ?_
  refine va_sld hx hb hXs hbl hbA hS (vp_in_nI (N := 6) (by omega) (by omega)) dL_law_398 ?_
  refine mi_as hv1 ?_
  refine lv_aload_n hx hb dL_law_399 rfl (lv_at hl 1 rfl) ?_
  refine mc_i (wc := [(h0, .inr (0, [.ref (u 0), .int (nI 0), .ref (u 1), .int (nI 0), .ref (u 12), .int (nI 0), .ref (u 2), .ref (u 3), .ref (u 4), .ref (u 13), .ref (u 14)])), (a, .inl (g.2.1 2, 1, .inr (.inl f)))]) (wr := [(h1, .inr (8, [.int 0, .int 0, .int 0, .int 0, .ref (w 0), .ref (w 1), .ref (w 2), .ref (w 3), .ref (w 4), .ref (w 5), .ref (w 6), .ref (w 7), .ref (w 8), .ref (w 9)]))]) hP hD hS hA [0, 2] [1] rfl rfl rfl (by decide) (lc_run (As := [.ref h0, .int v1, .ref a]) (rest := []) F (lx_keys l htr g _ h0 u v1 a f) (lc_cw 3 hts (wg_app (wg_c kw_551 (wg_c kw_552 (wg_c kw_0 wg_n))) kw_553) rfl rfl rfl (by decide +kernel) ⟨by decide, by decide⟩) (pr_S (ex_ok g) hP hD hS hA hX [0, 2] rfl rfl) rfl rfl hl.1 rfl (lv_room (Nat.le_of_ble_eq_true rfl)) dL_law_400 ⟨(by decide), (by decide)⟩) (fun r1 u1 H locs hu1 hP hD hS => ?_)
  subst hu1
  have hP : va_P g.1 vcl [(h1, .inr (8, [.int 0, .int 0, .int 0, .int 0, .ref (w 0), .ref (w 1), .ref (w 2), .ref (w 3), .ref (w 4), .ref (w 5), .ref (w 6), .ref (w 7), .ref (w 8), .ref (w 9)])), (a, .inl (g.2.1 2, 1, .inr (.inl f)))] _ := hP
  have hD : va_D _ [(h1, .inr (8, [.int 0, .int 0, .int 0, .int 0, .ref (w 0), .ref (w 1), .ref (w 2), .ref (w 3), .ref (w 4), .ref (w 5), .ref (w 6), .ref (w 7), .ref (w 8), .ref (w 9)])), (a, .inl (g.2.1 2, 1, .inr (.inl f)))] := hD
  refine W.widen (k := 381) (n := 194485) (by decide) (by decide) ?_
  refine lv_istore (lv' := [(5, .int (nI 1)), (4, .int (nI 0)), (3, .ref a), (2, .ref h1), (1, .ref h0), (0, .ref b)]) hx hb dL_law_403 hl (by decide) rfl (fun ls hl => ?_)
  refine lv_aload_n hx hb dL_law_405 rfl (lv_at hl 3 rfl) ?_
  refine lv_aload_n hx hb dL_law_406 rfl (lv_at hl 5 rfl) ?_
  refine lv_iload hx hb dL_law_407 (lv_at hl 1 rfl) ?_
  refine lv_iconst (v := nI 1) hx hb dL_law_409 (by decide) ?_
  refine mi_iadd hx hb dL_law_410 ?_
  refine mi_as (show nI (0 + 1) = nI 1 from rfl) ?_
  refine va_sld hx hb hXs hbl hbA hS (vp_in_nI (N := 6) (by omega) (by omega)) dL_law_411 ?_
  refine mi_as hv1 ?_
  refine mc_i (wc := [(h1, .inr (8, [.int 0, .int 0, .int 0, .int 0, .ref (w 0), .ref (w 1), .ref (w 2), .ref (w 3), .ref (w 4), .ref (w 5), .ref (w 6), .ref (w 7), .ref (w 8), .ref (w 9)]))]) (wr := [(a, .inl (g.2.1 2, 1, .inr (.inl f)))]) hP hD hS hA [0] [1] rfl rfl rfl (by decide) (va_runV (As := [.int v1]) (rest := []) F (x_M_keys l g _ h1 w v1) (cwV 1 hts (wg_app (wg_c kw_1597 (wg_c kw_1598 (wg_c kw_1599 (wg_c kw_9 wg_n)))) kw_1600) rfl rfl rfl (by decide +kernel) ⟨by decide, by decide⟩) (pr_V (en_ok g) (q0 := 0) hK hP hD hS hA hE [0] rfl rfl rfl rfl) rfl rfl hl.1 rfl (lv_room (Nat.le_of_ble_eq_true rfl)) dL_law_412 ⟨(by decide), (by decide)⟩) (fun r2 u2 H locs hu2 hP hD hS => ?_)
  subst hu2
  have hP : va_P g.1 vcl [(a, .inl (g.2.1 2, 1, .inr (.inl f))), (h1, .inr (8, [.int (nI 1), .int 0, .int 0, .int 0, .ref (w 0), .ref (w 1), .ref (w 2), .ref (w 3), .ref (w 4), .ref (w 5), .ref (w 6), .ref (w 7), .ref (w 8), .ref (w 9)]))] _ := hP
  have hD : va_D _ [(a, .inl (g.2.1 2, 1, .inr (.inl f))), (h1, .inr (8, [.int (nI 1), .int 0, .int 0, .int 0, .ref (w 0), .ref (w 1), .ref (w 2), .ref (w 3), .ref (w 4), .ref (w 5), .ref (w 6), .ref (w 7), .ref (w 8), .ref (w 9)]))] := hD
  refine W.widen (k := 381) (n := 194485) (by omega) (by omega) ?_
  refine lv_istore (lv' := [(6, .int (nI 0)), (5, .int (nI 1)), (4, .int (nI 0)), (3, .ref a), (2, .ref h1), (1, .ref h0), (0, .ref b)]) hx hb dL_law_415 hl (by decide) rfl (fun ls hl => ?_)
  refine lv_aload_n hx hb dL_law_417 rfl (lv_at hl 4 rfl) ?_
  refine mr_i (wc := [(h1, .inr (8, [.int (nI 1), .int 0, .int 0, .int 0, .ref (w 0), .ref (w 1), .ref (w 2), .ref (w 3), .ref (w 4), .ref (w 5), .ref (w 6), .ref (w 7), .ref (w 8), .ref (w 9)]))]) (wr := [(a, .inl (g.2.1 2, 1, .inr (.inl f)))]) hP hD hS hA [1] [0] rfl rfl rfl (by decide) (va_runV (As := []) (rest := []) F (m_M_thrown l g _ h1 w (nI 1) 0 0 0) (cwV 0 hts (wg_app (wg_c kw_1569 (wg_c kw_1570 (wg_c kw_1571 (wg_c kw_9 wg_n)))) kw_1572) rfl rfl rfl (by decide +kernel) ⟨by decide, by decide⟩) (pr_V (en_ok g) (q0 := 1) hK hP hD hS hA hE [1] rfl rfl rfl rfl) rfl rfl hl.1 rfl (lv_room (Nat.le_of_ble_eq_true rfl)) dL_law_418 ⟨(by decide), (by decide)⟩) (fun r3 u3 H hu3 hP hD hS => ?_)
  subst hu3
  have hP : va_P g.1 vcl [(a, .inl (g.2.1 2, 1, .inr (.inl f)))] _ := hP
  have hD : va_D _ [(a, .inl (g.2.1 2, 1, .inr (.inl f)))] := hD
  refine W.widen (k := 381) (n := 194485) (by omega) (by omega) ?_
  refine lv_iload hx hb dL_law_421 (lv_at hl 1 rfl) ?_
  refine mi_eq (tgt := 428) hx hb dL_law_423 (by decide) (by omega) (by omega) (fun h21 => ?_) (fun h21 => absurd h21 (by omega))
  refine lv_iload hx hb dL_law_428 (lv_at hl 1 rfl) ?_
  refine lv_if_ne (tgt := 445) hx hb dL_law_430 (by decide) (fun h22 => ?_) (fun h22 => absurd h22 (by decide))
  refine lv_goto (tgt := 1184) hx hb dL_law_445 (by decide) ?_
  exact law_end l C0 F hS (lv_subm hl [2, 6] rfl) (by decide) (by decide)
set_option maxHeartbeats 400000 in
set_option maxRecDepth 100000 in
theorem law_load {p : Program} {e : Env} {s : State} {m : MethodId} {below : List Frame} {meth : Method} {c : Code} (l : Launch) (htr : l.stackTraces = false) {b : Nat} {xs : Nat → Int32} (C0 : lw_At p s m meth c b 6 xs) (g : Gd) (F : CallFix p m c c_L_law 7 s #[Value.ref b] wL "LatticeKeysLaw") (hX : ex g (Alaw s) s s.heap) (h0 h1 a : Nat) (u w : Nat → Nat) (fa : Nat → Nat → Int64) (fu : Nat → Int32) (f : Nat → Int64) (v1 : Int32) (v2 : Int32) (hv1 : xs (nI 1).toNatClampNeg = v1) (hv2 : xs (nI 2).toNatClampNeg = v2) {H : Heap} {locs : List Loc} {ls : Array Slot} (hP : va_P g.1 vcl [(h0, .inr (0, [.ref (u 0), .int (nI 0), .ref (u 1), .int (nI 0), .ref (u 12), .int (nI 0), .ref (u 2), .ref (u 3), .ref (u 4), .ref (u 13), .ref (u 14)])), (u 2, .inl (g.2.1 3, 3, .inr (.inr (.inr (.inr ((va_up (va_up (va_up (fun _ => none) 0 (some (u 6))) 1 (some (u 7))) 2 (some (u 8))))))))), (u 3, .inl (g.2.1 4, 3, .inr (.inr (.inr (.inr ((va_up (va_up (va_up (fun _ => none) 0 (some (u 9))) 1 (some (u 10))) 2 (some (u 11))))))))), (u 6, .inr (1, [.int (nI 2), .int (nI 3), .int (nI 10), .int (nI 4), .int (nI 800), .int (nI 1632), .int (nI 768), .int (nI 768), .int (nI 1568), .int (nI 1600)])), (u 7, .inr (1, [.int (nI 3), .int (nI 2), .int (nI 10), .int (nI 4), .int (nI 1184), .int (nI 2400), .int (nI 1088), .int (nI 1152), .int (nI 2336), .int (nI 2368)])), (u 8, .inr (1, [.int (nI 4), .int (nI 2), .int (nI 11), .int (nI 5), .int (nI 1568), .int (nI 3168), .int (nI 1568), .int (nI 1536), .int (nI 3104), .int (nI 3136)])), (u 9, .inr (2, [.int (nI 4), .int (nI 4), .int (nI 2), .int (nI 3), .int (nI 39), .int (nI 32), .int (nI 18), .int (nI 131072), .int (nI 44), .int (nI 6), .int (nI 95232), .int (nI 80), .int (nI 78), .int (nI 1312), .int (nI 2560), .int (nI 2336), .int (nI 2420)])), (u 10, .inr (2, [.int (nI 6), .int (nI 5), .int (nI 4), .int (nI 4), .int (nI 49), .int (nI 48), .int (nI 20), .int (nI 524288), .int (nI 16), .int (nI 4), .int (nI 261888), .int (nI 55), .int (nI 196), .int (nI 1952), .int (nI 4032), .int (nI 3248), .int (nI 3309)])), (u 11, .inr (2, [.int (nI 8), .int (nI 7), .int (nI 2), .int (nI 3), .int (nI 60), .int (nI 64), .int (nI 20), .int (nI 524288), .int (nI 16), .int (nI 4), .int (nI 261888), .int (nI 75), .int (nI 120), .int (nI 2592), .int (nI 4896), .int (nI 4544), .int (nI 4627)])), (h1, .inr (8, [.int 0, .int 0, .int 0, .int 0, .ref (w 0), .ref (w 1), .ref (w 2), .ref (w 3), .ref (w 4), .ref (w 5), .ref (w 6), .ref (w 7), .ref (w 8), .ref (w 9)])), (a, .inl (g.2.1 2, 1, .inr (.inl f)))] H) (hD : va_D (Alaw s) [(h0, .inr (0, [.ref (u 0), .int (nI 0), .ref (u 1), .int (nI 0), .ref (u 12), .int (nI 0), .ref (u 2), .ref (u 3), .ref (u 4), .ref (u 13), .ref (u 14)])), (u 2, .inl (g.2.1 3, 3, .inr (.inr (.inr (.inr ((va_up (va_up (va_up (fun _ => none) 0 (some (u 6))) 1 (some (u 7))) 2 (some (u 8))))))))), (u 3, .inl (g.2.1 4, 3, .inr (.inr (.inr (.inr ((va_up (va_up (va_up (fun _ => none) 0 (some (u 9))) 1 (some (u 10))) 2 (some (u 11))))))))), (u 6, .inr (1, [.int (nI 2), .int (nI 3), .int (nI 10), .int (nI 4), .int (nI 800), .int (nI 1632), .int (nI 768), .int (nI 768), .int (nI 1568), .int (nI 1600)])), (u 7, .inr (1, [.int (nI 3), .int (nI 2), .int (nI 10), .int (nI 4), .int (nI 1184), .int (nI 2400), .int (nI 1088), .int (nI 1152), .int (nI 2336), .int (nI 2368)])), (u 8, .inr (1, [.int (nI 4), .int (nI 2), .int (nI 11), .int (nI 5), .int (nI 1568), .int (nI 3168), .int (nI 1568), .int (nI 1536), .int (nI 3104), .int (nI 3136)])), (u 9, .inr (2, [.int (nI 4), .int (nI 4), .int (nI 2), .int (nI 3), .int (nI 39), .int (nI 32), .int (nI 18), .int (nI 131072), .int (nI 44), .int (nI 6), .int (nI 95232), .int (nI 80), .int (nI 78), .int (nI 1312), .int (nI 2560), .int (nI 2336), .int (nI 2420)])), (u 10, .inr (2, [.int (nI 6), .int (nI 5), .int (nI 4), .int (nI 4), .int (nI 49), .int (nI 48), .int (nI 20), .int (nI 524288), .int (nI 16), .int (nI 4), .int (nI 261888), .int (nI 55), .int (nI 196), .int (nI 1952), .int (nI 4032), .int (nI 3248), .int (nI 3309)])), (u 11, .inr (2, [.int (nI 8), .int (nI 7), .int (nI 2), .int (nI 3), .int (nI 60), .int (nI 64), .int (nI 20), .int (nI 524288), .int (nI 16), .int (nI 4), .int (nI 261888), .int (nI 75), .int (nI 120), .int (nI 2592), .int (nI 4896), .int (nI 4544), .int (nI 4627)])), (h1, .inr (8, [.int 0, .int 0, .int 0, .int 0, .ref (w 0), .ref (w 1), .ref (w 2), .ref (w 3), .ref (w 4), .ref (w 5), .ref (w 6), .ref (w 7), .ref (w 8), .ref (w 9)])), (a, .inl (g.2.1 2, 1, .inr (.inl f)))]) (hS : va_S (Alaw s) s.heap H locs) (hl : lv_has ls 7 [(4, .int (nI 0)), (3, .ref a), (2, .ref h1), (1, .ref h0), (0, .ref b)]) : W p l e room_1 s m #[Value.ref b] below meth c H locs 380 194479 (lw_Z below #[Value.ref b] s) (F0 m 448 ls []) := by
  obtain ⟨hx, hb, hml, hown, hts⟩ := id F
  have hE := hX.1
  have hK := hE.1
  have hA : ∀ q, s.heap.size ≤ q → Alaw s q := fun _ h => h
  obtain ⟨-, -, hr, -, -, -, hXs, hbl, hlk, -⟩ := id C0
  have hbA : ¬ Alaw s b := fun h => Nat.not_lt.mpr h hbl
  refine lv_aload_n hx hb dL_law_448 rfl (lv_at hl 3 rfl) ?_
  refine lv_aload_n hx hb dL_law_449 rfl (lv_at hl 4 rfl) ?_
  refine lv_iload hx hb dL_law_450 (lv_at hl 0 rfl) ?_
  refine lv_iconst (v := nI 1) hx hb dL_law_452 (by decide) ?_
  refine mi_iadd hx hb dL_law_453 ?_
  refine mi_as (show nI (0 + 1) = nI 1 from rfl) ?_
  refine va_sld hx hb hXs hbl hbA hS (vp_in_nI (N := 6) (by omega) (by omega)) dL_law_454 ?_
  refine mi_as hv1 ?_
  refine lv_aload_n hx hb dL_law_455 rfl (lv_at hl 4 rfl) ?_
  refine lv_iload hx hb dL_law_456 (lv_at hl 0 rfl) ?_
  refine lv_iconst (v := nI 2) hx hb dL_law_458 (by decide) ?_
  refine mi_iadd hx hb dL_law_459 ?_
  refine mi_as (show nI (0 + 2) = nI 2 from rfl) ?_
  refine va_sld hx hb hXs hbl hbA hS (vp_in_nI (N := 6) (by omega) (by omega)) dL_law_460 ?_
  refine mi_as hv2 ?_
  refine lv_if_eq (tgt := 468) hx hb dL_law_461 (by decide) (fun h21 => ?_) (fun h21 => ?_)
  · refine lv_iconst (v := nI 0) hx hb dL_law_468 (by decide) ?_
    refine lv_aload_n hx hb dL_law_469 rfl (lv_at hl 1 rfl) ?_
    refine mc_i (wc := [(h0, .inr (0, [.ref (u 0), .int (nI 0), .ref (u 1), .int (nI 0), .ref (u 12), .int (nI 0), .ref (u 2), .ref (u 3), .ref (u 4), .ref (u 13), .ref (u 14)])), (u 2, .inl (g.2.1 3, 3, .inr (.inr (.inr (.inr ((va_up (va_up (va_up (fun _ => none) 0 (some (u 6))) 1 (some (u 7))) 2 (some (u 8))))))))), (u 3, .inl (g.2.1 4, 3, .inr (.inr (.inr (.inr ((va_up (va_up (va_up (fun _ => none) 0 (some (u 9))) 1 (some (u 10))) 2 (some (u 11))))))))), (u 6, .inr (1, [.int (nI 2), .int (nI 3), .int (nI 10), .int (nI 4), .int (nI 800), .int (nI 1632), .int (nI 768), .int (nI 768), .int (nI 1568), .int (nI 1600)])), (u 7, .inr (1, [.int (nI 3), .int (nI 2), .int (nI 10), .int (nI 4), .int (nI 1184), .int (nI 2400), .int (nI 1088), .int (nI 1152), .int (nI 2336), .int (nI 2368)])), (u 8, .inr (1, [.int (nI 4), .int (nI 2), .int (nI 11), .int (nI 5), .int (nI 1568), .int (nI 3168), .int (nI 1568), .int (nI 1536), .int (nI 3104), .int (nI 3136)])), (u 9, .inr (2, [.int (nI 4), .int (nI 4), .int (nI 2), .int (nI 3), .int (nI 39), .int (nI 32), .int (nI 18), .int (nI 131072), .int (nI 44), .int (nI 6), .int (nI 95232), .int (nI 80), .int (nI 78), .int (nI 1312), .int (nI 2560), .int (nI 2336), .int (nI 2420)])), (u 10, .inr (2, [.int (nI 6), .int (nI 5), .int (nI 4), .int (nI 4), .int (nI 49), .int (nI 48), .int (nI 20), .int (nI 524288), .int (nI 16), .int (nI 4), .int (nI 261888), .int (nI 55), .int (nI 196), .int (nI 1952), .int (nI 4032), .int (nI 3248), .int (nI 3309)])), (u 11, .inr (2, [.int (nI 8), .int (nI 7), .int (nI 2), .int (nI 3), .int (nI 60), .int (nI 64), .int (nI 20), .int (nI 524288), .int (nI 16), .int (nI 4), .int (nI 261888), .int (nI 75), .int (nI 120), .int (nI 2592), .int (nI 4896), .int (nI 4544), .int (nI 4627)])), (a, .inl (g.2.1 2, 1, .inr (.inl f)))]) (wr := [(h1, .inr (8, [.int 0, .int 0, .int 0, .int 0, .ref (w 0), .ref (w 1), .ref (w 2), .ref (w 3), .ref (w 4), .ref (w 5), .ref (w 6), .ref (w 7), .ref (w 8), .ref (w 9)]))]) hP hD hS hA [0, 1, 2, 3, 4, 5, 6, 7, 8, 10] [9] rfl rfl rfl (by decide) (lc_run (As := [.ref h0, .int v1, .int (nI 0), .ref a]) (rest := []) F (lx_load l htr g _ h0 u v1 (nI 0) a f) (lc_cw 4 hts (wg_app (wg_c kw_764 (wg_c kw_765 (wg_c kw_0 wg_n))) kw_766) rfl rfl rfl (by decide +kernel) ⟨by decide, by decide⟩) (pr_S (ex_ok g) hP hD hS hA hX [0, 1, 2, 3, 4, 5, 6, 7, 8, 10] rfl rfl) rfl rfl hl.1 rfl (lv_room (Nat.le_of_ble_eq_true rfl)) dL_law_470 ⟨(by decide), (by decide)⟩) (fun r1 u1 H locs hu1 hP hD hS => ?_)
    subst hu1
    have hP : va_P g.1 vcl [(h1, .inr (8, [.int 0, .int 0, .int 0, .int 0, .ref (w 0), .ref (w 1), .ref (w 2), .ref (w 3), .ref (w 4), .ref (w 5), .ref (w 6), .ref (w 7), .ref (w 8), .ref (w 9)])), (a, .inl (g.2.1 2, 1, .inr (.inl f)))] _ := hP
    have hD : va_D _ [(h1, .inr (8, [.int 0, .int 0, .int 0, .int 0, .ref (w 0), .ref (w 1), .ref (w 2), .ref (w 3), .ref (w 4), .ref (w 5), .ref (w 6), .ref (w 7), .ref (w 8), .ref (w 9)])), (a, .inl (g.2.1 2, 1, .inr (.inl f)))] := hD
    refine W.widen (k := 381) (n := 194485) (by decide) (by decide) ?_
    refine lv_istore (lv' := [(5, .int (nI 1)), (4, .int (nI 0)), (3, .ref a), (2, .ref h1), (1, .ref h0), (0, .ref b)]) hx hb dL_law_473 hl (by decide) rfl (fun ls hl => ?_)
    refine lv_aload_n hx hb dL_law_475 rfl (lv_at hl 3 rfl) ?_
    refine lv_aload_n hx hb dL_law_476 rfl (lv_at hl 5 rfl) ?_
    refine lv_iload hx hb dL_law_477 (lv_at hl 1 rfl) ?_
    refine lv_iconst (v := nI 1) hx hb dL_law_479 (by decide) ?_
    refine mi_iadd hx hb dL_law_480 ?_
    refine mi_as (show nI (0 + 1) = nI 1 from rfl) ?_
    refine va_sld hx hb hXs hbl hbA hS (vp_in_nI (N := 6) (by omega) (by omega)) dL_law_481 ?_
    refine mi_as hv1 ?_
    refine lv_aload_n hx hb dL_law_482 rfl (lv_at hl 5 rfl) ?_
    refine lv_iload hx hb dL_law_483 (lv_at hl 1 rfl) ?_
    refine lv_iconst (v := nI 2) hx hb dL_law_485 (by decide) ?_
    refine mi_iadd hx hb dL_law_486 ?_
    refine mi_as (show nI (0 + 2) = nI 2 from rfl) ?_
    refine va_sld hx hb hXs hbl hbA hS (vp_in_nI (N := 6) (by omega) (by omega)) dL_law_487 ?_
    refine mi_as hv2 ?_
    refine lv_if_eq (tgt := 495) hx hb dL_law_488 (by decide) (fun h22 => ?_) (fun h22 => absurd h21 h22)
    refine lv_iconst (v := nI 0) hx hb dL_law_495 (by decide) ?_
    refine mc_i (wc := [(h1, .inr (8, [.int 0, .int 0, .int 0, .int 0, .ref (w 0), .ref (w 1), .ref (w 2), .ref (w 3), .ref (w 4), .ref (w 5), .ref (w 6), .ref (w 7), .ref (w 8), .ref (w 9)]))]) (wr := [(a, .inl (g.2.1 2, 1, .inr (.inl f)))]) hP hD hS hA [0] [1] rfl rfl rfl (by decide) (va_runV (As := [.int v1, .int (nI 0)]) (rest := []) F (x_M_load l g _ h1 w v1 (nI 0)) (cwV 2 hts (wg_app (wg_c kw_1760 (wg_c kw_1761 (wg_c kw_1762 (wg_c kw_9 wg_n)))) kw_1763) rfl rfl rfl (by decide +kernel) ⟨by decide, by decide⟩) (pr_V (en_ok g) (q0 := 0) hK hP hD hS hA hE [0] rfl rfl rfl rfl) rfl rfl hl.1 rfl (lv_room (Nat.le_of_ble_eq_true rfl)) dL_law_496 ⟨(by decide), (by decide)⟩) (fun r2 u2 H locs hu2 hP hD hS => ?_)
    subst hu2
    have hP : va_P g.1 vcl [(a, .inl (g.2.1 2, 1, .inr (.inl f))), (h1, .inr (8, [.int (nI 1), .int 0, .int 0, .int 0, .ref (w 0), .ref (w 1), .ref (w 2), .ref (w 3), .ref (w 4), .ref (w 5), .ref (w 6), .ref (w 7), .ref (w 8), .ref (w 9)]))] _ := hP
    have hD : va_D _ [(a, .inl (g.2.1 2, 1, .inr (.inl f))), (h1, .inr (8, [.int (nI 1), .int 0, .int 0, .int 0, .ref (w 0), .ref (w 1), .ref (w 2), .ref (w 3), .ref (w 4), .ref (w 5), .ref (w 6), .ref (w 7), .ref (w 8), .ref (w 9)]))] := hD
    refine W.widen (k := 381) (n := 194485) (by omega) (by omega) ?_
    refine lv_istore (lv' := [(6, .int (nI 0)), (5, .int (nI 1)), (4, .int (nI 0)), (3, .ref a), (2, .ref h1), (1, .ref h0), (0, .ref b)]) hx hb dL_law_499 hl (by decide) rfl (fun ls hl => ?_)
    refine lv_aload_n hx hb dL_law_501 rfl (lv_at hl 4 rfl) ?_
    refine mr_i (wc := [(h1, .inr (8, [.int (nI 1), .int 0, .int 0, .int 0, .ref (w 0), .ref (w 1), .ref (w 2), .ref (w 3), .ref (w 4), .ref (w 5), .ref (w 6), .ref (w 7), .ref (w 8), .ref (w 9)]))]) (wr := [(a, .inl (g.2.1 2, 1, .inr (.inl f)))]) hP hD hS hA [1] [0] rfl rfl rfl (by decide) (va_runV (As := []) (rest := []) F (m_M_thrown l g _ h1 w (nI 1) 0 0 0) (cwV 0 hts (wg_app (wg_c kw_1569 (wg_c kw_1570 (wg_c kw_1571 (wg_c kw_9 wg_n)))) kw_1572) rfl rfl rfl (by decide +kernel) ⟨by decide, by decide⟩) (pr_V (en_ok g) (q0 := 1) hK hP hD hS hA hE [1] rfl rfl rfl rfl) rfl rfl hl.1 rfl (lv_room (Nat.le_of_ble_eq_true rfl)) dL_law_502 ⟨(by decide), (by decide)⟩) (fun r3 u3 H hu3 hP hD hS => ?_)
    subst hu3
    have hP : va_P g.1 vcl [(a, .inl (g.2.1 2, 1, .inr (.inl f)))] _ := hP
    have hD : va_D _ [(a, .inl (g.2.1 2, 1, .inr (.inl f)))] := hD
    refine W.widen (k := 381) (n := 194485) (by omega) (by omega) ?_
    refine lv_iload hx hb dL_law_505 (lv_at hl 1 rfl) ?_
    refine mi_eq (tgt := 512) hx hb dL_law_507 (by decide) (by omega) (by omega) (fun h23 => ?_) (fun h23 => absurd h23 (by omega))
    refine lv_iload hx hb dL_law_512 (lv_at hl 1 rfl) ?_
    refine lv_if_ne (tgt := 529) hx hb dL_law_514 (by decide) (fun h24 => ?_) (fun h24 => absurd h24 (by decide))
    refine lv_goto (tgt := 1184) hx hb dL_law_529 (by decide) ?_
    exact law_end l C0 F hS (lv_subm hl [2, 6] rfl) (by decide) (by decide)
  · refine lv_iconst (v := nI 1) hx hb dL_law_464 (by decide) ?_
    refine lv_goto (tgt := 469) hx hb dL_law_465 (by decide) ?_
    refine lv_aload_n hx hb dL_law_469 rfl (lv_at hl 1 rfl) ?_
    refine mc_i (wc := [(h0, .inr (0, [.ref (u 0), .int (nI 0), .ref (u 1), .int (nI 0), .ref (u 12), .int (nI 0), .ref (u 2), .ref (u 3), .ref (u 4), .ref (u 13), .ref (u 14)])), (u 2, .inl (g.2.1 3, 3, .inr (.inr (.inr (.inr ((va_up (va_up (va_up (fun _ => none) 0 (some (u 6))) 1 (some (u 7))) 2 (some (u 8))))))))), (u 3, .inl (g.2.1 4, 3, .inr (.inr (.inr (.inr ((va_up (va_up (va_up (fun _ => none) 0 (some (u 9))) 1 (some (u 10))) 2 (some (u 11))))))))), (u 6, .inr (1, [.int (nI 2), .int (nI 3), .int (nI 10), .int (nI 4), .int (nI 800), .int (nI 1632), .int (nI 768), .int (nI 768), .int (nI 1568), .int (nI 1600)])), (u 7, .inr (1, [.int (nI 3), .int (nI 2), .int (nI 10), .int (nI 4), .int (nI 1184), .int (nI 2400), .int (nI 1088), .int (nI 1152), .int (nI 2336), .int (nI 2368)])), (u 8, .inr (1, [.int (nI 4), .int (nI 2), .int (nI 11), .int (nI 5), .int (nI 1568), .int (nI 3168), .int (nI 1568), .int (nI 1536), .int (nI 3104), .int (nI 3136)])), (u 9, .inr (2, [.int (nI 4), .int (nI 4), .int (nI 2), .int (nI 3), .int (nI 39), .int (nI 32), .int (nI 18), .int (nI 131072), .int (nI 44), .int (nI 6), .int (nI 95232), .int (nI 80), .int (nI 78), .int (nI 1312), .int (nI 2560), .int (nI 2336), .int (nI 2420)])), (u 10, .inr (2, [.int (nI 6), .int (nI 5), .int (nI 4), .int (nI 4), .int (nI 49), .int (nI 48), .int (nI 20), .int (nI 524288), .int (nI 16), .int (nI 4), .int (nI 261888), .int (nI 55), .int (nI 196), .int (nI 1952), .int (nI 4032), .int (nI 3248), .int (nI 3309)])), (u 11, .inr (2, [.int (nI 8), .int (nI 7), .int (nI 2), .int (nI 3), .int (nI 60), .int (nI 64), .int (nI 20), .int (nI 524288), .int (nI 16), .int (nI 4), .int (nI 261888), .int (nI 75), .int (nI 120), .int (nI 2592), .int (nI 4896), .int (nI 4544), .int (nI 4627)])), (a, .inl (g.2.1 2, 1, .inr (.inl f)))]) (wr := [(h1, .inr (8, [.int 0, .int 0, .int 0, .int 0, .ref (w 0), .ref (w 1), .ref (w 2), .ref (w 3), .ref (w 4), .ref (w 5), .ref (w 6), .ref (w 7), .ref (w 8), .ref (w 9)]))]) hP hD hS hA [0, 1, 2, 3, 4, 5, 6, 7, 8, 10] [9] rfl rfl rfl (by decide) (lc_run (As := [.ref h0, .int v1, .int (nI 1), .ref a]) (rest := []) F (lx_load l htr g _ h0 u v1 (nI 1) a f) (lc_cw 4 hts (wg_app (wg_c kw_764 (wg_c kw_765 (wg_c kw_0 wg_n))) kw_766) rfl rfl rfl (by decide +kernel) ⟨by decide, by decide⟩) (pr_S (ex_ok g) hP hD hS hA hX [0, 1, 2, 3, 4, 5, 6, 7, 8, 10] rfl rfl) rfl rfl hl.1 rfl (lv_room (Nat.le_of_ble_eq_true rfl)) dL_law_470 ⟨(by decide), (by decide)⟩) (fun r4 u4 H locs hu4 hP hD hS => ?_)
    subst hu4
    have hP : va_P g.1 vcl [(h1, .inr (8, [.int 0, .int 0, .int 0, .int 0, .ref (w 0), .ref (w 1), .ref (w 2), .ref (w 3), .ref (w 4), .ref (w 5), .ref (w 6), .ref (w 7), .ref (w 8), .ref (w 9)])), (a, .inl (g.2.1 2, 1, .inr (.inl f)))] _ := hP
    have hD : va_D _ [(h1, .inr (8, [.int 0, .int 0, .int 0, .int 0, .ref (w 0), .ref (w 1), .ref (w 2), .ref (w 3), .ref (w 4), .ref (w 5), .ref (w 6), .ref (w 7), .ref (w 8), .ref (w 9)])), (a, .inl (g.2.1 2, 1, .inr (.inl f)))] := hD
    refine W.widen (k := 381) (n := 194485) (by decide) (by decide) ?_
    refine lv_istore (lv' := [(5, .int (nI 1)), (4, .int (nI 0)), (3, .ref a), (2, .ref h1), (1, .ref h0), (0, .ref b)]) hx hb dL_law_473 hl (by decide) rfl (fun ls hl => ?_)
    refine lv_aload_n hx hb dL_law_475 rfl (lv_at hl 3 rfl) ?_
    refine lv_aload_n hx hb dL_law_476 rfl (lv_at hl 5 rfl) ?_
    refine lv_iload hx hb dL_law_477 (lv_at hl 1 rfl) ?_
    refine lv_iconst (v := nI 1) hx hb dL_law_479 (by decide) ?_
    refine mi_iadd hx hb dL_law_480 ?_
    refine mi_as (show nI (0 + 1) = nI 1 from rfl) ?_
    refine va_sld hx hb hXs hbl hbA hS (vp_in_nI (N := 6) (by omega) (by omega)) dL_law_481 ?_
    refine mi_as hv1 ?_
    refine lv_aload_n hx hb dL_law_482 rfl (lv_at hl 5 rfl) ?_
    refine lv_iload hx hb dL_law_483 (lv_at hl 1 rfl) ?_
    refine lv_iconst (v := nI 2) hx hb dL_law_485 (by decide) ?_
    refine mi_iadd hx hb dL_law_486 ?_
    refine mi_as (show nI (0 + 2) = nI 2 from rfl) ?_
    refine va_sld hx hb hXs hbl hbA hS (vp_in_nI (N := 6) (by omega) (by omega)) dL_law_487 ?_
    refine mi_as hv2 ?_
    refine lv_if_eq (tgt := 495) hx hb dL_law_488 (by decide) (fun h25 => absurd h25 h21) (fun h25 => ?_)
    refine lv_iconst (v := nI 1) hx hb dL_law_491 (by decide) ?_
    refine lv_goto (tgt := 496) hx hb dL_law_492 (by decide) ?_
    refine mc_i (wc := [(h1, .inr (8, [.int 0, .int 0, .int 0, .int 0, .ref (w 0), .ref (w 1), .ref (w 2), .ref (w 3), .ref (w 4), .ref (w 5), .ref (w 6), .ref (w 7), .ref (w 8), .ref (w 9)]))]) (wr := [(a, .inl (g.2.1 2, 1, .inr (.inl f)))]) hP hD hS hA [0] [1] rfl rfl rfl (by decide) (va_runV (As := [.int v1, .int (nI 1)]) (rest := []) F (x_M_load l g _ h1 w v1 (nI 1)) (cwV 2 hts (wg_app (wg_c kw_1760 (wg_c kw_1761 (wg_c kw_1762 (wg_c kw_9 wg_n)))) kw_1763) rfl rfl rfl (by decide +kernel) ⟨by decide, by decide⟩) (pr_V (en_ok g) (q0 := 0) hK hP hD hS hA hE [0] rfl rfl rfl rfl) rfl rfl hl.1 rfl (lv_room (Nat.le_of_ble_eq_true rfl)) dL_law_496 ⟨(by decide), (by decide)⟩) (fun r5 u5 H locs hu5 hP hD hS => ?_)
    subst hu5
    have hP : va_P g.1 vcl [(a, .inl (g.2.1 2, 1, .inr (.inl f))), (h1, .inr (8, [.int (nI 1), .int 0, .int 0, .int 0, .ref (w 0), .ref (w 1), .ref (w 2), .ref (w 3), .ref (w 4), .ref (w 5), .ref (w 6), .ref (w 7), .ref (w 8), .ref (w 9)]))] _ := hP
    have hD : va_D _ [(a, .inl (g.2.1 2, 1, .inr (.inl f))), (h1, .inr (8, [.int (nI 1), .int 0, .int 0, .int 0, .ref (w 0), .ref (w 1), .ref (w 2), .ref (w 3), .ref (w 4), .ref (w 5), .ref (w 6), .ref (w 7), .ref (w 8), .ref (w 9)]))] := hD
    refine W.widen (k := 381) (n := 194485) (by omega) (by omega) ?_
    refine lv_istore (lv' := [(6, .int (nI 0)), (5, .int (nI 1)), (4, .int (nI 0)), (3, .ref a), (2, .ref h1), (1, .ref h0), (0, .ref b)]) hx hb dL_law_499 hl (by decide) rfl (fun ls hl => ?_)
    refine lv_aload_n hx hb dL_law_501 rfl (lv_at hl 4 rfl) ?_
    refine mr_i (wc := [(h1, .inr (8, [.int (nI 1), .int 0, .int 0, .int 0, .ref (w 0), .ref (w 1), .ref (w 2), .ref (w 3), .ref (w 4), .ref (w 5), .ref (w 6), .ref (w 7), .ref (w 8), .ref (w 9)]))]) (wr := [(a, .inl (g.2.1 2, 1, .inr (.inl f)))]) hP hD hS hA [1] [0] rfl rfl rfl (by decide) (va_runV (As := []) (rest := []) F (m_M_thrown l g _ h1 w (nI 1) 0 0 0) (cwV 0 hts (wg_app (wg_c kw_1569 (wg_c kw_1570 (wg_c kw_1571 (wg_c kw_9 wg_n)))) kw_1572) rfl rfl rfl (by decide +kernel) ⟨by decide, by decide⟩) (pr_V (en_ok g) (q0 := 1) hK hP hD hS hA hE [1] rfl rfl rfl rfl) rfl rfl hl.1 rfl (lv_room (Nat.le_of_ble_eq_true rfl)) dL_law_502 ⟨(by decide), (by decide)⟩) (fun r6 u6 H hu6 hP hD hS => ?_)
    subst hu6
    have hP : va_P g.1 vcl [(a, .inl (g.2.1 2, 1, .inr (.inl f)))] _ := hP
    have hD : va_D _ [(a, .inl (g.2.1 2, 1, .inr (.inl f)))] := hD
    refine W.widen (k := 381) (n := 194485) (by omega) (by omega) ?_
    refine lv_iload hx hb dL_law_505 (lv_at hl 1 rfl) ?_
    refine mi_eq (tgt := 512) hx hb dL_law_507 (by decide) (by omega) (by omega) (fun h26 => ?_) (fun h26 => absurd h26 (by omega))
    refine lv_iload hx hb dL_law_512 (lv_at hl 1 rfl) ?_
    refine lv_if_ne (tgt := 529) hx hb dL_law_514 (by decide) (fun h27 => ?_) (fun h27 => absurd h27 (by decide))
    refine lv_goto (tgt := 1184) hx hb dL_law_529 (by decide) ?_
    exact law_end l C0 F hS (lv_subm hl [2, 6] rfl) (by decide) (by decide)
set_option maxHeartbeats 400000 in
set_option maxRecDepth 100000 in
theorem law_part {p : Program} {e : Env} {s : State} {m : MethodId} {below : List Frame} {meth : Method} {c : Code} (l : Launch) (htr : l.stackTraces = false) {b : Nat} {xs : Nat → Int32} (C0 : lw_At p s m meth c b 6 xs) (g : Gd) (F : CallFix p m c c_L_law 7 s #[Value.ref b] wL "LatticeKeysLaw") (hX : ex g (Alaw s) s s.heap) (h0 h1 a : Nat) (u w : Nat → Nat) (fa : Nat → Nat → Int64) (fu : Nat → Int32) (f : Nat → Int64) (v1 : Int32) (v2 : Int32) (v3 : Int32) (hv1 : xs (nI 1).toNatClampNeg = v1) (hv2 : xs (nI 2).toNatClampNeg = v2) (hv3 : xs (nI 3).toNatClampNeg = v3) {H : Heap} {locs : List Loc} {ls : Array Slot} (hP : va_P g.1 vcl [(h0, .inr (0, [.ref (u 0), .int (nI 0), .ref (u 1), .int (nI 0), .ref (u 12), .int (nI 0), .ref (u 2), .ref (u 3), .ref (u 4), .ref (u 13), .ref (u 14)])), (h1, .inr (8, [.int 0, .int 0, .int 0, .int 0, .ref (w 0), .ref (w 1), .ref (w 2), .ref (w 3), .ref (w 4), .ref (w 5), .ref (w 6), .ref (w 7), .ref (w 8), .ref (w 9)])), (a, .inl (g.2.1 2, 1, .inr (.inl f)))] H) (hD : va_D (Alaw s) [(h0, .inr (0, [.ref (u 0), .int (nI 0), .ref (u 1), .int (nI 0), .ref (u 12), .int (nI 0), .ref (u 2), .ref (u 3), .ref (u 4), .ref (u 13), .ref (u 14)])), (h1, .inr (8, [.int 0, .int 0, .int 0, .int 0, .ref (w 0), .ref (w 1), .ref (w 2), .ref (w 3), .ref (w 4), .ref (w 5), .ref (w 6), .ref (w 7), .ref (w 8), .ref (w 9)])), (a, .inl (g.2.1 2, 1, .inr (.inl f)))]) (hS : va_S (Alaw s) s.heap H locs) (hl : lv_has ls 7 [(4, .int (nI 0)), (3, .ref a), (2, .ref h1), (1, .ref h0), (0, .ref b)]) : W p l e room_1 s m #[Value.ref b] below meth c H locs 380 194479 (lw_Z below #[Value.ref b] s) (F0 m 532 ls []) := by
  obtain ⟨hx, hb, hml, hown, hts⟩ := id F
  have hE := hX.1
  have hK := hE.1
  have hA : ∀ q, s.heap.size ≤ q → Alaw s q := fun _ h => h
  obtain ⟨-, -, hr, -, -, -, hXs, hbl, hlk, -⟩ := id C0
  have hbA : ¬ Alaw s b := fun h => Nat.not_lt.mpr h hbl
  refine lv_aload_n hx hb dL_law_532 rfl (lv_at hl 3 rfl) ?_
  refine lv_aload_n hx hb dL_law_533 rfl (lv_at hl 4 rfl) ?_
  refine lv_iload hx hb dL_law_534 (lv_at hl 0 rfl) ?_
  refine lv_iconst (v := nI 1) hx hb dL_law_536 (by decide) ?_
  refine mi_iadd hx hb dL_law_537 ?_
  refine mi_as (show nI (0 + 1) = nI 1 from rfl) ?_
  refine va_sld hx hb hXs hbl hbA hS (vp_in_nI (N := 6) (by omega) (by omega)) dL_law_538 ?_
  refine mi_as hv1 ?_
  refine lv_aload_n hx hb dL_law_539 rfl (lv_at hl 4 rfl) ?_
  refine lv_iload hx hb dL_law_540 (lv_at hl 0 rfl) ?_
  refine lv_iconst (v := nI 2) hx hb dL_law_542 (by decide) ?_
  refine mi_iadd hx hb dL_law_543 ?_
  refine mi_as (show nI (0 + 2) = nI 2 from rfl) ?_
  refine va_sld hx hb hXs hbl hbA hS (vp_in_nI (N := 6) (by omega) (by omega)) dL_law_544 ?_
  refine mi_as hv2 ?_
  refine lv_if_eq (tgt := 552) hx hb dL_law_545 (by decide) (fun h21 => ?_) (fun h21 => ?_)
  · refine lv_iconst (v := nI 0) hx hb dL_law_552 (by decide) ?_
    refine lv_aload_n hx hb dL_law_553 rfl (lv_at hl 4 rfl) ?_
    refine lv_iload hx hb dL_law_554 (lv_at hl 0 rfl) ?_
    refine lv_iconst (v := nI 3) hx hb dL_law_556 (by decide) ?_
    refine mi_iadd hx hb dL_law_557 ?_
    refine mi_as (show nI (0 + 3) = nI 3 from rfl) ?_
    refine va_sld hx hb hXs hbl hbA hS (vp_in_nI (N := 6) (by omega) (by omega)) dL_law_558 ?_
    refine mi_as hv3 ?_
    refine lv_aload_n hx hb dL_law_559 rfl (lv_at hl 1 rfl) ?_
    refine mc_i (wc := [(h0, .inr (0, [.ref (u 0), .int (nI 0), .ref (u 1), .int (nI 0), .ref (u 12), .int (nI 0), .ref (u 2), .ref (u 3), .ref (u 4), .ref (u 13), .ref (u 14)])), (a, .inl (g.2.1 2, 1, .inr (.inl f)))]) (wr := [(h1, .inr (8, [.int 0, .int 0, .int 0, .int 0, .ref (w 0), .ref (w 1), .ref (w 2), .ref (w 3), .ref (w 4), .ref (w 5), .ref (w 6), .ref (w 7), .ref (w 8), .ref (w 9)]))]) hP hD hS hA [0, 2] [1] rfl rfl rfl (by decide) (lc_run (As := [.ref h0, .int v1, .int (nI 0), .int v3, .ref a]) (rest := []) F (lx_part l htr g _ h0 u v1 (nI 0) v3 a f) (lc_cw 5 hts (wg_app (wg_c kw_1048 (wg_c kw_1049 (wg_c kw_0 wg_n))) kw_1050) rfl rfl rfl (by decide +kernel) ⟨by decide, by decide⟩) (pr_S (ex_ok g) hP hD hS hA hX [0, 2] rfl rfl) rfl rfl hl.1 rfl (lv_room (Nat.le_of_ble_eq_true rfl)) dL_law_560 ⟨(by decide), (by decide)⟩) (fun r1 u1 H locs hu1 hP hD hS => ?_)
    subst hu1
    have hP : va_P g.1 vcl [(h1, .inr (8, [.int 0, .int 0, .int 0, .int 0, .ref (w 0), .ref (w 1), .ref (w 2), .ref (w 3), .ref (w 4), .ref (w 5), .ref (w 6), .ref (w 7), .ref (w 8), .ref (w 9)])), (a, .inl (g.2.1 2, 1, .inr (.inl f)))] _ := hP
    have hD : va_D _ [(h1, .inr (8, [.int 0, .int 0, .int 0, .int 0, .ref (w 0), .ref (w 1), .ref (w 2), .ref (w 3), .ref (w 4), .ref (w 5), .ref (w 6), .ref (w 7), .ref (w 8), .ref (w 9)])), (a, .inl (g.2.1 2, 1, .inr (.inl f)))] := hD
    refine W.widen (k := 381) (n := 194485) (by decide) (by decide) ?_
    refine lv_istore (lv' := [(5, .int (nI 1)), (4, .int (nI 0)), (3, .ref a), (2, .ref h1), (1, .ref h0), (0, .ref b)]) hx hb dL_law_563 hl (by decide) rfl (fun ls hl => ?_)
    refine lv_aload_n hx hb dL_law_565 rfl (lv_at hl 3 rfl) ?_
    refine lv_aload_n hx hb dL_law_566 rfl (lv_at hl 5 rfl) ?_
    refine lv_iload hx hb dL_law_567 (lv_at hl 1 rfl) ?_
    refine lv_iconst (v := nI 1) hx hb dL_law_569 (by decide) ?_
    refine mi_iadd hx hb dL_law_570 ?_
    refine mi_as (show nI (0 + 1) = nI 1 from rfl) ?_
    refine va_sld hx hb hXs hbl hbA hS (vp_in_nI (N := 6) (by omega) (by omega)) dL_law_571 ?_
    refine mi_as hv1 ?_
    refine lv_aload_n hx hb dL_law_572 rfl (lv_at hl 5 rfl) ?_
    refine lv_iload hx hb dL_law_573 (lv_at hl 1 rfl) ?_
    refine lv_iconst (v := nI 2) hx hb dL_law_575 (by decide) ?_
    refine mi_iadd hx hb dL_law_576 ?_
    refine mi_as (show nI (0 + 2) = nI 2 from rfl) ?_
    refine va_sld hx hb hXs hbl hbA hS (vp_in_nI (N := 6) (by omega) (by omega)) dL_law_577 ?_
    refine mi_as hv2 ?_
    refine lv_if_eq (tgt := 585) hx hb dL_law_578 (by decide) (fun h22 => ?_) (fun h22 => absurd h21 h22)
    refine lv_iconst (v := nI 0) hx hb dL_law_585 (by decide) ?_
    refine lv_aload_n hx hb dL_law_586 rfl (lv_at hl 5 rfl) ?_
    refine lv_iload hx hb dL_law_587 (lv_at hl 1 rfl) ?_
    refine lv_iconst (v := nI 3) hx hb dL_law_589 (by decide) ?_
    refine mi_iadd hx hb dL_law_590 ?_
    refine mi_as (show nI (0 + 3) = nI 3 from rfl) ?_
    refine va_sld hx hb hXs hbl hbA hS (vp_in_nI (N := 6) (by omega) (by omega)) dL_law_591 ?_
    refine mi_as hv3 ?_
    refine mc_i (wc := [(h1, .inr (8, [.int 0, .int 0, .int 0, .int 0, .ref (w 0), .ref (w 1), .ref (w 2), .ref (w 3), .ref (w 4), .ref (w 5), .ref (w 6), .ref (w 7), .ref (w 8), .ref (w 9)]))]) (wr := [(a, .inl (g.2.1 2, 1, .inr (.inl f)))]) hP hD hS hA [0] [1] rfl rfl rfl (by decide) (va_runV (As := [.int v1, .int (nI 0), .int v3]) (rest := []) F (x_M_part l g _ h1 w v1 (nI 0) v3) (cwV 3 hts (wg_app (wg_c kw_1777 (wg_c kw_1778 (wg_c kw_1779 (wg_c kw_9 wg_n)))) kw_1780) rfl rfl rfl (by decide +kernel) ⟨by decide, by decide⟩) (pr_V (en_ok g) (q0 := 0) hK hP hD hS hA hE [0] rfl rfl rfl rfl) rfl rfl hl.1 rfl (lv_room (Nat.le_of_ble_eq_true rfl)) dL_law_592 ⟨(by decide), (by decide)⟩) (fun r2 u2 H locs hu2 hP hD hS => ?_)
    subst hu2
    have hP : va_P g.1 vcl [(a, .inl (g.2.1 2, 1, .inr (.inl f))), (h1, .inr (8, [.int (nI 1), .int 0, .int 0, .int 0, .ref (w 0), .ref (w 1), .ref (w 2), .ref (w 3), .ref (w 4), .ref (w 5), .ref (w 6), .ref (w 7), .ref (w 8), .ref (w 9)]))] _ := hP
    have hD : va_D _ [(a, .inl (g.2.1 2, 1, .inr (.inl f))), (h1, .inr (8, [.int (nI 1), .int 0, .int 0, .int 0, .ref (w 0), .ref (w 1), .ref (w 2), .ref (w 3), .ref (w 4), .ref (w 5), .ref (w 6), .ref (w 7), .ref (w 8), .ref (w 9)]))] := hD
    refine W.widen (k := 381) (n := 194485) (by omega) (by omega) ?_
    refine lv_istore (lv' := [(6, .int (nI 0)), (5, .int (nI 1)), (4, .int (nI 0)), (3, .ref a), (2, .ref h1), (1, .ref h0), (0, .ref b)]) hx hb dL_law_595 hl (by decide) rfl (fun ls hl => ?_)
    refine lv_aload_n hx hb dL_law_597 rfl (lv_at hl 4 rfl) ?_
    refine mr_i (wc := [(h1, .inr (8, [.int (nI 1), .int 0, .int 0, .int 0, .ref (w 0), .ref (w 1), .ref (w 2), .ref (w 3), .ref (w 4), .ref (w 5), .ref (w 6), .ref (w 7), .ref (w 8), .ref (w 9)]))]) (wr := [(a, .inl (g.2.1 2, 1, .inr (.inl f)))]) hP hD hS hA [1] [0] rfl rfl rfl (by decide) (va_runV (As := []) (rest := []) F (m_M_thrown l g _ h1 w (nI 1) 0 0 0) (cwV 0 hts (wg_app (wg_c kw_1569 (wg_c kw_1570 (wg_c kw_1571 (wg_c kw_9 wg_n)))) kw_1572) rfl rfl rfl (by decide +kernel) ⟨by decide, by decide⟩) (pr_V (en_ok g) (q0 := 1) hK hP hD hS hA hE [1] rfl rfl rfl rfl) rfl rfl hl.1 rfl (lv_room (Nat.le_of_ble_eq_true rfl)) dL_law_598 ⟨(by decide), (by decide)⟩) (fun r3 u3 H hu3 hP hD hS => ?_)
    subst hu3
    have hP : va_P g.1 vcl [(a, .inl (g.2.1 2, 1, .inr (.inl f)))] _ := hP
    have hD : va_D _ [(a, .inl (g.2.1 2, 1, .inr (.inl f)))] := hD
    refine W.widen (k := 381) (n := 194485) (by omega) (by omega) ?_
    refine lv_iload hx hb dL_law_601 (lv_at hl 1 rfl) ?_
    refine mi_eq (tgt := 608) hx hb dL_law_603 (by decide) (by omega) (by omega) (fun h23 => ?_) (fun h23 => absurd h23 (by omega))
    refine lv_iload hx hb dL_law_608 (lv_at hl 1 rfl) ?_
    refine lv_if_ne (tgt := 625) hx hb dL_law_610 (by decide) (fun h24 => ?_) (fun h24 => absurd h24 (by decide))
    refine lv_goto (tgt := 1184) hx hb dL_law_625 (by decide) ?_
    exact law_end l C0 F hS (lv_subm hl [2, 6] rfl) (by decide) (by decide)
  · refine lv_iconst (v := nI 1) hx hb dL_law_548 (by decide) ?_
    refine lv_goto (tgt := 553) hx hb dL_law_549 (by decide) ?_
    refine lv_aload_n hx hb dL_law_553 rfl (lv_at hl 4 rfl) ?_
    refine lv_iload hx hb dL_law_554 (lv_at hl 0 rfl) ?_
    refine lv_iconst (v := nI 3) hx hb dL_law_556 (by decide) ?_
    refine mi_iadd hx hb dL_law_557 ?_
    refine mi_as (show nI (0 + 3) = nI 3 from rfl) ?_
    refine va_sld hx hb hXs hbl hbA hS (vp_in_nI (N := 6) (by omega) (by omega)) dL_law_558 ?_
    refine mi_as hv3 ?_
    refine lv_aload_n hx hb dL_law_559 rfl (lv_at hl 1 rfl) ?_
    refine mc_i (wc := [(h0, .inr (0, [.ref (u 0), .int (nI 0), .ref (u 1), .int (nI 0), .ref (u 12), .int (nI 0), .ref (u 2), .ref (u 3), .ref (u 4), .ref (u 13), .ref (u 14)])), (a, .inl (g.2.1 2, 1, .inr (.inl f)))]) (wr := [(h1, .inr (8, [.int 0, .int 0, .int 0, .int 0, .ref (w 0), .ref (w 1), .ref (w 2), .ref (w 3), .ref (w 4), .ref (w 5), .ref (w 6), .ref (w 7), .ref (w 8), .ref (w 9)]))]) hP hD hS hA [0, 2] [1] rfl rfl rfl (by decide) (lc_run (As := [.ref h0, .int v1, .int (nI 1), .int v3, .ref a]) (rest := []) F (lx_part l htr g _ h0 u v1 (nI 1) v3 a f) (lc_cw 5 hts (wg_app (wg_c kw_1048 (wg_c kw_1049 (wg_c kw_0 wg_n))) kw_1050) rfl rfl rfl (by decide +kernel) ⟨by decide, by decide⟩) (pr_S (ex_ok g) hP hD hS hA hX [0, 2] rfl rfl) rfl rfl hl.1 rfl (lv_room (Nat.le_of_ble_eq_true rfl)) dL_law_560 ⟨(by decide), (by decide)⟩) (fun r4 u4 H locs hu4 hP hD hS => ?_)
    subst hu4
    have hP : va_P g.1 vcl [(h1, .inr (8, [.int 0, .int 0, .int 0, .int 0, .ref (w 0), .ref (w 1), .ref (w 2), .ref (w 3), .ref (w 4), .ref (w 5), .ref (w 6), .ref (w 7), .ref (w 8), .ref (w 9)])), (a, .inl (g.2.1 2, 1, .inr (.inl f)))] _ := hP
    have hD : va_D _ [(h1, .inr (8, [.int 0, .int 0, .int 0, .int 0, .ref (w 0), .ref (w 1), .ref (w 2), .ref (w 3), .ref (w 4), .ref (w 5), .ref (w 6), .ref (w 7), .ref (w 8), .ref (w 9)])), (a, .inl (g.2.1 2, 1, .inr (.inl f)))] := hD
    refine W.widen (k := 381) (n := 194485) (by decide) (by decide) ?_
    refine lv_istore (lv' := [(5, .int (nI 1)), (4, .int (nI 0)), (3, .ref a), (2, .ref h1), (1, .ref h0), (0, .ref b)]) hx hb dL_law_563 hl (by decide) rfl (fun ls hl => ?_)
    refine lv_aload_n hx hb dL_law_565 rfl (lv_at hl 3 rfl) ?_
    refine lv_aload_n hx hb dL_law_566 rfl (lv_at hl 5 rfl) ?_
    refine lv_iload hx hb dL_law_567 (lv_at hl 1 rfl) ?_
    refine lv_iconst (v := nI 1) hx hb dL_law_569 (by decide) ?_
    refine mi_iadd hx hb dL_law_570 ?_
    refine mi_as (show nI (0 + 1) = nI 1 from rfl) ?_
    refine va_sld hx hb hXs hbl hbA hS (vp_in_nI (N := 6) (by omega) (by omega)) dL_law_571 ?_
    refine mi_as hv1 ?_
    refine lv_aload_n hx hb dL_law_572 rfl (lv_at hl 5 rfl) ?_
    refine lv_iload hx hb dL_law_573 (lv_at hl 1 rfl) ?_
    refine lv_iconst (v := nI 2) hx hb dL_law_575 (by decide) ?_
    refine mi_iadd hx hb dL_law_576 ?_
    refine mi_as (show nI (0 + 2) = nI 2 from rfl) ?_
    refine va_sld hx hb hXs hbl hbA hS (vp_in_nI (N := 6) (by omega) (by omega)) dL_law_577 ?_
    refine mi_as hv2 ?_
    refine lv_if_eq (tgt := 585) hx hb dL_law_578 (by decide) (fun h25 => absurd h25 h21) (fun h25 => ?_)
    refine lv_iconst (v := nI 1) hx hb dL_law_581 (by decide) ?_
    refine lv_goto (tgt := 586) hx hb dL_law_582 (by decide) ?_
    refine lv_aload_n hx hb dL_law_586 rfl (lv_at hl 5 rfl) ?_
    refine lv_iload hx hb dL_law_587 (lv_at hl 1 rfl) ?_
    refine lv_iconst (v := nI 3) hx hb dL_law_589 (by decide) ?_
    refine mi_iadd hx hb dL_law_590 ?_
    refine mi_as (show nI (0 + 3) = nI 3 from rfl) ?_
    refine va_sld hx hb hXs hbl hbA hS (vp_in_nI (N := 6) (by omega) (by omega)) dL_law_591 ?_
    refine mi_as hv3 ?_
    refine mc_i (wc := [(h1, .inr (8, [.int 0, .int 0, .int 0, .int 0, .ref (w 0), .ref (w 1), .ref (w 2), .ref (w 3), .ref (w 4), .ref (w 5), .ref (w 6), .ref (w 7), .ref (w 8), .ref (w 9)]))]) (wr := [(a, .inl (g.2.1 2, 1, .inr (.inl f)))]) hP hD hS hA [0] [1] rfl rfl rfl (by decide) (va_runV (As := [.int v1, .int (nI 1), .int v3]) (rest := []) F (x_M_part l g _ h1 w v1 (nI 1) v3) (cwV 3 hts (wg_app (wg_c kw_1777 (wg_c kw_1778 (wg_c kw_1779 (wg_c kw_9 wg_n)))) kw_1780) rfl rfl rfl (by decide +kernel) ⟨by decide, by decide⟩) (pr_V (en_ok g) (q0 := 0) hK hP hD hS hA hE [0] rfl rfl rfl rfl) rfl rfl hl.1 rfl (lv_room (Nat.le_of_ble_eq_true rfl)) dL_law_592 ⟨(by decide), (by decide)⟩) (fun r5 u5 H locs hu5 hP hD hS => ?_)
    subst hu5
    have hP : va_P g.1 vcl [(a, .inl (g.2.1 2, 1, .inr (.inl f))), (h1, .inr (8, [.int (nI 1), .int 0, .int 0, .int 0, .ref (w 0), .ref (w 1), .ref (w 2), .ref (w 3), .ref (w 4), .ref (w 5), .ref (w 6), .ref (w 7), .ref (w 8), .ref (w 9)]))] _ := hP
    have hD : va_D _ [(a, .inl (g.2.1 2, 1, .inr (.inl f))), (h1, .inr (8, [.int (nI 1), .int 0, .int 0, .int 0, .ref (w 0), .ref (w 1), .ref (w 2), .ref (w 3), .ref (w 4), .ref (w 5), .ref (w 6), .ref (w 7), .ref (w 8), .ref (w 9)]))] := hD
    refine W.widen (k := 381) (n := 194485) (by omega) (by omega) ?_
    refine lv_istore (lv' := [(6, .int (nI 0)), (5, .int (nI 1)), (4, .int (nI 0)), (3, .ref a), (2, .ref h1), (1, .ref h0), (0, .ref b)]) hx hb dL_law_595 hl (by decide) rfl (fun ls hl => ?_)
    refine lv_aload_n hx hb dL_law_597 rfl (lv_at hl 4 rfl) ?_
    refine mr_i (wc := [(h1, .inr (8, [.int (nI 1), .int 0, .int 0, .int 0, .ref (w 0), .ref (w 1), .ref (w 2), .ref (w 3), .ref (w 4), .ref (w 5), .ref (w 6), .ref (w 7), .ref (w 8), .ref (w 9)]))]) (wr := [(a, .inl (g.2.1 2, 1, .inr (.inl f)))]) hP hD hS hA [1] [0] rfl rfl rfl (by decide) (va_runV (As := []) (rest := []) F (m_M_thrown l g _ h1 w (nI 1) 0 0 0) (cwV 0 hts (wg_app (wg_c kw_1569 (wg_c kw_1570 (wg_c kw_1571 (wg_c kw_9 wg_n)))) kw_1572) rfl rfl rfl (by decide +kernel) ⟨by decide, by decide⟩) (pr_V (en_ok g) (q0 := 1) hK hP hD hS hA hE [1] rfl rfl rfl rfl) rfl rfl hl.1 rfl (lv_room (Nat.le_of_ble_eq_true rfl)) dL_law_598 ⟨(by decide), (by decide)⟩) (fun r6 u6 H hu6 hP hD hS => ?_)
    subst hu6
    have hP : va_P g.1 vcl [(a, .inl (g.2.1 2, 1, .inr (.inl f)))] _ := hP
    have hD : va_D _ [(a, .inl (g.2.1 2, 1, .inr (.inl f)))] := hD
    refine W.widen (k := 381) (n := 194485) (by omega) (by omega) ?_
    refine lv_iload hx hb dL_law_601 (lv_at hl 1 rfl) ?_
    refine mi_eq (tgt := 608) hx hb dL_law_603 (by decide) (by omega) (by omega) (fun h26 => ?_) (fun h26 => absurd h26 (by omega))
    refine lv_iload hx hb dL_law_608 (lv_at hl 1 rfl) ?_
    refine lv_if_ne (tgt := 625) hx hb dL_law_610 (by decide) (fun h27 => ?_) (fun h27 => absurd h27 (by decide))
    refine lv_goto (tgt := 1184) hx hb dL_law_625 (by decide) ?_
    exact law_end l C0 F hS (lv_subm hl [2, 6] rfl) (by decide) (by decide)
set_option maxHeartbeats 400000 in
set_option maxRecDepth 100000 in
theorem law_show {p : Program} {e : Env} {s : State} {m : MethodId} {below : List Frame} {meth : Method} {c : Code} (l : Launch) (htr : l.stackTraces = false) {b : Nat} {xs : Nat → Int32} (C0 : lw_At p s m meth c b 6 xs) (g : Gd) (F : CallFix p m c c_L_law 7 s #[Value.ref b] wL "LatticeKeysLaw") (hX : ex g (Alaw s) s s.heap) (h0 h1 a : Nat) (u w : Nat → Nat) (fa : Nat → Nat → Int64) (fu : Nat → Int32) (f : Nat → Int64) (v1 : Int32) (v2 : Int32) (hv1 : xs (nI 1).toNatClampNeg = v1) (hv2 : xs (nI 2).toNatClampNeg = v2) {H : Heap} {locs : List Loc} {ls : Array Slot} (hP : va_P g.1 vcl [(h0, .inr (0, [.ref (u 0), .int (nI 0), .ref (u 1), .int (nI 0), .ref (u 12), .int (nI 0), .ref (u 2), .ref (u 3), .ref (u 4), .ref (u 13), .ref (u 14)])), (h1, .inr (8, [.int 0, .int 0, .int 0, .int 0, .ref (w 0), .ref (w 1), .ref (w 2), .ref (w 3), .ref (w 4), .ref (w 5), .ref (w 6), .ref (w 7), .ref (w 8), .ref (w 9)])), (a, .inl (g.2.1 2, 1, .inr (.inl f)))] H) (hD : va_D (Alaw s) [(h0, .inr (0, [.ref (u 0), .int (nI 0), .ref (u 1), .int (nI 0), .ref (u 12), .int (nI 0), .ref (u 2), .ref (u 3), .ref (u 4), .ref (u 13), .ref (u 14)])), (h1, .inr (8, [.int 0, .int 0, .int 0, .int 0, .ref (w 0), .ref (w 1), .ref (w 2), .ref (w 3), .ref (w 4), .ref (w 5), .ref (w 6), .ref (w 7), .ref (w 8), .ref (w 9)])), (a, .inl (g.2.1 2, 1, .inr (.inl f)))]) (hS : va_S (Alaw s) s.heap H locs) (hl : lv_has ls 7 [(4, .int (nI 0)), (3, .ref a), (2, .ref h1), (1, .ref h0), (0, .ref b)]) : W p l e room_1 s m #[Value.ref b] below meth c H locs 380 194479 (lw_Z below #[Value.ref b] s) (F0 m 628 ls []) := by
  obtain ⟨hx, hb, hml, hown, hts⟩ := id F
  have hE := hX.1
  have hK := hE.1
  have hA : ∀ q, s.heap.size ≤ q → Alaw s q := fun _ h => h
  obtain ⟨-, -, hr, -, -, -, hXs, hbl, hlk, -⟩ := id C0
  have hbA : ¬ Alaw s b := fun h => Nat.not_lt.mpr h hbl
  refine lv_aload_n hx hb dL_law_628 rfl (lv_at hl 3 rfl) ?_
  refine lv_aload_n hx hb dL_law_629 rfl (lv_at hl 4 rfl) ?_
  refine lv_iload hx hb dL_law_630 (lv_at hl 0 rfl) ?_
  refine lv_iconst (v := nI 1) hx hb dL_law_632 (by decide) ?_
  refine mi_iadd hx hb dL_law_633 ?_
  refine mi_as (show nI (0 + 1) = nI 1 from rfl) ?_
  refine va_sld hx hb hXs hbl hbA hS (vp_in_nI (N := 6) (by omega) (by omega)) dL_law_634 ?_
  refine mi_as hv1 ?_
  refine lv_aload_n hx hb dL_law_635 rfl (lv_at hl 4 rfl) ?_
  refine lv_iload hx hb dL_law_636 (lv_at hl 0 rfl) ?_
  refine lv_iconst (v := nI 2) hx hb dL_law_638 (by decide) ?_
  refine mi_iadd hx hb dL_law_639 ?_
  refine mi_as (show nI (0 + 2) = nI 2 from rfl) ?_
  refine va_sld hx hb hXs hbl hbA hS (vp_in_nI (N := 6) (by omega) (by omega)) dL_law_640 ?_
  refine mi_as hv2 ?_
  refine lv_if_eq (tgt := 648) hx hb dL_law_641 (by decide) (fun h21 => ?_) (fun h21 => ?_)
  · refine lv_iconst (v := nI 0) hx hb dL_law_648 (by decide) ?_
    refine lv_aload_n hx hb dL_law_649 rfl (lv_at hl 1 rfl) ?_
    refine mc_i (wc := [(h0, .inr (0, [.ref (u 0), .int (nI 0), .ref (u 1), .int (nI 0), .ref (u 12), .int (nI 0), .ref (u 2), .ref (u 3), .ref (u 4), .ref (u 13), .ref (u 14)])), (a, .inl (g.2.1 2, 1, .inr (.inl f)))]) (wr := [(h1, .inr (8, [.int 0, .int 0, .int 0, .int 0, .ref (w 0), .ref (w 1), .ref (w 2), .ref (w 3), .ref (w 4), .ref (w 5), .ref (w 6), .ref (w 7), .ref (w 8), .ref (w 9)]))]) hP hD hS hA [0, 2] [1] rfl rfl rfl (by decide) (lc_run (As := [.ref h0, .int v1, .int (nI 0), .ref a]) (rest := []) F (lx_show l htr g _ h0 u v1 (nI 0) a f) (lc_cw 4 hts (wg_app (wg_c kw_1081 (wg_c kw_1082 (wg_c kw_0 wg_n))) kw_1083) rfl rfl rfl (by decide +kernel) ⟨by decide, by decide⟩) (pr_S (ex_ok g) hP hD hS hA hX [0, 2] rfl rfl) rfl rfl hl.1 rfl (lv_room (Nat.le_of_ble_eq_true rfl)) dL_law_650 ⟨(by decide), (by decide)⟩) (fun r1 u1 H locs hu1 hP hD hS => ?_)
    subst hu1
    have hP : va_P g.1 vcl [(h1, .inr (8, [.int 0, .int 0, .int 0, .int 0, .ref (w 0), .ref (w 1), .ref (w 2), .ref (w 3), .ref (w 4), .ref (w 5), .ref (w 6), .ref (w 7), .ref (w 8), .ref (w 9)])), (a, .inl (g.2.1 2, 1, .inr (.inl f)))] _ := hP
    have hD : va_D _ [(h1, .inr (8, [.int 0, .int 0, .int 0, .int 0, .ref (w 0), .ref (w 1), .ref (w 2), .ref (w 3), .ref (w 4), .ref (w 5), .ref (w 6), .ref (w 7), .ref (w 8), .ref (w 9)])), (a, .inl (g.2.1 2, 1, .inr (.inl f)))] := hD
    refine W.widen (k := 381) (n := 194485) (by decide) (by decide) ?_
    refine lv_istore (lv' := [(5, .int (nI 1)), (4, .int (nI 0)), (3, .ref a), (2, .ref h1), (1, .ref h0), (0, .ref b)]) hx hb dL_law_653 hl (by decide) rfl (fun ls hl => ?_)
    refine lv_aload_n hx hb dL_law_655 rfl (lv_at hl 3 rfl) ?_
    refine lv_aload_n hx hb dL_law_656 rfl (lv_at hl 5 rfl) ?_
    refine lv_iload hx hb dL_law_657 (lv_at hl 1 rfl) ?_
    refine lv_iconst (v := nI 1) hx hb dL_law_659 (by decide) ?_
    refine mi_iadd hx hb dL_law_660 ?_
    refine mi_as (show nI (0 + 1) = nI 1 from rfl) ?_
    refine va_sld hx hb hXs hbl hbA hS (vp_in_nI (N := 6) (by omega) (by omega)) dL_law_661 ?_
    refine mi_as hv1 ?_
    refine lv_aload_n hx hb dL_law_662 rfl (lv_at hl 5 rfl) ?_
    refine lv_iload hx hb dL_law_663 (lv_at hl 1 rfl) ?_
    refine lv_iconst (v := nI 2) hx hb dL_law_665 (by decide) ?_
    refine mi_iadd hx hb dL_law_666 ?_
    refine mi_as (show nI (0 + 2) = nI 2 from rfl) ?_
    refine va_sld hx hb hXs hbl hbA hS (vp_in_nI (N := 6) (by omega) (by omega)) dL_law_667 ?_
    refine mi_as hv2 ?_
    refine lv_if_eq (tgt := 675) hx hb dL_law_668 (by decide) (fun h22 => ?_) (fun h22 => absurd h21 h22)
    refine lv_iconst (v := nI 0) hx hb dL_law_675 (by decide) ?_
    refine mc_i (wc := [(h1, .inr (8, [.int 0, .int 0, .int 0, .int 0, .ref (w 0), .ref (w 1), .ref (w 2), .ref (w 3), .ref (w 4), .ref (w 5), .ref (w 6), .ref (w 7), .ref (w 8), .ref (w 9)]))]) (wr := [(a, .inl (g.2.1 2, 1, .inr (.inl f)))]) hP hD hS hA [0] [1] rfl rfl rfl (by decide) (va_runV (As := [.int v1, .int (nI 0)]) (rest := []) F (x_M_show l g _ h1 w v1 (nI 0)) (cwV 2 hts (wg_app (wg_c kw_1789 (wg_c kw_1790 (wg_c kw_1791 (wg_c kw_9 wg_n)))) kw_1792) rfl rfl rfl (by decide +kernel) ⟨by decide, by decide⟩) (pr_V (en_ok g) (q0 := 0) hK hP hD hS hA hE [0] rfl rfl rfl rfl) rfl rfl hl.1 rfl (lv_room (Nat.le_of_ble_eq_true rfl)) dL_law_676 ⟨(by decide), (by decide)⟩) (fun r2 u2 H locs hu2 hP hD hS => ?_)
    subst hu2
    have hP : va_P g.1 vcl [(a, .inl (g.2.1 2, 1, .inr (.inl f))), (h1, .inr (8, [.int (nI 1), .int 0, .int 0, .int 0, .ref (w 0), .ref (w 1), .ref (w 2), .ref (w 3), .ref (w 4), .ref (w 5), .ref (w 6), .ref (w 7), .ref (w 8), .ref (w 9)]))] _ := hP
    have hD : va_D _ [(a, .inl (g.2.1 2, 1, .inr (.inl f))), (h1, .inr (8, [.int (nI 1), .int 0, .int 0, .int 0, .ref (w 0), .ref (w 1), .ref (w 2), .ref (w 3), .ref (w 4), .ref (w 5), .ref (w 6), .ref (w 7), .ref (w 8), .ref (w 9)]))] := hD
    refine W.widen (k := 381) (n := 194485) (by omega) (by omega) ?_
    refine lv_istore (lv' := [(6, .int (nI 0)), (5, .int (nI 1)), (4, .int (nI 0)), (3, .ref a), (2, .ref h1), (1, .ref h0), (0, .ref b)]) hx hb dL_law_679 hl (by decide) rfl (fun ls hl => ?_)
    refine lv_aload_n hx hb dL_law_681 rfl (lv_at hl 4 rfl) ?_
    refine mr_i (wc := [(h1, .inr (8, [.int (nI 1), .int 0, .int 0, .int 0, .ref (w 0), .ref (w 1), .ref (w 2), .ref (w 3), .ref (w 4), .ref (w 5), .ref (w 6), .ref (w 7), .ref (w 8), .ref (w 9)]))]) (wr := [(a, .inl (g.2.1 2, 1, .inr (.inl f)))]) hP hD hS hA [1] [0] rfl rfl rfl (by decide) (va_runV (As := []) (rest := []) F (m_M_thrown l g _ h1 w (nI 1) 0 0 0) (cwV 0 hts (wg_app (wg_c kw_1569 (wg_c kw_1570 (wg_c kw_1571 (wg_c kw_9 wg_n)))) kw_1572) rfl rfl rfl (by decide +kernel) ⟨by decide, by decide⟩) (pr_V (en_ok g) (q0 := 1) hK hP hD hS hA hE [1] rfl rfl rfl rfl) rfl rfl hl.1 rfl (lv_room (Nat.le_of_ble_eq_true rfl)) dL_law_682 ⟨(by decide), (by decide)⟩) (fun r3 u3 H hu3 hP hD hS => ?_)
    subst hu3
    have hP : va_P g.1 vcl [(a, .inl (g.2.1 2, 1, .inr (.inl f)))] _ := hP
    have hD : va_D _ [(a, .inl (g.2.1 2, 1, .inr (.inl f)))] := hD
    refine W.widen (k := 381) (n := 194485) (by omega) (by omega) ?_
    refine lv_iload hx hb dL_law_685 (lv_at hl 1 rfl) ?_
    refine mi_eq (tgt := 692) hx hb dL_law_687 (by decide) (by omega) (by omega) (fun h23 => ?_) (fun h23 => absurd h23 (by omega))
    refine lv_iload hx hb dL_law_692 (lv_at hl 1 rfl) ?_
    refine lv_if_ne (tgt := 709) hx hb dL_law_694 (by decide) (fun h24 => ?_) (fun h24 => absurd h24 (by decide))
    refine lv_goto (tgt := 1184) hx hb dL_law_709 (by decide) ?_
    exact law_end l C0 F hS (lv_subm hl [2, 6] rfl) (by decide) (by decide)
  · refine lv_iconst (v := nI 1) hx hb dL_law_644 (by decide) ?_
    refine lv_goto (tgt := 649) hx hb dL_law_645 (by decide) ?_
    refine lv_aload_n hx hb dL_law_649 rfl (lv_at hl 1 rfl) ?_
    refine mc_i (wc := [(h0, .inr (0, [.ref (u 0), .int (nI 0), .ref (u 1), .int (nI 0), .ref (u 12), .int (nI 0), .ref (u 2), .ref (u 3), .ref (u 4), .ref (u 13), .ref (u 14)])), (a, .inl (g.2.1 2, 1, .inr (.inl f)))]) (wr := [(h1, .inr (8, [.int 0, .int 0, .int 0, .int 0, .ref (w 0), .ref (w 1), .ref (w 2), .ref (w 3), .ref (w 4), .ref (w 5), .ref (w 6), .ref (w 7), .ref (w 8), .ref (w 9)]))]) hP hD hS hA [0, 2] [1] rfl rfl rfl (by decide) (lc_run (As := [.ref h0, .int v1, .int (nI 1), .ref a]) (rest := []) F (lx_show l htr g _ h0 u v1 (nI 1) a f) (lc_cw 4 hts (wg_app (wg_c kw_1081 (wg_c kw_1082 (wg_c kw_0 wg_n))) kw_1083) rfl rfl rfl (by decide +kernel) ⟨by decide, by decide⟩) (pr_S (ex_ok g) hP hD hS hA hX [0, 2] rfl rfl) rfl rfl hl.1 rfl (lv_room (Nat.le_of_ble_eq_true rfl)) dL_law_650 ⟨(by decide), (by decide)⟩) (fun r4 u4 H locs hu4 hP hD hS => ?_)
    subst hu4
    have hP : va_P g.1 vcl [(h1, .inr (8, [.int 0, .int 0, .int 0, .int 0, .ref (w 0), .ref (w 1), .ref (w 2), .ref (w 3), .ref (w 4), .ref (w 5), .ref (w 6), .ref (w 7), .ref (w 8), .ref (w 9)])), (a, .inl (g.2.1 2, 1, .inr (.inl f)))] _ := hP
    have hD : va_D _ [(h1, .inr (8, [.int 0, .int 0, .int 0, .int 0, .ref (w 0), .ref (w 1), .ref (w 2), .ref (w 3), .ref (w 4), .ref (w 5), .ref (w 6), .ref (w 7), .ref (w 8), .ref (w 9)])), (a, .inl (g.2.1 2, 1, .inr (.inl f)))] := hD
    refine W.widen (k := 381) (n := 194485) (by decide) (by decide) ?_
    refine lv_istore (lv' := [(5, .int (nI 1)), (4, .int (nI 0)), (3, .ref a), (2, .ref h1), (1, .ref h0), (0, .ref b)]) hx hb dL_law_653 hl (by decide) rfl (fun ls hl => ?_)
    refine lv_aload_n hx hb dL_law_655 rfl (lv_at hl 3 rfl) ?_
    refine lv_aload_n hx hb dL_law_656 rfl (lv_at hl 5 rfl) ?_
    refine lv_iload hx hb dL_law_657 (lv_at hl 1 rfl) ?_
    refine lv_iconst (v := nI 1) hx hb dL_law_659 (by decide) ?_
    refine mi_iadd hx hb dL_law_660 ?_
    refine mi_as (show nI (0 + 1) = nI 1 from rfl) ?_
    refine va_sld hx hb hXs hbl hbA hS (vp_in_nI (N := 6) (by omega) (by omega)) dL_law_661 ?_
    refine mi_as hv1 ?_
    refine lv_aload_n hx hb dL_law_662 rfl (lv_at hl 5 rfl) ?_
    refine lv_iload hx hb dL_law_663 (lv_at hl 1 rfl) ?_
    refine lv_iconst (v := nI 2) hx hb dL_law_665 (by decide) ?_
    refine mi_iadd hx hb dL_law_666 ?_
    refine mi_as (show nI (0 + 2) = nI 2 from rfl) ?_
    refine va_sld hx hb hXs hbl hbA hS (vp_in_nI (N := 6) (by omega) (by omega)) dL_law_667 ?_
    refine mi_as hv2 ?_
    refine lv_if_eq (tgt := 675) hx hb dL_law_668 (by decide) (fun h25 => absurd h25 h21) (fun h25 => ?_)
    refine lv_iconst (v := nI 1) hx hb dL_law_671 (by decide) ?_
    refine lv_goto (tgt := 676) hx hb dL_law_672 (by decide) ?_
    refine mc_i (wc := [(h1, .inr (8, [.int 0, .int 0, .int 0, .int 0, .ref (w 0), .ref (w 1), .ref (w 2), .ref (w 3), .ref (w 4), .ref (w 5), .ref (w 6), .ref (w 7), .ref (w 8), .ref (w 9)]))]) (wr := [(a, .inl (g.2.1 2, 1, .inr (.inl f)))]) hP hD hS hA [0] [1] rfl rfl rfl (by decide) (va_runV (As := [.int v1, .int (nI 1)]) (rest := []) F (x_M_show l g _ h1 w v1 (nI 1)) (cwV 2 hts (wg_app (wg_c kw_1789 (wg_c kw_1790 (wg_c kw_1791 (wg_c kw_9 wg_n)))) kw_1792) rfl rfl rfl (by decide +kernel) ⟨by decide, by decide⟩) (pr_V (en_ok g) (q0 := 0) hK hP hD hS hA hE [0] rfl rfl rfl rfl) rfl rfl hl.1 rfl (lv_room (Nat.le_of_ble_eq_true rfl)) dL_law_676 ⟨(by decide), (by decide)⟩) (fun r5 u5 H locs hu5 hP hD hS => ?_)
    subst hu5
    have hP : va_P g.1 vcl [(a, .inl (g.2.1 2, 1, .inr (.inl f))), (h1, .inr (8, [.int (nI 1), .int 0, .int 0, .int 0, .ref (w 0), .ref (w 1), .ref (w 2), .ref (w 3), .ref (w 4), .ref (w 5), .ref (w 6), .ref (w 7), .ref (w 8), .ref (w 9)]))] _ := hP
    have hD : va_D _ [(a, .inl (g.2.1 2, 1, .inr (.inl f))), (h1, .inr (8, [.int (nI 1), .int 0, .int 0, .int 0, .ref (w 0), .ref (w 1), .ref (w 2), .ref (w 3), .ref (w 4), .ref (w 5), .ref (w 6), .ref (w 7), .ref (w 8), .ref (w 9)]))] := hD
    refine W.widen (k := 381) (n := 194485) (by omega) (by omega) ?_
    refine lv_istore (lv' := [(6, .int (nI 0)), (5, .int (nI 1)), (4, .int (nI 0)), (3, .ref a), (2, .ref h1), (1, .ref h0), (0, .ref b)]) hx hb dL_law_679 hl (by decide) rfl (fun ls hl => ?_)
    refine lv_aload_n hx hb dL_law_681 rfl (lv_at hl 4 rfl) ?_
    refine mr_i (wc := [(h1, .inr (8, [.int (nI 1), .int 0, .int 0, .int 0, .ref (w 0), .ref (w 1), .ref (w 2), .ref (w 3), .ref (w 4), .ref (w 5), .ref (w 6), .ref (w 7), .ref (w 8), .ref (w 9)]))]) (wr := [(a, .inl (g.2.1 2, 1, .inr (.inl f)))]) hP hD hS hA [1] [0] rfl rfl rfl (by decide) (va_runV (As := []) (rest := []) F (m_M_thrown l g _ h1 w (nI 1) 0 0 0) (cwV 0 hts (wg_app (wg_c kw_1569 (wg_c kw_1570 (wg_c kw_1571 (wg_c kw_9 wg_n)))) kw_1572) rfl rfl rfl (by decide +kernel) ⟨by decide, by decide⟩) (pr_V (en_ok g) (q0 := 1) hK hP hD hS hA hE [1] rfl rfl rfl rfl) rfl rfl hl.1 rfl (lv_room (Nat.le_of_ble_eq_true rfl)) dL_law_682 ⟨(by decide), (by decide)⟩) (fun r6 u6 H hu6 hP hD hS => ?_)
    subst hu6
    have hP : va_P g.1 vcl [(a, .inl (g.2.1 2, 1, .inr (.inl f)))] _ := hP
    have hD : va_D _ [(a, .inl (g.2.1 2, 1, .inr (.inl f)))] := hD
    refine W.widen (k := 381) (n := 194485) (by omega) (by omega) ?_
    refine lv_iload hx hb dL_law_685 (lv_at hl 1 rfl) ?_
    refine mi_eq (tgt := 692) hx hb dL_law_687 (by decide) (by omega) (by omega) (fun h26 => ?_) (fun h26 => absurd h26 (by omega))
    refine lv_iload hx hb dL_law_692 (lv_at hl 1 rfl) ?_
    refine lv_if_ne (tgt := 709) hx hb dL_law_694 (by decide) (fun h27 => ?_) (fun h27 => absurd h27 (by decide))
    refine lv_goto (tgt := 1184) hx hb dL_law_709 (by decide) ?_
    exact law_end l C0 F hS (lv_subm hl [2, 6] rfl) (by decide) (by decide)
set_option maxHeartbeats 400000 in
set_option maxRecDepth 100000 in
theorem law_told {p : Program} {e : Env} {s : State} {m : MethodId} {below : List Frame} {meth : Method} {c : Code} (l : Launch) (htr : l.stackTraces = false) {b : Nat} {xs : Nat → Int32} (C0 : lw_At p s m meth c b 6 xs) (g : Gd) (F : CallFix p m c c_L_law 7 s #[Value.ref b] wL "LatticeKeysLaw") (hX : ex g (Alaw s) s s.heap) (h0 h1 a : Nat) (u w : Nat → Nat) (fa : Nat → Nat → Int64) (fu : Nat → Int32) (f : Nat → Int64) (v1 : Int32) (v2 : Int32) (hv1 : xs (nI 1).toNatClampNeg = v1) (hv2 : xs (nI 2).toNatClampNeg = v2) {H : Heap} {locs : List Loc} {ls : Array Slot} (hP : va_P g.1 vcl [(h0, .inr (0, [.ref (u 0), .int (nI 0), .ref (u 1), .int (nI 0), .ref (u 12), .int (nI 0), .ref (u 2), .ref (u 3), .ref (u 4), .ref (u 13), .ref (u 14)])), (h1, .inr (8, [.int 0, .int 0, .int 0, .int 0, .ref (w 0), .ref (w 1), .ref (w 2), .ref (w 3), .ref (w 4), .ref (w 5), .ref (w 6), .ref (w 7), .ref (w 8), .ref (w 9)])), (a, .inl (g.2.1 2, 1, .inr (.inl f)))] H) (hD : va_D (Alaw s) [(h0, .inr (0, [.ref (u 0), .int (nI 0), .ref (u 1), .int (nI 0), .ref (u 12), .int (nI 0), .ref (u 2), .ref (u 3), .ref (u 4), .ref (u 13), .ref (u 14)])), (h1, .inr (8, [.int 0, .int 0, .int 0, .int 0, .ref (w 0), .ref (w 1), .ref (w 2), .ref (w 3), .ref (w 4), .ref (w 5), .ref (w 6), .ref (w 7), .ref (w 8), .ref (w 9)])), (a, .inl (g.2.1 2, 1, .inr (.inl f)))]) (hS : va_S (Alaw s) s.heap H locs) (hl : lv_has ls 7 [(4, .int (nI 0)), (3, .ref a), (2, .ref h1), (1, .ref h0), (0, .ref b)]) : W p l e room_1 s m #[Value.ref b] below meth c H locs 380 194479 (lw_Z below #[Value.ref b] s) (F0 m 712 ls []) := by
  obtain ⟨hx, hb, hml, hown, hts⟩ := id F
  have hE := hX.1
  have hK := hE.1
  have hA : ∀ q, s.heap.size ≤ q → Alaw s q := fun _ h => h
  obtain ⟨-, -, hr, -, -, -, hXs, hbl, hlk, -⟩ := id C0
  have hbA : ¬ Alaw s b := fun h => Nat.not_lt.mpr h hbl
  refine lv_aload_n hx hb dL_law_712 rfl (lv_at hl 3 rfl) ?_
  refine lv_aload_n hx hb dL_law_713 rfl (lv_at hl 4 rfl) ?_
  refine lv_iload hx hb dL_law_714 (lv_at hl 0 rfl) ?_
  refine lv_iconst (v := nI 1) hx hb dL_law_716 (by decide) ?_
  refine mi_iadd hx hb dL_law_717 ?_
  refine mi_as (show nI (0 + 1) = nI 1 from rfl) ?_
  refine va_sld hx hb hXs hbl hbA hS (vp_in_nI (N := 6) (by omega) (by omega)) dL_law_718 ?_
  refine mi_as hv1 ?_
  refine lv_aload_n hx hb dL_law_719 rfl (lv_at hl 4 rfl) ?_
  refine lv_iload hx hb dL_law_720 (lv_at hl 0 rfl) ?_
  refine lv_iconst (v := nI 2) hx hb dL_law_722 (by decide) ?_
  refine mi_iadd hx hb dL_law_723 ?_
  refine mi_as (show nI (0 + 2) = nI 2 from rfl) ?_
  refine va_sld hx hb hXs hbl hbA hS (vp_in_nI (N := 6) (by omega) (by omega)) dL_law_724 ?_
  refine mi_as hv2 ?_
  refine lv_aload_n hx hb dL_law_725 rfl (lv_at hl 1 rfl) ?_
  refine mc_i (wc := [(h0, .inr (0, [.ref (u 0), .int (nI 0), .ref (u 1), .int (nI 0), .ref (u 12), .int (nI 0), .ref (u 2), .ref (u 3), .ref (u 4), .ref (u 13), .ref (u 14)])), (a, .inl (g.2.1 2, 1, .inr (.inl f)))]) (wr := [(h1, .inr (8, [.int 0, .int 0, .int 0, .int 0, .ref (w 0), .ref (w 1), .ref (w 2), .ref (w 3), .ref (w 4), .ref (w 5), .ref (w 6), .ref (w 7), .ref (w 8), .ref (w 9)]))]) hP hD hS hA [0, 2] [1] rfl rfl rfl (by decide) (lc_run (As := [.ref h0, .int v1, .int v2, .ref a]) (rest := []) F (lx_told l htr g _ h0 u v1 v2 a f) (lc_cw 4 hts (wg_app (wg_c kw_1088 (wg_c kw_1089 (wg_c kw_0 wg_n))) kw_1090) rfl rfl rfl (by decide +kernel) ⟨by decide, by decide⟩) (pr_S (ex_ok g) hP hD hS hA hX [0, 2] rfl rfl) rfl rfl hl.1 rfl (lv_room (Nat.le_of_ble_eq_true rfl)) dL_law_726 ⟨(by decide), (by decide)⟩) (fun r1 u1 H locs hu1 hP hD hS => ?_)
  subst hu1
  have hP : va_P g.1 vcl [(h1, .inr (8, [.int 0, .int 0, .int 0, .int 0, .ref (w 0), .ref (w 1), .ref (w 2), .ref (w 3), .ref (w 4), .ref (w 5), .ref (w 6), .ref (w 7), .ref (w 8), .ref (w 9)])), (a, .inl (g.2.1 2, 1, .inr (.inl f)))] _ := hP
  have hD : va_D _ [(h1, .inr (8, [.int 0, .int 0, .int 0, .int 0, .ref (w 0), .ref (w 1), .ref (w 2), .ref (w 3), .ref (w 4), .ref (w 5), .ref (w 6), .ref (w 7), .ref (w 8), .ref (w 9)])), (a, .inl (g.2.1 2, 1, .inr (.inl f)))] := hD
  refine W.widen (k := 381) (n := 194485) (by decide) (by decide) ?_
  refine lv_istore (lv' := [(5, .int (nI 1)), (4, .int (nI 0)), (3, .ref a), (2, .ref h1), (1, .ref h0), (0, .ref b)]) hx hb dL_law_729 hl (by decide) rfl (fun ls hl => ?_)
  refine lv_aload_n hx hb dL_law_731 rfl (lv_at hl 3 rfl) ?_
  refine lv_aload_n hx hb dL_law_732 rfl (lv_at hl 5 rfl) ?_
  refine lv_iload hx hb dL_law_733 (lv_at hl 1 rfl) ?_
  refine lv_iconst (v := nI 1) hx hb dL_law_735 (by decide) ?_
  refine mi_iadd hx hb dL_law_736 ?_
  refine mi_as (show nI (0 + 1) = nI 1 from rfl) ?_
  refine va_sld hx hb hXs hbl hbA hS (vp_in_nI (N := 6) (by omega) (by omega)) dL_law_737 ?_
  refine mi_as hv1 ?_
  refine lv_aload_n hx hb dL_law_738 rfl (lv_at hl 5 rfl) ?_
  refine lv_iload hx hb dL_law_739 (lv_at hl 1 rfl) ?_
  refine lv_iconst (v := nI 2) hx hb dL_law_741 (by decide) ?_
  refine mi_iadd hx hb dL_law_742 ?_
  refine mi_as (show nI (0 + 2) = nI 2 from rfl) ?_
  refine va_sld hx hb hXs hbl hbA hS (vp_in_nI (N := 6) (by omega) (by omega)) dL_law_743 ?_
  refine mi_as hv2 ?_
  refine mc_i (wc := [(h1, .inr (8, [.int 0, .int 0, .int 0, .int 0, .ref (w 0), .ref (w 1), .ref (w 2), .ref (w 3), .ref (w 4), .ref (w 5), .ref (w 6), .ref (w 7), .ref (w 8), .ref (w 9)]))]) (wr := [(a, .inl (g.2.1 2, 1, .inr (.inl f)))]) hP hD hS hA [0] [1] rfl rfl rfl (by decide) (va_runV (As := [.int v1, .int v2]) (rest := []) F (x_M_told l g _ h1 w v1 v2) (cwV 2 hts (wg_app (wg_c kw_1793 (wg_c kw_1794 (wg_c kw_1795 (wg_c kw_9 wg_n)))) kw_1796) rfl rfl rfl (by decide +kernel) ⟨by decide, by decide⟩) (pr_V (en_ok g) (q0 := 0) hK hP hD hS hA hE [0] rfl rfl rfl rfl) rfl rfl hl.1 rfl (lv_room (Nat.le_of_ble_eq_true rfl)) dL_law_744 ⟨(by decide), (by decide)⟩) (fun r2 u2 H locs hu2 hP hD hS => ?_)
  subst hu2
  have hP : va_P g.1 vcl [(a, .inl (g.2.1 2, 1, .inr (.inl f))), (h1, .inr (8, [.int (nI 1), .int 0, .int 0, .int 0, .ref (w 0), .ref (w 1), .ref (w 2), .ref (w 3), .ref (w 4), .ref (w 5), .ref (w 6), .ref (w 7), .ref (w 8), .ref (w 9)]))] _ := hP
  have hD : va_D _ [(a, .inl (g.2.1 2, 1, .inr (.inl f))), (h1, .inr (8, [.int (nI 1), .int 0, .int 0, .int 0, .ref (w 0), .ref (w 1), .ref (w 2), .ref (w 3), .ref (w 4), .ref (w 5), .ref (w 6), .ref (w 7), .ref (w 8), .ref (w 9)]))] := hD
  refine W.widen (k := 381) (n := 194485) (by omega) (by omega) ?_
  refine lv_istore (lv' := [(6, .int (nI 0)), (5, .int (nI 1)), (4, .int (nI 0)), (3, .ref a), (2, .ref h1), (1, .ref h0), (0, .ref b)]) hx hb dL_law_747 hl (by decide) rfl (fun ls hl => ?_)
  refine lv_aload_n hx hb dL_law_749 rfl (lv_at hl 4 rfl) ?_
  refine mr_i (wc := [(h1, .inr (8, [.int (nI 1), .int 0, .int 0, .int 0, .ref (w 0), .ref (w 1), .ref (w 2), .ref (w 3), .ref (w 4), .ref (w 5), .ref (w 6), .ref (w 7), .ref (w 8), .ref (w 9)]))]) (wr := [(a, .inl (g.2.1 2, 1, .inr (.inl f)))]) hP hD hS hA [1] [0] rfl rfl rfl (by decide) (va_runV (As := []) (rest := []) F (m_M_thrown l g _ h1 w (nI 1) 0 0 0) (cwV 0 hts (wg_app (wg_c kw_1569 (wg_c kw_1570 (wg_c kw_1571 (wg_c kw_9 wg_n)))) kw_1572) rfl rfl rfl (by decide +kernel) ⟨by decide, by decide⟩) (pr_V (en_ok g) (q0 := 1) hK hP hD hS hA hE [1] rfl rfl rfl rfl) rfl rfl hl.1 rfl (lv_room (Nat.le_of_ble_eq_true rfl)) dL_law_750 ⟨(by decide), (by decide)⟩) (fun r3 u3 H hu3 hP hD hS => ?_)
  subst hu3
  have hP : va_P g.1 vcl [(a, .inl (g.2.1 2, 1, .inr (.inl f)))] _ := hP
  have hD : va_D _ [(a, .inl (g.2.1 2, 1, .inr (.inl f)))] := hD
  refine W.widen (k := 381) (n := 194485) (by omega) (by omega) ?_
  refine lv_iload hx hb dL_law_753 (lv_at hl 1 rfl) ?_
  refine mi_eq (tgt := 760) hx hb dL_law_755 (by decide) (by omega) (by omega) (fun h21 => ?_) (fun h21 => absurd h21 (by omega))
  refine lv_iload hx hb dL_law_760 (lv_at hl 1 rfl) ?_
  refine lv_if_ne (tgt := 777) hx hb dL_law_762 (by decide) (fun h22 => ?_) (fun h22 => absurd h22 (by decide))
  refine lv_goto (tgt := 1184) hx hb dL_law_777 (by decide) ?_
  exact law_end l C0 F hS (lv_subm hl [2, 6] rfl) (by decide) (by decide)
set_option maxHeartbeats 400000 in
set_option maxRecDepth 100000 in
theorem law_seal {p : Program} {e : Env} {s : State} {m : MethodId} {below : List Frame} {meth : Method} {c : Code} (l : Launch) (htr : l.stackTraces = false) {b : Nat} {xs : Nat → Int32} (C0 : lw_At p s m meth c b 6 xs) (g : Gd) (F : CallFix p m c c_L_law 7 s #[Value.ref b] wL "LatticeKeysLaw") (hX : ex g (Alaw s) s s.heap) (h0 h1 a : Nat) (u w : Nat → Nat) (fa : Nat → Nat → Int64) (fu : Nat → Int32) (f : Nat → Int64) (v1 : Int32) (hv1 : xs (nI 1).toNatClampNeg = v1) {H : Heap} {locs : List Loc} {ls : Array Slot} (hP : va_P g.1 vcl [(h0, .inr (0, [.ref (u 0), .int (nI 0), .ref (u 1), .int (nI 0), .ref (u 12), .int (nI 0), .ref (u 2), .ref (u 3), .ref (u 4), .ref (u 13), .ref (u 14)])), (h1, .inr (8, [.int 0, .int 0, .int 0, .int 0, .ref (w 0), .ref (w 1), .ref (w 2), .ref (w 3), .ref (w 4), .ref (w 5), .ref (w 6), .ref (w 7), .ref (w 8), .ref (w 9)])), (a, .inl (g.2.1 2, 1, .inr (.inl f)))] H) (hD : va_D (Alaw s) [(h0, .inr (0, [.ref (u 0), .int (nI 0), .ref (u 1), .int (nI 0), .ref (u 12), .int (nI 0), .ref (u 2), .ref (u 3), .ref (u 4), .ref (u 13), .ref (u 14)])), (h1, .inr (8, [.int 0, .int 0, .int 0, .int 0, .ref (w 0), .ref (w 1), .ref (w 2), .ref (w 3), .ref (w 4), .ref (w 5), .ref (w 6), .ref (w 7), .ref (w 8), .ref (w 9)])), (a, .inl (g.2.1 2, 1, .inr (.inl f)))]) (hS : va_S (Alaw s) s.heap H locs) (hl : lv_has ls 7 [(4, .int (nI 0)), (3, .ref a), (2, .ref h1), (1, .ref h0), (0, .ref b)]) : W p l e room_1 s m #[Value.ref b] below meth c H locs 380 194479 (lw_Z below #[Value.ref b] s) (F0 m 780 ls []) := by
  obtain ⟨hx, hb, hml, hown, hts⟩ := id F
  have hE := hX.1
  have hK := hE.1
  have hA : ∀ q, s.heap.size ≤ q → Alaw s q := fun _ h => h
  obtain ⟨-, -, hr, -, -, -, hXs, hbl, hlk, -⟩ := id C0
  have hbA : ¬ Alaw s b := fun h => Nat.not_lt.mpr h hbl
  refine lv_aload_n hx hb dL_law_780 rfl (lv_at hl 3 rfl) ?_
  refine lv_aload_n hx hb dL_law_781 rfl (lv_at hl 4 rfl) ?_
  refine lv_iload hx hb dL_law_782 (lv_at hl 0 rfl) ?_
  refine lv_iconst (v := nI 1) hx hb dL_law_784 (by decide) ?_
  refine mi_iadd hx hb dL_law_785 ?_
  refine mi_as (show nI (0 + 1) = nI 1 from rfl) ?_
  refine va_sld hx hb hXs hbl hbA hS (vp_in_nI (N := 6) (by omega) (by omega)) dL_law_786 ?_
  refine mi_as hv1 ?_
  refine lv_aload_n hx hb dL_law_787 rfl (lv_at hl 1 rfl) ?_
  refine mc_i (wc := [(h0, .inr (0, [.ref (u 0), .int (nI 0), .ref (u 1), .int (nI 0), .ref (u 12), .int (nI 0), .ref (u 2), .ref (u 3), .ref (u 4), .ref (u 13), .ref (u 14)])), (a, .inl (g.2.1 2, 1, .inr (.inl f)))]) (wr := [(h1, .inr (8, [.int 0, .int 0, .int 0, .int 0, .ref (w 0), .ref (w 1), .ref (w 2), .ref (w 3), .ref (w 4), .ref (w 5), .ref (w 6), .ref (w 7), .ref (w 8), .ref (w 9)]))]) hP hD hS hA [0, 2] [1] rfl rfl rfl (by decide) (lc_run (As := [.ref h0, .int v1, .ref a]) (rest := []) F (lx_seal l htr g _ h0 u v1 a f) (lc_cw 3 hts (wg_app (wg_c kw_1097 (wg_c kw_1098 (wg_c kw_0 wg_n))) kw_1099) rfl rfl rfl (by decide +kernel) ⟨by decide, by decide⟩) (pr_S (ex_ok g) hP hD hS hA hX [0, 2] rfl rfl) rfl rfl hl.1 rfl (lv_room (Nat.le_of_ble_eq_true rfl)) dL_law_788 ⟨(by decide), (by decide)⟩) (fun r1 u1 H locs hu1 hP hD hS => ?_)
  subst hu1
  have hP : va_P g.1 vcl [(h1, .inr (8, [.int 0, .int 0, .int 0, .int 0, .ref (w 0), .ref (w 1), .ref (w 2), .ref (w 3), .ref (w 4), .ref (w 5), .ref (w 6), .ref (w 7), .ref (w 8), .ref (w 9)])), (a, .inl (g.2.1 2, 1, .inr (.inl f)))] _ := hP
  have hD : va_D _ [(h1, .inr (8, [.int 0, .int 0, .int 0, .int 0, .ref (w 0), .ref (w 1), .ref (w 2), .ref (w 3), .ref (w 4), .ref (w 5), .ref (w 6), .ref (w 7), .ref (w 8), .ref (w 9)])), (a, .inl (g.2.1 2, 1, .inr (.inl f)))] := hD
  refine W.widen (k := 381) (n := 194485) (by decide) (by decide) ?_
  refine lv_istore (lv' := [(5, .int (nI 1)), (4, .int (nI 0)), (3, .ref a), (2, .ref h1), (1, .ref h0), (0, .ref b)]) hx hb dL_law_791 hl (by decide) rfl (fun ls hl => ?_)
  refine lv_aload_n hx hb dL_law_793 rfl (lv_at hl 3 rfl) ?_
  refine lv_aload_n hx hb dL_law_794 rfl (lv_at hl 5 rfl) ?_
  refine lv_iload hx hb dL_law_795 (lv_at hl 1 rfl) ?_
  refine lv_iconst (v := nI 1) hx hb dL_law_797 (by decide) ?_
  refine mi_iadd hx hb dL_law_798 ?_
  refine mi_as (show nI (0 + 1) = nI 1 from rfl) ?_
  refine va_sld hx hb hXs hbl hbA hS (vp_in_nI (N := 6) (by omega) (by omega)) dL_law_799 ?_
  refine mi_as hv1 ?_
  refine mc_i (wc := [(h1, .inr (8, [.int 0, .int 0, .int 0, .int 0, .ref (w 0), .ref (w 1), .ref (w 2), .ref (w 3), .ref (w 4), .ref (w 5), .ref (w 6), .ref (w 7), .ref (w 8), .ref (w 9)]))]) (wr := [(a, .inl (g.2.1 2, 1, .inr (.inl f)))]) hP hD hS hA [0] [1] rfl rfl rfl (by decide) (va_runV (As := [.int v1]) (rest := []) F (x_M_seal l g _ h1 w v1) (cwV 1 hts (wg_app (wg_c kw_1797 (wg_c kw_1798 (wg_c kw_1799 (wg_c kw_9 wg_n)))) kw_1800) rfl rfl rfl (by decide +kernel) ⟨by decide, by decide⟩) (pr_V (en_ok g) (q0 := 0) hK hP hD hS hA hE [0] rfl rfl rfl rfl) rfl rfl hl.1 rfl (lv_room (Nat.le_of_ble_eq_true rfl)) dL_law_800 ⟨(by decide), (by decide)⟩) (fun r2 u2 H locs hu2 hP hD hS => ?_)
  subst hu2
  have hP : va_P g.1 vcl [(a, .inl (g.2.1 2, 1, .inr (.inl f))), (h1, .inr (8, [.int (nI 1), .int 0, .int 0, .int 0, .ref (w 0), .ref (w 1), .ref (w 2), .ref (w 3), .ref (w 4), .ref (w 5), .ref (w 6), .ref (w 7), .ref (w 8), .ref (w 9)]))] _ := hP
  have hD : va_D _ [(a, .inl (g.2.1 2, 1, .inr (.inl f))), (h1, .inr (8, [.int (nI 1), .int 0, .int 0, .int 0, .ref (w 0), .ref (w 1), .ref (w 2), .ref (w 3), .ref (w 4), .ref (w 5), .ref (w 6), .ref (w 7), .ref (w 8), .ref (w 9)]))] := hD
  refine W.widen (k := 381) (n := 194485) (by omega) (by omega) ?_
  refine lv_istore (lv' := [(6, .int (nI 0)), (5, .int (nI 1)), (4, .int (nI 0)), (3, .ref a), (2, .ref h1), (1, .ref h0), (0, .ref b)]) hx hb dL_law_803 hl (by decide) rfl (fun ls hl => ?_)
  refine lv_aload_n hx hb dL_law_805 rfl (lv_at hl 4 rfl) ?_
  refine mr_i (wc := [(h1, .inr (8, [.int (nI 1), .int 0, .int 0, .int 0, .ref (w 0), .ref (w 1), .ref (w 2), .ref (w 3), .ref (w 4), .ref (w 5), .ref (w 6), .ref (w 7), .ref (w 8), .ref (w 9)]))]) (wr := [(a, .inl (g.2.1 2, 1, .inr (.inl f)))]) hP hD hS hA [1] [0] rfl rfl rfl (by decide) (va_runV (As := []) (rest := []) F (m_M_thrown l g _ h1 w (nI 1) 0 0 0) (cwV 0 hts (wg_app (wg_c kw_1569 (wg_c kw_1570 (wg_c kw_1571 (wg_c kw_9 wg_n)))) kw_1572) rfl rfl rfl (by decide +kernel) ⟨by decide, by decide⟩) (pr_V (en_ok g) (q0 := 1) hK hP hD hS hA hE [1] rfl rfl rfl rfl) rfl rfl hl.1 rfl (lv_room (Nat.le_of_ble_eq_true rfl)) dL_law_806 ⟨(by decide), (by decide)⟩) (fun r3 u3 H hu3 hP hD hS => ?_)
  subst hu3
  have hP : va_P g.1 vcl [(a, .inl (g.2.1 2, 1, .inr (.inl f)))] _ := hP
  have hD : va_D _ [(a, .inl (g.2.1 2, 1, .inr (.inl f)))] := hD
  refine W.widen (k := 381) (n := 194485) (by omega) (by omega) ?_
  refine lv_iload hx hb dL_law_809 (lv_at hl 1 rfl) ?_
  refine mi_eq (tgt := 816) hx hb dL_law_811 (by decide) (by omega) (by omega) (fun h21 => ?_) (fun h21 => absurd h21 (by omega))
  refine lv_iload hx hb dL_law_816 (lv_at hl 1 rfl) ?_
  refine lv_if_ne (tgt := 833) hx hb dL_law_818 (by decide) (fun h22 => ?_) (fun h22 => absurd h22 (by decide))
  refine lv_goto (tgt := 1184) hx hb dL_law_833 (by decide) ?_
  exact law_end l C0 F hS (lv_subm hl [2, 6] rfl) (by decide) (by decide)
set_option maxHeartbeats 400000 in
set_option maxRecDepth 100000 in
theorem law_open {p : Program} {e : Env} {s : State} {m : MethodId} {below : List Frame} {meth : Method} {c : Code} (l : Launch) (htr : l.stackTraces = false) {b : Nat} {xs : Nat → Int32} (C0 : lw_At p s m meth c b 6 xs) (g : Gd) (F : CallFix p m c c_L_law 7 s #[Value.ref b] wL "LatticeKeysLaw") (hX : ex g (Alaw s) s s.heap) (h0 h1 a : Nat) (u w : Nat → Nat) (fa : Nat → Nat → Int64) (fu : Nat → Int32) (f : Nat → Int64) (v1 : Int32) (hv1 : xs (nI 1).toNatClampNeg = v1) {H : Heap} {locs : List Loc} {ls : Array Slot} (hP : va_P g.1 vcl [(h0, .inr (0, [.ref (u 0), .int (nI 0), .ref (u 1), .int (nI 0), .ref (u 12), .int (nI 0), .ref (u 2), .ref (u 3), .ref (u 4), .ref (u 13), .ref (u 14)])), (h1, .inr (8, [.int 0, .int 0, .int 0, .int 0, .ref (w 0), .ref (w 1), .ref (w 2), .ref (w 3), .ref (w 4), .ref (w 5), .ref (w 6), .ref (w 7), .ref (w 8), .ref (w 9)])), (a, .inl (g.2.1 2, 1, .inr (.inl f)))] H) (hD : va_D (Alaw s) [(h0, .inr (0, [.ref (u 0), .int (nI 0), .ref (u 1), .int (nI 0), .ref (u 12), .int (nI 0), .ref (u 2), .ref (u 3), .ref (u 4), .ref (u 13), .ref (u 14)])), (h1, .inr (8, [.int 0, .int 0, .int 0, .int 0, .ref (w 0), .ref (w 1), .ref (w 2), .ref (w 3), .ref (w 4), .ref (w 5), .ref (w 6), .ref (w 7), .ref (w 8), .ref (w 9)])), (a, .inl (g.2.1 2, 1, .inr (.inl f)))]) (hS : va_S (Alaw s) s.heap H locs) (hl : lv_has ls 7 [(4, .int (nI 0)), (3, .ref a), (2, .ref h1), (1, .ref h0), (0, .ref b)]) : W p l e room_1 s m #[Value.ref b] below meth c H locs 380 194479 (lw_Z below #[Value.ref b] s) (F0 m 836 ls []) := by
  obtain ⟨hx, hb, hml, hown, hts⟩ := id F
  have hE := hX.1
  have hK := hE.1
  have hA : ∀ q, s.heap.size ≤ q → Alaw s q := fun _ h => h
  obtain ⟨-, -, hr, -, -, -, hXs, hbl, hlk, -⟩ := id C0
  have hbA : ¬ Alaw s b := fun h => Nat.not_lt.mpr h hbl
  refine lv_aload_n hx hb dL_law_836 rfl (lv_at hl 3 rfl) ?_
  refine lv_aload_n hx hb dL_law_837 rfl (lv_at hl 4 rfl) ?_
  refine lv_iload hx hb dL_law_838 (lv_at hl 0 rfl) ?_
  refine lv_iconst (v := nI 1) hx hb dL_law_840 (by decide) ?_
  refine mi_iadd hx hb dL_law_841 ?_
  refine mi_as (show nI (0 + 1) = nI 1 from rfl) ?_
  refine va_sld hx hb hXs hbl hbA hS (vp_in_nI (N := 6) (by omega) (by omega)) dL_law_842 ?_
  refine mi_as hv1 ?_
  refine lv_aload_n hx hb dL_law_843 rfl (lv_at hl 1 rfl) ?_
  refine mc_i (wc := [(h0, .inr (0, [.ref (u 0), .int (nI 0), .ref (u 1), .int (nI 0), .ref (u 12), .int (nI 0), .ref (u 2), .ref (u 3), .ref (u 4), .ref (u 13), .ref (u 14)])), (a, .inl (g.2.1 2, 1, .inr (.inl f)))]) (wr := [(h1, .inr (8, [.int 0, .int 0, .int 0, .int 0, .ref (w 0), .ref (w 1), .ref (w 2), .ref (w 3), .ref (w 4), .ref (w 5), .ref (w 6), .ref (w 7), .ref (w 8), .ref (w 9)]))]) hP hD hS hA [0, 2] [1] rfl rfl rfl (by decide) (lc_run (As := [.ref h0, .int v1, .ref a]) (rest := []) F (lx_open l htr g _ h0 u v1 a f) (lc_cw 3 hts (wg_app (wg_c kw_1137 (wg_c kw_1138 (wg_c kw_0 wg_n))) kw_1139) rfl rfl rfl (by decide +kernel) ⟨by decide, by decide⟩) (pr_S (ex_ok g) hP hD hS hA hX [0, 2] rfl rfl) rfl rfl hl.1 rfl (lv_room (Nat.le_of_ble_eq_true rfl)) dL_law_844 ⟨(by decide), (by decide)⟩) (fun r1 u1 H locs hu1 hP hD hS => ?_)
  subst hu1
  have hP : va_P g.1 vcl [(h1, .inr (8, [.int 0, .int 0, .int 0, .int 0, .ref (w 0), .ref (w 1), .ref (w 2), .ref (w 3), .ref (w 4), .ref (w 5), .ref (w 6), .ref (w 7), .ref (w 8), .ref (w 9)])), (a, .inl (g.2.1 2, 1, .inr (.inl f)))] _ := hP
  have hD : va_D _ [(h1, .inr (8, [.int 0, .int 0, .int 0, .int 0, .ref (w 0), .ref (w 1), .ref (w 2), .ref (w 3), .ref (w 4), .ref (w 5), .ref (w 6), .ref (w 7), .ref (w 8), .ref (w 9)])), (a, .inl (g.2.1 2, 1, .inr (.inl f)))] := hD
  refine W.widen (k := 381) (n := 194485) (by decide) (by decide) ?_
  refine lv_istore (lv' := [(5, .int (nI 1)), (4, .int (nI 0)), (3, .ref a), (2, .ref h1), (1, .ref h0), (0, .ref b)]) hx hb dL_law_847 hl (by decide) rfl (fun ls hl => ?_)
  refine lv_aload_n hx hb dL_law_849 rfl (lv_at hl 3 rfl) ?_
  refine lv_aload_n hx hb dL_law_850 rfl (lv_at hl 5 rfl) ?_
  refine lv_iload hx hb dL_law_851 (lv_at hl 1 rfl) ?_
  refine lv_iconst (v := nI 1) hx hb dL_law_853 (by decide) ?_
  refine mi_iadd hx hb dL_law_854 ?_
  refine mi_as (show nI (0 + 1) = nI 1 from rfl) ?_
  refine va_sld hx hb hXs hbl hbA hS (vp_in_nI (N := 6) (by omega) (by omega)) dL_law_855 ?_
  refine mi_as hv1 ?_
  refine mc_i (wc := [(h1, .inr (8, [.int 0, .int 0, .int 0, .int 0, .ref (w 0), .ref (w 1), .ref (w 2), .ref (w 3), .ref (w 4), .ref (w 5), .ref (w 6), .ref (w 7), .ref (w 8), .ref (w 9)]))]) (wr := [(a, .inl (g.2.1 2, 1, .inr (.inl f)))]) hP hD hS hA [0] [1] rfl rfl rfl (by decide) (va_runV (As := [.int v1]) (rest := []) F (x_M_open l g _ h1 w v1) (cwV 1 hts (wg_app (wg_c kw_1843 (wg_c kw_1844 (wg_c kw_1845 (wg_c kw_9 wg_n)))) kw_1846) rfl rfl rfl (by decide +kernel) ⟨by decide, by decide⟩) (pr_V (en_ok g) (q0 := 0) hK hP hD hS hA hE [0] rfl rfl rfl rfl) rfl rfl hl.1 rfl (lv_room (Nat.le_of_ble_eq_true rfl)) dL_law_856 ⟨(by decide), (by decide)⟩) (fun r2 u2 H locs hu2 hP hD hS => ?_)
  subst hu2
  have hP : va_P g.1 vcl [(a, .inl (g.2.1 2, 1, .inr (.inl f))), (h1, .inr (8, [.int (nI 1), .int 0, .int 0, .int 0, .ref (w 0), .ref (w 1), .ref (w 2), .ref (w 3), .ref (w 4), .ref (w 5), .ref (w 6), .ref (w 7), .ref (w 8), .ref (w 9)]))] _ := hP
  have hD : va_D _ [(a, .inl (g.2.1 2, 1, .inr (.inl f))), (h1, .inr (8, [.int (nI 1), .int 0, .int 0, .int 0, .ref (w 0), .ref (w 1), .ref (w 2), .ref (w 3), .ref (w 4), .ref (w 5), .ref (w 6), .ref (w 7), .ref (w 8), .ref (w 9)]))] := hD
  refine W.widen (k := 381) (n := 194485) (by omega) (by omega) ?_
  refine lv_istore (lv' := [(6, .int (nI 0)), (5, .int (nI 1)), (4, .int (nI 0)), (3, .ref a), (2, .ref h1), (1, .ref h0), (0, .ref b)]) hx hb dL_law_859 hl (by decide) rfl (fun ls hl => ?_)
  refine lv_aload_n hx hb dL_law_861 rfl (lv_at hl 4 rfl) ?_
  refine mr_i (wc := [(h1, .inr (8, [.int (nI 1), .int 0, .int 0, .int 0, .ref (w 0), .ref (w 1), .ref (w 2), .ref (w 3), .ref (w 4), .ref (w 5), .ref (w 6), .ref (w 7), .ref (w 8), .ref (w 9)]))]) (wr := [(a, .inl (g.2.1 2, 1, .inr (.inl f)))]) hP hD hS hA [1] [0] rfl rfl rfl (by decide) (va_runV (As := []) (rest := []) F (m_M_thrown l g _ h1 w (nI 1) 0 0 0) (cwV 0 hts (wg_app (wg_c kw_1569 (wg_c kw_1570 (wg_c kw_1571 (wg_c kw_9 wg_n)))) kw_1572) rfl rfl rfl (by decide +kernel) ⟨by decide, by decide⟩) (pr_V (en_ok g) (q0 := 1) hK hP hD hS hA hE [1] rfl rfl rfl rfl) rfl rfl hl.1 rfl (lv_room (Nat.le_of_ble_eq_true rfl)) dL_law_862 ⟨(by decide), (by decide)⟩) (fun r3 u3 H hu3 hP hD hS => ?_)
  subst hu3
  have hP : va_P g.1 vcl [(a, .inl (g.2.1 2, 1, .inr (.inl f)))] _ := hP
  have hD : va_D _ [(a, .inl (g.2.1 2, 1, .inr (.inl f)))] := hD
  refine W.widen (k := 381) (n := 194485) (by omega) (by omega) ?_
  refine lv_iload hx hb dL_law_865 (lv_at hl 1 rfl) ?_
  refine mi_eq (tgt := 872) hx hb dL_law_867 (by decide) (by omega) (by omega) (fun h21 => ?_) (fun h21 => absurd h21 (by omega))
  refine lv_iload hx hb dL_law_872 (lv_at hl 1 rfl) ?_
  refine lv_if_ne (tgt := 889) hx hb dL_law_874 (by decide) (fun h22 => ?_) (fun h22 => absurd h22 (by decide))
  refine lv_goto (tgt := 1184) hx hb dL_law_889 (by decide) ?_
  exact law_end l C0 F hS (lv_subm hl [2, 6] rfl) (by decide) (by decide)
set_option maxHeartbeats 400000 in
set_option maxRecDepth 100000 in
theorem law_sign {p : Program} {e : Env} {s : State} {m : MethodId} {below : List Frame} {meth : Method} {c : Code} (l : Launch) (htr : l.stackTraces = false) {b : Nat} {xs : Nat → Int32} (C0 : lw_At p s m meth c b 6 xs) (g : Gd) (F : CallFix p m c c_L_law 7 s #[Value.ref b] wL "LatticeKeysLaw") (hX : ex g (Alaw s) s s.heap) (h0 h1 a : Nat) (u w : Nat → Nat) (fa : Nat → Nat → Int64) (fu : Nat → Int32) (f : Nat → Int64) (v1 : Int32) (v2 : Int32) (hv1 : xs (nI 1).toNatClampNeg = v1) (hv2 : xs (nI 2).toNatClampNeg = v2) {H : Heap} {locs : List Loc} {ls : Array Slot} (hP : va_P g.1 vcl [(h0, .inr (0, [.ref (u 0), .int (nI 0), .ref (u 1), .int (nI 0), .ref (u 12), .int (nI 0), .ref (u 2), .ref (u 3), .ref (u 4), .ref (u 13), .ref (u 14)])), (h1, .inr (8, [.int 0, .int 0, .int 0, .int 0, .ref (w 0), .ref (w 1), .ref (w 2), .ref (w 3), .ref (w 4), .ref (w 5), .ref (w 6), .ref (w 7), .ref (w 8), .ref (w 9)])), (a, .inl (g.2.1 2, 1, .inr (.inl f)))] H) (hD : va_D (Alaw s) [(h0, .inr (0, [.ref (u 0), .int (nI 0), .ref (u 1), .int (nI 0), .ref (u 12), .int (nI 0), .ref (u 2), .ref (u 3), .ref (u 4), .ref (u 13), .ref (u 14)])), (h1, .inr (8, [.int 0, .int 0, .int 0, .int 0, .ref (w 0), .ref (w 1), .ref (w 2), .ref (w 3), .ref (w 4), .ref (w 5), .ref (w 6), .ref (w 7), .ref (w 8), .ref (w 9)])), (a, .inl (g.2.1 2, 1, .inr (.inl f)))]) (hS : va_S (Alaw s) s.heap H locs) (hl : lv_has ls 7 [(4, .int (nI 0)), (3, .ref a), (2, .ref h1), (1, .ref h0), (0, .ref b)]) : W p l e room_1 s m #[Value.ref b] below meth c H locs 380 194479 (lw_Z below #[Value.ref b] s) (F0 m 892 ls []) := by
  obtain ⟨hx, hb, hml, hown, hts⟩ := id F
  have hE := hX.1
  have hK := hE.1
  have hA : ∀ q, s.heap.size ≤ q → Alaw s q := fun _ h => h
  obtain ⟨-, -, hr, -, -, -, hXs, hbl, hlk, -⟩ := id C0
  have hbA : ¬ Alaw s b := fun h => Nat.not_lt.mpr h hbl
  refine lv_aload_n hx hb dL_law_892 rfl (lv_at hl 3 rfl) ?_
  refine lv_aload_n hx hb dL_law_893 rfl (lv_at hl 4 rfl) ?_
  refine lv_iload hx hb dL_law_894 (lv_at hl 0 rfl) ?_
  refine lv_iconst (v := nI 1) hx hb dL_law_896 (by decide) ?_
  refine mi_iadd hx hb dL_law_897 ?_
  refine mi_as (show nI (0 + 1) = nI 1 from rfl) ?_
  refine va_sld hx hb hXs hbl hbA hS (vp_in_nI (N := 6) (by omega) (by omega)) dL_law_898 ?_
  refine mi_as hv1 ?_
  refine lv_aload_n hx hb dL_law_899 rfl (lv_at hl 4 rfl) ?_
  refine lv_iload hx hb dL_law_900 (lv_at hl 0 rfl) ?_
  refine lv_iconst (v := nI 2) hx hb dL_law_902 (by decide) ?_
  refine mi_iadd hx hb dL_law_903 ?_
  refine mi_as (show nI (0 + 2) = nI 2 from rfl) ?_
  refine va_sld hx hb hXs hbl hbA hS (vp_in_nI (N := 6) (by omega) (by omega)) dL_law_904 ?_
  refine mi_as hv2 ?_
  refine lv_aload_n hx hb dL_law_905 rfl (lv_at hl 1 rfl) ?_
  refine mc_i (wc := [(h0, .inr (0, [.ref (u 0), .int (nI 0), .ref (u 1), .int (nI 0), .ref (u 12), .int (nI 0), .ref (u 2), .ref (u 3), .ref (u 4), .ref (u 13), .ref (u 14)])), (a, .inl (g.2.1 2, 1, .inr (.inl f)))]) (wr := [(h1, .inr (8, [.int 0, .int 0, .int 0, .int 0, .ref (w 0), .ref (w 1), .ref (w 2), .ref (w 3), .ref (w 4), .ref (w 5), .ref (w 6), .ref (w 7), .ref (w 8), .ref (w 9)]))]) hP hD hS hA [0, 2] [1] rfl rfl rfl (by decide) (lc_run (As := [.ref h0, .int v1, .int v2, .ref a]) (rest := []) F (lx_sign l htr g _ h0 u v1 v2 a f) (lc_cw 4 hts (wg_app (wg_c kw_1158 (wg_c kw_1159 (wg_c kw_0 wg_n))) kw_1160) rfl rfl rfl (by decide +kernel) ⟨by decide, by decide⟩) (pr_S (ex_ok g) hP hD hS hA hX [0, 2] rfl rfl) rfl rfl hl.1 rfl (lv_room (Nat.le_of_ble_eq_true rfl)) dL_law_906 ⟨(by decide), (by decide)⟩) (fun r1 u1 H locs hu1 hP hD hS => ?_)
  subst hu1
  have hP : va_P g.1 vcl [(h1, .inr (8, [.int 0, .int 0, .int 0, .int 0, .ref (w 0), .ref (w 1), .ref (w 2), .ref (w 3), .ref (w 4), .ref (w 5), .ref (w 6), .ref (w 7), .ref (w 8), .ref (w 9)])), (a, .inl (g.2.1 2, 1, .inr (.inl f)))] _ := hP
  have hD : va_D _ [(h1, .inr (8, [.int 0, .int 0, .int 0, .int 0, .ref (w 0), .ref (w 1), .ref (w 2), .ref (w 3), .ref (w 4), .ref (w 5), .ref (w 6), .ref (w 7), .ref (w 8), .ref (w 9)])), (a, .inl (g.2.1 2, 1, .inr (.inl f)))] := hD
  refine W.widen (k := 381) (n := 194485) (by decide) (by decide) ?_
  refine lv_istore (lv' := [(5, .int (nI 1)), (4, .int (nI 0)), (3, .ref a), (2, .ref h1), (1, .ref h0), (0, .ref b)]) hx hb dL_law_909 hl (by decide) rfl (fun ls hl => ?_)
  refine lv_aload_n hx hb dL_law_911 rfl (lv_at hl 3 rfl) ?_
  refine lv_aload_n hx hb dL_law_912 rfl (lv_at hl 5 rfl) ?_
  refine lv_iload hx hb dL_law_913 (lv_at hl 1 rfl) ?_
  refine lv_iconst (v := nI 1) hx hb dL_law_915 (by decide) ?_
  refine mi_iadd hx hb dL_law_916 ?_
  refine mi_as (show nI (0 + 1) = nI 1 from rfl) ?_
  refine va_sld hx hb hXs hbl hbA hS (vp_in_nI (N := 6) (by omega) (by omega)) dL_law_917 ?_
  refine mi_as hv1 ?_
  refine lv_aload_n hx hb dL_law_918 rfl (lv_at hl 5 rfl) ?_
  refine lv_iload hx hb dL_law_919 (lv_at hl 1 rfl) ?_
  refine lv_iconst (v := nI 2) hx hb dL_law_921 (by decide) ?_
  refine mi_iadd hx hb dL_law_922 ?_
  refine mi_as (show nI (0 + 2) = nI 2 from rfl) ?_
  refine va_sld hx hb hXs hbl hbA hS (vp_in_nI (N := 6) (by omega) (by omega)) dL_law_923 ?_
  refine mi_as hv2 ?_
  refine mc_i (wc := [(h1, .inr (8, [.int 0, .int 0, .int 0, .int 0, .ref (w 0), .ref (w 1), .ref (w 2), .ref (w 3), .ref (w 4), .ref (w 5), .ref (w 6), .ref (w 7), .ref (w 8), .ref (w 9)]))]) (wr := [(a, .inl (g.2.1 2, 1, .inr (.inl f)))]) hP hD hS hA [0] [1] rfl rfl rfl (by decide) (va_runV (As := [.int v1, .int v2]) (rest := []) F (x_M_sign l g _ h1 w v1 v2) (cwV 2 hts (wg_app (wg_c kw_1852 (wg_c kw_1853 (wg_c kw_1854 (wg_c kw_9 wg_n)))) kw_1855) rfl rfl rfl (by decide +kernel) ⟨by decide, by decide⟩) (pr_V (en_ok g) (q0 := 0) hK hP hD hS hA hE [0] rfl rfl rfl rfl) rfl rfl hl.1 rfl (lv_room (Nat.le_of_ble_eq_true rfl)) dL_law_924 ⟨(by decide), (by decide)⟩) (fun r2 u2 H locs hu2 hP hD hS => ?_)
  subst hu2
  have hP : va_P g.1 vcl [(a, .inl (g.2.1 2, 1, .inr (.inl f))), (h1, .inr (8, [.int (nI 1), .int 0, .int 0, .int 0, .ref (w 0), .ref (w 1), .ref (w 2), .ref (w 3), .ref (w 4), .ref (w 5), .ref (w 6), .ref (w 7), .ref (w 8), .ref (w 9)]))] _ := hP
  have hD : va_D _ [(a, .inl (g.2.1 2, 1, .inr (.inl f))), (h1, .inr (8, [.int (nI 1), .int 0, .int 0, .int 0, .ref (w 0), .ref (w 1), .ref (w 2), .ref (w 3), .ref (w 4), .ref (w 5), .ref (w 6), .ref (w 7), .ref (w 8), .ref (w 9)]))] := hD
  refine W.widen (k := 381) (n := 194485) (by omega) (by omega) ?_
  refine lv_istore (lv' := [(6, .int (nI 0)), (5, .int (nI 1)), (4, .int (nI 0)), (3, .ref a), (2, .ref h1), (1, .ref h0), (0, .ref b)]) hx hb dL_law_927 hl (by decide) rfl (fun ls hl => ?_)
  refine lv_aload_n hx hb dL_law_929 rfl (lv_at hl 4 rfl) ?_
  refine mr_i (wc := [(h1, .inr (8, [.int (nI 1), .int 0, .int 0, .int 0, .ref (w 0), .ref (w 1), .ref (w 2), .ref (w 3), .ref (w 4), .ref (w 5), .ref (w 6), .ref (w 7), .ref (w 8), .ref (w 9)]))]) (wr := [(a, .inl (g.2.1 2, 1, .inr (.inl f)))]) hP hD hS hA [1] [0] rfl rfl rfl (by decide) (va_runV (As := []) (rest := []) F (m_M_thrown l g _ h1 w (nI 1) 0 0 0) (cwV 0 hts (wg_app (wg_c kw_1569 (wg_c kw_1570 (wg_c kw_1571 (wg_c kw_9 wg_n)))) kw_1572) rfl rfl rfl (by decide +kernel) ⟨by decide, by decide⟩) (pr_V (en_ok g) (q0 := 1) hK hP hD hS hA hE [1] rfl rfl rfl rfl) rfl rfl hl.1 rfl (lv_room (Nat.le_of_ble_eq_true rfl)) dL_law_930 ⟨(by decide), (by decide)⟩) (fun r3 u3 H hu3 hP hD hS => ?_)
  subst hu3
  have hP : va_P g.1 vcl [(a, .inl (g.2.1 2, 1, .inr (.inl f)))] _ := hP
  have hD : va_D _ [(a, .inl (g.2.1 2, 1, .inr (.inl f)))] := hD
  refine W.widen (k := 381) (n := 194485) (by omega) (by omega) ?_
  refine lv_iload hx hb dL_law_933 (lv_at hl 1 rfl) ?_
  refine mi_eq (tgt := 940) hx hb dL_law_935 (by decide) (by omega) (by omega) (fun h21 => ?_) (fun h21 => absurd h21 (by omega))
  refine lv_iload hx hb dL_law_940 (lv_at hl 1 rfl) ?_
  refine lv_if_ne (tgt := 957) hx hb dL_law_942 (by decide) (fun h22 => ?_) (fun h22 => absurd h22 (by decide))
  refine lv_goto (tgt := 1184) hx hb dL_law_957 (by decide) ?_
  exact law_end l C0 F hS (lv_subm hl [2, 6] rfl) (by decide) (by decide)
set_option maxHeartbeats 400000 in
set_option maxRecDepth 100000 in
theorem law_verify {p : Program} {e : Env} {s : State} {m : MethodId} {below : List Frame} {meth : Method} {c : Code} (l : Launch) (htr : l.stackTraces = false) {b : Nat} {xs : Nat → Int32} (C0 : lw_At p s m meth c b 6 xs) (g : Gd) (F : CallFix p m c c_L_law 7 s #[Value.ref b] wL "LatticeKeysLaw") (hX : ex g (Alaw s) s s.heap) (h0 h1 a : Nat) (u w : Nat → Nat) (fa : Nat → Nat → Int64) (fu : Nat → Int32) (f : Nat → Int64) (v1 : Int32) (v2 : Int32) (hv1 : xs (nI 1).toNatClampNeg = v1) (hv2 : xs (nI 2).toNatClampNeg = v2) {H : Heap} {locs : List Loc} {ls : Array Slot} (hP : va_P g.1 vcl [(h0, .inr (0, [.ref (u 0), .int (nI 0), .ref (u 1), .int (nI 0), .ref (u 12), .int (nI 0), .ref (u 2), .ref (u 3), .ref (u 4), .ref (u 13), .ref (u 14)])), (h1, .inr (8, [.int 0, .int 0, .int 0, .int 0, .ref (w 0), .ref (w 1), .ref (w 2), .ref (w 3), .ref (w 4), .ref (w 5), .ref (w 6), .ref (w 7), .ref (w 8), .ref (w 9)])), (a, .inl (g.2.1 2, 1, .inr (.inl f)))] H) (hD : va_D (Alaw s) [(h0, .inr (0, [.ref (u 0), .int (nI 0), .ref (u 1), .int (nI 0), .ref (u 12), .int (nI 0), .ref (u 2), .ref (u 3), .ref (u 4), .ref (u 13), .ref (u 14)])), (h1, .inr (8, [.int 0, .int 0, .int 0, .int 0, .ref (w 0), .ref (w 1), .ref (w 2), .ref (w 3), .ref (w 4), .ref (w 5), .ref (w 6), .ref (w 7), .ref (w 8), .ref (w 9)])), (a, .inl (g.2.1 2, 1, .inr (.inl f)))]) (hS : va_S (Alaw s) s.heap H locs) (hl : lv_has ls 7 [(4, .int (nI 0)), (3, .ref a), (2, .ref h1), (1, .ref h0), (0, .ref b)]) : W p l e room_1 s m #[Value.ref b] below meth c H locs 380 194479 (lw_Z below #[Value.ref b] s) (F0 m 960 ls []) := by
  obtain ⟨hx, hb, hml, hown, hts⟩ := id F
  have hE := hX.1
  have hK := hE.1
  have hA : ∀ q, s.heap.size ≤ q → Alaw s q := fun _ h => h
  obtain ⟨-, -, hr, -, -, -, hXs, hbl, hlk, -⟩ := id C0
  have hbA : ¬ Alaw s b := fun h => Nat.not_lt.mpr h hbl
  refine lv_aload_n hx hb dL_law_960 rfl (lv_at hl 3 rfl) ?_
  refine lv_aload_n hx hb dL_law_961 rfl (lv_at hl 4 rfl) ?_
  refine lv_iload hx hb dL_law_962 (lv_at hl 0 rfl) ?_
  refine lv_iconst (v := nI 1) hx hb dL_law_964 (by decide) ?_
  refine mi_iadd hx hb dL_law_965 ?_
  refine mi_as (show nI (0 + 1) = nI 1 from rfl) ?_
  refine va_sld hx hb hXs hbl hbA hS (vp_in_nI (N := 6) (by omega) (by omega)) dL_law_966 ?_
  refine mi_as hv1 ?_
  refine lv_aload_n hx hb dL_law_967 rfl (lv_at hl 4 rfl) ?_
  refine lv_iload hx hb dL_law_968 (lv_at hl 0 rfl) ?_
  refine lv_iconst (v := nI 2) hx hb dL_law_970 (by decide) ?_
  refine mi_iadd hx hb dL_law_971 ?_
  refine mi_as (show nI (0 + 2) = nI 2 from rfl) ?_
  refine va_sld hx hb hXs hbl hbA hS (vp_in_nI (N := 6) (by omega) (by omega)) dL_law_972 ?_
  refine mi_as hv2 ?_
  refine lv_aload_n hx hb dL_law_973 rfl (lv_at hl 1 rfl) ?_
  refine mc_i (wc := [(h0, .inr (0, [.ref (u 0), .int (nI 0), .ref (u 1), .int (nI 0), .ref (u 12), .int (nI 0), .ref (u 2), .ref (u 3), .ref (u 4), .ref (u 13), .ref (u 14)])), (a, .inl (g.2.1 2, 1, .inr (.inl f)))]) (wr := [(h1, .inr (8, [.int 0, .int 0, .int 0, .int 0, .ref (w 0), .ref (w 1), .ref (w 2), .ref (w 3), .ref (w 4), .ref (w 5), .ref (w 6), .ref (w 7), .ref (w 8), .ref (w 9)]))]) hP hD hS hA [0, 2] [1] rfl rfl rfl (by decide) (lc_run (As := [.ref h0, .int v1, .int v2, .ref a]) (rest := []) F (lx_verify l htr g _ h0 u v1 v2 a f) (lc_cw 4 hts (wg_app (wg_c kw_1253 (wg_c kw_1254 (wg_c kw_0 wg_n))) kw_1255) rfl rfl rfl (by decide +kernel) ⟨by decide, by decide⟩) (pr_S (ex_ok g) hP hD hS hA hX [0, 2] rfl rfl) rfl rfl hl.1 rfl (lv_room (Nat.le_of_ble_eq_true rfl)) dL_law_974 ⟨(by decide), (by decide)⟩) (fun r1 u1 H locs hu1 hP hD hS => ?_)
  subst hu1
  have hP : va_P g.1 vcl [(h1, .inr (8, [.int 0, .int 0, .int 0, .int 0, .ref (w 0), .ref (w 1), .ref (w 2), .ref (w 3), .ref (w 4), .ref (w 5), .ref (w 6), .ref (w 7), .ref (w 8), .ref (w 9)])), (a, .inl (g.2.1 2, 1, .inr (.inl f)))] _ := hP
  have hD : va_D _ [(h1, .inr (8, [.int 0, .int 0, .int 0, .int 0, .ref (w 0), .ref (w 1), .ref (w 2), .ref (w 3), .ref (w 4), .ref (w 5), .ref (w 6), .ref (w 7), .ref (w 8), .ref (w 9)])), (a, .inl (g.2.1 2, 1, .inr (.inl f)))] := hD
  refine W.widen (k := 381) (n := 194485) (by decide) (by decide) ?_
  refine lv_istore (lv' := [(5, .int (nI 1)), (4, .int (nI 0)), (3, .ref a), (2, .ref h1), (1, .ref h0), (0, .ref b)]) hx hb dL_law_977 hl (by decide) rfl (fun ls hl => ?_)
  refine lv_aload_n hx hb dL_law_979 rfl (lv_at hl 3 rfl) ?_
  refine lv_aload_n hx hb dL_law_980 rfl (lv_at hl 5 rfl) ?_
  refine lv_iload hx hb dL_law_981 (lv_at hl 1 rfl) ?_
  refine lv_iconst (v := nI 1) hx hb dL_law_983 (by decide) ?_
  refine mi_iadd hx hb dL_law_984 ?_
  refine mi_as (show nI (0 + 1) = nI 1 from rfl) ?_
  refine va_sld hx hb hXs hbl hbA hS (vp_in_nI (N := 6) (by omega) (by omega)) dL_law_985 ?_
  refine mi_as hv1 ?_
  refine lv_aload_n hx hb dL_law_986 rfl (lv_at hl 5 rfl) ?_
  refine lv_iload hx hb dL_law_987 (lv_at hl 1 rfl) ?_
  refine lv_iconst (v := nI 2) hx hb dL_law_989 (by decide) ?_
  refine mi_iadd hx hb dL_law_990 ?_
  refine mi_as (show nI (0 + 2) = nI 2 from rfl) ?_
  refine va_sld hx hb hXs hbl hbA hS (vp_in_nI (N := 6) (by omega) (by omega)) dL_law_991 ?_
  refine mi_as hv2 ?_
  refine mc_i (wc := [(h1, .inr (8, [.int 0, .int 0, .int 0, .int 0, .ref (w 0), .ref (w 1), .ref (w 2), .ref (w 3), .ref (w 4), .ref (w 5), .ref (w 6), .ref (w 7), .ref (w 8), .ref (w 9)]))]) (wr := [(a, .inl (g.2.1 2, 1, .inr (.inl f)))]) hP hD hS hA [0] [1] rfl rfl rfl (by decide) (va_runV (As := [.int v1, .int v2]) (rest := []) F (x_M_verify l g _ h1 w v1 v2) (cwV 2 hts (wg_app (wg_c kw_1921 (wg_c kw_1922 (wg_c kw_1923 (wg_c kw_9 wg_n)))) kw_1924) rfl rfl rfl (by decide +kernel) ⟨by decide, by decide⟩) (pr_V (en_ok g) (q0 := 0) hK hP hD hS hA hE [0] rfl rfl rfl rfl) rfl rfl hl.1 rfl (lv_room (Nat.le_of_ble_eq_true rfl)) dL_law_992 ⟨(by decide), (by decide)⟩) (fun r2 u2 H locs hu2 hP hD hS => ?_)
  subst hu2
  have hP : va_P g.1 vcl [(a, .inl (g.2.1 2, 1, .inr (.inl f))), (h1, .inr (8, [.int (nI 1), .int 0, .int 0, .int 0, .ref (w 0), .ref (w 1), .ref (w 2), .ref (w 3), .ref (w 4), .ref (w 5), .ref (w 6), .ref (w 7), .ref (w 8), .ref (w 9)]))] _ := hP
  have hD : va_D _ [(a, .inl (g.2.1 2, 1, .inr (.inl f))), (h1, .inr (8, [.int (nI 1), .int 0, .int 0, .int 0, .ref (w 0), .ref (w 1), .ref (w 2), .ref (w 3), .ref (w 4), .ref (w 5), .ref (w 6), .ref (w 7), .ref (w 8), .ref (w 9)]))] := hD
  refine W.widen (k := 381) (n := 194485) (by omega) (by omega) ?_
  refine lv_istore (lv' := [(6, .int (nI 0)), (5, .int (nI 1)), (4, .int (nI 0)), (3, .ref a), (2, .ref h1), (1, .ref h0), (0, .ref b)]) hx hb dL_law_995 hl (by decide) rfl (fun ls hl => ?_)
  refine lv_aload_n hx hb dL_law_997 rfl (lv_at hl 4 rfl) ?_
  refine mr_i (wc := [(h1, .inr (8, [.int (nI 1), .int 0, .int 0, .int 0, .ref (w 0), .ref (w 1), .ref (w 2), .ref (w 3), .ref (w 4), .ref (w 5), .ref (w 6), .ref (w 7), .ref (w 8), .ref (w 9)]))]) (wr := [(a, .inl (g.2.1 2, 1, .inr (.inl f)))]) hP hD hS hA [1] [0] rfl rfl rfl (by decide) (va_runV (As := []) (rest := []) F (m_M_thrown l g _ h1 w (nI 1) 0 0 0) (cwV 0 hts (wg_app (wg_c kw_1569 (wg_c kw_1570 (wg_c kw_1571 (wg_c kw_9 wg_n)))) kw_1572) rfl rfl rfl (by decide +kernel) ⟨by decide, by decide⟩) (pr_V (en_ok g) (q0 := 1) hK hP hD hS hA hE [1] rfl rfl rfl rfl) rfl rfl hl.1 rfl (lv_room (Nat.le_of_ble_eq_true rfl)) dL_law_998 ⟨(by decide), (by decide)⟩) (fun r3 u3 H hu3 hP hD hS => ?_)
  subst hu3
  have hP : va_P g.1 vcl [(a, .inl (g.2.1 2, 1, .inr (.inl f)))] _ := hP
  have hD : va_D _ [(a, .inl (g.2.1 2, 1, .inr (.inl f)))] := hD
  refine W.widen (k := 381) (n := 194485) (by omega) (by omega) ?_
  refine lv_iload hx hb dL_law_1001 (lv_at hl 1 rfl) ?_
  refine mi_eq (tgt := 1008) hx hb dL_law_1003 (by decide) (by omega) (by omega) (fun h21 => ?_) (fun h21 => absurd h21 (by omega))
  refine lv_iload hx hb dL_law_1008 (lv_at hl 1 rfl) ?_
  refine lv_if_ne (tgt := 1032) hx hb dL_law_1010 (by decide) (fun h22 => ?_) (fun h22 => absurd h22 (by decide))
  refine lv_goto (tgt := 1184) hx hb dL_law_1032 (by decide) ?_
  exact law_end l C0 F hS (lv_subm hl [2, 6] rfl) (by decide) (by decide)
set_option maxHeartbeats 400000 in
set_option maxRecDepth 100000 in
theorem law_result {p : Program} {e : Env} {s : State} {m : MethodId} {below : List Frame} {meth : Method} {c : Code} (l : Launch) (htr : l.stackTraces = false) {b : Nat} {xs : Nat → Int32} (C0 : lw_At p s m meth c b 6 xs) (g : Gd) (F : CallFix p m c c_L_law 7 s #[Value.ref b] wL "LatticeKeysLaw") (hX : ex g (Alaw s) s s.heap) (h0 h1 a : Nat) (u w : Nat → Nat) (fa : Nat → Nat → Int64) (fu : Nat → Int32) (f : Nat → Int64) (v1 : Int32) (hv1 : xs (nI 1).toNatClampNeg = v1) {H : Heap} {locs : List Loc} {ls : Array Slot} (hP : va_P g.1 vcl [(h0, .inr (0, [.ref (u 0), .int (nI 0), .ref (u 1), .int (nI 0), .ref (u 12), .int (nI 0), .ref (u 2), .ref (u 3), .ref (u 4), .ref (u 13), .ref (u 14)])), (h1, .inr (8, [.int 0, .int 0, .int 0, .int 0, .ref (w 0), .ref (w 1), .ref (w 2), .ref (w 3), .ref (w 4), .ref (w 5), .ref (w 6), .ref (w 7), .ref (w 8), .ref (w 9)])), (a, .inl (g.2.1 2, 1, .inr (.inl f)))] H) (hD : va_D (Alaw s) [(h0, .inr (0, [.ref (u 0), .int (nI 0), .ref (u 1), .int (nI 0), .ref (u 12), .int (nI 0), .ref (u 2), .ref (u 3), .ref (u 4), .ref (u 13), .ref (u 14)])), (h1, .inr (8, [.int 0, .int 0, .int 0, .int 0, .ref (w 0), .ref (w 1), .ref (w 2), .ref (w 3), .ref (w 4), .ref (w 5), .ref (w 6), .ref (w 7), .ref (w 8), .ref (w 9)])), (a, .inl (g.2.1 2, 1, .inr (.inl f)))]) (hS : va_S (Alaw s) s.heap H locs) (hl : lv_has ls 7 [(4, .int (nI 0)), (3, .ref a), (2, .ref h1), (1, .ref h0), (0, .ref b)]) : W p l e room_1 s m #[Value.ref b] below meth c H locs 380 194479 (lw_Z below #[Value.ref b] s) (F0 m 1103 ls []) := by
  obtain ⟨hx, hb, hml, hown, hts⟩ := id F
  have hE := hX.1
  have hK := hE.1
  have hA : ∀ q, s.heap.size ≤ q → Alaw s q := fun _ h => h
  obtain ⟨-, -, hr, -, -, -, hXs, hbl, hlk, -⟩ := id C0
  have hbA : ¬ Alaw s b := fun h => Nat.not_lt.mpr h hbl
  refine lv_aload_n hx hb dL_law_1103 rfl (lv_at hl 3 rfl) ?_
  refine lv_aload_n hx hb dL_law_1104 rfl (lv_at hl 4 rfl) ?_
  refine lv_iload hx hb dL_law_1105 (lv_at hl 0 rfl) ?_
  refine lv_iconst (v := nI 1) hx hb dL_law_1107 (by decide) ?_
  refine mi_iadd hx hb dL_law_1108 ?_
  refine mi_as (show nI (0 + 1) = nI 1 from rfl) ?_
  refine va_sld hx hb hXs hbl hbA hS (vp_in_nI (N := 6) (by omega) (by omega)) dL_law_1109 ?_
  refine mi_as hv1 ?_
  refine lv_aload_n hx hb dL_law_1110 rfl (lv_at hl 1 rfl) ?_
  refine mc_i (wc := [(h0, .inr (0, [.ref (u 0), .int (nI 0), .ref (u 1), .int (nI 0), .ref (u 12), .int (nI 0), .ref (u 2), .ref (u 3), .ref (u 4), .ref (u 13), .ref (u 14)])), (a, .inl (g.2.1 2, 1, .inr (.inl f)))]) (wr := [(h1, .inr (8, [.int 0, .int 0, .int 0, .int 0, .ref (w 0), .ref (w 1), .ref (w 2), .ref (w 3), .ref (w 4), .ref (w 5), .ref (w 6), .ref (w 7), .ref (w 8), .ref (w 9)]))]) hP hD hS hA [0, 2] [1] rfl rfl rfl (by decide) (lc_run (As := [.ref h0, .int v1, .ref a]) (rest := []) F (lx_result l htr g _ h0 u v1 a f) (lc_cw 3 hts (wg_app (wg_c kw_1303 (wg_c kw_1304 (wg_c kw_0 wg_n))) kw_1305) rfl rfl rfl (by decide +kernel) ⟨by decide, by decide⟩) (pr_S (ex_ok g) hP hD hS hA hX [0, 2] rfl rfl) rfl rfl hl.1 rfl (lv_room (Nat.le_of_ble_eq_true rfl)) dL_law_1111 ⟨(by decide), (by decide)⟩) (fun r1 u1 H locs hu1 hP hD hS => ?_)
  subst hu1
  have hP : va_P g.1 vcl [(h1, .inr (8, [.int 0, .int 0, .int 0, .int 0, .ref (w 0), .ref (w 1), .ref (w 2), .ref (w 3), .ref (w 4), .ref (w 5), .ref (w 6), .ref (w 7), .ref (w 8), .ref (w 9)])), (a, .inl (g.2.1 2, 1, .inr (.inl f)))] _ := hP
  have hD : va_D _ [(h1, .inr (8, [.int 0, .int 0, .int 0, .int 0, .ref (w 0), .ref (w 1), .ref (w 2), .ref (w 3), .ref (w 4), .ref (w 5), .ref (w 6), .ref (w 7), .ref (w 8), .ref (w 9)])), (a, .inl (g.2.1 2, 1, .inr (.inl f)))] := hD
  refine W.widen (k := 381) (n := 194485) (by decide) (by decide) ?_
  refine lv_istore (lv' := [(5, .int (nI 1)), (4, .int (nI 0)), (3, .ref a), (2, .ref h1), (1, .ref h0), (0, .ref b)]) hx hb dL_law_1114 hl (by decide) rfl (fun ls hl => ?_)
  refine lv_aload_n hx hb dL_law_1116 rfl (lv_at hl 3 rfl) ?_
  refine lv_aload_n hx hb dL_law_1117 rfl (lv_at hl 5 rfl) ?_
  refine lv_iload hx hb dL_law_1118 (lv_at hl 1 rfl) ?_
  refine lv_iconst (v := nI 1) hx hb dL_law_1120 (by decide) ?_
  refine mi_iadd hx hb dL_law_1121 ?_
  refine mi_as (show nI (0 + 1) = nI 1 from rfl) ?_
  refine va_sld hx hb hXs hbl hbA hS (vp_in_nI (N := 6) (by omega) (by omega)) dL_law_1122 ?_
  refine mi_as hv1 ?_
  refine mc_i (wc := [(h1, .inr (8, [.int 0, .int 0, .int 0, .int 0, .ref (w 0), .ref (w 1), .ref (w 2), .ref (w 3), .ref (w 4), .ref (w 5), .ref (w 6), .ref (w 7), .ref (w 8), .ref (w 9)]))]) (wr := [(a, .inl (g.2.1 2, 1, .inr (.inl f)))]) hP hD hS hA [0] [1] rfl rfl rfl (by decide) (va_runV (As := [.int v1]) (rest := []) F (x_M_result l g _ h1 w v1) (cwV 1 hts (wg_app (wg_c kw_1942 (wg_c kw_1943 (wg_c kw_1944 (wg_c kw_9 wg_n)))) kw_1945) rfl rfl rfl (by decide +kernel) ⟨by decide, by decide⟩) (pr_V (en_ok g) (q0 := 0) hK hP hD hS hA hE [0] rfl rfl rfl rfl) rfl rfl hl.1 rfl (lv_room (Nat.le_of_ble_eq_true rfl)) dL_law_1123 ⟨(by decide), (by decide)⟩) (fun r2 u2 H locs hu2 hP hD hS => ?_)
  subst hu2
  have hP : va_P g.1 vcl [(a, .inl (g.2.1 2, 1, .inr (.inl f))), (h1, .inr (8, [.int (nI 1), .int 0, .int 0, .int 0, .ref (w 0), .ref (w 1), .ref (w 2), .ref (w 3), .ref (w 4), .ref (w 5), .ref (w 6), .ref (w 7), .ref (w 8), .ref (w 9)]))] _ := hP
  have hD : va_D _ [(a, .inl (g.2.1 2, 1, .inr (.inl f))), (h1, .inr (8, [.int (nI 1), .int 0, .int 0, .int 0, .ref (w 0), .ref (w 1), .ref (w 2), .ref (w 3), .ref (w 4), .ref (w 5), .ref (w 6), .ref (w 7), .ref (w 8), .ref (w 9)]))] := hD
  refine W.widen (k := 381) (n := 194485) (by omega) (by omega) ?_
  refine lv_istore (lv' := [(6, .int (nI 0)), (5, .int (nI 1)), (4, .int (nI 0)), (3, .ref a), (2, .ref h1), (1, .ref h0), (0, .ref b)]) hx hb dL_law_1126 hl (by decide) rfl (fun ls hl => ?_)
  refine lv_aload_n hx hb dL_law_1128 rfl (lv_at hl 4 rfl) ?_
  refine mr_i (wc := [(h1, .inr (8, [.int (nI 1), .int 0, .int 0, .int 0, .ref (w 0), .ref (w 1), .ref (w 2), .ref (w 3), .ref (w 4), .ref (w 5), .ref (w 6), .ref (w 7), .ref (w 8), .ref (w 9)]))]) (wr := [(a, .inl (g.2.1 2, 1, .inr (.inl f)))]) hP hD hS hA [1] [0] rfl rfl rfl (by decide) (va_runV (As := []) (rest := []) F (m_M_thrown l g _ h1 w (nI 1) 0 0 0) (cwV 0 hts (wg_app (wg_c kw_1569 (wg_c kw_1570 (wg_c kw_1571 (wg_c kw_9 wg_n)))) kw_1572) rfl rfl rfl (by decide +kernel) ⟨by decide, by decide⟩) (pr_V (en_ok g) (q0 := 1) hK hP hD hS hA hE [1] rfl rfl rfl rfl) rfl rfl hl.1 rfl (lv_room (Nat.le_of_ble_eq_true rfl)) dL_law_1129 ⟨(by decide), (by decide)⟩) (fun r3 u3 H hu3 hP hD hS => ?_)
  subst hu3
  have hP : va_P g.1 vcl [(a, .inl (g.2.1 2, 1, .inr (.inl f)))] _ := hP
  have hD : va_D _ [(a, .inl (g.2.1 2, 1, .inr (.inl f)))] := hD
  refine W.widen (k := 381) (n := 194485) (by omega) (by omega) ?_
  refine lv_iload hx hb dL_law_1132 (lv_at hl 1 rfl) ?_
  refine mi_eq (tgt := 1139) hx hb dL_law_1134 (by decide) (by omega) (by omega) (fun h21 => ?_) (fun h21 => absurd h21 (by omega))
  refine lv_iload hx hb dL_law_1139 (lv_at hl 1 rfl) ?_
  refine lv_if_ne (tgt := 1156) hx hb dL_law_1141 (by decide) (fun h22 => ?_) (fun h22 => absurd h22 (by decide))
  refine lv_goto (tgt := 1184) hx hb dL_law_1156 (by decide) ?_
  exact law_end l C0 F hS (lv_subm hl [2, 6] rfl) (by decide) (by decide)
set_option maxHeartbeats 400000 in
set_option maxRecDepth 100000 in
theorem law_hash_0 {p : Program} {e : Env} {s : State} {m : MethodId} {below : List Frame} {meth : Method} {c : Code} (l : Launch) (htr : l.stackTraces = false) {b : Nat} {xs : Nat → Int32} (C0 : lw_At p s m meth c b 6 xs) (g : Gd) (F : CallFix p m c c_L_law 7 s #[Value.ref b] wL "LatticeKeysLaw") (hX : ex g (Alaw s) s s.heap) (h0 h1 a : Nat) (u w : Nat → Nat) (fa : Nat → Nat → Int64) (fu : Nat → Int32) (f : Nat → Int64) (j : Nat) (hv1 : xs (nI 1).toNatClampNeg = nI 0) (hv2 : xs (nI 2).toNatClampNeg = nI j) (hj : j ≤ 8192) {H : Heap} {locs : List Loc} {ls : Array Slot} (hP : va_P g.1 vcl [(h0, .inr (0, [.ref (u 0), .int (nI 0), .ref (u 1), .int (nI 0), .ref (u 12), .int (nI 0), .ref (u 2), .ref (u 3), .ref (u 4), .ref (u 13), .ref (u 14)])), (u 1, .inl (g.2.1 1, 8192, .inl ((fun _ => 0)))), (u 4, .inr (3, [.ref (u 5), .int (nI 136), .int (nI 6), .int (nI 0)])), (u 5, .inl (g.2.1 2, 25, .inr (.inl ((fun _ => 0))))), (h1, .inr (8, [.int 0, .int 0, .int 0, .int 0, .ref (w 0), .ref (w 1), .ref (w 2), .ref (w 3), .ref (w 4), .ref (w 5), .ref (w 6), .ref (w 7), .ref (w 8), .ref (w 9)])), (w 1, .inl (g.2.1 1, 8192, .inl ((fun _ => 0)))), (w 7, .inr (9, [.ref (w 10), .ref (w 11), .ref (w 12), .ref (w 13), .ref (w 14), .int 0, .int 0, .int 0])), (w 10, .inl (g.2.1 2, 25, .inr (.inl ((fa 0))))), (w 11, .inl (g.2.1 2, 25, .inr (.inl ((fa 1))))), (w 12, .inl (g.2.1 2, 5, .inr (.inl ((fa 2))))), (w 13, .inl (g.2.1 2, 24, .inr (.inl ((fa 3))))), (w 14, .inl (g.2.1 0, 25, .inl fu)), (a, .inl (g.2.1 2, 1, .inr (.inl f)))] H) (hD : va_D (Alaw s) [(h0, .inr (0, [.ref (u 0), .int (nI 0), .ref (u 1), .int (nI 0), .ref (u 12), .int (nI 0), .ref (u 2), .ref (u 3), .ref (u 4), .ref (u 13), .ref (u 14)])), (u 1, .inl (g.2.1 1, 8192, .inl ((fun _ => 0)))), (u 4, .inr (3, [.ref (u 5), .int (nI 136), .int (nI 6), .int (nI 0)])), (u 5, .inl (g.2.1 2, 25, .inr (.inl ((fun _ => 0))))), (h1, .inr (8, [.int 0, .int 0, .int 0, .int 0, .ref (w 0), .ref (w 1), .ref (w 2), .ref (w 3), .ref (w 4), .ref (w 5), .ref (w 6), .ref (w 7), .ref (w 8), .ref (w 9)])), (w 1, .inl (g.2.1 1, 8192, .inl ((fun _ => 0)))), (w 7, .inr (9, [.ref (w 10), .ref (w 11), .ref (w 12), .ref (w 13), .ref (w 14), .int 0, .int 0, .int 0])), (w 10, .inl (g.2.1 2, 25, .inr (.inl ((fa 0))))), (w 11, .inl (g.2.1 2, 25, .inr (.inl ((fa 1))))), (w 12, .inl (g.2.1 2, 5, .inr (.inl ((fa 2))))), (w 13, .inl (g.2.1 2, 24, .inr (.inl ((fa 3))))), (w 14, .inl (g.2.1 0, 25, .inl fu)), (a, .inl (g.2.1 2, 1, .inr (.inl f)))]) (hS : va_S (Alaw s) s.heap H locs) (hl : lv_has ls 7 [(4, .int (nI 0)), (3, .ref a), (2, .ref h1), (1, .ref h0), (0, .ref b)]) : W p l e room_1 s m #[Value.ref b] below meth c H locs 380 194479 (lw_Z below #[Value.ref b] s) (F0 m 1035 ls []) := by
  obtain ⟨hx, hb, hml, hown, hts⟩ := id F
  have hE := hX.1
  have hK := hE.1
  have hA : ∀ q, s.heap.size ≤ q → Alaw s q := fun _ h => h
  obtain ⟨-, -, hr, -, -, -, hXs, hbl, hlk, -⟩ := id C0
  have hbA : ¬ Alaw s b := fun h => Nat.not_lt.mpr h hbl
  refine lv_aload_n hx hb dL_law_1035 rfl (lv_at hl 3 rfl) ?_
  refine lv_aload_n hx hb dL_law_1036 rfl (lv_at hl 4 rfl) ?_
  refine lv_iload hx hb dL_law_1037 (lv_at hl 0 rfl) ?_
  refine lv_iconst (v := nI 1) hx hb dL_law_1039 (by decide) ?_
  refine mi_iadd hx hb dL_law_1040 ?_
  refine mi_as (show nI (0 + 1) = nI 1 from rfl) ?_
  refine va_sld hx hb hXs hbl hbA hS (vp_in_nI (N := 6) (by omega) (by omega)) dL_law_1041 ?_
  refine mi_as hv1 ?_
  refine lv_aload_n hx hb dL_law_1042 rfl (lv_at hl 4 rfl) ?_
  refine lv_iload hx hb dL_law_1043 (lv_at hl 0 rfl) ?_
  refine lv_iconst (v := nI 2) hx hb dL_law_1045 (by decide) ?_
  refine mi_iadd hx hb dL_law_1046 ?_
  refine mi_as (show nI (0 + 2) = nI 2 from rfl) ?_
  refine va_sld hx hb hXs hbl hbA hS (vp_in_nI (N := 6) (by omega) (by omega)) dL_law_1047 ?_
  refine mi_as hv2 ?_
  refine lv_aload_n hx hb dL_law_1048 rfl (lv_at hl 1 rfl) ?_
  refine mc_i (wc := [(h0, .inr (0, [.ref (u 0), .int (nI 0), .ref (u 1), .int (nI 0), .ref (u 12), .int (nI 0), .ref (u 2), .ref (u 3), .ref (u 4), .ref (u 13), .ref (u 14)])), (u 1, .inl (g.2.1 1, 8192, .inl ((fun _ => 0)))), (u 4, .inr (3, [.ref (u 5), .int (nI 136), .int (nI 6), .int (nI 0)])), (u 5, .inl (g.2.1 2, 25, .inr (.inl ((fun _ => 0))))), (a, .inl (g.2.1 2, 1, .inr (.inl f)))]) (wr := [(h1, .inr (8, [.int 0, .int 0, .int 0, .int 0, .ref (w 0), .ref (w 1), .ref (w 2), .ref (w 3), .ref (w 4), .ref (w 5), .ref (w 6), .ref (w 7), .ref (w 8), .ref (w 9)])), (w 1, .inl (g.2.1 1, 8192, .inl ((fun _ => 0)))), (w 7, .inr (9, [.ref (w 10), .ref (w 11), .ref (w 12), .ref (w 13), .ref (w 14), .int 0, .int 0, .int 0])), (w 10, .inl (g.2.1 2, 25, .inr (.inl ((fa 0))))), (w 11, .inl (g.2.1 2, 25, .inr (.inl ((fa 1))))), (w 12, .inl (g.2.1 2, 5, .inr (.inl ((fa 2))))), (w 13, .inl (g.2.1 2, 24, .inr (.inl ((fa 3))))), (w 14, .inl (g.2.1 0, 25, .inl fu))]) hP hD hS hA [0, 1, 2, 3, 12] [4, 5, 6, 7, 8, 9, 10, 11] rfl rfl rfl (by decide) (lc_run (As := [.ref h0, .int (nI 0), .int (nI j), .ref a]) (rest := []) F (lk_hash_0 l g _ h0 u j a f hj) (lc_cw 4 hts (wg_app (wg_c kw_1291 (wg_c kw_1292 (wg_c kw_0 wg_n))) kw_1293) rfl rfl rfl (by decide +kernel) ⟨by decide, by decide⟩) (pr_S (en_ok g) hP hD hS hA hE [0, 1, 2, 3, 12] rfl rfl) rfl rfl hl.1 rfl (lv_room (Nat.le_of_ble_eq_true rfl)) dL_law_1049 ⟨(by decide), (by decide)⟩) (fun r1 u1 H locs hu1 hP hD hS => ?_)
  obtain ⟨hr1, ho1⟩ := hu1
  subst hr1
  have hP : va_P g.1 vcl [(h1, .inr (8, [.int 0, .int 0, .int 0, .int 0, .ref (w 0), .ref (w 1), .ref (w 2), .ref (w 3), .ref (w 4), .ref (w 5), .ref (w 6), .ref (w 7), .ref (w 8), .ref (w 9)])), (w 1, .inl (g.2.1 1, 8192, .inl ((fun _ => 0)))), (w 7, .inr (9, [.ref (w 10), .ref (w 11), .ref (w 12), .ref (w 13), .ref (w 14), .int 0, .int 0, .int 0])), (w 10, .inl (g.2.1 2, 25, .inr (.inl ((fa 0))))), (w 11, .inl (g.2.1 2, 25, .inr (.inl ((fa 1))))), (w 12, .inl (g.2.1 2, 5, .inr (.inl ((fa 2))))), (w 13, .inl (g.2.1 2, 24, .inr (.inl ((fa 3))))), (w 14, .inl (g.2.1 0, 25, .inl fu)), (a, .inl (g.2.1 2, 1, .inr (.inl u1)))] _ := hP
  have hD : va_D _ [(h1, .inr (8, [.int 0, .int 0, .int 0, .int 0, .ref (w 0), .ref (w 1), .ref (w 2), .ref (w 3), .ref (w 4), .ref (w 5), .ref (w 6), .ref (w 7), .ref (w 8), .ref (w 9)])), (w 1, .inl (g.2.1 1, 8192, .inl ((fun _ => 0)))), (w 7, .inr (9, [.ref (w 10), .ref (w 11), .ref (w 12), .ref (w 13), .ref (w 14), .int 0, .int 0, .int 0])), (w 10, .inl (g.2.1 2, 25, .inr (.inl ((fa 0))))), (w 11, .inl (g.2.1 2, 25, .inr (.inl ((fa 1))))), (w 12, .inl (g.2.1 2, 5, .inr (.inl ((fa 2))))), (w 13, .inl (g.2.1 2, 24, .inr (.inl ((fa 3))))), (w 14, .inl (g.2.1 0, 25, .inl fu)), (a, .inl (g.2.1 2, 1, .inr (.inl u1)))] := hD
  refine W.widen (k := 380) (n := 194479) (by omega) (by omega) ?_
  refine lv_istore (lv' := [(5, .int (nI 0)), (4, .int (nI 0)), (3, .ref a), (2, .ref h1), (1, .ref h0), (0, .ref b)]) hx hb dL_law_1052 hl (by decide) rfl (fun ls hl => ?_)
  refine lv_aload_n hx hb dL_law_1054 rfl (lv_at hl 3 rfl) ?_
  refine lv_aload_n hx hb dL_law_1055 rfl (lv_at hl 5 rfl) ?_
  refine lv_iload hx hb dL_law_1056 (lv_at hl 1 rfl) ?_
  refine lv_iconst (v := nI 1) hx hb dL_law_1058 (by decide) ?_
  refine mi_iadd hx hb dL_law_1059 ?_
  refine mi_as (show nI (0 + 1) = nI 1 from rfl) ?_
  refine va_sld hx hb hXs hbl hbA hS (vp_in_nI (N := 6) (by omega) (by omega)) dL_law_1060 ?_
  refine mi_as hv1 ?_
  refine lv_aload_n hx hb dL_law_1061 rfl (lv_at hl 5 rfl) ?_
  refine lv_iload hx hb dL_law_1062 (lv_at hl 1 rfl) ?_
  refine lv_iconst (v := nI 2) hx hb dL_law_1064 (by decide) ?_
  refine mi_iadd hx hb dL_law_1065 ?_
  refine mi_as (show nI (0 + 2) = nI 2 from rfl) ?_
  refine va_sld hx hb hXs hbl hbA hS (vp_in_nI (N := 6) (by omega) (by omega)) dL_law_1066 ?_
  refine mi_as hv2 ?_
  refine mc_i (wc := [(h1, .inr (8, [.int 0, .int 0, .int 0, .int 0, .ref (w 0), .ref (w 1), .ref (w 2), .ref (w 3), .ref (w 4), .ref (w 5), .ref (w 6), .ref (w 7), .ref (w 8), .ref (w 9)])), (w 1, .inl (g.2.1 1, 8192, .inl ((fun _ => 0)))), (w 7, .inr (9, [.ref (w 10), .ref (w 11), .ref (w 12), .ref (w 13), .ref (w 14), .int 0, .int 0, .int 0])), (w 10, .inl (g.2.1 2, 25, .inr (.inl ((fa 0))))), (w 11, .inl (g.2.1 2, 25, .inr (.inl ((fa 1))))), (w 12, .inl (g.2.1 2, 5, .inr (.inl ((fa 2))))), (w 13, .inl (g.2.1 2, 24, .inr (.inl ((fa 3))))), (w 14, .inl (g.2.1 0, 25, .inl fu))]) (wr := [(a, .inl (g.2.1 2, 1, .inr (.inl u1)))]) hP hD hS hA [0, 1, 2, 3, 4, 5, 6, 7] [8] rfl rfl rfl (by decide) (va_runV (As := [.int (nI 0), .int (nI j)]) (rest := []) F (m_M_hash_0 l g _ h1 w fa fu j hj) (cwV 2 hts (wg_app (wg_c kw_1934 (wg_c kw_1935 (wg_c kw_1936 (wg_c kw_9 wg_n)))) kw_1937) rfl rfl rfl (by decide +kernel) ⟨by decide, by decide⟩) (pr_V (en_ok g) (q0 := 0) hK hP hD hS hA hE [0, 1, 2, 3, 4, 5, 6, 7] rfl rfl rfl rfl) rfl rfl hl.1 rfl (lv_room (Nat.le_of_ble_eq_true rfl)) dL_law_1067 ⟨(by decide), (by decide)⟩) (fun r2 u2 H locs hu2 hP hD hS => ?_)
  subst hu2
  have hP : va_P g.1 vcl [(a, .inl (g.2.1 2, 1, .inr (.inl u1))), (h1, .inr (8, [.int (nI 0), .int (nI 0), .int (nI 32), .int 0, .ref (w 0), .ref (w 1), .ref (w 2), .ref (w 3), .ref (w 4), .ref (w 5), .ref (w 6), .ref (w 7), .ref (w 8), .ref (w 9)]))] _ := hP
  have hD : va_D _ [(a, .inl (g.2.1 2, 1, .inr (.inl u1))), (h1, .inr (8, [.int (nI 0), .int (nI 0), .int (nI 32), .int 0, .ref (w 0), .ref (w 1), .ref (w 2), .ref (w 3), .ref (w 4), .ref (w 5), .ref (w 6), .ref (w 7), .ref (w 8), .ref (w 9)]))] := hD
  refine W.widen (k := 380) (n := 194479) (by omega) (by omega) ?_
  refine lv_istore (lv' := [(6, .int (nI 32)), (5, .int (nI 0)), (4, .int (nI 0)), (3, .ref a), (2, .ref h1), (1, .ref h0), (0, .ref b)]) hx hb dL_law_1070 hl (by decide) rfl (fun ls hl => ?_)
  refine lv_aload_n hx hb dL_law_1072 rfl (lv_at hl 4 rfl) ?_
  refine mr_i (wc := [(h1, .inr (8, [.int (nI 0), .int (nI 0), .int (nI 32), .int 0, .ref (w 0), .ref (w 1), .ref (w 2), .ref (w 3), .ref (w 4), .ref (w 5), .ref (w 6), .ref (w 7), .ref (w 8), .ref (w 9)]))]) (wr := [(a, .inl (g.2.1 2, 1, .inr (.inl u1)))]) hP hD hS hA [1] [0] rfl rfl rfl (by decide) (va_runV (As := []) (rest := []) F (m_M_thrown l g _ h1 w (nI 0) (nI 0) (nI 32) 0) (cwV 0 hts (wg_app (wg_c kw_1569 (wg_c kw_1570 (wg_c kw_1571 (wg_c kw_9 wg_n)))) kw_1572) rfl rfl rfl (by decide +kernel) ⟨by decide, by decide⟩) (pr_V (en_ok g) (q0 := 1) hK hP hD hS hA hE [1] rfl rfl rfl rfl) rfl rfl hl.1 rfl (lv_room (Nat.le_of_ble_eq_true rfl)) dL_law_1073 ⟨(by decide), (by decide)⟩) (fun r3 u3 H hu3 hP hD hS => ?_)
  subst hu3
  have hP : va_P g.1 vcl [(a, .inl (g.2.1 2, 1, .inr (.inl u1)))] _ := hP
  have hD : va_D _ [(a, .inl (g.2.1 2, 1, .inr (.inl u1)))] := hD
  refine W.widen (k := 380) (n := 194479) (by omega) (by omega) ?_
  refine lv_iload hx hb dL_law_1076 (lv_at hl 1 rfl) ?_
  refine mi_eq (tgt := 1083) hx hb dL_law_1078 (by decide) (by omega) (by omega) (fun h21 => ?_) (fun h21 => absurd h21 (by omega))
  refine lv_iload hx hb dL_law_1083 (lv_at hl 1 rfl) ?_
  refine lv_if_ne (tgt := 1100) hx hb dL_law_1085 (by decide) (fun h22 => absurd h22 (by decide)) (fun h22 => ?_)
  refine lv_aload_n hx hb dL_law_1088 rfl (lv_at hl 3 rfl) ?_
  refine lv_iconst (v := nI 0) hx hb dL_law_1089 (by decide) ?_
  refine va_lald hx hb hK hP 0 2 rfl rfl (vp_in_nI (by decide) (by decide)) dL_law_1090 ?_
  refine ml_as (show u1 (nI 0).toNatClampNeg = (nI 32).toInt64 from ho1) ?_
  refine lv_iload hx hb dL_law_1091 (lv_at hl 0 rfl) ?_
  refine lv_i2l (v := (nI 32).toInt64) hx hb dL_law_1093 rfl ?_
  refine W.lcmp hx hb dL_law_1094 ?_
  refine mi_as (lc_cmp _) ?_
  refine lv_if_eq (tgt := 1100) hx hb dL_law_1095 (by decide) (fun h23 => ?_) (fun h23 => absurd h23 (by decide))
  refine lv_goto (tgt := 1184) hx hb dL_law_1100 (by decide) ?_
  exact law_end l C0 F hS (lv_subm hl [2, 6] rfl) (by decide) (by decide)
set_option maxHeartbeats 400000 in
set_option maxRecDepth 100000 in
theorem law_hash_1 {p : Program} {e : Env} {s : State} {m : MethodId} {below : List Frame} {meth : Method} {c : Code} (l : Launch) (htr : l.stackTraces = false) {b : Nat} {xs : Nat → Int32} (C0 : lw_At p s m meth c b 6 xs) (g : Gd) (F : CallFix p m c c_L_law 7 s #[Value.ref b] wL "LatticeKeysLaw") (hX : ex g (Alaw s) s s.heap) (h0 h1 a : Nat) (u w : Nat → Nat) (fa : Nat → Nat → Int64) (fu : Nat → Int32) (f : Nat → Int64) (j : Nat) (hv1 : xs (nI 1).toNatClampNeg = nI 1) (hv2 : xs (nI 2).toNatClampNeg = nI j) (hj : j ≤ 8192) {H : Heap} {locs : List Loc} {ls : Array Slot} (hP : va_P g.1 vcl [(h0, .inr (0, [.ref (u 0), .int (nI 0), .ref (u 1), .int (nI 0), .ref (u 12), .int (nI 0), .ref (u 2), .ref (u 3), .ref (u 4), .ref (u 13), .ref (u 14)])), (u 1, .inl (g.2.1 1, 8192, .inl ((fun _ => 0)))), (u 4, .inr (3, [.ref (u 5), .int (nI 136), .int (nI 6), .int (nI 0)])), (u 5, .inl (g.2.1 2, 25, .inr (.inl ((fun _ => 0))))), (h1, .inr (8, [.int 0, .int 0, .int 0, .int 0, .ref (w 0), .ref (w 1), .ref (w 2), .ref (w 3), .ref (w 4), .ref (w 5), .ref (w 6), .ref (w 7), .ref (w 8), .ref (w 9)])), (w 1, .inl (g.2.1 1, 8192, .inl ((fun _ => 0)))), (w 7, .inr (9, [.ref (w 10), .ref (w 11), .ref (w 12), .ref (w 13), .ref (w 14), .int 0, .int 0, .int 0])), (w 10, .inl (g.2.1 2, 25, .inr (.inl ((fa 0))))), (w 11, .inl (g.2.1 2, 25, .inr (.inl ((fa 1))))), (w 12, .inl (g.2.1 2, 5, .inr (.inl ((fa 2))))), (w 13, .inl (g.2.1 2, 24, .inr (.inl ((fa 3))))), (w 14, .inl (g.2.1 0, 25, .inl fu)), (a, .inl (g.2.1 2, 1, .inr (.inl f)))] H) (hD : va_D (Alaw s) [(h0, .inr (0, [.ref (u 0), .int (nI 0), .ref (u 1), .int (nI 0), .ref (u 12), .int (nI 0), .ref (u 2), .ref (u 3), .ref (u 4), .ref (u 13), .ref (u 14)])), (u 1, .inl (g.2.1 1, 8192, .inl ((fun _ => 0)))), (u 4, .inr (3, [.ref (u 5), .int (nI 136), .int (nI 6), .int (nI 0)])), (u 5, .inl (g.2.1 2, 25, .inr (.inl ((fun _ => 0))))), (h1, .inr (8, [.int 0, .int 0, .int 0, .int 0, .ref (w 0), .ref (w 1), .ref (w 2), .ref (w 3), .ref (w 4), .ref (w 5), .ref (w 6), .ref (w 7), .ref (w 8), .ref (w 9)])), (w 1, .inl (g.2.1 1, 8192, .inl ((fun _ => 0)))), (w 7, .inr (9, [.ref (w 10), .ref (w 11), .ref (w 12), .ref (w 13), .ref (w 14), .int 0, .int 0, .int 0])), (w 10, .inl (g.2.1 2, 25, .inr (.inl ((fa 0))))), (w 11, .inl (g.2.1 2, 25, .inr (.inl ((fa 1))))), (w 12, .inl (g.2.1 2, 5, .inr (.inl ((fa 2))))), (w 13, .inl (g.2.1 2, 24, .inr (.inl ((fa 3))))), (w 14, .inl (g.2.1 0, 25, .inl fu)), (a, .inl (g.2.1 2, 1, .inr (.inl f)))]) (hS : va_S (Alaw s) s.heap H locs) (hl : lv_has ls 7 [(4, .int (nI 0)), (3, .ref a), (2, .ref h1), (1, .ref h0), (0, .ref b)]) : W p l e room_1 s m #[Value.ref b] below meth c H locs 380 194479 (lw_Z below #[Value.ref b] s) (F0 m 1035 ls []) := by
  obtain ⟨hx, hb, hml, hown, hts⟩ := id F
  have hE := hX.1
  have hK := hE.1
  have hA : ∀ q, s.heap.size ≤ q → Alaw s q := fun _ h => h
  obtain ⟨-, -, hr, -, -, -, hXs, hbl, hlk, -⟩ := id C0
  have hbA : ¬ Alaw s b := fun h => Nat.not_lt.mpr h hbl
  refine lv_aload_n hx hb dL_law_1035 rfl (lv_at hl 3 rfl) ?_
  refine lv_aload_n hx hb dL_law_1036 rfl (lv_at hl 4 rfl) ?_
  refine lv_iload hx hb dL_law_1037 (lv_at hl 0 rfl) ?_
  refine lv_iconst (v := nI 1) hx hb dL_law_1039 (by decide) ?_
  refine mi_iadd hx hb dL_law_1040 ?_
  refine mi_as (show nI (0 + 1) = nI 1 from rfl) ?_
  refine va_sld hx hb hXs hbl hbA hS (vp_in_nI (N := 6) (by omega) (by omega)) dL_law_1041 ?_
  refine mi_as hv1 ?_
  refine lv_aload_n hx hb dL_law_1042 rfl (lv_at hl 4 rfl) ?_
  refine lv_iload hx hb dL_law_1043 (lv_at hl 0 rfl) ?_
  refine lv_iconst (v := nI 2) hx hb dL_law_1045 (by decide) ?_
  refine mi_iadd hx hb dL_law_1046 ?_
  refine mi_as (show nI (0 + 2) = nI 2 from rfl) ?_
  refine va_sld hx hb hXs hbl hbA hS (vp_in_nI (N := 6) (by omega) (by omega)) dL_law_1047 ?_
  refine mi_as hv2 ?_
  refine lv_aload_n hx hb dL_law_1048 rfl (lv_at hl 1 rfl) ?_
  refine mc_i (wc := [(h0, .inr (0, [.ref (u 0), .int (nI 0), .ref (u 1), .int (nI 0), .ref (u 12), .int (nI 0), .ref (u 2), .ref (u 3), .ref (u 4), .ref (u 13), .ref (u 14)])), (u 1, .inl (g.2.1 1, 8192, .inl ((fun _ => 0)))), (u 4, .inr (3, [.ref (u 5), .int (nI 136), .int (nI 6), .int (nI 0)])), (u 5, .inl (g.2.1 2, 25, .inr (.inl ((fun _ => 0))))), (a, .inl (g.2.1 2, 1, .inr (.inl f)))]) (wr := [(h1, .inr (8, [.int 0, .int 0, .int 0, .int 0, .ref (w 0), .ref (w 1), .ref (w 2), .ref (w 3), .ref (w 4), .ref (w 5), .ref (w 6), .ref (w 7), .ref (w 8), .ref (w 9)])), (w 1, .inl (g.2.1 1, 8192, .inl ((fun _ => 0)))), (w 7, .inr (9, [.ref (w 10), .ref (w 11), .ref (w 12), .ref (w 13), .ref (w 14), .int 0, .int 0, .int 0])), (w 10, .inl (g.2.1 2, 25, .inr (.inl ((fa 0))))), (w 11, .inl (g.2.1 2, 25, .inr (.inl ((fa 1))))), (w 12, .inl (g.2.1 2, 5, .inr (.inl ((fa 2))))), (w 13, .inl (g.2.1 2, 24, .inr (.inl ((fa 3))))), (w 14, .inl (g.2.1 0, 25, .inl fu))]) hP hD hS hA [0, 1, 2, 3, 12] [4, 5, 6, 7, 8, 9, 10, 11] rfl rfl rfl (by decide) (lc_run (As := [.ref h0, .int (nI 1), .int (nI j), .ref a]) (rest := []) F (lk_hash_1 l g _ h0 u j a f hj) (lc_cw 4 hts (wg_app (wg_c kw_1291 (wg_c kw_1292 (wg_c kw_0 wg_n))) kw_1293) rfl rfl rfl (by decide +kernel) ⟨by decide, by decide⟩) (pr_S (en_ok g) hP hD hS hA hE [0, 1, 2, 3, 12] rfl rfl) rfl rfl hl.1 rfl (lv_room (Nat.le_of_ble_eq_true rfl)) dL_law_1049 ⟨(by decide), (by decide)⟩) (fun r1 u1 H locs hu1 hP hD hS => ?_)
  obtain ⟨hr1, ho1⟩ := hu1
  subst hr1
  have hP : va_P g.1 vcl [(h1, .inr (8, [.int 0, .int 0, .int 0, .int 0, .ref (w 0), .ref (w 1), .ref (w 2), .ref (w 3), .ref (w 4), .ref (w 5), .ref (w 6), .ref (w 7), .ref (w 8), .ref (w 9)])), (w 1, .inl (g.2.1 1, 8192, .inl ((fun _ => 0)))), (w 7, .inr (9, [.ref (w 10), .ref (w 11), .ref (w 12), .ref (w 13), .ref (w 14), .int 0, .int 0, .int 0])), (w 10, .inl (g.2.1 2, 25, .inr (.inl ((fa 0))))), (w 11, .inl (g.2.1 2, 25, .inr (.inl ((fa 1))))), (w 12, .inl (g.2.1 2, 5, .inr (.inl ((fa 2))))), (w 13, .inl (g.2.1 2, 24, .inr (.inl ((fa 3))))), (w 14, .inl (g.2.1 0, 25, .inl fu)), (a, .inl (g.2.1 2, 1, .inr (.inl u1)))] _ := hP
  have hD : va_D _ [(h1, .inr (8, [.int 0, .int 0, .int 0, .int 0, .ref (w 0), .ref (w 1), .ref (w 2), .ref (w 3), .ref (w 4), .ref (w 5), .ref (w 6), .ref (w 7), .ref (w 8), .ref (w 9)])), (w 1, .inl (g.2.1 1, 8192, .inl ((fun _ => 0)))), (w 7, .inr (9, [.ref (w 10), .ref (w 11), .ref (w 12), .ref (w 13), .ref (w 14), .int 0, .int 0, .int 0])), (w 10, .inl (g.2.1 2, 25, .inr (.inl ((fa 0))))), (w 11, .inl (g.2.1 2, 25, .inr (.inl ((fa 1))))), (w 12, .inl (g.2.1 2, 5, .inr (.inl ((fa 2))))), (w 13, .inl (g.2.1 2, 24, .inr (.inl ((fa 3))))), (w 14, .inl (g.2.1 0, 25, .inl fu)), (a, .inl (g.2.1 2, 1, .inr (.inl u1)))] := hD
  refine W.widen (k := 380) (n := 194479) (by omega) (by omega) ?_
  refine lv_istore (lv' := [(5, .int (nI 0)), (4, .int (nI 0)), (3, .ref a), (2, .ref h1), (1, .ref h0), (0, .ref b)]) hx hb dL_law_1052 hl (by decide) rfl (fun ls hl => ?_)
  refine lv_aload_n hx hb dL_law_1054 rfl (lv_at hl 3 rfl) ?_
  refine lv_aload_n hx hb dL_law_1055 rfl (lv_at hl 5 rfl) ?_
  refine lv_iload hx hb dL_law_1056 (lv_at hl 1 rfl) ?_
  refine lv_iconst (v := nI 1) hx hb dL_law_1058 (by decide) ?_
  refine mi_iadd hx hb dL_law_1059 ?_
  refine mi_as (show nI (0 + 1) = nI 1 from rfl) ?_
  refine va_sld hx hb hXs hbl hbA hS (vp_in_nI (N := 6) (by omega) (by omega)) dL_law_1060 ?_
  refine mi_as hv1 ?_
  refine lv_aload_n hx hb dL_law_1061 rfl (lv_at hl 5 rfl) ?_
  refine lv_iload hx hb dL_law_1062 (lv_at hl 1 rfl) ?_
  refine lv_iconst (v := nI 2) hx hb dL_law_1064 (by decide) ?_
  refine mi_iadd hx hb dL_law_1065 ?_
  refine mi_as (show nI (0 + 2) = nI 2 from rfl) ?_
  refine va_sld hx hb hXs hbl hbA hS (vp_in_nI (N := 6) (by omega) (by omega)) dL_law_1066 ?_
  refine mi_as hv2 ?_
  refine mc_i (wc := [(h1, .inr (8, [.int 0, .int 0, .int 0, .int 0, .ref (w 0), .ref (w 1), .ref (w 2), .ref (w 3), .ref (w 4), .ref (w 5), .ref (w 6), .ref (w 7), .ref (w 8), .ref (w 9)])), (w 1, .inl (g.2.1 1, 8192, .inl ((fun _ => 0)))), (w 7, .inr (9, [.ref (w 10), .ref (w 11), .ref (w 12), .ref (w 13), .ref (w 14), .int 0, .int 0, .int 0])), (w 10, .inl (g.2.1 2, 25, .inr (.inl ((fa 0))))), (w 11, .inl (g.2.1 2, 25, .inr (.inl ((fa 1))))), (w 12, .inl (g.2.1 2, 5, .inr (.inl ((fa 2))))), (w 13, .inl (g.2.1 2, 24, .inr (.inl ((fa 3))))), (w 14, .inl (g.2.1 0, 25, .inl fu))]) (wr := [(a, .inl (g.2.1 2, 1, .inr (.inl u1)))]) hP hD hS hA [0, 1, 2, 3, 4, 5, 6, 7] [8] rfl rfl rfl (by decide) (va_runV (As := [.int (nI 1), .int (nI j)]) (rest := []) F (m_M_hash_1 l g _ h1 w fa fu j hj) (cwV 2 hts (wg_app (wg_c kw_1934 (wg_c kw_1935 (wg_c kw_1936 (wg_c kw_9 wg_n)))) kw_1937) rfl rfl rfl (by decide +kernel) ⟨by decide, by decide⟩) (pr_V (en_ok g) (q0 := 0) hK hP hD hS hA hE [0, 1, 2, 3, 4, 5, 6, 7] rfl rfl rfl rfl) rfl rfl hl.1 rfl (lv_room (Nat.le_of_ble_eq_true rfl)) dL_law_1067 ⟨(by decide), (by decide)⟩) (fun r2 u2 H locs hu2 hP hD hS => ?_)
  subst hu2
  have hP : va_P g.1 vcl [(a, .inl (g.2.1 2, 1, .inr (.inl u1))), (h1, .inr (8, [.int (nI 0), .int (nI 0), .int (nI 64), .int 0, .ref (w 0), .ref (w 1), .ref (w 2), .ref (w 3), .ref (w 4), .ref (w 5), .ref (w 6), .ref (w 7), .ref (w 8), .ref (w 9)]))] _ := hP
  have hD : va_D _ [(a, .inl (g.2.1 2, 1, .inr (.inl u1))), (h1, .inr (8, [.int (nI 0), .int (nI 0), .int (nI 64), .int 0, .ref (w 0), .ref (w 1), .ref (w 2), .ref (w 3), .ref (w 4), .ref (w 5), .ref (w 6), .ref (w 7), .ref (w 8), .ref (w 9)]))] := hD
  refine W.widen (k := 380) (n := 194479) (by omega) (by omega) ?_
  refine lv_istore (lv' := [(6, .int (nI 64)), (5, .int (nI 0)), (4, .int (nI 0)), (3, .ref a), (2, .ref h1), (1, .ref h0), (0, .ref b)]) hx hb dL_law_1070 hl (by decide) rfl (fun ls hl => ?_)
  refine lv_aload_n hx hb dL_law_1072 rfl (lv_at hl 4 rfl) ?_
  refine mr_i (wc := [(h1, .inr (8, [.int (nI 0), .int (nI 0), .int (nI 64), .int 0, .ref (w 0), .ref (w 1), .ref (w 2), .ref (w 3), .ref (w 4), .ref (w 5), .ref (w 6), .ref (w 7), .ref (w 8), .ref (w 9)]))]) (wr := [(a, .inl (g.2.1 2, 1, .inr (.inl u1)))]) hP hD hS hA [1] [0] rfl rfl rfl (by decide) (va_runV (As := []) (rest := []) F (m_M_thrown l g _ h1 w (nI 0) (nI 0) (nI 64) 0) (cwV 0 hts (wg_app (wg_c kw_1569 (wg_c kw_1570 (wg_c kw_1571 (wg_c kw_9 wg_n)))) kw_1572) rfl rfl rfl (by decide +kernel) ⟨by decide, by decide⟩) (pr_V (en_ok g) (q0 := 1) hK hP hD hS hA hE [1] rfl rfl rfl rfl) rfl rfl hl.1 rfl (lv_room (Nat.le_of_ble_eq_true rfl)) dL_law_1073 ⟨(by decide), (by decide)⟩) (fun r3 u3 H hu3 hP hD hS => ?_)
  subst hu3
  have hP : va_P g.1 vcl [(a, .inl (g.2.1 2, 1, .inr (.inl u1)))] _ := hP
  have hD : va_D _ [(a, .inl (g.2.1 2, 1, .inr (.inl u1)))] := hD
  refine W.widen (k := 380) (n := 194479) (by omega) (by omega) ?_
  refine lv_iload hx hb dL_law_1076 (lv_at hl 1 rfl) ?_
  refine mi_eq (tgt := 1083) hx hb dL_law_1078 (by decide) (by omega) (by omega) (fun h21 => ?_) (fun h21 => absurd h21 (by omega))
  refine lv_iload hx hb dL_law_1083 (lv_at hl 1 rfl) ?_
  refine lv_if_ne (tgt := 1100) hx hb dL_law_1085 (by decide) (fun h22 => absurd h22 (by decide)) (fun h22 => ?_)
  refine lv_aload_n hx hb dL_law_1088 rfl (lv_at hl 3 rfl) ?_
  refine lv_iconst (v := nI 0) hx hb dL_law_1089 (by decide) ?_
  refine va_lald hx hb hK hP 0 2 rfl rfl (vp_in_nI (by decide) (by decide)) dL_law_1090 ?_
  refine ml_as (show u1 (nI 0).toNatClampNeg = (nI 64).toInt64 from ho1) ?_
  refine lv_iload hx hb dL_law_1091 (lv_at hl 0 rfl) ?_
  refine lv_i2l (v := (nI 64).toInt64) hx hb dL_law_1093 rfl ?_
  refine W.lcmp hx hb dL_law_1094 ?_
  refine mi_as (lc_cmp _) ?_
  refine lv_if_eq (tgt := 1100) hx hb dL_law_1095 (by decide) (fun h23 => ?_) (fun h23 => absurd h23 (by decide))
  refine lv_goto (tgt := 1184) hx hb dL_law_1100 (by decide) ?_
  exact law_end l C0 F hS (lv_subm hl [2, 6] rfl) (by decide) (by decide)
set_option maxHeartbeats 400000 in
set_option maxRecDepth 100000 in
theorem law_hash_2 {p : Program} {e : Env} {s : State} {m : MethodId} {below : List Frame} {meth : Method} {c : Code} (l : Launch) (htr : l.stackTraces = false) {b : Nat} {xs : Nat → Int32} (C0 : lw_At p s m meth c b 6 xs) (g : Gd) (F : CallFix p m c c_L_law 7 s #[Value.ref b] wL "LatticeKeysLaw") (hX : ex g (Alaw s) s s.heap) (h0 h1 a : Nat) (u w : Nat → Nat) (fa : Nat → Nat → Int64) (fu : Nat → Int32) (f : Nat → Int64) (j : Nat) (hv1 : xs (nI 1).toNatClampNeg = nI 2) (hv2 : xs (nI 2).toNatClampNeg = nI j) (hj : j ≤ 8192) {H : Heap} {locs : List Loc} {ls : Array Slot} (hP : va_P g.1 vcl [(h0, .inr (0, [.ref (u 0), .int (nI 0), .ref (u 1), .int (nI 0), .ref (u 12), .int (nI 0), .ref (u 2), .ref (u 3), .ref (u 4), .ref (u 13), .ref (u 14)])), (u 1, .inl (g.2.1 1, 8192, .inl ((fun _ => 0)))), (u 4, .inr (3, [.ref (u 5), .int (nI 136), .int (nI 6), .int (nI 0)])), (u 5, .inl (g.2.1 2, 25, .inr (.inl ((fun _ => 0))))), (h1, .inr (8, [.int 0, .int 0, .int 0, .int 0, .ref (w 0), .ref (w 1), .ref (w 2), .ref (w 3), .ref (w 4), .ref (w 5), .ref (w 6), .ref (w 7), .ref (w 8), .ref (w 9)])), (w 1, .inl (g.2.1 1, 8192, .inl ((fun _ => 0)))), (w 7, .inr (9, [.ref (w 10), .ref (w 11), .ref (w 12), .ref (w 13), .ref (w 14), .int 0, .int 0, .int 0])), (w 10, .inl (g.2.1 2, 25, .inr (.inl ((fa 0))))), (w 11, .inl (g.2.1 2, 25, .inr (.inl ((fa 1))))), (w 12, .inl (g.2.1 2, 5, .inr (.inl ((fa 2))))), (w 13, .inl (g.2.1 2, 24, .inr (.inl ((fa 3))))), (w 14, .inl (g.2.1 0, 25, .inl fu)), (a, .inl (g.2.1 2, 1, .inr (.inl f)))] H) (hD : va_D (Alaw s) [(h0, .inr (0, [.ref (u 0), .int (nI 0), .ref (u 1), .int (nI 0), .ref (u 12), .int (nI 0), .ref (u 2), .ref (u 3), .ref (u 4), .ref (u 13), .ref (u 14)])), (u 1, .inl (g.2.1 1, 8192, .inl ((fun _ => 0)))), (u 4, .inr (3, [.ref (u 5), .int (nI 136), .int (nI 6), .int (nI 0)])), (u 5, .inl (g.2.1 2, 25, .inr (.inl ((fun _ => 0))))), (h1, .inr (8, [.int 0, .int 0, .int 0, .int 0, .ref (w 0), .ref (w 1), .ref (w 2), .ref (w 3), .ref (w 4), .ref (w 5), .ref (w 6), .ref (w 7), .ref (w 8), .ref (w 9)])), (w 1, .inl (g.2.1 1, 8192, .inl ((fun _ => 0)))), (w 7, .inr (9, [.ref (w 10), .ref (w 11), .ref (w 12), .ref (w 13), .ref (w 14), .int 0, .int 0, .int 0])), (w 10, .inl (g.2.1 2, 25, .inr (.inl ((fa 0))))), (w 11, .inl (g.2.1 2, 25, .inr (.inl ((fa 1))))), (w 12, .inl (g.2.1 2, 5, .inr (.inl ((fa 2))))), (w 13, .inl (g.2.1 2, 24, .inr (.inl ((fa 3))))), (w 14, .inl (g.2.1 0, 25, .inl fu)), (a, .inl (g.2.1 2, 1, .inr (.inl f)))]) (hS : va_S (Alaw s) s.heap H locs) (hl : lv_has ls 7 [(4, .int (nI 0)), (3, .ref a), (2, .ref h1), (1, .ref h0), (0, .ref b)]) : W p l e room_1 s m #[Value.ref b] below meth c H locs 380 194479 (lw_Z below #[Value.ref b] s) (F0 m 1035 ls []) := by
  obtain ⟨hx, hb, hml, hown, hts⟩ := id F
  have hE := hX.1
  have hK := hE.1
  have hA : ∀ q, s.heap.size ≤ q → Alaw s q := fun _ h => h
  obtain ⟨-, -, hr, -, -, -, hXs, hbl, hlk, -⟩ := id C0
  have hbA : ¬ Alaw s b := fun h => Nat.not_lt.mpr h hbl
  refine lv_aload_n hx hb dL_law_1035 rfl (lv_at hl 3 rfl) ?_
  refine lv_aload_n hx hb dL_law_1036 rfl (lv_at hl 4 rfl) ?_
  refine lv_iload hx hb dL_law_1037 (lv_at hl 0 rfl) ?_
  refine lv_iconst (v := nI 1) hx hb dL_law_1039 (by decide) ?_
  refine mi_iadd hx hb dL_law_1040 ?_
  refine mi_as (show nI (0 + 1) = nI 1 from rfl) ?_
  refine va_sld hx hb hXs hbl hbA hS (vp_in_nI (N := 6) (by omega) (by omega)) dL_law_1041 ?_
  refine mi_as hv1 ?_
  refine lv_aload_n hx hb dL_law_1042 rfl (lv_at hl 4 rfl) ?_
  refine lv_iload hx hb dL_law_1043 (lv_at hl 0 rfl) ?_
  refine lv_iconst (v := nI 2) hx hb dL_law_1045 (by decide) ?_
  refine mi_iadd hx hb dL_law_1046 ?_
  refine mi_as (show nI (0 + 2) = nI 2 from rfl) ?_
  refine va_sld hx hb hXs hbl hbA hS (vp_in_nI (N := 6) (by omega) (by omega)) dL_law_1047 ?_
  refine mi_as hv2 ?_
  refine lv_aload_n hx hb dL_law_1048 rfl (lv_at hl 1 rfl) ?_
  refine mc_i (wc := [(h0, .inr (0, [.ref (u 0), .int (nI 0), .ref (u 1), .int (nI 0), .ref (u 12), .int (nI 0), .ref (u 2), .ref (u 3), .ref (u 4), .ref (u 13), .ref (u 14)])), (u 1, .inl (g.2.1 1, 8192, .inl ((fun _ => 0)))), (u 4, .inr (3, [.ref (u 5), .int (nI 136), .int (nI 6), .int (nI 0)])), (u 5, .inl (g.2.1 2, 25, .inr (.inl ((fun _ => 0))))), (a, .inl (g.2.1 2, 1, .inr (.inl f)))]) (wr := [(h1, .inr (8, [.int 0, .int 0, .int 0, .int 0, .ref (w 0), .ref (w 1), .ref (w 2), .ref (w 3), .ref (w 4), .ref (w 5), .ref (w 6), .ref (w 7), .ref (w 8), .ref (w 9)])), (w 1, .inl (g.2.1 1, 8192, .inl ((fun _ => 0)))), (w 7, .inr (9, [.ref (w 10), .ref (w 11), .ref (w 12), .ref (w 13), .ref (w 14), .int 0, .int 0, .int 0])), (w 10, .inl (g.2.1 2, 25, .inr (.inl ((fa 0))))), (w 11, .inl (g.2.1 2, 25, .inr (.inl ((fa 1))))), (w 12, .inl (g.2.1 2, 5, .inr (.inl ((fa 2))))), (w 13, .inl (g.2.1 2, 24, .inr (.inl ((fa 3))))), (w 14, .inl (g.2.1 0, 25, .inl fu))]) hP hD hS hA [0, 1, 2, 3, 12] [4, 5, 6, 7, 8, 9, 10, 11] rfl rfl rfl (by decide) (lc_run (As := [.ref h0, .int (nI 2), .int (nI j), .ref a]) (rest := []) F (lk_hash_2 l g _ h0 u j a f hj) (lc_cw 4 hts (wg_app (wg_c kw_1291 (wg_c kw_1292 (wg_c kw_0 wg_n))) kw_1293) rfl rfl rfl (by decide +kernel) ⟨by decide, by decide⟩) (pr_S (en_ok g) hP hD hS hA hE [0, 1, 2, 3, 12] rfl rfl) rfl rfl hl.1 rfl (lv_room (Nat.le_of_ble_eq_true rfl)) dL_law_1049 ⟨(by decide), (by decide)⟩) (fun r1 u1 H locs hu1 hP hD hS => ?_)
  obtain ⟨hr1, ho1⟩ := hu1
  subst hr1
  have hP : va_P g.1 vcl [(h1, .inr (8, [.int 0, .int 0, .int 0, .int 0, .ref (w 0), .ref (w 1), .ref (w 2), .ref (w 3), .ref (w 4), .ref (w 5), .ref (w 6), .ref (w 7), .ref (w 8), .ref (w 9)])), (w 1, .inl (g.2.1 1, 8192, .inl ((fun _ => 0)))), (w 7, .inr (9, [.ref (w 10), .ref (w 11), .ref (w 12), .ref (w 13), .ref (w 14), .int 0, .int 0, .int 0])), (w 10, .inl (g.2.1 2, 25, .inr (.inl ((fa 0))))), (w 11, .inl (g.2.1 2, 25, .inr (.inl ((fa 1))))), (w 12, .inl (g.2.1 2, 5, .inr (.inl ((fa 2))))), (w 13, .inl (g.2.1 2, 24, .inr (.inl ((fa 3))))), (w 14, .inl (g.2.1 0, 25, .inl fu)), (a, .inl (g.2.1 2, 1, .inr (.inl u1)))] _ := hP
  have hD : va_D _ [(h1, .inr (8, [.int 0, .int 0, .int 0, .int 0, .ref (w 0), .ref (w 1), .ref (w 2), .ref (w 3), .ref (w 4), .ref (w 5), .ref (w 6), .ref (w 7), .ref (w 8), .ref (w 9)])), (w 1, .inl (g.2.1 1, 8192, .inl ((fun _ => 0)))), (w 7, .inr (9, [.ref (w 10), .ref (w 11), .ref (w 12), .ref (w 13), .ref (w 14), .int 0, .int 0, .int 0])), (w 10, .inl (g.2.1 2, 25, .inr (.inl ((fa 0))))), (w 11, .inl (g.2.1 2, 25, .inr (.inl ((fa 1))))), (w 12, .inl (g.2.1 2, 5, .inr (.inl ((fa 2))))), (w 13, .inl (g.2.1 2, 24, .inr (.inl ((fa 3))))), (w 14, .inl (g.2.1 0, 25, .inl fu)), (a, .inl (g.2.1 2, 1, .inr (.inl u1)))] := hD
  refine W.widen (k := 380) (n := 194479) (by omega) (by omega) ?_
  refine lv_istore (lv' := [(5, .int (nI 0)), (4, .int (nI 0)), (3, .ref a), (2, .ref h1), (1, .ref h0), (0, .ref b)]) hx hb dL_law_1052 hl (by decide) rfl (fun ls hl => ?_)
  refine lv_aload_n hx hb dL_law_1054 rfl (lv_at hl 3 rfl) ?_
  refine lv_aload_n hx hb dL_law_1055 rfl (lv_at hl 5 rfl) ?_
  refine lv_iload hx hb dL_law_1056 (lv_at hl 1 rfl) ?_
  refine lv_iconst (v := nI 1) hx hb dL_law_1058 (by decide) ?_
  refine mi_iadd hx hb dL_law_1059 ?_
  refine mi_as (show nI (0 + 1) = nI 1 from rfl) ?_
  refine va_sld hx hb hXs hbl hbA hS (vp_in_nI (N := 6) (by omega) (by omega)) dL_law_1060 ?_
  refine mi_as hv1 ?_
  refine lv_aload_n hx hb dL_law_1061 rfl (lv_at hl 5 rfl) ?_
  refine lv_iload hx hb dL_law_1062 (lv_at hl 1 rfl) ?_
  refine lv_iconst (v := nI 2) hx hb dL_law_1064 (by decide) ?_
  refine mi_iadd hx hb dL_law_1065 ?_
  refine mi_as (show nI (0 + 2) = nI 2 from rfl) ?_
  refine va_sld hx hb hXs hbl hbA hS (vp_in_nI (N := 6) (by omega) (by omega)) dL_law_1066 ?_
  refine mi_as hv2 ?_
  refine mc_i (wc := [(h1, .inr (8, [.int 0, .int 0, .int 0, .int 0, .ref (w 0), .ref (w 1), .ref (w 2), .ref (w 3), .ref (w 4), .ref (w 5), .ref (w 6), .ref (w 7), .ref (w 8), .ref (w 9)])), (w 1, .inl (g.2.1 1, 8192, .inl ((fun _ => 0)))), (w 7, .inr (9, [.ref (w 10), .ref (w 11), .ref (w 12), .ref (w 13), .ref (w 14), .int 0, .int 0, .int 0])), (w 10, .inl (g.2.1 2, 25, .inr (.inl ((fa 0))))), (w 11, .inl (g.2.1 2, 25, .inr (.inl ((fa 1))))), (w 12, .inl (g.2.1 2, 5, .inr (.inl ((fa 2))))), (w 13, .inl (g.2.1 2, 24, .inr (.inl ((fa 3))))), (w 14, .inl (g.2.1 0, 25, .inl fu))]) (wr := [(a, .inl (g.2.1 2, 1, .inr (.inl u1)))]) hP hD hS hA [0, 1, 2, 3, 4, 5, 6, 7] [8] rfl rfl rfl (by decide) (va_runV (As := [.int (nI 2), .int (nI j)]) (rest := []) F (m_M_hash_2 l g _ h1 w fa fu j hj) (cwV 2 hts (wg_app (wg_c kw_1934 (wg_c kw_1935 (wg_c kw_1936 (wg_c kw_9 wg_n)))) kw_1937) rfl rfl rfl (by decide +kernel) ⟨by decide, by decide⟩) (pr_V (en_ok g) (q0 := 0) hK hP hD hS hA hE [0, 1, 2, 3, 4, 5, 6, 7] rfl rfl rfl rfl) rfl rfl hl.1 rfl (lv_room (Nat.le_of_ble_eq_true rfl)) dL_law_1067 ⟨(by decide), (by decide)⟩) (fun r2 u2 H locs hu2 hP hD hS => ?_)
  subst hu2
  have hP : va_P g.1 vcl [(a, .inl (g.2.1 2, 1, .inr (.inl u1))), (h1, .inr (8, [.int (nI 0), .int (nI 0), .int (nI j), .int 0, .ref (w 0), .ref (w 1), .ref (w 2), .ref (w 3), .ref (w 4), .ref (w 5), .ref (w 6), .ref (w 7), .ref (w 8), .ref (w 9)]))] _ := hP
  have hD : va_D _ [(a, .inl (g.2.1 2, 1, .inr (.inl u1))), (h1, .inr (8, [.int (nI 0), .int (nI 0), .int (nI j), .int 0, .ref (w 0), .ref (w 1), .ref (w 2), .ref (w 3), .ref (w 4), .ref (w 5), .ref (w 6), .ref (w 7), .ref (w 8), .ref (w 9)]))] := hD
  refine W.widen (k := 380) (n := 194479) (by omega) (by omega) ?_
  refine lv_istore (lv' := [(6, .int (nI j)), (5, .int (nI 0)), (4, .int (nI 0)), (3, .ref a), (2, .ref h1), (1, .ref h0), (0, .ref b)]) hx hb dL_law_1070 hl (by decide) rfl (fun ls hl => ?_)
  refine lv_aload_n hx hb dL_law_1072 rfl (lv_at hl 4 rfl) ?_
  refine mr_i (wc := [(h1, .inr (8, [.int (nI 0), .int (nI 0), .int (nI j), .int 0, .ref (w 0), .ref (w 1), .ref (w 2), .ref (w 3), .ref (w 4), .ref (w 5), .ref (w 6), .ref (w 7), .ref (w 8), .ref (w 9)]))]) (wr := [(a, .inl (g.2.1 2, 1, .inr (.inl u1)))]) hP hD hS hA [1] [0] rfl rfl rfl (by decide) (va_runV (As := []) (rest := []) F (m_M_thrown l g _ h1 w (nI 0) (nI 0) (nI j) 0) (cwV 0 hts (wg_app (wg_c kw_1569 (wg_c kw_1570 (wg_c kw_1571 (wg_c kw_9 wg_n)))) kw_1572) rfl rfl rfl (by decide +kernel) ⟨by decide, by decide⟩) (pr_V (en_ok g) (q0 := 1) hK hP hD hS hA hE [1] rfl rfl rfl rfl) rfl rfl hl.1 rfl (lv_room (Nat.le_of_ble_eq_true rfl)) dL_law_1073 ⟨(by decide), (by decide)⟩) (fun r3 u3 H hu3 hP hD hS => ?_)
  subst hu3
  have hP : va_P g.1 vcl [(a, .inl (g.2.1 2, 1, .inr (.inl u1)))] _ := hP
  have hD : va_D _ [(a, .inl (g.2.1 2, 1, .inr (.inl u1)))] := hD
  refine W.widen (k := 380) (n := 194479) (by omega) (by omega) ?_
  refine lv_iload hx hb dL_law_1076 (lv_at hl 1 rfl) ?_
  refine mi_eq (tgt := 1083) hx hb dL_law_1078 (by decide) (by omega) (by omega) (fun h21 => ?_) (fun h21 => absurd h21 (by omega))
  refine lv_iload hx hb dL_law_1083 (lv_at hl 1 rfl) ?_
  refine lv_if_ne (tgt := 1100) hx hb dL_law_1085 (by decide) (fun h22 => absurd h22 (by decide)) (fun h22 => ?_)
  refine lv_aload_n hx hb dL_law_1088 rfl (lv_at hl 3 rfl) ?_
  refine lv_iconst (v := nI 0) hx hb dL_law_1089 (by decide) ?_
  refine va_lald hx hb hK hP 0 2 rfl rfl (vp_in_nI (by decide) (by decide)) dL_law_1090 ?_
  refine ml_as (show u1 (nI 0).toNatClampNeg = (nI j).toInt64 from ho1) ?_
  refine lv_iload hx hb dL_law_1091 (lv_at hl 0 rfl) ?_
  refine lv_i2l (v := (nI j).toInt64) hx hb dL_law_1093 rfl ?_
  refine W.lcmp hx hb dL_law_1094 ?_
  refine mi_as (lc_cmp _) ?_
  refine lv_if_eq (tgt := 1100) hx hb dL_law_1095 (by decide) (fun h23 => ?_) (fun h23 => absurd h23 (by decide))
  refine lv_goto (tgt := 1184) hx hb dL_law_1100 (by decide) ?_
  exact law_end l C0 F hS (lv_subm hl [2, 6] rfl) (by decide) (by decide)
set_option maxHeartbeats 400000 in
set_option maxRecDepth 100000 in
theorem law_hash_3 {p : Program} {e : Env} {s : State} {m : MethodId} {below : List Frame} {meth : Method} {c : Code} (l : Launch) (htr : l.stackTraces = false) {b : Nat} {xs : Nat → Int32} (C0 : lw_At p s m meth c b 6 xs) (g : Gd) (F : CallFix p m c c_L_law 7 s #[Value.ref b] wL "LatticeKeysLaw") (hX : ex g (Alaw s) s s.heap) (h0 h1 a : Nat) (u w : Nat → Nat) (fa : Nat → Nat → Int64) (fu : Nat → Int32) (f : Nat → Int64) (j : Nat) (hv1 : xs (nI 1).toNatClampNeg = nI 3) (hv2 : xs (nI 2).toNatClampNeg = nI j) (hj : j ≤ 8192) {H : Heap} {locs : List Loc} {ls : Array Slot} (hP : va_P g.1 vcl [(h0, .inr (0, [.ref (u 0), .int (nI 0), .ref (u 1), .int (nI 0), .ref (u 12), .int (nI 0), .ref (u 2), .ref (u 3), .ref (u 4), .ref (u 13), .ref (u 14)])), (u 1, .inl (g.2.1 1, 8192, .inl ((fun _ => 0)))), (u 4, .inr (3, [.ref (u 5), .int (nI 136), .int (nI 6), .int (nI 0)])), (u 5, .inl (g.2.1 2, 25, .inr (.inl ((fun _ => 0))))), (h1, .inr (8, [.int 0, .int 0, .int 0, .int 0, .ref (w 0), .ref (w 1), .ref (w 2), .ref (w 3), .ref (w 4), .ref (w 5), .ref (w 6), .ref (w 7), .ref (w 8), .ref (w 9)])), (w 1, .inl (g.2.1 1, 8192, .inl ((fun _ => 0)))), (w 7, .inr (9, [.ref (w 10), .ref (w 11), .ref (w 12), .ref (w 13), .ref (w 14), .int 0, .int 0, .int 0])), (w 10, .inl (g.2.1 2, 25, .inr (.inl ((fa 0))))), (w 11, .inl (g.2.1 2, 25, .inr (.inl ((fa 1))))), (w 12, .inl (g.2.1 2, 5, .inr (.inl ((fa 2))))), (w 13, .inl (g.2.1 2, 24, .inr (.inl ((fa 3))))), (w 14, .inl (g.2.1 0, 25, .inl fu)), (a, .inl (g.2.1 2, 1, .inr (.inl f)))] H) (hD : va_D (Alaw s) [(h0, .inr (0, [.ref (u 0), .int (nI 0), .ref (u 1), .int (nI 0), .ref (u 12), .int (nI 0), .ref (u 2), .ref (u 3), .ref (u 4), .ref (u 13), .ref (u 14)])), (u 1, .inl (g.2.1 1, 8192, .inl ((fun _ => 0)))), (u 4, .inr (3, [.ref (u 5), .int (nI 136), .int (nI 6), .int (nI 0)])), (u 5, .inl (g.2.1 2, 25, .inr (.inl ((fun _ => 0))))), (h1, .inr (8, [.int 0, .int 0, .int 0, .int 0, .ref (w 0), .ref (w 1), .ref (w 2), .ref (w 3), .ref (w 4), .ref (w 5), .ref (w 6), .ref (w 7), .ref (w 8), .ref (w 9)])), (w 1, .inl (g.2.1 1, 8192, .inl ((fun _ => 0)))), (w 7, .inr (9, [.ref (w 10), .ref (w 11), .ref (w 12), .ref (w 13), .ref (w 14), .int 0, .int 0, .int 0])), (w 10, .inl (g.2.1 2, 25, .inr (.inl ((fa 0))))), (w 11, .inl (g.2.1 2, 25, .inr (.inl ((fa 1))))), (w 12, .inl (g.2.1 2, 5, .inr (.inl ((fa 2))))), (w 13, .inl (g.2.1 2, 24, .inr (.inl ((fa 3))))), (w 14, .inl (g.2.1 0, 25, .inl fu)), (a, .inl (g.2.1 2, 1, .inr (.inl f)))]) (hS : va_S (Alaw s) s.heap H locs) (hl : lv_has ls 7 [(4, .int (nI 0)), (3, .ref a), (2, .ref h1), (1, .ref h0), (0, .ref b)]) : W p l e room_1 s m #[Value.ref b] below meth c H locs 380 194479 (lw_Z below #[Value.ref b] s) (F0 m 1035 ls []) := by
  obtain ⟨hx, hb, hml, hown, hts⟩ := id F
  have hE := hX.1
  have hK := hE.1
  have hA : ∀ q, s.heap.size ≤ q → Alaw s q := fun _ h => h
  obtain ⟨-, -, hr, -, -, -, hXs, hbl, hlk, -⟩ := id C0
  have hbA : ¬ Alaw s b := fun h => Nat.not_lt.mpr h hbl
  refine lv_aload_n hx hb dL_law_1035 rfl (lv_at hl 3 rfl) ?_
  refine lv_aload_n hx hb dL_law_1036 rfl (lv_at hl 4 rfl) ?_
  refine lv_iload hx hb dL_law_1037 (lv_at hl 0 rfl) ?_
  refine lv_iconst (v := nI 1) hx hb dL_law_1039 (by decide) ?_
  refine mi_iadd hx hb dL_law_1040 ?_
  refine mi_as (show nI (0 + 1) = nI 1 from rfl) ?_
  refine va_sld hx hb hXs hbl hbA hS (vp_in_nI (N := 6) (by omega) (by omega)) dL_law_1041 ?_
  refine mi_as hv1 ?_
  refine lv_aload_n hx hb dL_law_1042 rfl (lv_at hl 4 rfl) ?_
  refine lv_iload hx hb dL_law_1043 (lv_at hl 0 rfl) ?_
  refine lv_iconst (v := nI 2) hx hb dL_law_1045 (by decide) ?_
  refine mi_iadd hx hb dL_law_1046 ?_
  refine mi_as (show nI (0 + 2) = nI 2 from rfl) ?_
  refine va_sld hx hb hXs hbl hbA hS (vp_in_nI (N := 6) (by omega) (by omega)) dL_law_1047 ?_
  refine mi_as hv2 ?_
  refine lv_aload_n hx hb dL_law_1048 rfl (lv_at hl 1 rfl) ?_
  refine mc_i (wc := [(h0, .inr (0, [.ref (u 0), .int (nI 0), .ref (u 1), .int (nI 0), .ref (u 12), .int (nI 0), .ref (u 2), .ref (u 3), .ref (u 4), .ref (u 13), .ref (u 14)])), (u 1, .inl (g.2.1 1, 8192, .inl ((fun _ => 0)))), (u 4, .inr (3, [.ref (u 5), .int (nI 136), .int (nI 6), .int (nI 0)])), (u 5, .inl (g.2.1 2, 25, .inr (.inl ((fun _ => 0))))), (a, .inl (g.2.1 2, 1, .inr (.inl f)))]) (wr := [(h1, .inr (8, [.int 0, .int 0, .int 0, .int 0, .ref (w 0), .ref (w 1), .ref (w 2), .ref (w 3), .ref (w 4), .ref (w 5), .ref (w 6), .ref (w 7), .ref (w 8), .ref (w 9)])), (w 1, .inl (g.2.1 1, 8192, .inl ((fun _ => 0)))), (w 7, .inr (9, [.ref (w 10), .ref (w 11), .ref (w 12), .ref (w 13), .ref (w 14), .int 0, .int 0, .int 0])), (w 10, .inl (g.2.1 2, 25, .inr (.inl ((fa 0))))), (w 11, .inl (g.2.1 2, 25, .inr (.inl ((fa 1))))), (w 12, .inl (g.2.1 2, 5, .inr (.inl ((fa 2))))), (w 13, .inl (g.2.1 2, 24, .inr (.inl ((fa 3))))), (w 14, .inl (g.2.1 0, 25, .inl fu))]) hP hD hS hA [0, 1, 2, 3, 12] [4, 5, 6, 7, 8, 9, 10, 11] rfl rfl rfl (by decide) (lc_run (As := [.ref h0, .int (nI 3), .int (nI j), .ref a]) (rest := []) F (lk_hash_3 l g _ h0 u j a f hj) (lc_cw 4 hts (wg_app (wg_c kw_1291 (wg_c kw_1292 (wg_c kw_0 wg_n))) kw_1293) rfl rfl rfl (by decide +kernel) ⟨by decide, by decide⟩) (pr_S (en_ok g) hP hD hS hA hE [0, 1, 2, 3, 12] rfl rfl) rfl rfl hl.1 rfl (lv_room (Nat.le_of_ble_eq_true rfl)) dL_law_1049 ⟨(by decide), (by decide)⟩) (fun r1 u1 H locs hu1 hP hD hS => ?_)
  obtain ⟨hr1, ho1⟩ := hu1
  subst hr1
  have hP : va_P g.1 vcl [(h1, .inr (8, [.int 0, .int 0, .int 0, .int 0, .ref (w 0), .ref (w 1), .ref (w 2), .ref (w 3), .ref (w 4), .ref (w 5), .ref (w 6), .ref (w 7), .ref (w 8), .ref (w 9)])), (w 1, .inl (g.2.1 1, 8192, .inl ((fun _ => 0)))), (w 7, .inr (9, [.ref (w 10), .ref (w 11), .ref (w 12), .ref (w 13), .ref (w 14), .int 0, .int 0, .int 0])), (w 10, .inl (g.2.1 2, 25, .inr (.inl ((fa 0))))), (w 11, .inl (g.2.1 2, 25, .inr (.inl ((fa 1))))), (w 12, .inl (g.2.1 2, 5, .inr (.inl ((fa 2))))), (w 13, .inl (g.2.1 2, 24, .inr (.inl ((fa 3))))), (w 14, .inl (g.2.1 0, 25, .inl fu)), (a, .inl (g.2.1 2, 1, .inr (.inl u1)))] _ := hP
  have hD : va_D _ [(h1, .inr (8, [.int 0, .int 0, .int 0, .int 0, .ref (w 0), .ref (w 1), .ref (w 2), .ref (w 3), .ref (w 4), .ref (w 5), .ref (w 6), .ref (w 7), .ref (w 8), .ref (w 9)])), (w 1, .inl (g.2.1 1, 8192, .inl ((fun _ => 0)))), (w 7, .inr (9, [.ref (w 10), .ref (w 11), .ref (w 12), .ref (w 13), .ref (w 14), .int 0, .int 0, .int 0])), (w 10, .inl (g.2.1 2, 25, .inr (.inl ((fa 0))))), (w 11, .inl (g.2.1 2, 25, .inr (.inl ((fa 1))))), (w 12, .inl (g.2.1 2, 5, .inr (.inl ((fa 2))))), (w 13, .inl (g.2.1 2, 24, .inr (.inl ((fa 3))))), (w 14, .inl (g.2.1 0, 25, .inl fu)), (a, .inl (g.2.1 2, 1, .inr (.inl u1)))] := hD
  refine W.widen (k := 380) (n := 194479) (by omega) (by omega) ?_
  refine lv_istore (lv' := [(5, .int (nI 0)), (4, .int (nI 0)), (3, .ref a), (2, .ref h1), (1, .ref h0), (0, .ref b)]) hx hb dL_law_1052 hl (by decide) rfl (fun ls hl => ?_)
  refine lv_aload_n hx hb dL_law_1054 rfl (lv_at hl 3 rfl) ?_
  refine lv_aload_n hx hb dL_law_1055 rfl (lv_at hl 5 rfl) ?_
  refine lv_iload hx hb dL_law_1056 (lv_at hl 1 rfl) ?_
  refine lv_iconst (v := nI 1) hx hb dL_law_1058 (by decide) ?_
  refine mi_iadd hx hb dL_law_1059 ?_
  refine mi_as (show nI (0 + 1) = nI 1 from rfl) ?_
  refine va_sld hx hb hXs hbl hbA hS (vp_in_nI (N := 6) (by omega) (by omega)) dL_law_1060 ?_
  refine mi_as hv1 ?_
  refine lv_aload_n hx hb dL_law_1061 rfl (lv_at hl 5 rfl) ?_
  refine lv_iload hx hb dL_law_1062 (lv_at hl 1 rfl) ?_
  refine lv_iconst (v := nI 2) hx hb dL_law_1064 (by decide) ?_
  refine mi_iadd hx hb dL_law_1065 ?_
  refine mi_as (show nI (0 + 2) = nI 2 from rfl) ?_
  refine va_sld hx hb hXs hbl hbA hS (vp_in_nI (N := 6) (by omega) (by omega)) dL_law_1066 ?_
  refine mi_as hv2 ?_
  refine mc_i (wc := [(h1, .inr (8, [.int 0, .int 0, .int 0, .int 0, .ref (w 0), .ref (w 1), .ref (w 2), .ref (w 3), .ref (w 4), .ref (w 5), .ref (w 6), .ref (w 7), .ref (w 8), .ref (w 9)])), (w 1, .inl (g.2.1 1, 8192, .inl ((fun _ => 0)))), (w 7, .inr (9, [.ref (w 10), .ref (w 11), .ref (w 12), .ref (w 13), .ref (w 14), .int 0, .int 0, .int 0])), (w 10, .inl (g.2.1 2, 25, .inr (.inl ((fa 0))))), (w 11, .inl (g.2.1 2, 25, .inr (.inl ((fa 1))))), (w 12, .inl (g.2.1 2, 5, .inr (.inl ((fa 2))))), (w 13, .inl (g.2.1 2, 24, .inr (.inl ((fa 3))))), (w 14, .inl (g.2.1 0, 25, .inl fu))]) (wr := [(a, .inl (g.2.1 2, 1, .inr (.inl u1)))]) hP hD hS hA [0, 1, 2, 3, 4, 5, 6, 7] [8] rfl rfl rfl (by decide) (va_runV (As := [.int (nI 3), .int (nI j)]) (rest := []) F (m_M_hash_3 l g _ h1 w fa fu j hj) (cwV 2 hts (wg_app (wg_c kw_1934 (wg_c kw_1935 (wg_c kw_1936 (wg_c kw_9 wg_n)))) kw_1937) rfl rfl rfl (by decide +kernel) ⟨by decide, by decide⟩) (pr_V (en_ok g) (q0 := 0) hK hP hD hS hA hE [0, 1, 2, 3, 4, 5, 6, 7] rfl rfl rfl rfl) rfl rfl hl.1 rfl (lv_room (Nat.le_of_ble_eq_true rfl)) dL_law_1067 ⟨(by decide), (by decide)⟩) (fun r2 u2 H locs hu2 hP hD hS => ?_)
  subst hu2
  have hP : va_P g.1 vcl [(a, .inl (g.2.1 2, 1, .inr (.inl u1))), (h1, .inr (8, [.int (nI 0), .int (nI 0), .int (nI j), .int 0, .ref (w 0), .ref (w 1), .ref (w 2), .ref (w 3), .ref (w 4), .ref (w 5), .ref (w 6), .ref (w 7), .ref (w 8), .ref (w 9)]))] _ := hP
  have hD : va_D _ [(a, .inl (g.2.1 2, 1, .inr (.inl u1))), (h1, .inr (8, [.int (nI 0), .int (nI 0), .int (nI j), .int 0, .ref (w 0), .ref (w 1), .ref (w 2), .ref (w 3), .ref (w 4), .ref (w 5), .ref (w 6), .ref (w 7), .ref (w 8), .ref (w 9)]))] := hD
  refine W.widen (k := 380) (n := 194479) (by omega) (by omega) ?_
  refine lv_istore (lv' := [(6, .int (nI j)), (5, .int (nI 0)), (4, .int (nI 0)), (3, .ref a), (2, .ref h1), (1, .ref h0), (0, .ref b)]) hx hb dL_law_1070 hl (by decide) rfl (fun ls hl => ?_)
  refine lv_aload_n hx hb dL_law_1072 rfl (lv_at hl 4 rfl) ?_
  refine mr_i (wc := [(h1, .inr (8, [.int (nI 0), .int (nI 0), .int (nI j), .int 0, .ref (w 0), .ref (w 1), .ref (w 2), .ref (w 3), .ref (w 4), .ref (w 5), .ref (w 6), .ref (w 7), .ref (w 8), .ref (w 9)]))]) (wr := [(a, .inl (g.2.1 2, 1, .inr (.inl u1)))]) hP hD hS hA [1] [0] rfl rfl rfl (by decide) (va_runV (As := []) (rest := []) F (m_M_thrown l g _ h1 w (nI 0) (nI 0) (nI j) 0) (cwV 0 hts (wg_app (wg_c kw_1569 (wg_c kw_1570 (wg_c kw_1571 (wg_c kw_9 wg_n)))) kw_1572) rfl rfl rfl (by decide +kernel) ⟨by decide, by decide⟩) (pr_V (en_ok g) (q0 := 1) hK hP hD hS hA hE [1] rfl rfl rfl rfl) rfl rfl hl.1 rfl (lv_room (Nat.le_of_ble_eq_true rfl)) dL_law_1073 ⟨(by decide), (by decide)⟩) (fun r3 u3 H hu3 hP hD hS => ?_)
  subst hu3
  have hP : va_P g.1 vcl [(a, .inl (g.2.1 2, 1, .inr (.inl u1)))] _ := hP
  have hD : va_D _ [(a, .inl (g.2.1 2, 1, .inr (.inl u1)))] := hD
  refine W.widen (k := 380) (n := 194479) (by omega) (by omega) ?_
  refine lv_iload hx hb dL_law_1076 (lv_at hl 1 rfl) ?_
  refine mi_eq (tgt := 1083) hx hb dL_law_1078 (by decide) (by omega) (by omega) (fun h21 => ?_) (fun h21 => absurd h21 (by omega))
  refine lv_iload hx hb dL_law_1083 (lv_at hl 1 rfl) ?_
  refine lv_if_ne (tgt := 1100) hx hb dL_law_1085 (by decide) (fun h22 => absurd h22 (by decide)) (fun h22 => ?_)
  refine lv_aload_n hx hb dL_law_1088 rfl (lv_at hl 3 rfl) ?_
  refine lv_iconst (v := nI 0) hx hb dL_law_1089 (by decide) ?_
  refine va_lald hx hb hK hP 0 2 rfl rfl (vp_in_nI (by decide) (by decide)) dL_law_1090 ?_
  refine ml_as (show u1 (nI 0).toNatClampNeg = (nI j).toInt64 from ho1) ?_
  refine lv_iload hx hb dL_law_1091 (lv_at hl 0 rfl) ?_
  refine lv_i2l (v := (nI j).toInt64) hx hb dL_law_1093 rfl ?_
  refine W.lcmp hx hb dL_law_1094 ?_
  refine mi_as (lc_cmp _) ?_
  refine lv_if_eq (tgt := 1100) hx hb dL_law_1095 (by decide) (fun h23 => ?_) (fun h23 => absurd h23 (by decide))
  refine lv_goto (tgt := 1184) hx hb dL_law_1100 (by decide) ?_
  exact law_end l C0 F hS (lv_subm hl [2, 6] rfl) (by decide) (by decide)
set_option maxHeartbeats 400000 in
set_option maxRecDepth 100000 in
theorem law_hashx {p : Program} {e : Env} {s : State} {m : MethodId} {below : List Frame} {meth : Method} {c : Code} (l : Launch) (htr : l.stackTraces = false) {b : Nat} {xs : Nat → Int32} (C0 : lw_At p s m meth c b 6 xs) (g : Gd) (F : CallFix p m c c_L_law 7 s #[Value.ref b] wL "LatticeKeysLaw") (hX : ex g (Alaw s) s s.heap) (h0 h1 a : Nat) (u w : Nat → Nat) (fa : Nat → Nat → Int64) (fu : Nat → Int32) (f : Nat → Int64) (v1 : Int32) (v2 : Int32) (hv1 : xs (nI 1).toNatClampNeg = v1) (hv2 : xs (nI 2).toNatClampNeg = v2) (hbad : v1 < 0 ∨ nI 3 < v1 ∨ v2 < 0 ∨ nI 8192 < v2) {H : Heap} {locs : List Loc} {ls : Array Slot} (hP : va_P g.1 vcl [(h0, .inr (0, [.ref (u 0), .int (nI 0), .ref (u 1), .int (nI 0), .ref (u 12), .int (nI 0), .ref (u 2), .ref (u 3), .ref (u 4), .ref (u 13), .ref (u 14)])), (h1, .inr (8, [.int 0, .int 0, .int 0, .int 0, .ref (w 0), .ref (w 1), .ref (w 2), .ref (w 3), .ref (w 4), .ref (w 5), .ref (w 6), .ref (w 7), .ref (w 8), .ref (w 9)])), (a, .inl (g.2.1 2, 1, .inr (.inl f)))] H) (hD : va_D (Alaw s) [(h0, .inr (0, [.ref (u 0), .int (nI 0), .ref (u 1), .int (nI 0), .ref (u 12), .int (nI 0), .ref (u 2), .ref (u 3), .ref (u 4), .ref (u 13), .ref (u 14)])), (h1, .inr (8, [.int 0, .int 0, .int 0, .int 0, .ref (w 0), .ref (w 1), .ref (w 2), .ref (w 3), .ref (w 4), .ref (w 5), .ref (w 6), .ref (w 7), .ref (w 8), .ref (w 9)])), (a, .inl (g.2.1 2, 1, .inr (.inl f)))]) (hS : va_S (Alaw s) s.heap H locs) (hl : lv_has ls 7 [(4, .int (nI 0)), (3, .ref a), (2, .ref h1), (1, .ref h0), (0, .ref b)]) : W p l e room_1 s m #[Value.ref b] below meth c H locs 380 194479 (lw_Z below #[Value.ref b] s) (F0 m 1035 ls []) := by
  obtain ⟨hx, hb, hml, hown, hts⟩ := id F
  have hE := hX.1
  have hK := hE.1
  have hA : ∀ q, s.heap.size ≤ q → Alaw s q := fun _ h => h
  obtain ⟨-, -, hr, -, -, -, hXs, hbl, hlk, -⟩ := id C0
  have hbA : ¬ Alaw s b := fun h => Nat.not_lt.mpr h hbl
  refine lv_aload_n hx hb dL_law_1035 rfl (lv_at hl 3 rfl) ?_
  refine lv_aload_n hx hb dL_law_1036 rfl (lv_at hl 4 rfl) ?_
  refine lv_iload hx hb dL_law_1037 (lv_at hl 0 rfl) ?_
  refine lv_iconst (v := nI 1) hx hb dL_law_1039 (by decide) ?_
  refine mi_iadd hx hb dL_law_1040 ?_
  refine mi_as (show nI (0 + 1) = nI 1 from rfl) ?_
  refine va_sld hx hb hXs hbl hbA hS (vp_in_nI (N := 6) (by omega) (by omega)) dL_law_1041 ?_
  refine mi_as hv1 ?_
  refine lv_aload_n hx hb dL_law_1042 rfl (lv_at hl 4 rfl) ?_
  refine lv_iload hx hb dL_law_1043 (lv_at hl 0 rfl) ?_
  refine lv_iconst (v := nI 2) hx hb dL_law_1045 (by decide) ?_
  refine mi_iadd hx hb dL_law_1046 ?_
  refine mi_as (show nI (0 + 2) = nI 2 from rfl) ?_
  refine va_sld hx hb hXs hbl hbA hS (vp_in_nI (N := 6) (by omega) (by omega)) dL_law_1047 ?_
  refine mi_as hv2 ?_
  refine lv_aload_n hx hb dL_law_1048 rfl (lv_at hl 1 rfl) ?_
  refine mc_i (wc := [(h0, .inr (0, [.ref (u 0), .int (nI 0), .ref (u 1), .int (nI 0), .ref (u 12), .int (nI 0), .ref (u 2), .ref (u 3), .ref (u 4), .ref (u 13), .ref (u 14)])), (a, .inl (g.2.1 2, 1, .inr (.inl f)))]) (wr := [(h1, .inr (8, [.int 0, .int 0, .int 0, .int 0, .ref (w 0), .ref (w 1), .ref (w 2), .ref (w 3), .ref (w 4), .ref (w 5), .ref (w 6), .ref (w 7), .ref (w 8), .ref (w 9)]))]) hP hD hS hA [0, 2] [1] rfl rfl rfl (by decide) (lc_run (As := [.ref h0, .int v1, .int v2, .ref a]) (rest := []) F (lx_hash l htr g _ h0 u v1 v2 a f hbad) (lc_cw 4 hts (wg_app (wg_c kw_1291 (wg_c kw_1292 (wg_c kw_0 wg_n))) kw_1293) rfl rfl rfl (by decide +kernel) ⟨by decide, by decide⟩) (pr_S (ex_ok g) hP hD hS hA hX [0, 2] rfl rfl) rfl rfl hl.1 rfl (lv_room (Nat.le_of_ble_eq_true rfl)) dL_law_1049 ⟨(by decide), (by decide)⟩) (fun r1 u1 H locs hu1 hP hD hS => ?_)
  subst hu1
  have hP : va_P g.1 vcl [(h1, .inr (8, [.int 0, .int 0, .int 0, .int 0, .ref (w 0), .ref (w 1), .ref (w 2), .ref (w 3), .ref (w 4), .ref (w 5), .ref (w 6), .ref (w 7), .ref (w 8), .ref (w 9)])), (a, .inl (g.2.1 2, 1, .inr (.inl f)))] _ := hP
  have hD : va_D _ [(h1, .inr (8, [.int 0, .int 0, .int 0, .int 0, .ref (w 0), .ref (w 1), .ref (w 2), .ref (w 3), .ref (w 4), .ref (w 5), .ref (w 6), .ref (w 7), .ref (w 8), .ref (w 9)])), (a, .inl (g.2.1 2, 1, .inr (.inl f)))] := hD
  refine W.widen (k := 381) (n := 194485) (by decide) (by decide) ?_
  refine lv_istore (lv' := [(5, .int (nI 1)), (4, .int (nI 0)), (3, .ref a), (2, .ref h1), (1, .ref h0), (0, .ref b)]) hx hb dL_law_1052 hl (by decide) rfl (fun ls hl => ?_)
  refine lv_aload_n hx hb dL_law_1054 rfl (lv_at hl 3 rfl) ?_
  refine lv_aload_n hx hb dL_law_1055 rfl (lv_at hl 5 rfl) ?_
  refine lv_iload hx hb dL_law_1056 (lv_at hl 1 rfl) ?_
  refine lv_iconst (v := nI 1) hx hb dL_law_1058 (by decide) ?_
  refine mi_iadd hx hb dL_law_1059 ?_
  refine mi_as (show nI (0 + 1) = nI 1 from rfl) ?_
  refine va_sld hx hb hXs hbl hbA hS (vp_in_nI (N := 6) (by omega) (by omega)) dL_law_1060 ?_
  refine mi_as hv1 ?_
  refine lv_aload_n hx hb dL_law_1061 rfl (lv_at hl 5 rfl) ?_
  refine lv_iload hx hb dL_law_1062 (lv_at hl 1 rfl) ?_
  refine lv_iconst (v := nI 2) hx hb dL_law_1064 (by decide) ?_
  refine mi_iadd hx hb dL_law_1065 ?_
  refine mi_as (show nI (0 + 2) = nI 2 from rfl) ?_
  refine va_sld hx hb hXs hbl hbA hS (vp_in_nI (N := 6) (by omega) (by omega)) dL_law_1066 ?_
  refine mi_as hv2 ?_
  refine mc_i (wc := [(h1, .inr (8, [.int 0, .int 0, .int 0, .int 0, .ref (w 0), .ref (w 1), .ref (w 2), .ref (w 3), .ref (w 4), .ref (w 5), .ref (w 6), .ref (w 7), .ref (w 8), .ref (w 9)]))]) (wr := [(a, .inl (g.2.1 2, 1, .inr (.inl f)))]) hP hD hS hA [0] [1] rfl rfl rfl (by decide) (va_runV (As := [.int v1, .int v2]) (rest := []) F (x_M_hash l g _ h1 w v1 v2 hbad) (cwV 2 hts (wg_app (wg_c kw_1934 (wg_c kw_1935 (wg_c kw_1936 (wg_c kw_9 wg_n)))) kw_1937) rfl rfl rfl (by decide +kernel) ⟨by decide, by decide⟩) (pr_V (en_ok g) (q0 := 0) hK hP hD hS hA hE [0] rfl rfl rfl rfl) rfl rfl hl.1 rfl (lv_room (Nat.le_of_ble_eq_true rfl)) dL_law_1067 ⟨(by decide), (by decide)⟩) (fun r2 u2 H locs hu2 hP hD hS => ?_)
  subst hu2
  have hP : va_P g.1 vcl [(a, .inl (g.2.1 2, 1, .inr (.inl f))), (h1, .inr (8, [.int (nI 1), .int 0, .int 0, .int 0, .ref (w 0), .ref (w 1), .ref (w 2), .ref (w 3), .ref (w 4), .ref (w 5), .ref (w 6), .ref (w 7), .ref (w 8), .ref (w 9)]))] _ := hP
  have hD : va_D _ [(a, .inl (g.2.1 2, 1, .inr (.inl f))), (h1, .inr (8, [.int (nI 1), .int 0, .int 0, .int 0, .ref (w 0), .ref (w 1), .ref (w 2), .ref (w 3), .ref (w 4), .ref (w 5), .ref (w 6), .ref (w 7), .ref (w 8), .ref (w 9)]))] := hD
  refine W.widen (k := 381) (n := 194485) (by omega) (by omega) ?_
  refine lv_istore (lv' := [(6, .int (nI 0)), (5, .int (nI 1)), (4, .int (nI 0)), (3, .ref a), (2, .ref h1), (1, .ref h0), (0, .ref b)]) hx hb dL_law_1070 hl (by decide) rfl (fun ls hl => ?_)
  refine lv_aload_n hx hb dL_law_1072 rfl (lv_at hl 4 rfl) ?_
  refine mr_i (wc := [(h1, .inr (8, [.int (nI 1), .int 0, .int 0, .int 0, .ref (w 0), .ref (w 1), .ref (w 2), .ref (w 3), .ref (w 4), .ref (w 5), .ref (w 6), .ref (w 7), .ref (w 8), .ref (w 9)]))]) (wr := [(a, .inl (g.2.1 2, 1, .inr (.inl f)))]) hP hD hS hA [1] [0] rfl rfl rfl (by decide) (va_runV (As := []) (rest := []) F (m_M_thrown l g _ h1 w (nI 1) 0 0 0) (cwV 0 hts (wg_app (wg_c kw_1569 (wg_c kw_1570 (wg_c kw_1571 (wg_c kw_9 wg_n)))) kw_1572) rfl rfl rfl (by decide +kernel) ⟨by decide, by decide⟩) (pr_V (en_ok g) (q0 := 1) hK hP hD hS hA hE [1] rfl rfl rfl rfl) rfl rfl hl.1 rfl (lv_room (Nat.le_of_ble_eq_true rfl)) dL_law_1073 ⟨(by decide), (by decide)⟩) (fun r3 u3 H hu3 hP hD hS => ?_)
  subst hu3
  have hP : va_P g.1 vcl [(a, .inl (g.2.1 2, 1, .inr (.inl f)))] _ := hP
  have hD : va_D _ [(a, .inl (g.2.1 2, 1, .inr (.inl f)))] := hD
  refine W.widen (k := 381) (n := 194485) (by omega) (by omega) ?_
  refine lv_iload hx hb dL_law_1076 (lv_at hl 1 rfl) ?_
  refine mi_eq (tgt := 1083) hx hb dL_law_1078 (by decide) (by omega) (by omega) (fun h21 => ?_) (fun h21 => absurd h21 (by omega))
  refine lv_iload hx hb dL_law_1083 (lv_at hl 1 rfl) ?_
  refine lv_if_ne (tgt := 1100) hx hb dL_law_1085 (by decide) (fun h22 => ?_) (fun h22 => absurd h22 (by decide))
  refine lv_goto (tgt := 1184) hx hb dL_law_1100 (by decide) ?_
  exact law_end l C0 F hS (lv_subm hl [2, 6] rfl) (by decide) (by decide)
set_option maxHeartbeats 400000 in
set_option maxRecDepth 100000 in
theorem law_count {p : Program} {e : Env} {s : State} {m : MethodId} {below : List Frame} {meth : Method} {c : Code} (l : Launch) (htr : l.stackTraces = false) {b : Nat} {xs : Nat → Int32} (C0 : lw_At p s m meth c b 6 xs) (g : Gd) (F : CallFix p m c c_L_law 7 s #[Value.ref b] wL "LatticeKeysLaw") (hX : ex g (Alaw s) s s.heap) (h0 h1 a : Nat) (u w : Nat → Nat) (fa : Nat → Nat → Int64) (fu : Nat → Int32) (f : Nat → Int64) (v1 : Int32) (hv1 : xs (nI 1).toNatClampNeg = v1) {H : Heap} {locs : List Loc} {ls : Array Slot} (hP : va_P g.1 vcl [(h0, .inr (0, [.ref (u 0), .int (nI 0), .ref (u 1), .int (nI 0), .ref (u 12), .int (nI 0), .ref (u 2), .ref (u 3), .ref (u 4), .ref (u 13), .ref (u 14)])), (h1, .inr (8, [.int 0, .int 0, .int 0, .int 0, .ref (w 0), .ref (w 1), .ref (w 2), .ref (w 3), .ref (w 4), .ref (w 5), .ref (w 6), .ref (w 7), .ref (w 8), .ref (w 9)])), (a, .inl (g.2.1 2, 1, .inr (.inl f)))] H) (hD : va_D (Alaw s) [(h0, .inr (0, [.ref (u 0), .int (nI 0), .ref (u 1), .int (nI 0), .ref (u 12), .int (nI 0), .ref (u 2), .ref (u 3), .ref (u 4), .ref (u 13), .ref (u 14)])), (h1, .inr (8, [.int 0, .int 0, .int 0, .int 0, .ref (w 0), .ref (w 1), .ref (w 2), .ref (w 3), .ref (w 4), .ref (w 5), .ref (w 6), .ref (w 7), .ref (w 8), .ref (w 9)])), (a, .inl (g.2.1 2, 1, .inr (.inl f)))]) (hS : va_S (Alaw s) s.heap H locs) (hl : lv_has ls 7 [(4, .int (nI 0)), (3, .ref a), (2, .ref h1), (1, .ref h0), (0, .ref b)]) : W p l e room_1 s m #[Value.ref b] below meth c H locs 380 194479 (lw_Z below #[Value.ref b] s) (F0 m 1159 ls []) := by
  obtain ⟨hx, hb, hml, hown, hts⟩ := id F
  have hE := hX.1
  have hK := hE.1
  have hA : ∀ q, s.heap.size ≤ q → Alaw s q := fun _ h => h
  obtain ⟨-, -, hr, -, -, -, hXs, hbl, hlk, -⟩ := id C0
  have hbA : ¬ Alaw s b := fun h => Nat.not_lt.mpr h hbl
  refine lv_aload_n hx hb dL_law_1159 rfl (lv_at hl 3 rfl) ?_
  refine lv_aload_n hx hb dL_law_1160 rfl (lv_at hl 4 rfl) ?_
  refine lv_iload hx hb dL_law_1161 (lv_at hl 0 rfl) ?_
  refine lv_iconst (v := nI 1) hx hb dL_law_1163 (by decide) ?_
  refine mi_iadd hx hb dL_law_1164 ?_
  refine mi_as (show nI (0 + 1) = nI 1 from rfl) ?_
  refine va_sld hx hb hXs hbl hbA hS (vp_in_nI (N := 6) (by omega) (by omega)) dL_law_1165 ?_
  refine mi_as hv1 ?_
  refine mr_i (wc := [(h0, .inr (0, [.ref (u 0), .int (nI 0), .ref (u 1), .int (nI 0), .ref (u 12), .int (nI 0), .ref (u 2), .ref (u 3), .ref (u 4), .ref (u 13), .ref (u 14)]))]) (wr := [(h1, .inr (8, [.int 0, .int 0, .int 0, .int 0, .ref (w 0), .ref (w 1), .ref (w 2), .ref (w 3), .ref (w 4), .ref (w 5), .ref (w 6), .ref (w 7), .ref (w 8), .ref (w 9)])), (a, .inl (g.2.1 2, 1, .inr (.inl f)))]) hP hD hS hA [0] [1, 2] rfl rfl rfl (by decide) (va_runV (As := [.int v1]) (rest := []) F (m_K_count l g _ h0 u v1) (cwV 1 hts (wg_app (wg_c kw_408 (wg_c kw_409 (wg_c kw_410 (wg_c kw_1 wg_n)))) kw_411) rfl rfl rfl (by decide +kernel) ⟨by decide, by decide⟩) (pr_V (en_ok g) (q0 := 0) hK hP hD hS hA hE [0] rfl rfl rfl rfl) rfl rfl hl.1 rfl (lv_room (Nat.le_of_ble_eq_true rfl)) dL_law_1166 ⟨(by decide), (by decide)⟩) (fun r1 u1 H hu1 hP hD hS => ?_)
  subst hu1
  have hP : va_P g.1 vcl [(h1, .inr (8, [.int 0, .int 0, .int 0, .int 0, .ref (w 0), .ref (w 1), .ref (w 2), .ref (w 3), .ref (w 4), .ref (w 5), .ref (w 6), .ref (w 7), .ref (w 8), .ref (w 9)])), (a, .inl (g.2.1 2, 1, .inr (.inl f)))] _ := hP
  have hD : va_D _ [(h1, .inr (8, [.int 0, .int 0, .int 0, .int 0, .ref (w 0), .ref (w 1), .ref (w 2), .ref (w 3), .ref (w 4), .ref (w 5), .ref (w 6), .ref (w 7), .ref (w 8), .ref (w 9)])), (a, .inl (g.2.1 2, 1, .inr (.inl f)))] := hD
  refine W.widen (k := 380) (n := 194479) (by omega) (by omega) ?_
  refine lv_aload_n hx hb dL_law_1169 rfl (lv_at hl 2 rfl) ?_
  refine lv_aload_n hx hb dL_law_1170 rfl (lv_at hl 4 rfl) ?_
  refine lv_iload hx hb dL_law_1171 (lv_at hl 0 rfl) ?_
  refine lv_iconst (v := nI 1) hx hb dL_law_1173 (by decide) ?_
  refine mi_iadd hx hb dL_law_1174 ?_
  refine mi_as (show nI (0 + 1) = nI 1 from rfl) ?_
  refine va_sld hx hb hXs hbl hbA hS (vp_in_nI (N := 6) (by omega) (by omega)) dL_law_1175 ?_
  refine mi_as hv1 ?_
  refine mc_i (wc := [(h1, .inr (8, [.int 0, .int 0, .int 0, .int 0, .ref (w 0), .ref (w 1), .ref (w 2), .ref (w 3), .ref (w 4), .ref (w 5), .ref (w 6), .ref (w 7), .ref (w 8), .ref (w 9)]))]) (wr := [(a, .inl (g.2.1 2, 1, .inr (.inl f)))]) hP hD hS hA [0] [1] rfl rfl rfl (by decide) (va_runV (As := [.int v1]) (rest := [.int (cnt v1)]) F (m_M_count l g _ h1 w v1) (cwV 1 hts (wg_app (wg_c kw_1946 (wg_c kw_1947 (wg_c kw_1948 (wg_c kw_9 wg_n)))) kw_1949) rfl rfl rfl (by decide +kernel) ⟨by decide, by decide⟩) (pr_V (en_ok g) (q0 := 0) hK hP hD hS hA hE [0] rfl rfl rfl rfl) rfl rfl hl.1 rfl (lv_room (Nat.le_of_ble_eq_true rfl)) dL_law_1176 ⟨(by decide), (by decide)⟩) (fun r2 u2 H locs hu2 hP hD hS => ?_)
  subst hu2
  have hP : va_P g.1 vcl [(a, .inl (g.2.1 2, 1, .inr (.inl f))), (h1, .inr (8, [.int (nI 0), .int 0, .int 0, .int 0, .ref (w 0), .ref (w 1), .ref (w 2), .ref (w 3), .ref (w 4), .ref (w 5), .ref (w 6), .ref (w 7), .ref (w 8), .ref (w 9)]))] _ := hP
  have hD : va_D _ [(a, .inl (g.2.1 2, 1, .inr (.inl f))), (h1, .inr (8, [.int (nI 0), .int 0, .int 0, .int 0, .ref (w 0), .ref (w 1), .ref (w 2), .ref (w 3), .ref (w 4), .ref (w 5), .ref (w 6), .ref (w 7), .ref (w 8), .ref (w 9)]))] := hD
  refine W.widen (k := 380) (n := 194479) (by omega) (by omega) ?_
  refine lv_icmp_eq (tgt := 1184) hx hb dL_law_1179 (by decide) (fun h21 => ?_) (fun h21 => absurd rfl h21)
  exact law_end l C0 F hS (lv_subm hl [0, 4] rfl) (by decide) (by decide)
