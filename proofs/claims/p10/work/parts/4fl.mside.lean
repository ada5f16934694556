set_option linter.all false
abbrev c_ME_init : ByteArray := prog_15_method_1_code
abbrev y_ME_init : MethodName := ⟨"LatticeKeysModel$Secrets", "<init>", "(LLatticeKeysModel$Sponge;)V"⟩
abbrev w_ME_init : List Cond := Cond.code y_ME_init c_ME_init 2 none :: WG
theorem dME_init_0 : decode c_ME_init 0 = .ok (.aload_n 0, 1) := by decide +kernel
theorem dME_init_1 : decode c_ME_init 1 = .ok (.invokespecial 1, 3) := by decide +kernel
theorem dME_init_4 : decode c_ME_init 4 = .ok (.aload_n 0, 1) := by decide +kernel
theorem dME_init_5 : decode c_ME_init 5 = .ok (.new 7, 3) := by decide +kernel
theorem dME_init_8 : decode c_ME_init 8 = .ok (.dup, 1) := by decide +kernel
theorem dME_init_9 : decode c_ME_init 9 = .ok (.sipush 3329, 3) := by decide +kernel
theorem dME_init_12 : decode c_ME_init 12 = .ok (.bipush 17, 2) := by decide +kernel
theorem dME_init_14 : decode c_ME_init 14 = .ok (.sipush 128, 3) := by decide +kernel
theorem dME_init_17 : decode c_ME_init 17 = .ok (.invokespecial 11, 3) := by decide +kernel
theorem dME_init_20 : decode c_ME_init 20 = .ok (.putfield 14, 3) := by decide +kernel
theorem dME_init_23 : decode c_ME_init 23 = .ok (.aload_n 0, 1) := by decide +kernel
theorem dME_init_24 : decode c_ME_init 24 = .ok (.bipush 16, 2) := by decide +kernel
theorem dME_init_26 : decode c_ME_init 26 = .ok (.sipush 256, 3) := by decide +kernel
theorem dME_init_29 : decode c_ME_init 29 = .ok (.multianewarray 18 2, 4) := by decide +kernel
theorem dME_init_33 : decode c_ME_init 33 = .ok (.putfield 20, 3) := by decide +kernel
theorem dME_init_36 : decode c_ME_init 36 = .ok (.aload_n 0, 1) := by decide +kernel
theorem dME_init_37 : decode c_ME_init 37 = .ok (.iconst 4, 1) := by decide +kernel
theorem dME_init_38 : decode c_ME_init 38 = .ok (.sipush 256, 3) := by decide +kernel
theorem dME_init_41 : decode c_ME_init 41 = .ok (.multianewarray 18 2, 4) := by decide +kernel
theorem dME_init_45 : decode c_ME_init 45 = .ok (.putfield 23, 3) := by decide +kernel
theorem dME_init_48 : decode c_ME_init 48 = .ok (.aload_n 0, 1) := by decide +kernel
theorem dME_init_49 : decode c_ME_init 49 = .ok (.iconst 4, 1) := by decide +kernel
theorem dME_init_50 : decode c_ME_init 50 = .ok (.sipush 256, 3) := by decide +kernel
theorem dME_init_53 : decode c_ME_init 53 = .ok (.multianewarray 18 2, 4) := by decide +kernel
theorem dME_init_57 : decode c_ME_init 57 = .ok (.putfield 26, 3) := by decide +kernel
theorem dME_init_60 : decode c_ME_init 60 = .ok (.aload_n 0, 1) := by decide +kernel
theorem dME_init_61 : decode c_ME_init 61 = .ok (.iconst 4, 1) := by decide +kernel
theorem dME_init_62 : decode c_ME_init 62 = .ok (.sipush 256, 3) := by decide +kernel
theorem dME_init_65 : decode c_ME_init 65 = .ok (.multianewarray 18 2, 4) := by decide +kernel
theorem dME_init_69 : decode c_ME_init 69 = .ok (.putfield 29, 3) := by decide +kernel
theorem dME_init_72 : decode c_ME_init 72 = .ok (.aload_n 0, 1) := by decide +kernel
theorem dME_init_73 : decode c_ME_init 73 = .ok (.sipush 256, 3) := by decide +kernel
theorem dME_init_76 : decode c_ME_init 76 = .ok (.newarray .int, 2) := by decide +kernel
theorem dME_init_78 : decode c_ME_init 78 = .ok (.putfield 32, 3) := by decide +kernel
theorem dME_init_81 : decode c_ME_init 81 = .ok (.aload_n 0, 1) := by decide +kernel
theorem dME_init_82 : decode c_ME_init 82 = .ok (.sipush 256, 3) := by decide +kernel
theorem dME_init_85 : decode c_ME_init 85 = .ok (.newarray .int, 2) := by decide +kernel
theorem dME_init_87 : decode c_ME_init 87 = .ok (.putfield 36, 3) := by decide +kernel
theorem dME_init_90 : decode c_ME_init 90 = .ok (.aload_n 0, 1) := by decide +kernel
theorem dME_init_91 : decode c_ME_init 91 = .ok (.sipush 256, 3) := by decide +kernel
theorem dME_init_94 : decode c_ME_init 94 = .ok (.newarray .int, 2) := by decide +kernel
theorem dME_init_96 : decode c_ME_init 96 = .ok (.putfield 39, 3) := by decide +kernel
theorem dME_init_99 : decode c_ME_init 99 = .ok (.aload_n 0, 1) := by decide +kernel
theorem dME_init_100 : decode c_ME_init 100 = .ok (.bipush 64, 2) := by decide +kernel
theorem dME_init_102 : decode c_ME_init 102 = .ok (.newarray .byte, 2) := by decide +kernel
theorem dME_init_104 : decode c_ME_init 104 = .ok (.putfield 42, 3) := by decide +kernel
theorem dME_init_107 : decode c_ME_init 107 = .ok (.aload_n 0, 1) := by decide +kernel
theorem dME_init_108 : decode c_ME_init 108 = .ok (.sipush 192, 3) := by decide +kernel
theorem dME_init_111 : decode c_ME_init 111 = .ok (.newarray .byte, 2) := by decide +kernel
theorem dME_init_113 : decode c_ME_init 113 = .ok (.putfield 46, 3) := by decide +kernel
theorem dME_init_116 : decode c_ME_init 116 = .ok (.aload_n 0, 1) := by decide +kernel
theorem dME_init_117 : decode c_ME_init 117 = .ok (.bipush 32, 2) := by decide +kernel
theorem dME_init_119 : decode c_ME_init 119 = .ok (.newarray .byte, 2) := by decide +kernel
theorem dME_init_121 : decode c_ME_init 121 = .ok (.putfield 49, 3) := by decide +kernel
theorem dME_init_124 : decode c_ME_init 124 = .ok (.aload_n 0, 1) := by decide +kernel
theorem dME_init_125 : decode c_ME_init 125 = .ok (.bipush 32, 2) := by decide +kernel
theorem dME_init_127 : decode c_ME_init 127 = .ok (.newarray .byte, 2) := by decide +kernel
theorem dME_init_129 : decode c_ME_init 129 = .ok (.putfield 52, 3) := by decide +kernel
theorem dME_init_132 : decode c_ME_init 132 = .ok (.aload_n 0, 1) := by decide +kernel
theorem dME_init_133 : decode c_ME_init 133 = .ok (.sipush 1568, 3) := by decide +kernel
theorem dME_init_136 : decode c_ME_init 136 = .ok (.newarray .byte, 2) := by decide +kernel
theorem dME_init_138 : decode c_ME_init 138 = .ok (.putfield 55, 3) := by decide +kernel
theorem dME_init_141 : decode c_ME_init 141 = .ok (.aload_n 0, 1) := by decide +kernel
theorem dME_init_142 : decode c_ME_init 142 = .ok (.aload_n 1, 1) := by decide +kernel
theorem dME_init_143 : decode c_ME_init 143 = .ok (.putfield 58, 3) := by decide +kernel
theorem dME_init_146 : decode c_ME_init 146 = .ok (.return_, 1) := by decide +kernel
abbrev c_MH_init : ByteArray := prog_13_method_1_code
abbrev y_MH_init : MethodName := ⟨"LatticeKeysModel$Hands", "<init>", "(LLatticeKeysModel$Sponge;)V"⟩
abbrev w_MH_init : List Cond := Cond.code y_MH_init c_MH_init 2 none :: WG
theorem dMH_init_0 : decode c_MH_init 0 = .ok (.aload_n 0, 1) := by decide +kernel
theorem dMH_init_1 : decode c_MH_init 1 = .ok (.invokespecial 1, 3) := by decide +kernel
theorem dMH_init_4 : decode c_MH_init 4 = .ok (.aload_n 0, 1) := by decide +kernel
theorem dMH_init_5 : decode c_MH_init 5 = .ok (.new 7, 3) := by decide +kernel
theorem dMH_init_8 : decode c_MH_init 8 = .ok (.dup, 1) := by decide +kernel
theorem dMH_init_9 : decode c_MH_init 9 = .ok (.ldc 11, 2) := by decide +kernel
theorem dMH_init_11 : decode c_MH_init 11 = .ok (.sipush 1753, 3) := by decide +kernel
theorem dMH_init_14 : decode c_MH_init 14 = .ok (.sipush 256, 3) := by decide +kernel
theorem dMH_init_17 : decode c_MH_init 17 = .ok (.invokespecial 12, 3) := by decide +kernel
theorem dMH_init_20 : decode c_MH_init 20 = .ok (.putfield 15, 3) := by decide +kernel
theorem dMH_init_23 : decode c_MH_init 23 = .ok (.aload_n 0, 1) := by decide +kernel
theorem dMH_init_24 : decode c_MH_init 24 = .ok (.bipush 64, 2) := by decide +kernel
theorem dMH_init_26 : decode c_MH_init 26 = .ok (.sipush 256, 3) := by decide +kernel
theorem dMH_init_29 : decode c_MH_init 29 = .ok (.multianewarray 19 2, 4) := by decide +kernel
theorem dMH_init_33 : decode c_MH_init 33 = .ok (.putfield 21, 3) := by decide +kernel
theorem dMH_init_36 : decode c_MH_init 36 = .ok (.aload_n 0, 1) := by decide +kernel
theorem dMH_init_37 : decode c_MH_init 37 = .ok (.bipush 7, 2) := by decide +kernel
theorem dMH_init_39 : decode c_MH_init 39 = .ok (.sipush 256, 3) := by decide +kernel
theorem dMH_init_42 : decode c_MH_init 42 = .ok (.multianewarray 19 2, 4) := by decide +kernel
theorem dMH_init_46 : decode c_MH_init 46 = .ok (.putfield 24, 3) := by decide +kernel
theorem dMH_init_49 : decode c_MH_init 49 = .ok (.aload_n 0, 1) := by decide +kernel
theorem dMH_init_50 : decode c_MH_init 50 = .ok (.bipush 8, 2) := by decide +kernel
theorem dMH_init_52 : decode c_MH_init 52 = .ok (.sipush 256, 3) := by decide +kernel
theorem dMH_init_55 : decode c_MH_init 55 = .ok (.multianewarray 19 2, 4) := by decide +kernel
theorem dMH_init_59 : decode c_MH_init 59 = .ok (.putfield 27, 3) := by decide +kernel
theorem dMH_init_62 : decode c_MH_init 62 = .ok (.aload_n 0, 1) := by decide +kernel
theorem dMH_init_63 : decode c_MH_init 63 = .ok (.bipush 8, 2) := by decide +kernel
theorem dMH_init_65 : decode c_MH_init 65 = .ok (.sipush 256, 3) := by decide +kernel
theorem dMH_init_68 : decode c_MH_init 68 = .ok (.multianewarray 19 2, 4) := by decide +kernel
theorem dMH_init_72 : decode c_MH_init 72 = .ok (.putfield 30, 3) := by decide +kernel
theorem dMH_init_75 : decode c_MH_init 75 = .ok (.aload_n 0, 1) := by decide +kernel
theorem dMH_init_76 : decode c_MH_init 76 = .ok (.bipush 8, 2) := by decide +kernel
theorem dMH_init_78 : decode c_MH_init 78 = .ok (.sipush 256, 3) := by decide +kernel
theorem dMH_init_81 : decode c_MH_init 81 = .ok (.multianewarray 19 2, 4) := by decide +kernel
theorem dMH_init_85 : decode c_MH_init 85 = .ok (.putfield 33, 3) := by decide +kernel
theorem dMH_init_88 : decode c_MH_init 88 = .ok (.aload_n 0, 1) := by decide +kernel
theorem dMH_init_89 : decode c_MH_init 89 = .ok (.bipush 7, 2) := by decide +kernel
theorem dMH_init_91 : decode c_MH_init 91 = .ok (.sipush 256, 3) := by decide +kernel
theorem dMH_init_94 : decode c_MH_init 94 = .ok (.multianewarray 19 2, 4) := by decide +kernel
theorem dMH_init_98 : decode c_MH_init 98 = .ok (.putfield 36, 3) := by decide +kernel
theorem dMH_init_101 : decode c_MH_init 101 = .ok (.aload_n 0, 1) := by decide +kernel
theorem dMH_init_102 : decode c_MH_init 102 = .ok (.bipush 7, 2) := by decide +kernel
theorem dMH_init_104 : decode c_MH_init 104 = .ok (.sipush 256, 3) := by decide +kernel
theorem dMH_init_107 : decode c_MH_init 107 = .ok (.multianewarray 19 2, 4) := by decide +kernel
theorem dMH_init_111 : decode c_MH_init 111 = .ok (.putfield 39, 3) := by decide +kernel
theorem dMH_init_114 : decode c_MH_init 114 = .ok (.aload_n 0, 1) := by decide +kernel
theorem dMH_init_115 : decode c_MH_init 115 = .ok (.bipush 7, 2) := by decide +kernel
theorem dMH_init_117 : decode c_MH_init 117 = .ok (.sipush 256, 3) := by decide +kernel
theorem dMH_init_120 : decode c_MH_init 120 = .ok (.multianewarray 19 2, 4) := by decide +kernel
theorem dMH_init_124 : decode c_MH_init 124 = .ok (.putfield 42, 3) := by decide +kernel
theorem dMH_init_127 : decode c_MH_init 127 = .ok (.aload_n 0, 1) := by decide +kernel
theorem dMH_init_128 : decode c_MH_init 128 = .ok (.bipush 8, 2) := by decide +kernel
theorem dMH_init_130 : decode c_MH_init 130 = .ok (.sipush 256, 3) := by decide +kernel
theorem dMH_init_133 : decode c_MH_init 133 = .ok (.multianewarray 19 2, 4) := by decide +kernel
theorem dMH_init_137 : decode c_MH_init 137 = .ok (.putfield 45, 3) := by decide +kernel
theorem dMH_init_140 : decode c_MH_init 140 = .ok (.aload_n 0, 1) := by decide +kernel
theorem dMH_init_141 : decode c_MH_init 141 = .ok (.bipush 8, 2) := by decide +kernel
theorem dMH_init_143 : decode c_MH_init 143 = .ok (.sipush 256, 3) := by decide +kernel
theorem dMH_init_146 : decode c_MH_init 146 = .ok (.multianewarray 19 2, 4) := by decide +kernel
theorem dMH_init_150 : decode c_MH_init 150 = .ok (.putfield 48, 3) := by decide +kernel
theorem dMH_init_153 : decode c_MH_init 153 = .ok (.aload_n 0, 1) := by decide +kernel
theorem dMH_init_154 : decode c_MH_init 154 = .ok (.sipush 256, 3) := by decide +kernel
theorem dMH_init_157 : decode c_MH_init 157 = .ok (.newarray .int, 2) := by decide +kernel
theorem dMH_init_159 : decode c_MH_init 159 = .ok (.putfield 51, 3) := by decide +kernel
theorem dMH_init_162 : decode c_MH_init 162 = .ok (.aload_n 0, 1) := by decide +kernel
theorem dMH_init_163 : decode c_MH_init 163 = .ok (.sipush 256, 3) := by decide +kernel
theorem dMH_init_166 : decode c_MH_init 166 = .ok (.newarray .int, 2) := by decide +kernel
theorem dMH_init_168 : decode c_MH_init 168 = .ok (.putfield 55, 3) := by decide +kernel
theorem dMH_init_171 : decode c_MH_init 171 = .ok (.aload_n 0, 1) := by decide +kernel
theorem dMH_init_172 : decode c_MH_init 172 = .ok (.sipush 256, 3) := by decide +kernel
theorem dMH_init_175 : decode c_MH_init 175 = .ok (.newarray .int, 2) := by decide +kernel
theorem dMH_init_177 : decode c_MH_init 177 = .ok (.putfield 58, 3) := by decide +kernel
theorem dMH_init_180 : decode c_MH_init 180 = .ok (.aload_n 0, 1) := by decide +kernel
theorem dMH_init_181 : decode c_MH_init 181 = .ok (.sipush 256, 3) := by decide +kernel
theorem dMH_init_184 : decode c_MH_init 184 = .ok (.newarray .long, 2) := by decide +kernel
theorem dMH_init_186 : decode c_MH_init 186 = .ok (.putfield 61, 3) := by decide +kernel
theorem dMH_init_189 : decode c_MH_init 189 = .ok (.aload_n 0, 1) := by decide +kernel
theorem dMH_init_190 : decode c_MH_init 190 = .ok (.sipush 128, 3) := by decide +kernel
theorem dMH_init_193 : decode c_MH_init 193 = .ok (.newarray .byte, 2) := by decide +kernel
theorem dMH_init_195 : decode c_MH_init 195 = .ok (.putfield 65, 3) := by decide +kernel
theorem dMH_init_198 : decode c_MH_init 198 = .ok (.aload_n 0, 1) := by decide +kernel
theorem dMH_init_199 : decode c_MH_init 199 = .ok (.bipush 64, 2) := by decide +kernel
theorem dMH_init_201 : decode c_MH_init 201 = .ok (.newarray .byte, 2) := by decide +kernel
theorem dMH_init_203 : decode c_MH_init 203 = .ok (.putfield 69, 3) := by decide +kernel
theorem dMH_init_206 : decode c_MH_init 206 = .ok (.aload_n 0, 1) := by decide +kernel
theorem dMH_init_207 : decode c_MH_init 207 = .ok (.bipush 64, 2) := by decide +kernel
theorem dMH_init_209 : decode c_MH_init 209 = .ok (.newarray .byte, 2) := by decide +kernel
theorem dMH_init_211 : decode c_MH_init 211 = .ok (.putfield 72, 3) := by decide +kernel
theorem dMH_init_214 : decode c_MH_init 214 = .ok (.aload_n 0, 1) := by decide +kernel
theorem dMH_init_215 : decode c_MH_init 215 = .ok (.sipush 640, 3) := by decide +kernel
theorem dMH_init_218 : decode c_MH_init 218 = .ok (.newarray .byte, 2) := by decide +kernel
theorem dMH_init_220 : decode c_MH_init 220 = .ok (.putfield 75, 3) := by decide +kernel
theorem dMH_init_223 : decode c_MH_init 223 = .ok (.aload_n 0, 1) := by decide +kernel
theorem dMH_init_224 : decode c_MH_init 224 = .ok (.bipush 64, 2) := by decide +kernel
theorem dMH_init_226 : decode c_MH_init 226 = .ok (.newarray .byte, 2) := by decide +kernel
theorem dMH_init_228 : decode c_MH_init 228 = .ok (.putfield 78, 3) := by decide +kernel
theorem dMH_init_231 : decode c_MH_init 231 = .ok (.aload_n 0, 1) := by decide +kernel
theorem dMH_init_232 : decode c_MH_init 232 = .ok (.bipush 64, 2) := by decide +kernel
theorem dMH_init_234 : decode c_MH_init 234 = .ok (.newarray .byte, 2) := by decide +kernel
theorem dMH_init_236 : decode c_MH_init 236 = .ok (.putfield 81, 3) := by decide +kernel
theorem dMH_init_239 : decode c_MH_init 239 = .ok (.aload_n 0, 1) := by decide +kernel
theorem dMH_init_240 : decode c_MH_init 240 = .ok (.bipush 64, 2) := by decide +kernel
theorem dMH_init_242 : decode c_MH_init 242 = .ok (.newarray .byte, 2) := by decide +kernel
theorem dMH_init_244 : decode c_MH_init 244 = .ok (.putfield 84, 3) := by decide +kernel
theorem dMH_init_247 : decode c_MH_init 247 = .ok (.aload_n 0, 1) := by decide +kernel
theorem dMH_init_248 : decode c_MH_init 248 = .ok (.aload_n 1, 1) := by decide +kernel
theorem dMH_init_249 : decode c_MH_init 249 = .ok (.putfield 87, 3) := by decide +kernel
theorem dMH_init_252 : decode c_MH_init 252 = .ok (.return_, 1) := by decide +kernel
abbrev c_M_init : ByteArray := prog_12_method_3_code
abbrev y_M_init : MethodName := ⟨"LatticeKeysModel", "<init>", "()V"⟩
abbrev w_M_init : List Cond := Cond.code y_M_init c_M_init 1 none :: WG
theorem dM_init_0 : decode c_M_init 0 = .ok (.aload_n 0, 1) := by decide +kernel
theorem dM_init_1 : decode c_M_init 1 = .ok (.invokespecial 1, 3) := by decide +kernel
theorem dM_init_4 : decode c_M_init 4 = .ok (.aload_n 0, 1) := by decide +kernel
theorem dM_init_5 : decode c_M_init 5 = .ok (.sipush 16384, 3) := by decide +kernel
theorem dM_init_8 : decode c_M_init 8 = .ok (.newarray .byte, 2) := by decide +kernel
theorem dM_init_10 : decode c_M_init 10 = .ok (.putfield 7, 3) := by decide +kernel
theorem dM_init_13 : decode c_M_init 13 = .ok (.aload_n 0, 1) := by decide +kernel
theorem dM_init_14 : decode c_M_init 14 = .ok (.sipush 8192, 3) := by decide +kernel
theorem dM_init_17 : decode c_M_init 17 = .ok (.newarray .byte, 2) := by decide +kernel
theorem dM_init_19 : decode c_M_init 19 = .ok (.putfield 13, 3) := by decide +kernel
theorem dM_init_22 : decode c_M_init 22 = .ok (.aload_n 0, 1) := by decide +kernel
theorem dM_init_23 : decode c_M_init 23 = .ok (.sipush 8192, 3) := by decide +kernel
theorem dM_init_26 : decode c_M_init 26 = .ok (.newarray .byte, 2) := by decide +kernel
theorem dM_init_28 : decode c_M_init 28 = .ok (.putfield 16, 3) := by decide +kernel
theorem dM_init_31 : decode c_M_init 31 = .ok (.aload_n 0, 1) := by decide +kernel
theorem dM_init_32 : decode c_M_init 32 = .ok (.bipush 8, 2) := by decide +kernel
theorem dM_init_34 : decode c_M_init 34 = .ok (.sipush 2592, 3) := by decide +kernel
theorem dM_init_37 : decode c_M_init 37 = .ok (.multianewarray 19 2, 4) := by decide +kernel
theorem dM_init_41 : decode c_M_init 41 = .ok (.putfield 21, 3) := by decide +kernel
theorem dM_init_44 : decode c_M_init 44 = .ok (.aload_n 0, 1) := by decide +kernel
theorem dM_init_45 : decode c_M_init 45 = .ok (.bipush 8, 2) := by decide +kernel
theorem dM_init_47 : decode c_M_init 47 = .ok (.sipush 4896, 3) := by decide +kernel
theorem dM_init_50 : decode c_M_init 50 = .ok (.multianewarray 19 2, 4) := by decide +kernel
theorem dM_init_54 : decode c_M_init 54 = .ok (.putfield 24, 3) := by decide +kernel
theorem dM_init_57 : decode c_M_init 57 = .ok (.aload_n 0, 1) := by decide +kernel
theorem dM_init_58 : decode c_M_init 58 = .ok (.bipush 8, 2) := by decide +kernel
theorem dM_init_60 : decode c_M_init 60 = .ok (.newarray .int, 2) := by decide +kernel
theorem dM_init_62 : decode c_M_init 62 = .ok (.putfield 27, 3) := by decide +kernel
theorem dM_init_65 : decode c_M_init 65 = .ok (.aload_n 0, 1) := by decide +kernel
theorem dM_init_66 : decode c_M_init 66 = .ok (.bipush 8, 2) := by decide +kernel
theorem dM_init_68 : decode c_M_init 68 = .ok (.newarray .int, 2) := by decide +kernel
theorem dM_init_70 : decode c_M_init 70 = .ok (.putfield 31, 3) := by decide +kernel
theorem dM_init_73 : decode c_M_init 73 = .ok (.aload_n 0, 1) := by decide +kernel
theorem dM_init_74 : decode c_M_init 74 = .ok (.new 34, 3) := by decide +kernel
theorem dM_init_77 : decode c_M_init 77 = .ok (.dup, 1) := by decide +kernel
theorem dM_init_78 : decode c_M_init 78 = .ok (.invokespecial 36, 3) := by decide +kernel
theorem dM_init_81 : decode c_M_init 81 = .ok (.putfield 37, 3) := by decide +kernel
theorem dM_init_84 : decode c_M_init 84 = .ok (.aload_n 0, 1) := by decide +kernel
theorem dM_init_85 : decode c_M_init 85 = .ok (.new 41, 3) := by decide +kernel
theorem dM_init_88 : decode c_M_init 88 = .ok (.dup, 1) := by decide +kernel
theorem dM_init_89 : decode c_M_init 89 = .ok (.aload_n 0, 1) := by decide +kernel
theorem dM_init_90 : decode c_M_init 90 = .ok (.getfield 37, 3) := by decide +kernel
theorem dM_init_93 : decode c_M_init 93 = .ok (.invokespecial 43, 3) := by decide +kernel
theorem dM_init_96 : decode c_M_init 96 = .ok (.putfield 46, 3) := by decide +kernel
theorem dM_init_99 : decode c_M_init 99 = .ok (.aload_n 0, 1) := by decide +kernel
theorem dM_init_100 : decode c_M_init 100 = .ok (.new 50, 3) := by decide +kernel
theorem dM_init_103 : decode c_M_init 103 = .ok (.dup, 1) := by decide +kernel
theorem dM_init_104 : decode c_M_init 104 = .ok (.aload_n 0, 1) := by decide +kernel
theorem dM_init_105 : decode c_M_init 105 = .ok (.getfield 37, 3) := by decide +kernel
theorem dM_init_108 : decode c_M_init 108 = .ok (.invokespecial 52, 3) := by decide +kernel
theorem dM_init_111 : decode c_M_init 111 = .ok (.putfield 53, 3) := by decide +kernel
theorem dM_init_114 : decode c_M_init 114 = .ok (.return_, 1) := by decide +kernel
set_option maxHeartbeats 4000000 in
set_option maxRecDepth 100000 in
theorem z_ME_init (l : Launch) (g : Gd) (sz : Nat) (T0 : TyN) (pl : va_W) (hO : okn g T0 Z0 pl) (hU : inj T0) (hL : nmL T0 [(172, 173), (177, 178), (176, 177), (175, 176), (174, 175), (173, 174), (171, 172), (170, 171), (161, 170), (152, 161), (151, 152), (150, 151), (149, 150), (0, 1), (8, 9), (11, 12), (10, 11), (9, 10), (4, 5), (7, 8), (6, 7), (5, 6), (39, 40), (147, 148), (146, 147), (145, 146), (144, 145), (143, 144), (142, 143), (141, 142), (140, 141), (131, 140), (123, 131), (114, 123), (105, 114), (97, 105), (40, 97), (37, 38), (38, 39), (18, 19), (19, 20), (22, 23), (23, 24), (16, 17), (17, 18), (24, 25), (36, 37), (35, 36), (34, 35), (33, 34), (32, 33), (31, 32), (30, 31), (25, 30), (20, 21), (21, 22), (14, 15), (15, 16), (12, 13), (13, 14), (3, 4), (2, 3), (1, 2)]) (h0 : Nat) (sp : Nat) (k_sp : T0 sp = some 172) : Met l y_ME_init w_ME_init ({ frames := 2, cells := 43, slots := 10241, locals := 56 } : Room) (va_Pc [.ref h0, .ref sp] (pr (en g) g.1 vcl sz ([(h0, .inr (11, [.null, .null, .null, .null, .null, .null, .null, .null, .null, .null, .null, .null, .null, .null]))] ++ pl))) (va_Qv (fun (u : TyN × va_W) => (extN T0 u.1 ∧ inj u.1 ∧ nmL u.1 [(184, 185), (224, 225), (223, 224), (222, 223), (221, 222), (220, 221), (219, 220), (218, 219), (217, 218), (212, 217), (207, 212), (202, 207), (185, 202), (178, 179), (180, 181), (179, 180), (172, 173), (177, 178), (176, 177), (175, 176), (174, 175), (173, 174), (171, 172), (170, 171), (161, 170), (152, 161), (151, 152), (150, 151), (149, 150), (0, 1), (8, 9), (11, 12), (10, 11), (9, 10), (4, 5), (7, 8), (6, 7), (5, 6), (39, 40), (147, 148), (146, 147), (145, 146), (144, 145), (143, 144), (142, 143), (141, 142), (140, 141), (131, 140), (123, 131), (114, 123), (105, 114), (97, 105), (40, 97), (37, 38), (38, 39), (18, 19), (19, 20), (22, 23), (23, 24), (16, 17), (17, 18), (24, 25), (36, 37), (35, 36), (34, 35), (33, 34), (32, 33), (31, 32), (30, 31), (25, 30), (20, 21), (21, 22), (14, 15), (15, 16), (12, 13), (13, 14), (3, 4), (2, 3), (1, 2)] ∧ u.1 h0 = some 184) ∧ okn g u.1 Z0 u.2) (po g.1 vcl (va_A ([(h0, .inr (11, [.null, .null, .null, .null, .null, .null, .null, .null, .null, .null, .null, .null, .null, .null]))] ++ pl) sz) (fun (u : TyN × va_W) => [] ++ u.2)) (va_A ([(h0, .inr (11, [.null, .null, .null, .null, .null, .null, .null, .null, .null, .null, .null, .null, .null, .null]))] ++ pl) sz)) 43 10241 (va_A ([(h0, .inr (11, [.null, .null, .null, .null, .null, .null, .null, .null, .null, .null, .null, .null, .null, .null]))] ++ pl) sz) := by
  refine mc_entry (cc := c_ME_init) (maxL := 2) (ret := none) (by decide) rfl (Nat.le_of_ble_eq_true rfl) ?_
  intro p e s m args below meth c ls F hr hlk hnm hsz hP hD hE hA hl
  obtain ⟨hx, hb, hml, hown, hts⟩ := id F
  have hK := hE.1
  generalize va_A ([(h0, .inr (11, [.null, .null, .null, .null, .null, .null, .null, .null, .null, .null, .null, .null, .null, .null]))] ++ pl) sz = A at hD hE hA ⊢
  obtain ⟨T, hXT, hO, hU, hL, k_sp⟩ : ∃ T, extN T0 T ∧ okn g T Z0 pl ∧ inj T ∧ nmL T [(172, 173), (177, 178), (176, 177), (175, 176), (174, 175), (173, 174), (171, 172), (170, 171), (161, 170), (152, 161), (151, 152), (150, 151), (149, 150), (0, 1), (8, 9), (11, 12), (10, 11), (9, 10), (4, 5), (7, 8), (6, 7), (5, 6), (39, 40), (147, 148), (146, 147), (145, 146), (144, 145), (143, 144), (142, 143), (141, 142), (140, 141), (131, 140), (123, 131), (114, 123), (105, 114), (97, 105), (40, 97), (37, 38), (38, 39), (18, 19), (19, 20), (22, 23), (23, 24), (16, 17), (17, 18), (24, 25), (36, 37), (35, 36), (34, 35), (33, 34), (32, 33), (31, 32), (30, 31), (25, 30), (20, 21), (21, 22), (14, 15), (15, 16), (12, 13), (13, 14), (3, 4), (2, 3), (1, 2)] ∧ T sp = some 172 := ⟨T0, extN_rf, hO, hU, hL, k_sp⟩
  have hS : va_S A s.heap s.heap [] := va_S.rf
  have hl : lv_has ls 2 [(0, .ref h0), (1, .ref sp)] := hl
  refine lv_aload_n hx hb dME_init_0 rfl (lv_at hl 0 rfl) ?_
  refine W.objInit hx hb hown (hts _ (wg_t kw_1355)) (hts _ (wg_t kw_41)) (hts _ (wg_t kobj)) rfl (by rw [hml]; exact hl.1) rfl dME_init_1 (Nat.le_of_ble_eq_true rfl) (Nat.le_of_ble_eq_true rfl) ?_
  refine W.eq (g2 := F0 m 4 ls []) rfl ?_
  refine lv_aload_n hx hb dME_init_4 rfl (lv_at hl 0 rfl) ?_
  refine va_new (ws := [(h0, .inr (11, [.null, .null, .null, .null, .null, .null, .null, .null, .null, .null, .null, .null, .null, .null]))] ++ pl) (ci := 10) (fs := [.int 0, .int 0, .null, .null, .long 0]) (C := "LatticeKeysModel$Ring") (T := T_MR) (N := 5) hx hb hts (wg_ft i_MR) ty_MR k_MR hown (hts _ (wg_t kw_1356)) (hts _ (wg_t kw_1357)) (hts _ (wg_t kw_12)) hK hP hD hS hA rfl z_MR (Nat.le_of_ble_eq_true rfl) (Nat.le_of_ble_eq_true rfl) dME_init_5 (fun q21 H hP hD hS => ?_)
  obtain ⟨hP, hD⟩ := mv_first hP hD
  have hP : va_P g.1 vcl ([(h0, .inr (11, [.null, .null, .null, .null, .null, .null, .null, .null, .null, .null, .null, .null, .null, .null])), (q21, .inr (10, [.int 0, .int 0, .null, .null, .long 0]))] ++ pl) _ := hP
  have hD : va_D _ ([(h0, .inr (11, [.null, .null, .null, .null, .null, .null, .null, .null, .null, .null, .null, .null, .null, .null])), (q21, .inr (10, [.int 0, .int 0, .null, .null, .long 0]))] ++ pl) := hD
  refine W.widen (k := 1) (n := 5) (by omega) (by omega) ?_
  refine lv_dup hx hb dME_init_8 rfl ?_
  refine lv_sipush (v := nI 3329) hx hb dME_init_9 (by decide) ?_
  refine lv_bipush (v := nI 17) hx hb dME_init_12 (by decide) ?_
  refine lv_sipush (v := nI 128) hx hb dME_init_14 (by decide) ?_
  refine mq_v (cx := [(q21, .inr (10, [.int 0, .int 0, .null, .null, .long 0]))]) (wr := [(h0, .inr (11, [.null, .null, .null, .null, .null, .null, .null, .null, .null, .null, .null, .null, .null, .null]))]) hP hD hS hA [1] [0] rfl rfl rfl (by decide) (va_runI (As := [.int (nI 3329), .int (nI 17), .int (nI 128)]) (rest := [.ref q21, .ref h0]) F (m_MR_initX_7 l g _ q21) (cwI 3 hts (wg_in kw_1360) rfl rfl rfl (hts _ (wg_t kw_12)) (hts _ (wg_t kw_1358)) (hts _ (wg_t kw_1359)) rfl (by decide +kernel) ⟨by decide, by decide⟩) (pr_S (en_ok g) (md_P hP) (md_D hD) hS hA hE [1] rfl rfl) rfl rfl hl.1 rfl (lv_room (Nat.le_of_ble_eq_true rfl)) dME_init_17 ⟨Nat.le_of_ble_eq_true rfl, Nat.le_of_ble_eq_true rfl⟩) (fun u21 H locs hu21 hP hD hS => ?_)
  have hP : va_P g.1 vcl ([(h0, .inr (11, [.null, .null, .null, .null, .null, .null, .null, .null, .null, .null, .null, .null, .null, .null])), (q21, .inr (10, [.int (nI 3329), .int (nI 128), .ref ((u21 0)), .ref ((u21 1)), .long ((Int64.ofNat 3303))])), ((u21 0), .inl (g.2.1 2, 256, .inr (.inl ((mrP 17 3329 255))))), ((u21 1), .inl (g.2.1 0, 128, .inl ((mrR 7 128))))] ++ pl) _ := hP
  have hD : va_D _ ([(h0, .inr (11, [.null, .null, .null, .null, .null, .null, .null, .null, .null, .null, .null, .null, .null, .null])), (q21, .inr (10, [.int (nI 3329), .int (nI 128), .ref ((u21 0)), .ref ((u21 1)), .long ((Int64.ofNat 3303))])), ((u21 0), .inl (g.2.1 2, 256, .inr (.inl ((mrP 17 3329 255))))), ((u21 1), .inl (g.2.1 0, 128, .inl ((mrR 7 128))))] ++ pl) := hD
  refine W.widen (k := 3) (n := 389) (by omega) (by omega) ?_
  obtain ⟨am21, heam21⟩ : ∃ z, z = (u21 0) := ⟨_, rfl⟩
  rw [← heam21] at hP hD
  have hP : va_P g.1 vcl ([(h0, .inr (11, [.null, .null, .null, .null, .null, .null, .null, .null, .null, .null, .null, .null, .null, .null])), (q21, .inr (10, [.int (nI 3329), .int (nI 128), .ref am21, .ref ((u21 1)), .long ((Int64.ofNat 3303))])), (am21, .inl (g.2.1 2, 256, .inr (.inl ((mrP 17 3329 255))))), ((u21 1), .inl (g.2.1 0, 128, .inl ((mrR 7 128))))] ++ pl) _ := hP
  have hD : va_D _ ([(h0, .inr (11, [.null, .null, .null, .null, .null, .null, .null, .null, .null, .null, .null, .null, .null, .null])), (q21, .inr (10, [.int (nI 3329), .int (nI 128), .ref am21, .ref ((u21 1)), .long ((Int64.ofNat 3303))])), (am21, .inl (g.2.1 2, 256, .inr (.inl ((mrP 17 3329 255))))), ((u21 1), .inl (g.2.1 0, 128, .inl ((mrR 7 128))))] ++ pl) := hD
  obtain ⟨am22, heam22⟩ : ∃ z, z = (u21 1) := ⟨_, rfl⟩
  rw [← heam22] at hP hD
  have hP : va_P g.1 vcl ([(h0, .inr (11, [.null, .null, .null, .null, .null, .null, .null, .null, .null, .null, .null, .null, .null, .null])), (q21, .inr (10, [.int (nI 3329), .int (nI 128), .ref am21, .ref am22, .long ((Int64.ofNat 3303))])), (am21, .inl (g.2.1 2, 256, .inr (.inl ((mrP 17 3329 255))))), (am22, .inl (g.2.1 0, 128, .inl ((mrR 7 128))))] ++ pl) _ := hP
  have hD : va_D _ ([(h0, .inr (11, [.null, .null, .null, .null, .null, .null, .null, .null, .null, .null, .null, .null, .null, .null])), (q21, .inr (10, [.int (nI 3329), .int (nI 128), .ref am21, .ref am22, .long ((Int64.ofNat 3303))])), (am21, .inl (g.2.1 2, 256, .inr (.inl ((mrP 17 3329 255))))), (am22, .inl (g.2.1 0, 128, .inl ((mrR 7 128))))] ++ pl) := hD
  have hP : va_P g.1 vcl ([(h0, .inr (11, [.null, .null, .null, .null, .null, .null, .null, .null, .null, .null, .null, .null, .null, .null])), (q21, .inr (10, [.int (nI 3329), .int (nI 128), .ref am21, .ref am22, .long ((Int64.ofNat 3303))])), (am22, .inl (g.2.1 0, 128, .inl ((mrR 7 128)))), (am21, .inl (g.2.1 2, 256, .inr (.inl ((mrP 17 3329 255)))))] ++ pl) _ := hP.part [0, 1, 3, 2] rfl
  have hD : va_D _ ([(h0, .inr (11, [.null, .null, .null, .null, .null, .null, .null, .null, .null, .null, .null, .null, .null, .null])), (q21, .inr (10, [.int (nI 3329), .int (nI 128), .ref am21, .ref am22, .long ((Int64.ofNat 3303))])), (am22, .inl (g.2.1 0, 128, .inl ((mrR 7 128)))), (am21, .inl (g.2.1 2, 256, .inr (.inl ((mrP 17 3329 255)))))] ++ pl) := hD.part [0, 1, 3, 2] (by decide) rfl
  obtain ⟨hP, hD⟩ := mv_last (X := [(h0, .inr (11, [.null, .null, .null, .null, .null, .null, .null, .null, .null, .null, .null, .null, .null, .null])), (q21, .inr (10, [.int (nI 3329), .int (nI 128), .ref am21, .ref am22, .long ((Int64.ofNat 3303))])), (am22, .inl (g.2.1 0, 128, .inl ((mrR 7 128))))]) (c := (am21, .inl (g.2.1 2, 256, .inr (.inl ((mrP 17 3329 255)))))) hP hD
  obtain ⟨T, pl, hxt21, hU, kr21, hO, hP, hD, hL⟩ := absorbX (X := [(h0, .inr (11, [.null, .null, .null, .null, .null, .null, .null, .null, .null, .null, .null, .null, .null, .null])), (q21, .inr (10, [.int (nI 3329), .int (nI 128), .ref am21, .ref am22, .long ((Int64.ofNat 3303))])), (am22, .inl (g.2.1 0, 128, .inl ((mrR 7 128))))]) 179 hP hD hO hU hL rfl (fun _ _ _ => fit12 (k := 179) rfl mr_tabP7)
  have kr22 := hxt21 _ _ k_sp
  have hXT := extN_tr hXT hxt21
  have hL : nmL T [(179, 180), (172, 173), (177, 178), (176, 177), (175, 176), (174, 175), (173, 174), (171, 172), (170, 171), (161, 170), (152, 161), (151, 152), (150, 151), (149, 150), (0, 1), (8, 9), (11, 12), (10, 11), (9, 10), (4, 5), (7, 8), (6, 7), (5, 6), (39, 40), (147, 148), (146, 147), (145, 146), (144, 145), (143, 144), (142, 143), (141, 142), (140, 141), (131, 140), (123, 131), (114, 123), (105, 114), (97, 105), (40, 97), (37, 38), (38, 39), (18, 19), (19, 20), (22, 23), (23, 24), (16, 17), (17, 18), (24, 25), (36, 37), (35, 36), (34, 35), (33, 34), (32, 33), (31, 32), (30, 31), (25, 30), (20, 21), (21, 22), (14, 15), (15, 16), (12, 13), (13, 14), (3, 4), (2, 3), (1, 2)] := hL
  have hP : va_P g.1 vcl ([(h0, .inr (11, [.null, .null, .null, .null, .null, .null, .null, .null, .null, .null, .null, .null, .null, .null])), (q21, .inr (10, [.int (nI 3329), .int (nI 128), .ref am21, .ref am22, .long ((Int64.ofNat 3303))])), (am22, .inl (g.2.1 0, 128, .inl ((mrR 7 128))))] ++ pl) _ := hP
  have hD : va_D _ ([(h0, .inr (11, [.null, .null, .null, .null, .null, .null, .null, .null, .null, .null, .null, .null, .null, .null])), (q21, .inr (10, [.int (nI 3329), .int (nI 128), .ref am21, .ref am22, .long ((Int64.ofNat 3303))])), (am22, .inl (g.2.1 0, 128, .inl ((mrR 7 128))))] ++ pl) := hD
  obtain ⟨hP, hD⟩ := mv_last (X := [(h0, .inr (11, [.null, .null, .null, .null, .null, .null, .null, .null, .null, .null, .null, .null, .null, .null])), (q21, .inr (10, [.int (nI 3329), .int (nI 128), .ref am21, .ref am22, .long ((Int64.ofNat 3303))]))]) (c := (am22, .inl (g.2.1 0, 128, .inl ((mrR 7 128))))) hP hD
  obtain ⟨T, pl, hxt22, hU, kr23, hO, hP, hD, hL⟩ := absorbX (X := [(h0, .inr (11, [.null, .null, .null, .null, .null, .null, .null, .null, .null, .null, .null, .null, .null, .null])), (q21, .inr (10, [.int (nI 3329), .int (nI 128), .ref am21, .ref am22, .long ((Int64.ofNat 3303))]))]) 180 hP hD hO hU hL rfl (fun _ _ _ => fit11 (k := 180) rfl mr_tabR7)
  have kr24 := hxt22 _ _ kr22
  have kr25 := hxt22 _ _ kr21
  have hXT := extN_tr hXT hxt22
  have hL : nmL T [(180, 181), (179, 180), (172, 173), (177, 178), (176, 177), (175, 176), (174, 175), (173, 174), (171, 172), (170, 171), (161, 170), (152, 161), (151, 152), (150, 151), (149, 150), (0, 1), (8, 9), (11, 12), (10, 11), (9, 10), (4, 5), (7, 8), (6, 7), (5, 6), (39, 40), (147, 148), (146, 147), (145, 146), (144, 145), (143, 144), (142, 143), (141, 142), (140, 141), (131, 140), (123, 131), (114, 123), (105, 114), (97, 105), (40, 97), (37, 38), (38, 39), (18, 19), (19, 20), (22, 23), (23, 24), (16, 17), (17, 18), (24, 25), (36, 37), (35, 36), (34, 35), (33, 34), (32, 33), (31, 32), (30, 31), (25, 30), (20, 21), (21, 22), (14, 15), (15, 16), (12, 13), (13, 14), (3, 4), (2, 3), (1, 2)] := hL
  have hP : va_P g.1 vcl ([(h0, .inr (11, [.null, .null, .null, .null, .null, .null, .null, .null, .null, .null, .null, .null, .null, .null])), (q21, .inr (10, [.int (nI 3329), .int (nI 128), .ref am21, .ref am22, .long ((Int64.ofNat 3303))]))] ++ pl) _ := hP
  have hD : va_D _ ([(h0, .inr (11, [.null, .null, .null, .null, .null, .null, .null, .null, .null, .null, .null, .null, .null, .null])), (q21, .inr (10, [.int (nI 3329), .int (nI 128), .ref am21, .ref am22, .long ((Int64.ofNat 3303))]))] ++ pl) := hD
  obtain ⟨hP, hD⟩ := mv_last (X := [(h0, .inr (11, [.null, .null, .null, .null, .null, .null, .null, .null, .null, .null, .null, .null, .null, .null]))]) (c := (q21, .inr (10, [.int (nI 3329), .int (nI 128), .ref am21, .ref am22, .long ((Int64.ofNat 3303))]))) hP hD
  obtain ⟨T, pl, hxt23, hU, kr26, hO, hP, hD, hL⟩ := absorbX (X := [(h0, .inr (11, [.null, .null, .null, .null, .null, .null, .null, .null, .null, .null, .null, .null, .null, .null]))]) 178 hP hD hO hU hL rfl (fun _ h9 _ => fit5 (k := 178) (fl := [(1, 3329), (1, 128), (3, 179), (3, 180), (4, 3303)]) rfl ⟨rfl, rfl, ⟨_, rfl, h9 _ _ kr25⟩, ⟨_, rfl, h9 _ _ kr23⟩, rfl, trivial⟩)
  have kr27 := hxt23 _ _ kr24
  have kr28 := hxt23 _ _ kr25
  have kr29 := hxt23 _ _ kr23
  have hXT := extN_tr hXT hxt23
  have hL : nmL T [(178, 179), (180, 181), (179, 180), (172, 173), (177, 178), (176, 177), (175, 176), (174, 175), (173, 174), (171, 172), (170, 171), (161, 170), (152, 161), (151, 152), (150, 151), (149, 150), (0, 1), (8, 9), (11, 12), (10, 11), (9, 10), (4, 5), (7, 8), (6, 7), (5, 6), (39, 40), (147, 148), (146, 147), (145, 146), (144, 145), (143, 144), (142, 143), (141, 142), (140, 141), (131, 140), (123, 131), (114, 123), (105, 114), (97, 105), (40, 97), (37, 38), (38, 39), (18, 19), (19, 20), (22, 23), (23, 24), (16, 17), (17, 18), (24, 25), (36, 37), (35, 36), (34, 35), (33, 34), (32, 33), (31, 32), (30, 31), (25, 30), (20, 21), (21, 22), (14, 15), (15, 16), (12, 13), (13, 14), (3, 4), (2, 3), (1, 2)] := hL
  have hP : va_P g.1 vcl ([(h0, .inr (11, [.null, .null, .null, .null, .null, .null, .null, .null, .null, .null, .null, .null, .null, .null]))] ++ pl) _ := hP
  have hD : va_D _ ([(h0, .inr (11, [.null, .null, .null, .null, .null, .null, .null, .null, .null, .null, .null, .null, .null, .null]))] ++ pl) := hD
  refine va_putF (D := g.1) (ci := 11) (v := .ref q21) (ty := .object "LatticeKeysModel$Ring") (C := "LatticeKeysModel$Secrets") (T := T_ME) (N := 14) hx hb hts (wg_ft i_ME) ty_ME k_ME n_ME hown hK hP hD hS 0 rfl rfl 1 (by decide) (hts _ (wg_t kw_1380)) (fun _ h9 => h9) rfl hnm rfl (by decide +kernel) rfl rfl (Nat.le_of_ble_eq_true rfl) dME_init_20 (fun H locs hP hD hS => ?_)
  have hP : va_P g.1 vcl ([(h0, .inr (11, [.null, .ref q21, .null, .null, .null, .null, .null, .null, .null, .null, .null, .null, .null, .null]))] ++ pl) _ := hP
  have hD : va_D _ ([(h0, .inr (11, [.null, .ref q21, .null, .null, .null, .null, .null, .null, .null, .null, .null, .null, .null, .null]))] ++ pl) := hD
  refine lv_aload_n hx hb dME_init_23 rfl (lv_at hl 0 rfl) ?_
  refine lv_bipush (v := nI 16) hx hb dME_init_24 (by decide) ?_
  refine lv_sipush (v := nI 256) hx hb dME_init_26 (by decide) ?_
  refine nm_mnai (X := [(h0, .inr (11, [.null, .ref q21, .null, .null, .null, .null, .null, .null, .null, .null, .null, .null, .null, .null]))]) hx hb hown (hts _ (wg_t kw_1378)) hE.2.2.2.2.2.1 (hts _ (wg_t kw_104)) hK hP hD hS hA hO hU hL 185 (by decide +kernel) rfl (by decide +kernel) (by decide) (Nat.le_of_ble_eq_true rfl) (Nat.le_of_ble_eq_true rfl) dME_init_29 (fun q22 T pl H hxt24 hU kr30 hO hP hD hS hL => ?_)
  have kr31 := hxt24 _ _ kr27
  have kr32 := hxt24 _ _ kr28
  have kr33 := hxt24 _ _ kr29
  have kr34 := hxt24 _ _ kr26
  have hXT := extN_tr hXT hxt24
  have hL : nmL T [(185, 202), (178, 179), (180, 181), (179, 180), (172, 173), (177, 178), (176, 177), (175, 176), (174, 175), (173, 174), (171, 172), (170, 171), (161, 170), (152, 161), (151, 152), (150, 151), (149, 150), (0, 1), (8, 9), (11, 12), (10, 11), (9, 10), (4, 5), (7, 8), (6, 7), (5, 6), (39, 40), (147, 148), (146, 147), (145, 146), (144, 145), (143, 144), (142, 143), (141, 142), (140, 141), (131, 140), (123, 131), (114, 123), (105, 114), (97, 105), (40, 97), (37, 38), (38, 39), (18, 19), (19, 20), (22, 23), (23, 24), (16, 17), (17, 18), (24, 25), (36, 37), (35, 36), (34, 35), (33, 34), (32, 33), (31, 32), (30, 31), (25, 30), (20, 21), (21, 22), (14, 15), (15, 16), (12, 13), (13, 14), (3, 4), (2, 3), (1, 2)] := hL
  have hP : va_P g.1 vcl ([(h0, .inr (11, [.null, .ref q21, .null, .null, .null, .null, .null, .null, .null, .null, .null, .null, .null, .null]))] ++ pl) _ := hP
  have hD : va_D _ ([(h0, .inr (11, [.null, .ref q21, .null, .null, .null, .null, .null, .null, .null, .null, .null, .null, .null, .null]))] ++ pl) := hD
  refine W.widen (k := 20) (n := 4501) (by omega) (by omega) ?_
  refine va_putF (D := g.1) (ci := 11) (v := .ref q22) (ty := .array (.array .int)) (C := "LatticeKeysModel$Secrets") (T := T_ME) (N := 14) hx hb hts (wg_ft i_ME) ty_ME k_ME n_ME hown hK hP hD hS 0 rfl rfl 2 (by decide) (hts _ (wg_t kw_1381)) (fun _ h9 => h9) rfl hnm rfl (by decide +kernel) rfl rfl (Nat.le_of_ble_eq_true rfl) dME_init_33 (fun H locs hP hD hS => ?_)
  have hP : va_P g.1 vcl ([(h0, .inr (11, [.null, .ref q21, .ref q22, .null, .null, .null, .null, .null, .null, .null, .null, .null, .null, .null]))] ++ pl) _ := hP
  have hD : va_D _ ([(h0, .inr (11, [.null, .ref q21, .ref q22, .null, .null, .null, .null, .null, .null, .null, .null, .null, .null, .null]))] ++ pl) := hD
  refine lv_aload_n hx hb dME_init_36 rfl (lv_at hl 0 rfl) ?_
  refine lv_iconst (v := nI 4) hx hb dME_init_37 (by decide) ?_
  refine lv_sipush (v := nI 256) hx hb dME_init_38 (by decide) ?_
  refine nm_mnai (X := [(h0, .inr (11, [.null, .ref q21, .ref q22, .null, .null, .null, .null, .null, .null, .null, .null, .null, .null, .null]))]) hx hb hown (hts _ (wg_t kw_1378)) hE.2.2.2.2.2.1 (hts _ (wg_t kw_104)) hK hP hD hS hA hO hU hL 202 (by decide +kernel) rfl (by decide +kernel) (by decide) (Nat.le_of_ble_eq_true rfl) (Nat.le_of_ble_eq_true rfl) dME_init_41 (fun q23 T pl H hxt25 hU kr35 hO hP hD hS hL => ?_)
  have kr36 := hxt25 _ _ kr31
  have kr37 := hxt25 _ _ kr32
  have kr38 := hxt25 _ _ kr33
  have kr39 := hxt25 _ _ kr34
  have kr40 := hxt25 _ _ kr30
  have hXT := extN_tr hXT hxt25
  have hL : nmL T [(202, 207), (185, 202), (178, 179), (180, 181), (179, 180), (172, 173), (177, 178), (176, 177), (175, 176), (174, 175), (173, 174), (171, 172), (170, 171), (161, 170), (152, 161), (151, 152), (150, 151), (149, 150), (0, 1), (8, 9), (11, 12), (10, 11), (9, 10), (4, 5), (7, 8), (6, 7), (5, 6), (39, 40), (147, 148), (146, 147), (145, 146), (144, 145), (143, 144), (142, 143), (141, 142), (140, 141), (131, 140), (123, 131), (114, 123), (105, 114), (97, 105), (40, 97), (37, 38), (38, 39), (18, 19), (19, 20), (22, 23), (23, 24), (16, 17), (17, 18), (24, 25), (36, 37), (35, 36), (34, 35), (33, 34), (32, 33), (31, 32), (30, 31), (25, 30), (20, 21), (21, 22), (14, 15), (15, 16), (12, 13), (13, 14), (3, 4), (2, 3), (1, 2)] := hL
  have hP : va_P g.1 vcl ([(h0, .inr (11, [.null, .ref q21, .ref q22, .null, .null, .null, .null, .null, .null, .null, .null, .null, .null, .null]))] ++ pl) _ := hP
  have hD : va_D _ ([(h0, .inr (11, [.null, .ref q21, .ref q22, .null, .null, .null, .null, .null, .null, .null, .null, .null, .null, .null]))] ++ pl) := hD
  refine W.widen (k := 25) (n := 5529) (by omega) (by omega) ?_
  refine va_putF (D := g.1) (ci := 11) (v := .ref q23) (ty := .array (.array .int)) (C := "LatticeKeysModel$Secrets") (T := T_ME) (N := 14) hx hb hts (wg_ft i_ME) ty_ME k_ME n_ME hown hK hP hD hS 0 rfl rfl 3 (by decide) (hts _ (wg_t kw_1382)) (fun _ h9 => h9) rfl hnm rfl (by decide +kernel) rfl rfl (Nat.le_of_ble_eq_true rfl) dME_init_45 (fun H locs hP hD hS => ?_)
  have hP : va_P g.1 vcl ([(h0, .inr (11, [.null, .ref q21, .ref q22, .ref q23, .null, .null, .null, .null, .null, .null, .null, .null, .null, .null]))] ++ pl) _ := hP
  have hD : va_D _ ([(h0, .inr (11, [.null, .ref q21, .ref q22, .ref q23, .null, .null, .null, .null, .null, .null, .null, .null, .null, .null]))] ++ pl) := hD
  refine lv_aload_n hx hb dME_init_48 rfl (lv_at hl 0 rfl) ?_
  refine lv_iconst (v := nI 4) hx hb dME_init_49 (by decide) ?_
  refine lv_sipush (v := nI 256) hx hb dME_init_50 (by decide) ?_
  refine nm_mnai (X := [(h0, .inr (11, [.null, .ref q21, .ref q22, .ref q23, .null, .null, .null, .null, .null, .null, .null, .null, .null, .null]))]) hx hb hown (hts _ (wg_t kw_1378)) hE.2.2.2.2.2.1 (hts _ (wg_t kw_104)) hK hP hD hS hA hO hU hL 207 (by decide +kernel) rfl (by decide +kernel) (by decide) (Nat.le_of_ble_eq_true rfl) (Nat.le_of_ble_eq_true rfl) dME_init_53 (fun q24 T pl H hxt26 hU kr41 hO hP hD hS hL => ?_)
  have kr42 := hxt26 _ _ kr36
  have kr43 := hxt26 _ _ kr37
  have kr44 := hxt26 _ _ kr38
  have kr45 := hxt26 _ _ kr39
  have kr46 := hxt26 _ _ kr40
  have kr47 := hxt26 _ _ kr35
  have hXT := extN_tr hXT hxt26
  have hL : nmL T [(207, 212), (202, 207), (185, 202), (178, 179), (180, 181), (179, 180), (172, 173), (177, 178), (176, 177), (175, 176), (174, 175), (173, 174), (171, 172), (170, 171), (161, 170), (152, 161), (151, 152), (150, 151), (149, 150), (0, 1), (8, 9), (11, 12), (10, 11), (9, 10), (4, 5), (7, 8), (6, 7), (5, 6), (39, 40), (147, 148), (146, 147), (145, 146), (144, 145), (143, 144), (142, 143), (141, 142), (140, 141), (131, 140), (123, 131), (114, 123), (105, 114), (97, 105), (40, 97), (37, 38), (38, 39), (18, 19), (19, 20), (22, 23), (23, 24), (16, 17), (17, 18), (24, 25), (36, 37), (35, 36), (34, 35), (33, 34), (32, 33), (31, 32), (30, 31), (25, 30), (20, 21), (21, 22), (14, 15), (15, 16), (12, 13), (13, 14), (3, 4), (2, 3), (1, 2)] := hL
  have hP : va_P g.1 vcl ([(h0, .inr (11, [.null, .ref q21, .ref q22, .ref q23, .null, .null, .null, .null, .null, .null, .null, .null, .null, .null]))] ++ pl) _ := hP
  have hD : va_D _ ([(h0, .inr (11, [.null, .ref q21, .ref q22, .ref q23, .null, .null, .null, .null, .null, .null, .null, .null, .null, .null]))] ++ pl) := hD
  refine W.widen (k := 30) (n := 6557) (by omega) (by omega) ?_
  refine va_putF (D := g.1) (ci := 11) (v := .ref q24) (ty := .array (.array .int)) (C := "LatticeKeysModel$Secrets") (T := T_ME) (N := 14) hx hb hts (wg_ft i_ME) ty_ME k_ME n_ME hown hK hP hD hS 0 rfl rfl 4 (by decide) (hts _ (wg_t kw_1383)) (fun _ h9 => h9) rfl hnm rfl (by decide +kernel) rfl rfl (Nat.le_of_ble_eq_true rfl) dME_init_57 (fun H locs hP hD hS => ?_)
  have hP : va_P g.1 vcl ([(h0, .inr (11, [.null, .ref q21, .ref q22, .ref q23, .ref q24, .null, .null, .null, .null, .null, .null, .null, .null, .null]))] ++ pl) _ := hP
  have hD : va_D _ ([(h0, .inr (11, [.null, .ref q21, .ref q22, .ref q23, .ref q24, .null, .null, .null, .null, .null, .null, .null, .null, .null]))] ++ pl) := hD
  refine lv_aload_n hx hb dME_init_60 rfl (lv_at hl 0 rfl) ?_
  refine lv_iconst (v := nI 4) hx hb dME_init_61 (by decide) ?_
  refine lv_sipush (v := nI 256) hx hb dME_init_62 (by decide) ?_
  refine nm_mnai (X := [(h0, .inr (11, [.null, .ref q21, .ref q22, .ref q23, .ref q24, .null, .null, .null, .null, .null, .null, .null, .null, .null]))]) hx hb hown (hts _ (wg_t kw_1378)) hE.2.2.2.2.2.1 (hts _ (wg_t kw_104)) hK hP hD hS hA hO hU hL 212 (by decide +kernel) rfl (by decide +kernel) (by decide) (Nat.le_of_ble_eq_true rfl) (Nat.le_of_ble_eq_true rfl) dME_init_65 (fun q25 T pl H hxt27 hU kr48 hO hP hD hS hL => ?_)
  have kr49 := hxt27 _ _ kr42
  have kr50 := hxt27 _ _ kr43
  have kr51 := hxt27 _ _ kr44
  have kr52 := hxt27 _ _ kr45
  have kr53 := hxt27 _ _ kr46
  have kr54 := hxt27 _ _ kr47
  have kr55 := hxt27 _ _ kr41
  have hXT := extN_tr hXT hxt27
  have hL : nmL T [(212, 217), (207, 212), (202, 207), (185, 202), (178, 179), (180, 181), (179, 180), (172, 173), (177, 178), (176, 177), (175, 176), (174, 175), (173, 174), (171, 172), (170, 171), (161, 170), (152, 161), (151, 152), (150, 151), (149, 150), (0, 1), (8, 9), (11, 12), (10, 11), (9, 10), (4, 5), (7, 8), (6, 7), (5, 6), (39, 40), (147, 148), (146, 147), (145, 146), (144, 145), (143, 144), (142, 143), (141, 142), (140, 141), (131, 140), (123, 131), (114, 123), (105, 114), (97, 105), (40, 97), (37, 38), (38, 39), (18, 19), (19, 20), (22, 23), (23, 24), (16, 17), (17, 18), (24, 25), (36, 37), (35, 36), (34, 35), (33, 34), (32, 33), (31, 32), (30, 31), (25, 30), (20, 21), (21, 22), (14, 15), (15, 16), (12, 13), (13, 14), (3, 4), (2, 3), (1, 2)] := hL
  have hP : va_P g.1 vcl ([(h0, .inr (11, [.null, .ref q21, .ref q22, .ref q23, .ref q24, .null, .null, .null, .null, .null, .null, .null, .null, .null]))] ++ pl) _ := hP
  have hD : va_D _ ([(h0, .inr (11, [.null, .ref q21, .ref q22, .ref q23, .ref q24, .null, .null, .null, .null, .null, .null, .null, .null, .null]))] ++ pl) := hD
  refine W.widen (k := 35) (n := 7585) (by omega) (by omega) ?_
  refine va_putF (D := g.1) (ci := 11) (v := .ref q25) (ty := .array (.array .int)) (C := "LatticeKeysModel$Secrets") (T := T_ME) (N := 14) hx hb hts (wg_ft i_ME) ty_ME k_ME n_ME hown hK hP hD hS 0 rfl rfl 5 (by decide) (hts _ (wg_t kw_1384)) (fun _ h9 => h9) rfl hnm rfl (by decide +kernel) rfl rfl (Nat.le_of_ble_eq_true rfl) dME_init_69 (fun H locs hP hD hS => ?_)
  have hP : va_P g.1 vcl ([(h0, .inr (11, [.null, .ref q21, .ref q22, .ref q23, .ref q24, .ref q25, .null, .null, .null, .null, .null, .null, .null, .null]))] ++ pl) _ := hP
  have hD : va_D _ ([(h0, .inr (11, [.null, .ref q21, .ref q22, .ref q23, .ref q24, .ref q25, .null, .null, .null, .null, .null, .null, .null, .null]))] ++ pl) := hD
  refine lv_aload_n hx hb dME_init_72 rfl (lv_at hl 0 rfl) ?_
  refine lv_sipush (v := nI 256) hx hb dME_init_73 (by decide) ?_
  refine ma_newa (ws := [(h0, .inr (11, [.null, .ref q21, .ref q22, .ref q23, .ref q24, .ref q25, .null, .null, .null, .null, .null, .null, .null, .null]))] ++ pl) (atype := .int) hx hb (hts _ (wg_t kw_104)) rfl hK hP hD hS hA 0 rfl (N' := 256) (a0 := (256, .inl (fun _ => 0))) (fun _ => rfl) (nI_pos (by omega)) (nI_clamp (by omega)) (by show (256) * 4 ≤ 536870912; omega) (Nat.le_of_ble_eq_true rfl) (Nat.le_of_ble_eq_true rfl) dME_init_76 (fun q26 H hP hD hS => ?_)
  refine W.widen (k := 36) (n := 7841) (by omega) (by omega) ?_
  obtain ⟨T, pl, hxt28, hU, kr56, hO, hP, hD, hL⟩ := absorbX (X := [(h0, .inr (11, [.null, .ref q21, .ref q22, .ref q23, .ref q24, .ref q25, .null, .null, .null, .null, .null, .null, .null, .null]))]) 217 hP hD hO hU hL rfl (fun _ _ _ => fit0 (k := 217) rfl)
  have kr57 := hxt28 _ _ kr49
  have kr58 := hxt28 _ _ kr50
  have kr59 := hxt28 _ _ kr51
  have kr60 := hxt28 _ _ kr52
  have kr61 := hxt28 _ _ kr53
  have kr62 := hxt28 _ _ kr54
  have kr63 := hxt28 _ _ kr55
  have kr64 := hxt28 _ _ kr48
  have hXT := extN_tr hXT hxt28
  have hL : nmL T [(217, 218), (212, 217), (207, 212), (202, 207), (185, 202), (178, 179), (180, 181), (179, 180), (172, 173), (177, 178), (176, 177), (175, 176), (174, 175), (173, 174), (171, 172), (170, 171), (161, 170), (152, 161), (151, 152), (150, 151), (149, 150), (0, 1), (8, 9), (11, 12), (10, 11), (9, 10), (4, 5), (7, 8), (6, 7), (5, 6), (39, 40), (147, 148), (146, 147), (145, 146), (144, 145), (143, 144), (142, 143), (141, 142), (140, 141), (131, 140), (123, 131), (114, 123), (105, 114), (97, 105), (40, 97), (37, 38), (38, 39), (18, 19), (19, 20), (22, 23), (23, 24), (16, 17), (17, 18), (24, 25), (36, 37), (35, 36), (34, 35), (33, 34), (32, 33), (31, 32), (30, 31), (25, 30), (20, 21), (21, 22), (14, 15), (15, 16), (12, 13), (13, 14), (3, 4), (2, 3), (1, 2)] := hL
  have hP : va_P g.1 vcl ([(h0, .inr (11, [.null, .ref q21, .ref q22, .ref q23, .ref q24, .ref q25, .null, .null, .null, .null, .null, .null, .null, .null]))] ++ pl) _ := hP
  have hD : va_D _ ([(h0, .inr (11, [.null, .ref q21, .ref q22, .ref q23, .ref q24, .ref q25, .null, .null, .null, .null, .null, .null, .null, .null]))] ++ pl) := hD
  refine va_putF (D := g.1) (ci := 11) (v := .ref q26) (ty := .array .int) (C := "LatticeKeysModel$Secrets") (T := T_ME) (N := 14) hx hb hts (wg_ft i_ME) ty_ME k_ME n_ME hown hK hP hD hS 0 rfl rfl 6 (by decide) (hts _ (wg_t kw_1385)) (fun _ h9 => h9) rfl hnm rfl (by decide +kernel) rfl rfl (Nat.le_of_ble_eq_true rfl) dME_init_78 (fun H locs hP hD hS => ?_)
  have hP : va_P g.1 vcl ([(h0, .inr (11, [.null, .ref q21, .ref q22, .ref q23, .ref q24, .ref q25, .ref q26, .null, .null, .null, .null, .null, .null, .null]))] ++ pl) _ := hP
  have hD : va_D _ ([(h0, .inr (11, [.null, .ref q21, .ref q22, .ref q23, .ref q24, .ref q25, .ref q26, .null, .null, .null, .null, .null, .null, .null]))] ++ pl) := hD
  refine lv_aload_n hx hb dME_init_81 rfl (lv_at hl 0 rfl) ?_
  refine lv_sipush (v := nI 256) hx hb dME_init_82 (by decide) ?_
  refine ma_newa (ws := [(h0, .inr (11, [.null, .ref q21, .ref q22, .ref q23, .ref q24, .ref q25, .ref q26, .null, .null, .null, .null, .null, .null, .null]))] ++ pl) (atype := .int) hx hb (hts _ (wg_t kw_104)) rfl hK hP hD hS hA 0 rfl (N' := 256) (a0 := (256, .inl (fun _ => 0))) (fun _ => rfl) (nI_pos (by omega)) (nI_clamp (by omega)) (by show (256) * 4 ≤ 536870912; omega) (Nat.le_of_ble_eq_true rfl) (Nat.le_of_ble_eq_true rfl) dME_init_85 (fun q27 H hP hD hS => ?_)
  refine W.widen (k := 37) (n := 8097) (by omega) (by omega) ?_
  obtain ⟨T, pl, hxt29, hU, kr65, hO, hP, hD, hL⟩ := absorbX (X := [(h0, .inr (11, [.null, .ref q21, .ref q22, .ref q23, .ref q24, .ref q25, .ref q26, .null, .null, .null, .null, .null, .null, .null]))]) 218 hP hD hO hU hL rfl (fun _ _ _ => fit0 (k := 218) rfl)
  have kr66 := hxt29 _ _ kr57
  have kr67 := hxt29 _ _ kr58
  have kr68 := hxt29 _ _ kr59
  have kr69 := hxt29 _ _ kr60
  have kr70 := hxt29 _ _ kr61
  have kr71 := hxt29 _ _ kr62
  have kr72 := hxt29 _ _ kr63
  have kr73 := hxt29 _ _ kr64
  have kr74 := hxt29 _ _ kr56
  have hXT := extN_tr hXT hxt29
  have hL : nmL T [(218, 219), (217, 218), (212, 217), (207, 212), (202, 207), (185, 202), (178, 179), (180, 181), (179, 180), (172, 173), (177, 178), (176, 177), (175, 176), (174, 175), (173, 174), (171, 172), (170, 171), (161, 170), (152, 161), (151, 152), (150, 151), (149, 150), (0, 1), (8, 9), (11, 12), (10, 11), (9, 10), (4, 5), (7, 8), (6, 7), (5, 6), (39, 40), (147, 148), (146, 147), (145, 146), (144, 145), (143, 144), (142, 143), (141, 142), (140, 141), (131, 140), (123, 131), (114, 123), (105, 114), (97, 105), (40, 97), (37, 38), (38, 39), (18, 19), (19, 20), (22, 23), (23, 24), (16, 17), (17, 18), (24, 25), (36, 37), (35, 36), (34, 35), (33, 34), (32, 33), (31, 32), (30, 31), (25, 30), (20, 21), (21, 22), (14, 15), (15, 16), (12, 13), (13, 14), (3, 4), (2, 3), (1, 2)] := hL
  have hP : va_P g.1 vcl ([(h0, .inr (11, [.null, .ref q21, .ref q22, .ref q23, .ref q24, .ref q25, .ref q26, .null, .null, .null, .null, .null, .null, .null]))] ++ pl) _ := hP
  have hD : va_D _ ([(h0, .inr (11, [.null, .ref q21, .ref q22, .ref q23, .ref q24, .ref q25, .ref q26, .null, .null, .null, .null, .null, .null, .null]))] ++ pl) := hD
  refine va_putF (D := g.1) (ci := 11) (v := .ref q27) (ty := .array .int) (C := "LatticeKeysModel$Secrets") (T := T_ME) (N := 14) hx hb hts (wg_ft i_ME) ty_ME k_ME n_ME hown hK hP hD hS 0 rfl rfl 7 (by decide) (hts _ (wg_t kw_1386)) (fun _ h9 => h9) rfl hnm rfl (by decide +kernel) rfl rfl (Nat.le_of_ble_eq_true rfl) dME_init_87 (fun H locs hP hD hS => ?_)
  have hP : va_P g.1 vcl ([(h0, .inr (11, [.null, .ref q21, .ref q22, .ref q23, .ref q24, .ref q25, .ref q26, .ref q27, .null, .null, .null, .null, .null, .null]))] ++ pl) _ := hP
  have hD : va_D _ ([(h0, .inr (11, [.null, .ref q21, .ref q22, .ref q23, .ref q24, .ref q25, .ref q26, .ref q27, .null, .null, .null, .null, .null, .null]))] ++ pl) := hD
  refine lv_aload_n hx hb dME_init_90 rfl (lv_at hl 0 rfl) ?_
  refine lv_sipush (v := nI 256) hx hb dME_init_91 (by decide) ?_
  refine ma_newa (ws := [(h0, .inr (11, [.null, .ref q21, .ref q22, .ref q23, .ref q24, .ref q25, .ref q26, .ref q27, .null, .null, .null, .null, .null, .null]))] ++ pl) (atype := .int) hx hb (hts _ (wg_t kw_104)) rfl hK hP hD hS hA 0 rfl (N' := 256) (a0 := (256, .inl (fun _ => 0))) (fun _ => rfl) (nI_pos (by omega)) (nI_clamp (by omega)) (by show (256) * 4 ≤ 536870912; omega) (Nat.le_of_ble_eq_true rfl) (Nat.le_of_ble_eq_true rfl) dME_init_94 (fun q28 H hP hD hS => ?_)
  refine W.widen (k := 38) (n := 8353) (by omega) (by omega) ?_
  obtain ⟨T, pl, hxt30, hU, kr75, hO, hP, hD, hL⟩ := absorbX (X := [(h0, .inr (11, [.null, .ref q21, .ref q22, .ref q23, .ref q24, .ref q25, .ref q26, .ref q27, .null, .null, .null, .null, .null, .null]))]) 219 hP hD hO hU hL rfl (fun _ _ _ => fit0 (k := 219) rfl)
  have kr76 := hxt30 _ _ kr66
  have kr77 := hxt30 _ _ kr67
  have kr78 := hxt30 _ _ kr68
  have kr79 := hxt30 _ _ kr69
  have kr80 := hxt30 _ _ kr70
  have kr81 := hxt30 _ _ kr71
  have kr82 := hxt30 _ _ kr72
  have kr83 := hxt30 _ _ kr73
  have kr84 := hxt30 _ _ kr74
  have kr85 := hxt30 _ _ kr65
  have hXT := extN_tr hXT hxt30
  have hL : nmL T [(219, 220), (218, 219), (217, 218), (212, 217), (207, 212), (202, 207), (185, 202), (178, 179), (180, 181), (179, 180), (172, 173), (177, 178), (176, 177), (175, 176), (174, 175), (173, 174), (171, 172), (170, 171), (161, 170), (152, 161), (151, 152), (150, 151), (149, 150), (0, 1), (8, 9), (11, 12), (10, 11), (9, 10), (4, 5), (7, 8), (6, 7), (5, 6), (39, 40), (147, 148), (146, 147), (145, 146), (144, 145), (143, 144), (142, 143), (141, 142), (140, 141), (131, 140), (123, 131), (114, 123), (105, 114), (97, 105), (40, 97), (37, 38), (38, 39), (18, 19), (19, 20), (22, 23), (23, 24), (16, 17), (17, 18), (24, 25), (36, 37), (35, 36), (34, 35), (33, 34), (32, 33), (31, 32), (30, 31), (25, 30), (20, 21), (21, 22), (14, 15), (15, 16), (12, 13), (13, 14), (3, 4), (2, 3), (1, 2)] := hL
  have hP : va_P g.1 vcl ([(h0, .inr (11, [.null, .ref q21, .ref q22, .ref q23, .ref q24, .ref q25, .ref q26, .ref q27, .null, .null, .null, .null, .null, .null]))] ++ pl) _ := hP
  have hD : va_D _ ([(h0, .inr (11, [.null, .ref q21, .ref q22, .ref q23, .ref q24, .ref q25, .ref q26, .ref q27, .null, .null, .null, .null, .null, .null]))] ++ pl) := hD
  refine va_putF (D := g.1) (ci := 11) (v := .ref q28) (ty := .array .int) (C := "LatticeKeysModel$Secrets") (T := T_ME) (N := 14) hx hb hts (wg_ft i_ME) ty_ME k_ME n_ME hown hK hP hD hS 0 rfl rfl 8 (by decide) (hts _ (wg_t kw_1387)) (fun _ h9 => h9) rfl hnm rfl (by decide +kernel) rfl rfl (Nat.le_of_ble_eq_true rfl) dME_init_96 (fun H locs hP hD hS => ?_)
  have hP : va_P g.1 vcl ([(h0, .inr (11, [.null, .ref q21, .ref q22, .ref q23, .ref q24, .ref q25, .ref q26, .ref q27, .ref q28, .null, .null, .null, .null, .null]))] ++ pl) _ := hP
  have hD : va_D _ ([(h0, .inr (11, [.null, .ref q21, .ref q22, .ref q23, .ref q24, .ref q25, .ref q26, .ref q27, .ref q28, .null, .null, .null, .null, .null]))] ++ pl) := hD
  refine lv_aload_n hx hb dME_init_99 rfl (lv_at hl 0 rfl) ?_
  refine lv_bipush (v := nI 64) hx hb dME_init_100 (by decide) ?_
  refine ma_newa (ws := [(h0, .inr (11, [.null, .ref q21, .ref q22, .ref q23, .ref q24, .ref q25, .ref q26, .ref q27, .ref q28, .null, .null, .null, .null, .null]))] ++ pl) (atype := .byte) hx hb (hts _ (wg_t kw_72)) rfl hK hP hD hS hA 1 rfl (N' := 64) (a0 := (64, .inl (fun _ => 0))) (fun _ => rfl) (nI_pos (by omega)) (nI_clamp (by omega)) (by show (64) * 1 ≤ 536870912; omega) (Nat.le_of_ble_eq_true rfl) (Nat.le_of_ble_eq_true rfl) dME_init_102 (fun q29 H hP hD hS => ?_)
  refine W.widen (k := 39) (n := 8417) (by omega) (by omega) ?_
  obtain ⟨T, pl, hxt31, hU, kr86, hO, hP, hD, hL⟩ := absorbX (X := [(h0, .inr (11, [.null, .ref q21, .ref q22, .ref q23, .ref q24, .ref q25, .ref q26, .ref q27, .ref q28, .null, .null, .null, .null, .null]))]) 220 hP hD hO hU hL rfl (fun _ _ _ => fit1 (k := 220) rfl)
  have kr87 := hxt31 _ _ kr76
  have kr88 := hxt31 _ _ kr77
  have kr89 := hxt31 _ _ kr78
  have kr90 := hxt31 _ _ kr79
  have kr91 := hxt31 _ _ kr80
  have kr92 := hxt31 _ _ kr81
  have kr93 := hxt31 _ _ kr82
  have kr94 := hxt31 _ _ kr83
  have kr95 := hxt31 _ _ kr84
  have kr96 := hxt31 _ _ kr85
  have kr97 := hxt31 _ _ kr75
  have hXT := extN_tr hXT hxt31
  have hL : nmL T [(220, 221), (219, 220), (218, 219), (217, 218), (212, 217), (207, 212), (202, 207), (185, 202), (178, 179), (180, 181), (179, 180), (172, 173), (177, 178), (176, 177), (175, 176), (174, 175), (173, 174), (171, 172), (170, 171), (161, 170), (152, 161), (151, 152), (150, 151), (149, 150), (0, 1), (8, 9), (11, 12), (10, 11), (9, 10), (4, 5), (7, 8), (6, 7), (5, 6), (39, 40), (147, 148), (146, 147), (145, 146), (144, 145), (143, 144), (142, 143), (141, 142), (140, 141), (131, 140), (123, 131), (114, 123), (105, 114), (97, 105), (40, 97), (37, 38), (38, 39), (18, 19), (19, 20), (22, 23), (23, 24), (16, 17), (17, 18), (24, 25), (36, 37), (35, 36), (34, 35), (33, 34), (32, 33), (31, 32), (30, 31), (25, 30), (20, 21), (21, 22), (14, 15), (15, 16), (12, 13), (13, 14), (3, 4), (2, 3), (1, 2)] := hL
  have hP : va_P g.1 vcl ([(h0, .inr (11, [.null, .ref q21, .ref q22, .ref q23, .ref q24, .ref q25, .ref q26, .ref q27, .ref q28, .null, .null, .null, .null, .null]))] ++ pl) _ := hP
  have hD : va_D _ ([(h0, .inr (11, [.null, .ref q21, .ref q22, .ref q23, .ref q24, .ref q25, .ref q26, .ref q27, .ref q28, .null, .null, .null, .null, .null]))] ++ pl) := hD
  refine va_putF (D := g.1) (ci := 11) (v := .ref q29) (ty := .array .byte) (C := "LatticeKeysModel$Secrets") (T := T_ME) (N := 14) hx hb hts (wg_ft i_ME) ty_ME k_ME n_ME hown hK hP hD hS 0 rfl rfl 9 (by decide) (hts _ (wg_t kw_1388)) (fun _ h9 => h9) rfl hnm rfl (by decide +kernel) rfl rfl (Nat.le_of_ble_eq_true rfl) dME_init_104 (fun H locs hP hD hS => ?_)
  have hP : va_P g.1 vcl ([(h0, .inr (11, [.null, .ref q21, .ref q22, .ref q23, .ref q24, .ref q25, .ref q26, .ref q27, .ref q28, .ref q29, .null, .null, .null, .null]))] ++ pl) _ := hP
  have hD : va_D _ ([(h0, .inr (11, [.null, .ref q21, .ref q22, .ref q23, .ref q24, .ref q25, .ref q26, .ref q27, .ref q28, .ref q29, .null, .null, .null, .null]))] ++ pl) := hD
  refine lv_aload_n hx hb dME_init_107 rfl (lv_at hl 0 rfl) ?_
  refine lv_sipush (v := nI 192) hx hb dME_init_108 (by decide) ?_
  refine ma_newa (ws := [(h0, .inr (11, [.null, .ref q21, .ref q22, .ref q23, .ref q24, .ref q25, .ref q26, .ref q27, .ref q28, .ref q29, .null, .null, .null, .null]))] ++ pl) (atype := .byte) hx hb (hts _ (wg_t kw_72)) rfl hK hP hD hS hA 1 rfl (N' := 192) (a0 := (192, .inl (fun _ => 0))) (fun _ => rfl) (nI_pos (by omega)) (nI_clamp (by omega)) (by show (192) * 1 ≤ 536870912; omega) (Nat.le_of_ble_eq_true rfl) (Nat.le_of_ble_eq_true rfl) dME_init_111 (fun q30 H hP hD hS => ?_)
  refine W.widen (k := 40) (n := 8609) (by omega) (by omega) ?_
  obtain ⟨T, pl, hxt32, hU, kr98, hO, hP, hD, hL⟩ := absorbX (X := [(h0, .inr (11, [.null, .ref q21, .ref q22, .ref q23, .ref q24, .ref q25, .ref q26, .ref q27, .ref q28, .ref q29, .null, .null, .null, .null]))]) 221 hP hD hO hU hL rfl (fun _ _ _ => fit1 (k := 221) rfl)
  have kr99 := hxt32 _ _ kr87
  have kr100 := hxt32 _ _ kr88
  have kr101 := hxt32 _ _ kr89
  have kr102 := hxt32 _ _ kr90
  have kr103 := hxt32 _ _ kr91
  have kr104 := hxt32 _ _ kr92
  have kr105 := hxt32 _ _ kr93
  have kr106 := hxt32 _ _ kr94
  have kr107 := hxt32 _ _ kr95
  have kr108 := hxt32 _ _ kr96
  have kr109 := hxt32 _ _ kr97
  have kr110 := hxt32 _ _ kr86
  have hXT := extN_tr hXT hxt32
  have hL : nmL T [(221, 222), (220, 221), (219, 220), (218, 219), (217, 218), (212, 217), (207, 212), (202, 207), (185, 202), (178, 179), (180, 181), (179, 180), (172, 173), (177, 178), (176, 177), (175, 176), (174, 175), (173, 174), (171, 172), (170, 171), (161, 170), (152, 161), (151, 152), (150, 151), (149, 150), (0, 1), (8, 9), (11, 12), (10, 11), (9, 10), (4, 5), (7, 8), (6, 7), (5, 6), (39, 40), (147, 148), (146, 147), (145, 146), (144, 145), (143, 144), (142, 143), (141, 142), (140, 141), (131, 140), (123, 131), (114, 123), (105, 114), (97, 105), (40, 97), (37, 38), (38, 39), (18, 19), (19, 20), (22, 23), (23, 24), (16, 17), (17, 18), (24, 25), (36, 37), (35, 36), (34, 35), (33, 34), (32, 33), (31, 32), (30, 31), (25, 30), (20, 21), (21, 22), (14, 15), (15, 16), (12, 13), (13, 14), (3, 4), (2, 3), (1, 2)] := hL
  have hP : va_P g.1 vcl ([(h0, .inr (11, [.null, .ref q21, .ref q22, .ref q23, .ref q24, .ref q25, .ref q26, .ref q27, .ref q28, .ref q29, .null, .null, .null, .null]))] ++ pl) _ := hP
  have hD : va_D _ ([(h0, .inr (11, [.null, .ref q21, .ref q22, .ref q23, .ref q24, .ref q25, .ref q26, .ref q27, .ref q28, .ref q29, .null, .null, .null, .null]))] ++ pl) := hD
  refine va_putF (D := g.1) (ci := 11) (v := .ref q30) (ty := .array .byte) (C := "LatticeKeysModel$Secrets") (T := T_ME) (N := 14) hx hb hts (wg_ft i_ME) ty_ME k_ME n_ME hown hK hP hD hS 0 rfl rfl 10 (by decide) (hts _ (wg_t kw_1389)) (fun _ h9 => h9) rfl hnm rfl (by decide +kernel) rfl rfl (Nat.le_of_ble_eq_true rfl) dME_init_113 (fun H locs hP hD hS => ?_)
  have hP : va_P g.1 vcl ([(h0, .inr (11, [.null, .ref q21, .ref q22, .ref q23, .ref q24, .ref q25, .ref q26, .ref q27, .ref q28, .ref q29, .ref q30, .null, .null, .null]))] ++ pl) _ := hP
  have hD : va_D _ ([(h0, .inr (11, [.null, .ref q21, .ref q22, .ref q23, .ref q24, .ref q25, .ref q26, .ref q27, .ref q28, .ref q29, .ref q30, .null, .null, .null]))] ++ pl) := hD
  refine lv_aload_n hx hb dME_init_116 rfl (lv_at hl 0 rfl) ?_
  refine lv_bipush (v := nI 32) hx hb dME_init_117 (by decide) ?_
  refine ma_newa (ws := [(h0, .inr (11, [.null, .ref q21, .ref q22, .ref q23, .ref q24, .ref q25, .ref q26, .ref q27, .ref q28, .ref q29, .ref q30, .null, .null, .null]))] ++ pl) (atype := .byte) hx hb (hts _ (wg_t kw_72)) rfl hK hP hD hS hA 1 rfl (N' := 32) (a0 := (32, .inl (fun _ => 0))) (fun _ => rfl) (nI_pos (by omega)) (nI_clamp (by omega)) (by show (32) * 1 ≤ 536870912; omega) (Nat.le_of_ble_eq_true rfl) (Nat.le_of_ble_eq_true rfl) dME_init_119 (fun q31 H hP hD hS => ?_)
  refine W.widen (k := 41) (n := 8641) (by omega) (by omega) ?_
  obtain ⟨T, pl, hxt33, hU, kr111, hO, hP, hD, hL⟩ := absorbX (X := [(h0, .inr (11, [.null, .ref q21, .ref q22, .ref q23, .ref q24, .ref q25, .ref q26, .ref q27, .ref q28, .ref q29, .ref q30, .null, .null, .null]))]) 222 hP hD hO hU hL rfl (fun _ _ _ => fit1 (k := 222) rfl)
  have kr112 := hxt33 _ _ kr99
  have kr113 := hxt33 _ _ kr100
  have kr114 := hxt33 _ _ kr101
  have kr115 := hxt33 _ _ kr102
  have kr116 := hxt33 _ _ kr103
  have kr117 := hxt33 _ _ kr104
  have kr118 := hxt33 _ _ kr105
  have kr119 := hxt33 _ _ kr106
  have kr120 := hxt33 _ _ kr107
  have kr121 := hxt33 _ _ kr108
  have kr122 := hxt33 _ _ kr109
  have kr123 := hxt33 _ _ kr110
  have kr124 := hxt33 _ _ kr98
  have hXT := extN_tr hXT hxt33
  have hL : nmL T [(222, 223), (221, 222), (220, 221), (219, 220), (218, 219), (217, 218), (212, 217), (207, 212), (202, 207), (185, 202), (178, 179), (180, 181), (179, 180), (172, 173), (177, 178), (176, 177), (175, 176), (174, 175), (173, 174), (171, 172), (170, 171), (161, 170), (152, 161), (151, 152), (150, 151), (149, 150), (0, 1), (8, 9), (11, 12), (10, 11), (9, 10), (4, 5), (7, 8), (6, 7), (5, 6), (39, 40), (147, 148), (146, 147), (145, 146), (144, 145), (143, 144), (142, 143), (141, 142), (140, 141), (131, 140), (123, 131), (114, 123), (105, 114), (97, 105), (40, 97), (37, 38), (38, 39), (18, 19), (19, 20), (22, 23), (23, 24), (16, 17), (17, 18), (24, 25), (36, 37), (35, 36), (34, 35), (33, 34), (32, 33), (31, 32), (30, 31), (25, 30), (20, 21), (21, 22), (14, 15), (15, 16), (12, 13), (13, 14), (3, 4), (2, 3), (1, 2)] := hL
  have hP : va_P g.1 vcl ([(h0, .inr (11, [.null, .ref q21, .ref q22, .ref q23, .ref q24, .ref q25, .ref q26, .ref q27, .ref q28, .ref q29, .ref q30, .null, .null, .null]))] ++ pl) _ := hP
  have hD : va_D _ ([(h0, .inr (11, [.null, .ref q21, .ref q22, .ref q23, .ref q24, .ref q25, .ref q26, .ref q27, .ref q28, .ref q29, .ref q30, .null, .null, .null]))] ++ pl) := hD
  refine va_putF (D := g.1) (ci := 11) (v := .ref q31) (ty := .array .byte) (C := "LatticeKeysModel$Secrets") (T := T_ME) (N := 14) hx hb hts (wg_ft i_ME) ty_ME k_ME n_ME hown hK hP hD hS 0 rfl rfl 11 (by decide) (hts _ (wg_t kw_1390)) (fun _ h9 => h9) rfl hnm rfl (by decide +kernel) rfl rfl (Nat.le_of_ble_eq_true rfl) dME_init_121 (fun H locs hP hD hS => ?_)
  have hP : va_P g.1 vcl ([(h0, .inr (11, [.null, .ref q21, .ref q22, .ref q23, .ref q24, .ref q25, .ref q26, .ref q27, .ref q28, .ref q29, .ref q30, .ref q31, .null, .null]))] ++ pl) _ := hP
  have hD : va_D _ ([(h0, .inr (11, [.null, .ref q21, .ref q22, .ref q23, .ref q24, .ref q25, .ref q26, .ref q27, .ref q28, .ref q29, .ref q30, .ref q31, .null, .null]))] ++ pl) := hD
  refine lv_aload_n hx hb dME_init_124 rfl (lv_at hl 0 rfl) ?_
  refine lv_bipush (v := nI 32) hx hb dME_init_125 (by decide) ?_
  refine ma_newa (ws := [(h0, .inr (11, [.null, .ref q21, .ref q22, .ref q23, .ref q24, .ref q25, .ref q26, .ref q27, .ref q28, .ref q29, .ref q30, .ref q31, .null, .null]))] ++ pl) (atype := .byte) hx hb (hts _ (wg_t kw_72)) rfl hK hP hD hS hA 1 rfl (N' := 32) (a0 := (32, .inl (fun _ => 0))) (fun _ => rfl) (nI_pos (by omega)) (nI_clamp (by omega)) (by show (32) * 1 ≤ 536870912; omega) (Nat.le_of_ble_eq_true rfl) (Nat.le_of_ble_eq_true rfl) dME_init_127 (fun q32 H hP hD hS => ?_)
  refine W.widen (k := 42) (n := 8673) (by omega) (by omega) ?_
  obtain ⟨T, pl, hxt34, hU, kr125, hO, hP, hD, hL⟩ := absorbX (X := [(h0, .inr (11, [.null, .ref q21, .ref q22, .ref q23, .ref q24, .ref q25, .ref q26, .ref q27, .ref q28, .ref q29, .ref q30, .ref q31, .null, .null]))]) 223 hP hD hO hU hL rfl (fun _ _ _ => fit1 (k := 223) rfl)
  have kr126 := hxt34 _ _ kr112
  have kr127 := hxt34 _ _ kr113
  have kr128 := hxt34 _ _ kr114
  have kr129 := hxt34 _ _ kr115
  have kr130 := hxt34 _ _ kr116
  have kr131 := hxt34 _ _ kr117
  have kr132 := hxt34 _ _ kr118
  have kr133 := hxt34 _ _ kr119
  have kr134 := hxt34 _ _ kr120
  have kr135 := hxt34 _ _ kr121
  have kr136 := hxt34 _ _ kr122
  have kr137 := hxt34 _ _ kr123
  have kr138 := hxt34 _ _ kr124
  have kr139 := hxt34 _ _ kr111
  have hXT := extN_tr hXT hxt34
  have hL : nmL T [(223, 224), (222, 223), (221, 222), (220, 221), (219, 220), (218, 219), (217, 218), (212, 217), (207, 212), (202, 207), (185, 202), (178, 179), (180, 181), (179, 180), (172, 173), (177, 178), (176, 177), (175, 176), (174, 175), (173, 174), (171, 172), (170, 171), (161, 170), (152, 161), (151, 152), (150, 151), (149, 150), (0, 1), (8, 9), (11, 12), (10, 11), (9, 10), (4, 5), (7, 8), (6, 7), (5, 6), (39, 40), (147, 148), (146, 147), (145, 146), (144, 145), (143, 144), (142, 143), (141, 142), (140, 141), (131, 140), (123, 131), (114, 123), (105, 114), (97, 105), (40, 97), (37, 38), (38, 39), (18, 19), (19, 20), (22, 23), (23, 24), (16, 17), (17, 18), (24, 25), (36, 37), (35, 36), (34, 35), (33, 34), (32, 33), (31, 32), (30, 31), (25, 30), (20, 21), (21, 22), (14, 15), (15, 16), (12, 13), (13, 14), (3, 4), (2, 3), (1, 2)] := hL
  have hP : va_P g.1 vcl ([(h0, .inr (11, [.null, .ref q21, .ref q22, .ref q23, .ref q24, .ref q25, .ref q26, .ref q27, .ref q28, .ref q29, .ref q30, .ref q31, .null, .null]))] ++ pl) _ := hP
  have hD : va_D _ ([(h0, .inr (11, [.null, .ref q21, .ref q22, .ref q23, .ref q24, .ref q25, .ref q26, .ref q27, .ref q28, .ref q29, .ref q30, .ref q31, .null, .null]))] ++ pl) := hD
  refine va_putF (D := g.1) (ci := 11) (v := .ref q32) (ty := .array .byte) (C := "LatticeKeysModel$Secrets") (T := T_ME) (N := 14) hx hb hts (wg_ft i_ME) ty_ME k_ME n_ME hown hK hP hD hS 0 rfl rfl 12 (by decide) (hts _ (wg_t kw_1391)) (fun _ h9 => h9) rfl hnm rfl (by decide +kernel) rfl rfl (Nat.le_of_ble_eq_true rfl) dME_init_129 (fun H locs hP hD hS => ?_)
  have hP : va_P g.1 vcl ([(h0, .inr (11, [.null, .ref q21, .ref q22, .ref q23, .ref q24, .ref q25, .ref q26, .ref q27, .ref q28, .ref q29, .ref q30, .ref q31, .ref q32, .null]))] ++ pl) _ := hP
  have hD : va_D _ ([(h0, .inr (11, [.null, .ref q21, .ref q22, .ref q23, .ref q24, .ref q25, .ref q26, .ref q27, .ref q28, .ref q29, .ref q30, .ref q31, .ref q32, .null]))] ++ pl) := hD
  refine lv_aload_n hx hb dME_init_132 rfl (lv_at hl 0 rfl) ?_
  refine lv_sipush (v := nI 1568) hx hb dME_init_133 (by decide) ?_
  refine ma_newa (ws := [(h0, .inr (11, [.null, .ref q21, .ref q22, .ref q23, .ref q24, .ref q25, .ref q26, .ref q27, .ref q28, .ref q29, .ref q30, .ref q31, .ref q32, .null]))] ++ pl) (atype := .byte) hx hb (hts _ (wg_t kw_72)) rfl hK hP hD hS hA 1 rfl (N' := 1568) (a0 := (1568, .inl (fun _ => 0))) (fun _ => rfl) (nI_pos (by omega)) (nI_clamp (by omega)) (by show (1568) * 1 ≤ 536870912; omega) (Nat.le_of_ble_eq_true rfl) (Nat.le_of_ble_eq_true rfl) dME_init_136 (fun q33 H hP hD hS => ?_)
  refine W.widen (k := 43) (n := 10241) (by omega) (by omega) ?_
  obtain ⟨T, pl, hxt35, hU, kr140, hO, hP, hD, hL⟩ := absorbX (X := [(h0, .inr (11, [.null, .ref q21, .ref q22, .ref q23, .ref q24, .ref q25, .ref q26, .ref q27, .ref q28, .ref q29, .ref q30, .ref q31, .ref q32, .null]))]) 224 hP hD hO hU hL rfl (fun _ _ _ => fit1 (k := 224) rfl)
  have kr141 := hxt35 _ _ kr126
  have kr142 := hxt35 _ _ kr127
  have kr143 := hxt35 _ _ kr128
  have kr144 := hxt35 _ _ kr129
  have kr145 := hxt35 _ _ kr130
  have kr146 := hxt35 _ _ kr131
  have kr147 := hxt35 _ _ kr132
  have kr148 := hxt35 _ _ kr133
  have kr149 := hxt35 _ _ kr134
  have kr150 := hxt35 _ _ kr135
  have kr151 := hxt35 _ _ kr136
  have kr152 := hxt35 _ _ kr137
  have kr153 := hxt35 _ _ kr138
  have kr154 := hxt35 _ _ kr139
  have kr155 := hxt35 _ _ kr125
  have hXT := extN_tr hXT hxt35
  have hL : nmL T [(224, 225), (223, 224), (222, 223), (221, 222), (220, 221), (219, 220), (218, 219), (217, 218), (212, 217), (207, 212), (202, 207), (185, 202), (178, 179), (180, 181), (179, 180), (172, 173), (177, 178), (176, 177), (175, 176), (174, 175), (173, 174), (171, 172), (170, 171), (161, 170), (152, 161), (151, 152), (150, 151), (149, 150), (0, 1), (8, 9), (11, 12), (10, 11), (9, 10), (4, 5), (7, 8), (6, 7), (5, 6), (39, 40), (147, 148), (146, 147), (145, 146), (144, 145), (143, 144), (142, 143), (141, 142), (140, 141), (131, 140), (123, 131), (114, 123), (105, 114), (97, 105), (40, 97), (37, 38), (38, 39), (18, 19), (19, 20), (22, 23), (23, 24), (16, 17), (17, 18), (24, 25), (36, 37), (35, 36), (34, 35), (33, 34), (32, 33), (31, 32), (30, 31), (25, 30), (20, 21), (21, 22), (14, 15), (15, 16), (12, 13), (13, 14), (3, 4), (2, 3), (1, 2)] := hL
  have hP : va_P g.1 vcl ([(h0, .inr (11, [.null, .ref q21, .ref q22, .ref q23, .ref q24, .ref q25, .ref q26, .ref q27, .ref q28, .ref q29, .ref q30, .ref q31, .ref q32, .null]))] ++ pl) _ := hP
  have hD : va_D _ ([(h0, .inr (11, [.null, .ref q21, .ref q22, .ref q23, .ref q24, .ref q25, .ref q26, .ref q27, .ref q28, .ref q29, .ref q30, .ref q31, .ref q32, .null]))] ++ pl) := hD
  refine va_putF (D := g.1) (ci := 11) (v := .ref q33) (ty := .array .byte) (C := "LatticeKeysModel$Secrets") (T := T_ME) (N := 14) hx hb hts (wg_ft i_ME) ty_ME k_ME n_ME hown hK hP hD hS 0 rfl rfl 13 (by decide) (hts _ (wg_t kw_1392)) (fun _ h9 => h9) rfl hnm rfl (by decide +kernel) rfl rfl (Nat.le_of_ble_eq_true rfl) dME_init_138 (fun H locs hP hD hS => ?_)
  have hP : va_P g.1 vcl ([(h0, .inr (11, [.null, .ref q21, .ref q22, .ref q23, .ref q24, .ref q25, .ref q26, .ref q27, .ref q28, .ref q29, .ref q30, .ref q31, .ref q32, .ref q33]))] ++ pl) _ := hP
  have hD : va_D _ ([(h0, .inr (11, [.null, .ref q21, .ref q22, .ref q23, .ref q24, .ref q25, .ref q26, .ref q27, .ref q28, .ref q29, .ref q30, .ref q31, .ref q32, .ref q33]))] ++ pl) := hD
  refine lv_aload_n hx hb dME_init_141 rfl (lv_at hl 0 rfl) ?_
  refine lv_aload_n hx hb dME_init_142 rfl (lv_at hl 1 rfl) ?_
  refine va_putF (D := g.1) (ci := 11) (v := .ref sp) (ty := .object "LatticeKeysModel$Sponge") (C := "LatticeKeysModel$Secrets") (T := T_ME) (N := 14) hx hb hts (wg_ft i_ME) ty_ME k_ME n_ME hown hK hP hD hS 0 rfl rfl 0 (by decide) (hts _ (wg_t kw_1379)) (fun _ h9 => h9) rfl hnm rfl (by decide +kernel) rfl rfl (Nat.le_of_ble_eq_true rfl) dME_init_143 (fun H locs hP hD hS => ?_)
  have hP : va_P g.1 vcl ([(h0, .inr (11, [.ref sp, .ref q21, .ref q22, .ref q23, .ref q24, .ref q25, .ref q26, .ref q27, .ref q28, .ref q29, .ref q30, .ref q31, .ref q32, .ref q33]))] ++ pl) _ := hP
  have hD : va_D _ ([(h0, .inr (11, [.ref sp, .ref q21, .ref q22, .ref q23, .ref q24, .ref q25, .ref q26, .ref q27, .ref q28, .ref q29, .ref q30, .ref q31, .ref q32, .ref q33]))] ++ pl) := hD
  obtain ⟨hP, hD⟩ := mv_last (X := []) (c := (h0, .inr (11, [.ref sp, .ref q21, .ref q22, .ref q23, .ref q24, .ref q25, .ref q26, .ref q27, .ref q28, .ref q29, .ref q30, .ref q31, .ref q32, .ref q33]))) hP hD
  obtain ⟨T, pl, hxt36, hU, kr156, hO, hP, hD, hL⟩ := absorbX (X := []) 184 hP hD hO hU hL rfl (fun _ h9 _ => fit5 (k := 184) (fl := [(3, 172), (3, 178), (3, 185), (3, 202), (3, 207), (3, 212), (3, 217), (3, 218), (3, 219), (3, 220), (3, 221), (3, 222), (3, 223), (3, 224)]) rfl ⟨⟨_, rfl, h9 _ _ kr141⟩, ⟨_, rfl, h9 _ _ kr144⟩, ⟨_, rfl, h9 _ _ kr145⟩, ⟨_, rfl, h9 _ _ kr146⟩, ⟨_, rfl, h9 _ _ kr147⟩, ⟨_, rfl, h9 _ _ kr148⟩, ⟨_, rfl, h9 _ _ kr149⟩, ⟨_, rfl, h9 _ _ kr150⟩, ⟨_, rfl, h9 _ _ kr151⟩, ⟨_, rfl, h9 _ _ kr152⟩, ⟨_, rfl, h9 _ _ kr153⟩, ⟨_, rfl, h9 _ _ kr154⟩, ⟨_, rfl, h9 _ _ kr155⟩, ⟨_, rfl, h9 _ _ kr140⟩, trivial⟩)
  have kr157 := hxt36 _ _ kr141
  have kr158 := hxt36 _ _ kr142
  have kr159 := hxt36 _ _ kr143
  have kr160 := hxt36 _ _ kr144
  have kr161 := hxt36 _ _ kr145
  have kr162 := hxt36 _ _ kr146
  have kr163 := hxt36 _ _ kr147
  have kr164 := hxt36 _ _ kr148
  have kr165 := hxt36 _ _ kr149
  have kr166 := hxt36 _ _ kr150
  have kr167 := hxt36 _ _ kr151
  have kr168 := hxt36 _ _ kr152
  have kr169 := hxt36 _ _ kr153
  have kr170 := hxt36 _ _ kr154
  have kr171 := hxt36 _ _ kr155
  have kr172 := hxt36 _ _ kr140
  have hXT := extN_tr hXT hxt36
  have hL : nmL T [(184, 185), (224, 225), (223, 224), (222, 223), (221, 222), (220, 221), (219, 220), (218, 219), (217, 218), (212, 217), (207, 212), (202, 207), (185, 202), (178, 179), (180, 181), (179, 180), (172, 173), (177, 178), (176, 177), (175, 176), (174, 175), (173, 174), (171, 172), (170, 171), (161, 170), (152, 161), (151, 152), (150, 151), (149, 150), (0, 1), (8, 9), (11, 12), (10, 11), (9, 10), (4, 5), (7, 8), (6, 7), (5, 6), (39, 40), (147, 148), (146, 147), (145, 146), (144, 145), (143, 144), (142, 143), (141, 142), (140, 141), (131, 140), (123, 131), (114, 123), (105, 114), (97, 105), (40, 97), (37, 38), (38, 39), (18, 19), (19, 20), (22, 23), (23, 24), (16, 17), (17, 18), (24, 25), (36, 37), (35, 36), (34, 35), (33, 34), (32, 33), (31, 32), (30, 31), (25, 30), (20, 21), (21, 22), (14, 15), (15, 16), (12, 13), (13, 14), (3, 4), (2, 3), (1, 2)] := hL
  have hP : va_P g.1 vcl ([] ++ pl) _ := hP
  have hD : va_D _ ([] ++ pl) := hD
  exact mp_vret hx hb hr hlk hP hD hS (T, pl) ⟨⟨hXT, hU, hL, kr156⟩, hO⟩ [] rfl rfl rfl (by omega) (by omega) dME_init_146
set_option maxHeartbeats 4000000 in
set_option maxRecDepth 100000 in
theorem z_MH_init (l : Launch) (g : Gd) (sz : Nat) (T0 : TyN) (pl : va_W) (hO : okn g T0 Z0 pl) (hU : inj T0) (hL : nmL T0 [(184, 185), (224, 225), (223, 224), (222, 223), (221, 222), (220, 221), (219, 220), (218, 219), (217, 218), (212, 217), (207, 212), (202, 207), (185, 202), (178, 179), (180, 181), (179, 180), (172, 173), (177, 178), (176, 177), (175, 176), (174, 175), (173, 174), (171, 172), (170, 171), (161, 170), (152, 161), (151, 152), (150, 151), (149, 150), (0, 1), (8, 9), (11, 12), (10, 11), (9, 10), (4, 5), (7, 8), (6, 7), (5, 6), (39, 40), (147, 148), (146, 147), (145, 146), (144, 145), (143, 144), (142, 143), (141, 142), (140, 141), (131, 140), (123, 131), (114, 123), (105, 114), (97, 105), (40, 97), (37, 38), (38, 39), (18, 19), (19, 20), (22, 23), (23, 24), (16, 17), (17, 18), (24, 25), (36, 37), (35, 36), (34, 35), (33, 34), (32, 33), (31, 32), (30, 31), (25, 30), (20, 21), (21, 22), (14, 15), (15, 16), (12, 13), (13, 14), (3, 4), (2, 3), (1, 2)]) (h0 : Nat) (sp : Nat) (k_sp : T0 sp = some 172) : Met l y_MH_init w_MH_init ({ frames := 2, cells := 156, slots := 36809, locals := 56 } : Room) (va_Pc [.ref h0, .ref sp] (pr (en g) g.1 vcl sz ([(h0, .inr (12, [.null, .null, .null, .null, .null, .null, .null, .null, .null, .null, .null, .null, .null, .null, .null, .null, .null, .null, .null, .null, .null, .null, .null, .int 0, .int 0, .int 0, .int 0, .int 0, .int 0, .int 0, .int 0]))] ++ pl))) (va_Qv (fun (u : TyN × va_W) => (extN T0 u.1 ∧ inj u.1 ∧ nmL u.1 [(225, 226), (378, 379), (377, 378), (376, 377), (375, 376), (374, 375), (373, 374), (372, 373), (371, 372), (370, 371), (369, 370), (368, 369), (359, 368), (350, 359), (342, 350), (334, 342), (326, 334), (317, 326), (308, 317), (299, 308), (291, 299), (226, 291), (181, 182), (183, 184), (182, 183), (184, 185), (224, 225), (223, 224), (222, 223), (221, 222), (220, 221), (219, 220), (218, 219), (217, 218), (212, 217), (207, 212), (202, 207), (185, 202), (178, 179), (180, 181), (179, 180), (172, 173), (177, 178), (176, 177), (175, 176), (174, 175), (173, 174), (171, 172), (170, 171), (161, 170), (152, 161), (151, 152), (150, 151), (149, 150), (0, 1), (8, 9), (11, 12), (10, 11), (9, 10), (4, 5), (7, 8), (6, 7), (5, 6), (39, 40), (147, 148), (146, 147), (145, 146), (144, 145), (143, 144), (142, 143), (141, 142), (140, 141), (131, 140), (123, 131), (114, 123), (105, 114), (97, 105), (40, 97), (37, 38), (38, 39), (18, 19), (19, 20), (22, 23), (23, 24), (16, 17), (17, 18), (24, 25), (36, 37), (35, 36), (34, 35), (33, 34), (32, 33), (31, 32), (30, 31), (25, 30), (20, 21), (21, 22), (14, 15), (15, 16), (12, 13), (13, 14), (3, 4), (2, 3), (1, 2)] ∧ u.1 h0 = some 225) ∧ okn g u.1 Z0 u.2) (po g.1 vcl (va_A ([(h0, .inr (12, [.null, .null, .null, .null, .null, .null, .null, .null, .null, .null, .null, .null, .null, .null, .null, .null, .null, .null, .null, .null, .null, .null, .null, .int 0, .int 0, .int 0, .int 0, .int 0, .int 0, .int 0, .int 0]))] ++ pl) sz) (fun (u : TyN × va_W) => [] ++ u.2)) (va_A ([(h0, .inr (12, [.null, .null, .null, .null, .null, .null, .null, .null, .null, .null, .null, .null, .null, .null, .null, .null, .null, .null, .null, .null, .null, .null, .null, .int 0, .int 0, .int 0, .int 0, .int 0, .int 0, .int 0, .int 0]))] ++ pl) sz)) 156 36809 (va_A ([(h0, .inr (12, [.null, .null, .null, .null, .null, .null, .null, .null, .null, .null, .null, .null, .null, .null, .null, .null, .null, .null, .null, .null, .null, .null, .null, .int 0, .int 0, .int 0, .int 0, .int 0, .int 0, .int 0, .int 0]))] ++ pl) sz) := by
  refine mc_entry (cc := c_MH_init) (maxL := 2) (ret := none) (by decide) rfl (Nat.le_of_ble_eq_true rfl) ?_
  intro p e s m args below meth c ls F hr hlk hnm hsz hP hD hE hA hl
  obtain ⟨hx, hb, hml, hown, hts⟩ := id F
  have hK := hE.1
  generalize va_A ([(h0, .inr (12, [.null, .null, .null, .null, .null, .null, .null, .null, .null, .null, .null, .null, .null, .null, .null, .null, .null, .null, .null, .null, .null, .null, .null, .int 0, .int 0, .int 0, .int 0, .int 0, .int 0, .int 0, .int 0]))] ++ pl) sz = A at hD hE hA ⊢
  obtain ⟨T, hXT, hO, hU, hL, k_sp⟩ : ∃ T, extN T0 T ∧ okn g T Z0 pl ∧ inj T ∧ nmL T [(184, 185), (224, 225), (223, 224), (222, 223), (221, 222), (220, 221), (219, 220), (218, 219), (217, 218), (212, 217), (207, 212), (202, 207), (185, 202), (178, 179), (180, 181), (179, 180), (172, 173), (177, 178), (176, 177), (175, 176), (174, 175), (173, 174), (171, 172), (170, 171), (161, 170), (152, 161), (151, 152), (150, 151), (149, 150), (0, 1), (8, 9), (11, 12), (10, 11), (9, 10), (4, 5), (7, 8), (6, 7), (5, 6), (39, 40), (147, 148), (146, 147), (145, 146), (144, 145), (143, 144), (142, 143), (141, 142), (140, 141), (131, 140), (123, 131), (114, 123), (105, 114), (97, 105), (40, 97), (37, 38), (38, 39), (18, 19), (19, 20), (22, 23), (23, 24), (16, 17), (17, 18), (24, 25), (36, 37), (35, 36), (34, 35), (33, 34), (32, 33), (31, 32), (30, 31), (25, 30), (20, 21), (21, 22), (14, 15), (15, 16), (12, 13), (13, 14), (3, 4), (2, 3), (1, 2)] ∧ T sp = some 172 := ⟨T0, extN_rf, hO, hU, hL, k_sp⟩
  have hS : va_S A s.heap s.heap [] := va_S.rf
  have hl : lv_has ls 2 [(0, .ref h0), (1, .ref sp)] := hl
  refine lv_aload_n hx hb dMH_init_0 rfl (lv_at hl 0 rfl) ?_
  refine W.objInit hx hb hown (hts _ (wg_t kw_1427)) (hts _ (wg_t kw_41)) (hts _ (wg_t kobj)) rfl (by rw [hml]; exact hl.1) rfl dMH_init_1 (Nat.le_of_ble_eq_true rfl) (Nat.le_of_ble_eq_true rfl) ?_
  refine W.eq (g2 := F0 m 4 ls []) rfl ?_
  refine lv_aload_n hx hb dMH_init_4 rfl (lv_at hl 0 rfl) ?_
  refine va_new (ws := [(h0, .inr (12, [.null, .null, .null, .null, .null, .null, .null, .null, .null, .null, .null, .null, .null, .null, .null, .null, .null, .null, .null, .null, .null, .null, .null, .int 0, .int 0, .int 0, .int 0, .int 0, .int 0, .int 0, .int 0]))] ++ pl) (ci := 10) (fs := [.int 0, .int 0, .null, .null, .long 0]) (C := "LatticeKeysModel$Ring") (T := T_MR) (N := 5) hx hb hts (wg_ft i_MR) ty_MR k_MR hown (hts _ (wg_t kw_1428)) (hts _ (wg_t kw_1357)) (hts _ (wg_t kw_12)) hK hP hD hS hA rfl z_MR (Nat.le_of_ble_eq_true rfl) (Nat.le_of_ble_eq_true rfl) dMH_init_5 (fun q21 H hP hD hS => ?_)
  obtain ⟨hP, hD⟩ := mv_first hP hD
  have hP : va_P g.1 vcl ([(h0, .inr (12, [.null, .null, .null, .null, .null, .null, .null, .null, .null, .null, .null, .null, .null, .null, .null, .null, .null, .null, .null, .null, .null, .null, .null, .int 0, .int 0, .int 0, .int 0, .int 0, .int 0, .int 0, .int 0])), (q21, .inr (10, [.int 0, .int 0, .null, .null, .long 0]))] ++ pl) _ := hP
  have hD : va_D _ ([(h0, .inr (12, [.null, .null, .null, .null, .null, .null, .null, .null, .null, .null, .null, .null, .null, .null, .null, .null, .null, .null, .null, .null, .null, .null, .null, .int 0, .int 0, .int 0, .int 0, .int 0, .int 0, .int 0, .int 0])), (q21, .inr (10, [.int 0, .int 0, .null, .null, .long 0]))] ++ pl) := hD
  refine W.widen (k := 1) (n := 5) (by omega) (by omega) ?_
  refine lv_dup hx hb dMH_init_8 rfl ?_
  refine lv_ldc (v := 8380417) hx hb hown (hts _ (wg_t kw_1429)) dMH_init_9 ?_
  refine mi_as (show (8380417 : Int32) = nI 8380417 by decide) ?_
  refine lv_sipush (v := nI 1753) hx hb dMH_init_11 (by decide) ?_
  refine lv_sipush (v := nI 256) hx hb dMH_init_14 (by decide) ?_
  refine mq_v (cx := [(q21, .inr (10, [.int 0, .int 0, .null, .null, .long 0]))]) (wr := [(h0, .inr (12, [.null, .null, .null, .null, .null, .null, .null, .null, .null, .null, .null, .null, .null, .null, .null, .null, .null, .null, .null, .null, .null, .null, .null, .int 0, .int 0, .int 0, .int 0, .int 0, .int 0, .int 0, .int 0]))]) hP hD hS hA [1] [0] rfl rfl rfl (by decide) (va_runI (As := [.int (nI 8380417), .int (nI 1753), .int (nI 256)]) (rest := [.ref q21, .ref h0]) F (m_MR_initX_8 l g _ q21) (cwI 3 hts (wg_in kw_1360) rfl rfl rfl (hts _ (wg_t kw_12)) (hts _ (wg_t kw_1430)) (hts _ (wg_t kw_1359)) rfl (by decide +kernel) ⟨by decide, by decide⟩) (pr_S (en_ok g) (md_P hP) (md_D hD) hS hA hE [1] rfl rfl) rfl rfl hl.1 rfl (lv_room (Nat.le_of_ble_eq_true rfl)) dMH_init_17 ⟨Nat.le_of_ble_eq_true rfl, Nat.le_of_ble_eq_true rfl⟩) (fun u21 H locs hu21 hP hD hS => ?_)
  have hP : va_P g.1 vcl ([(h0, .inr (12, [.null, .null, .null, .null, .null, .null, .null, .null, .null, .null, .null, .null, .null, .null, .null, .null, .null, .null, .null, .null, .null, .null, .null, .int 0, .int 0, .int 0, .int 0, .int 0, .int 0, .int 0, .int 0])), (q21, .inr (10, [.int (nI 8380417), .int (nI 256), .ref ((u21 0)), .ref ((u21 1)), .long ((Int64.ofNat 8347681))])), ((u21 0), .inl (g.2.1 2, 512, .inr (.inl ((mrP 1753 8380417 511))))), ((u21 1), .inl (g.2.1 0, 256, .inl ((mrR 8 256))))] ++ pl) _ := hP
  have hD : va_D _ ([(h0, .inr (12, [.null, .null, .null, .null, .null, .null, .null, .null, .null, .null, .null, .null, .null, .null, .null, .null, .null, .null, .null, .null, .null, .null, .null, .int 0, .int 0, .int 0, .int 0, .int 0, .int 0, .int 0, .int 0])), (q21, .inr (10, [.int (nI 8380417), .int (nI 256), .ref ((u21 0)), .ref ((u21 1)), .long ((Int64.ofNat 8347681))])), ((u21 0), .inl (g.2.1 2, 512, .inr (.inl ((mrP 1753 8380417 511))))), ((u21 1), .inl (g.2.1 0, 256, .inl ((mrR 8 256))))] ++ pl) := hD
  refine W.widen (k := 3) (n := 773) (by omega) (by omega) ?_
  obtain ⟨am21, heam21⟩ : ∃ z, z = (u21 0) := ⟨_, rfl⟩
  rw [← heam21] at hP hD
  have hP : va_P g.1 vcl ([(h0, .inr (12, [.null, .null, .null, .null, .null, .null, .null, .null, .null, .null, .null, .null, .null, .null, .null, .null, .null, .null, .null, .null, .null, .null, .null, .int 0, .int 0, .int 0, .int 0, .int 0, .int 0, .int 0, .int 0])), (q21, .inr (10, [.int (nI 8380417), .int (nI 256), .ref am21, .ref ((u21 1)), .long ((Int64.ofNat 8347681))])), (am21, .inl (g.2.1 2, 512, .inr (.inl ((mrP 1753 8380417 511))))), ((u21 1), .inl (g.2.1 0, 256, .inl ((mrR 8 256))))] ++ pl) _ := hP
  have hD : va_D _ ([(h0, .inr (12, [.null, .null, .null, .null, .null, .null, .null, .null, .null, .null, .null, .null, .null, .null, .null, .null, .null, .null, .null, .null, .null, .null, .null, .int 0, .int 0, .int 0, .int 0, .int 0, .int 0, .int 0, .int 0])), (q21, .inr (10, [.int (nI 8380417), .int (nI 256), .ref am21, .ref ((u21 1)), .long ((Int64.ofNat 8347681))])), (am21, .inl (g.2.1 2, 512, .inr (.inl ((mrP 1753 8380417 511))))), ((u21 1), .inl (g.2.1 0, 256, .inl ((mrR 8 256))))] ++ pl) := hD
  obtain ⟨am22, heam22⟩ : ∃ z, z = (u21 1) := ⟨_, rfl⟩
  rw [← heam22] at hP hD
  have hP : va_P g.1 vcl ([(h0, .inr (12, [.null, .null, .null, .null, .null, .null, .null, .null, .null, .null, .null, .null, .null, .null, .null, .null, .null, .null, .null, .null, .null, .null, .null, .int 0, .int 0, .int 0, .int 0, .int 0, .int 0, .int 0, .int 0])), (q21, .inr (10, [.int (nI 8380417), .int (nI 256), .ref am21, .ref am22, .long ((Int64.ofNat 8347681))])), (am21, .inl (g.2.1 2, 512, .inr (.inl ((mrP 1753 8380417 511))))), (am22, .inl (g.2.1 0, 256, .inl ((mrR 8 256))))] ++ pl) _ := hP
  have hD : va_D _ ([(h0, .inr (12, [.null, .null, .null, .null, .null, .null, .null, .null, .null, .null, .null, .null, .null, .null, .null, .null, .null, .null, .null, .null, .null, .null, .null, .int 0, .int 0, .int 0, .int 0, .int 0, .int 0, .int 0, .int 0])), (q21, .inr (10, [.int (nI 8380417), .int (nI 256), .ref am21, .ref am22, .long ((Int64.ofNat 8347681))])), (am21, .inl (g.2.1 2, 512, .inr (.inl ((mrP 1753 8380417 511))))), (am22, .inl (g.2.1 0, 256, .inl ((mrR 8 256))))] ++ pl) := hD
  have hP : va_P g.1 vcl ([(h0, .inr (12, [.null, .null, .null, .null, .null, .null, .null, .null, .null, .null, .null, .null, .null, .null, .null, .null, .null, .null, .null, .null, .null, .null, .null, .int 0, .int 0, .int 0, .int 0, .int 0, .int 0, .int 0, .int 0])), (q21, .inr (10, [.int (nI 8380417), .int (nI 256), .ref am21, .ref am22, .long ((Int64.ofNat 8347681))])), (am22, .inl (g.2.1 0, 256, .inl ((mrR 8 256)))), (am21, .inl (g.2.1 2, 512, .inr (.inl ((mrP 1753 8380417 511)))))] ++ pl) _ := hP.part [0, 1, 3, 2] rfl
  have hD : va_D _ ([(h0, .inr (12, [.null, .null, .null, .null, .null, .null, .null, .null, .null, .null, .null, .null, .null, .null, .null, .null, .null, .null, .null, .null, .null, .null, .null, .int 0, .int 0, .int 0, .int 0, .int 0, .int 0, .int 0, .int 0])), (q21, .inr (10, [.int (nI 8380417), .int (nI 256), .ref am21, .ref am22, .long ((Int64.ofNat 8347681))])), (am22, .inl (g.2.1 0, 256, .inl ((mrR 8 256)))), (am21, .inl (g.2.1 2, 512, .inr (.inl ((mrP 1753 8380417 511)))))] ++ pl) := hD.part [0, 1, 3, 2] (by decide) rfl
  obtain ⟨hP, hD⟩ := mv_last (X := [(h0, .inr (12, [.null, .null, .null, .null, .null, .null, .null, .null, .null, .null, .null, .null, .null, .null, .null, .null, .null, .null, .null, .null, .null, .null, .null, .int 0, .int 0, .int 0, .int 0, .int 0, .int 0, .int 0, .int 0])), (q21, .inr (10, [.int (nI 8380417), .int (nI 256), .ref am21, .ref am22, .long ((Int64.ofNat 8347681))])), (am22, .inl (g.2.1 0, 256, .inl ((mrR 8 256))))]) (c := (am21, .inl (g.2.1 2, 512, .inr (.inl ((mrP 1753 8380417 511)))))) hP hD
  obtain ⟨T, pl, hxt21, hU, kr21, hO, hP, hD, hL⟩ := absorbX (X := [(h0, .inr (12, [.null, .null, .null, .null, .null, .null, .null, .null, .null, .null, .null, .null, .null, .null, .null, .null, .null, .null, .null, .null, .null, .null, .null, .int 0, .int 0, .int 0, .int 0, .int 0, .int 0, .int 0, .int 0])), (q21, .inr (10, [.int (nI 8380417), .int (nI 256), .ref am21, .ref am22, .long ((Int64.ofNat 8347681))])), (am22, .inl (g.2.1 0, 256, .inl ((mrR 8 256))))]) 182 hP hD hO hU hL rfl (fun _ _ _ => fit12 (k := 182) rfl mr_tabP8)
  have kr22 := hxt21 _ _ k_sp
  have hXT := extN_tr hXT hxt21
  have hL : nmL T [(182, 183), (184, 185), (224, 225), (223, 224), (222, 223), (221, 222), (220, 221), (219, 220), (218, 219), (217, 218), (212, 217), (207, 212), (202, 207), (185, 202), (178, 179), (180, 181), (179, 180), (172, 173), (177, 178), (176, 177), (175, 176), (174, 175), (173, 174), (171, 172), (170, 171), (161, 170), (152, 161), (151, 152), (150, 151), (149, 150), (0, 1), (8, 9), (11, 12), (10, 11), (9, 10), (4, 5), (7, 8), (6, 7), (5, 6), (39, 40), (147, 148), (146, 147), (145, 146), (144, 145), (143, 144), (142, 143), (141, 142), (140, 141), (131, 140), (123, 131), (114, 123), (105, 114), (97, 105), (40, 97), (37, 38), (38, 39), (18, 19), (19, 20), (22, 23), (23, 24), (16, 17), (17, 18), (24, 25), (36, 37), (35, 36), (34, 35), (33, 34), (32, 33), (31, 32), (30, 31), (25, 30), (20, 21), (21, 22), (14, 15), (15, 16), (12, 13), (13, 14), (3, 4), (2, 3), (1, 2)] := hL
  have hP : va_P g.1 vcl ([(h0, .inr (12, [.null, .null, .null, .null, .null, .null, .null, .null, .null, .null, .null, .null, .null, .null, .null, .null, .null, .null, .null, .null, .null, .null, .null, .int 0, .int 0, .int 0, .int 0, .int 0, .int 0, .int 0, .int 0])), (q21, .inr (10, [.int (nI 8380417), .int (nI 256), .ref am21, .ref am22, .long ((Int64.ofNat 8347681))])), (am22, .inl (g.2.1 0, 256, .inl ((mrR 8 256))))] ++ pl) _ := hP
  have hD : va_D _ ([(h0, .inr (12, [.null, .null, .null, .null, .null, .null, .null, .null, .null, .null, .null, .null, .null, .null, .null, .null, .null, .null, .null, .null, .null, .null, .null, .int 0, .int 0, .int 0, .int 0, .int 0, .int 0, .int 0, .int 0])), (q21, .inr (10, [.int (nI 8380417), .int (nI 256), .ref am21, .ref am22, .long ((Int64.ofNat 8347681))])), (am22, .inl (g.2.1 0, 256, .inl ((mrR 8 256))))] ++ pl) := hD
  obtain ⟨hP, hD⟩ := mv_last (X := [(h0, .inr (12, [.null, .null, .null, .null, .null, .null, .null, .null, .null, .null, .null, .null, .null, .null, .null, .null, .null, .null, .null, .null, .null, .null, .null, .int 0, .int 0, .int 0, .int 0, .int 0, .int 0, .int 0, .int 0])), (q21, .inr (10, [.int (nI 8380417), .int (nI 256), .ref am21, .ref am22, .long ((Int64.ofNat 8347681))]))]) (c := (am22, .inl (g.2.1 0, 256, .inl ((mrR 8 256))))) hP hD
  obtain ⟨T, pl, hxt22, hU, kr23, hO, hP, hD, hL⟩ := absorbX (X := [(h0, .inr (12, [.null, .null, .null, .null, .null, .null, .null, .null, .null, .null, .null, .null, .null, .null, .null, .null, .null, .null, .null, .null, .null, .null, .null, .int 0, .int 0, .int 0, .int 0, .int 0, .int 0, .int 0, .int 0])), (q21, .inr (10, [.int (nI 8380417), .int (nI 256), .ref am21, .ref am22, .long ((Int64.ofNat 8347681))]))]) 183 hP hD hO hU hL rfl (fun _ _ _ => fit11 (k := 183) rfl mr_tabR8)
  have kr24 := hxt22 _ _ kr22
  have kr25 := hxt22 _ _ kr21
  have hXT := extN_tr hXT hxt22
  have hL : nmL T [(183, 184), (182, 183), (184, 185), (224, 225), (223, 224), (222, 223), (221, 222), (220, 221), (219, 220), (218, 219), (217, 218), (212, 217), (207, 212), (202, 207), (185, 202), (178, 179), (180, 181), (179, 180), (172, 173), (177, 178), (176, 177), (175, 176), (174, 175), (173, 174), (171, 172), (170, 171), (161, 170), (152, 161), (151, 152), (150, 151), (149, 150), (0, 1), (8, 9), (11, 12), (10, 11), (9, 10), (4, 5), (7, 8), (6, 7), (5, 6), (39, 40), (147, 148), (146, 147), (145, 146), (144, 145), (143, 144), (142, 143), (141, 142), (140, 141), (131, 140), (123, 131), (114, 123), (105, 114), (97, 105), (40, 97), (37, 38), (38, 39), (18, 19), (19, 20), (22, 23), (23, 24), (16, 17), (17, 18), (24, 25), (36, 37), (35, 36), (34, 35), (33, 34), (32, 33), (31, 32), (30, 31), (25, 30), (20, 21), (21, 22), (14, 15), (15, 16), (12, 13), (13, 14), (3, 4), (2, 3), (1, 2)] := hL
  have hP : va_P g.1 vcl ([(h0, .inr (12, [.null, .null, .null, .null, .null, .null, .null, .null, .null, .null, .null, .null, .null, .null, .null, .null, .null, .null, .null, .null, .null, .null, .null, .int 0, .int 0, .int 0, .int 0, .int 0, .int 0, .int 0, .int 0])), (q21, .inr (10, [.int (nI 8380417), .int (nI 256), .ref am21, .ref am22, .long ((Int64.ofNat 8347681))]))] ++ pl) _ := hP
  have hD : va_D _ ([(h0, .inr (12, [.null, .null, .null, .null, .null, .null, .null, .null, .null, .null, .null, .null, .null, .null, .null, .null, .null, .null, .null, .null, .null, .null, .null, .int 0, .int 0, .int 0, .int 0, .int 0, .int 0, .int 0, .int 0])), (q21, .inr (10, [.int (nI 8380417), .int (nI 256), .ref am21, .ref am22, .long ((Int64.ofNat 8347681))]))] ++ pl) := hD
  obtain ⟨hP, hD⟩ := mv_last (X := [(h0, .inr (12, [.null, .null, .null, .null, .null, .null, .null, .null, .null, .null, .null, .null, .null, .null, .null, .null, .null, .null, .null, .null, .null, .null, .null, .int 0, .int 0, .int 0, .int 0, .int 0, .int 0, .int 0, .int 0]))]) (c := (q21, .inr (10, [.int (nI 8380417), .int (nI 256), .ref am21, .ref am22, .long ((Int64.ofNat 8347681))]))) hP hD
  obtain ⟨T, pl, hxt23, hU, kr26, hO, hP, hD, hL⟩ := absorbX (X := [(h0, .inr (12, [.null, .null, .null, .null, .null, .null, .null, .null, .null, .null, .null, .null, .null, .null, .null, .null, .null, .null, .null, .null, .null, .null, .null, .int 0, .int 0, .int 0, .int 0, .int 0, .int 0, .int 0, .int 0]))]) 181 hP hD hO hU hL rfl (fun _ h9 _ => fit5 (k := 181) (fl := [(1, 8380417), (1, 256), (3, 182), (3, 183), (4, 8347681)]) rfl ⟨rfl, rfl, ⟨_, rfl, h9 _ _ kr25⟩, ⟨_, rfl, h9 _ _ kr23⟩, rfl, trivial⟩)
  have kr27 := hxt23 _ _ kr24
  have kr28 := hxt23 _ _ kr25
  have kr29 := hxt23 _ _ kr23
  have hXT := extN_tr hXT hxt23
  have hL : nmL T [(181, 182), (183, 184), (182, 183), (184, 185), (224, 225), (223, 224), (222, 223), (221, 222), (220, 221), (219, 220), (218, 219), (217, 218), (212, 217), (207, 212), (202, 207), (185, 202), (178, 179), (180, 181), (179, 180), (172, 173), (177, 178), (176, 177), (175, 176), (174, 175), (173, 174), (171, 172), (170, 171), (161, 170), (152, 161), (151, 152), (150, 151), (149, 150), (0, 1), (8, 9), (11, 12), (10, 11), (9, 10), (4, 5), (7, 8), (6, 7), (5, 6), (39, 40), (147, 148), (146, 147), (145, 146), (144, 145), (143, 144), (142, 143), (141, 142), (140, 141), (131, 140), (123, 131), (114, 123), (105, 114), (97, 105), (40, 97), (37, 38), (38, 39), (18, 19), (19, 20), (22, 23), (23, 24), (16, 17), (17, 18), (24, 25), (36, 37), (35, 36), (34, 35), (33, 34), (32, 33), (31, 32), (30, 31), (25, 30), (20, 21), (21, 22), (14, 15), (15, 16), (12, 13), (13, 14), (3, 4), (2, 3), (1, 2)] := hL
  have hP : va_P g.1 vcl ([(h0, .inr (12, [.null, .null, .null, .null, .null, .null, .null, .null, .null, .null, .null, .null, .null, .null, .null, .null, .null, .null, .null, .null, .null, .null, .null, .int 0, .int 0, .int 0, .int 0, .int 0, .int 0, .int 0, .int 0]))] ++ pl) _ := hP
  have hD : va_D _ ([(h0, .inr (12, [.null, .null, .null, .null, .null, .null, .null, .null, .null, .null, .null, .null, .null, .null, .null, .null, .null, .null, .null, .null, .null, .null, .null, .int 0, .int 0, .int 0, .int 0, .int 0, .int 0, .int 0, .int 0]))] ++ pl) := hD
  refine va_putF (D := g.1) (ci := 12) (v := .ref q21) (ty := .object "LatticeKeysModel$Ring") (C := "LatticeKeysModel$Hands") (T := T_MH) (N := 31) hx hb hts (wg_ft i_MH) ty_MH k_MH n_MH hown hK hP hD hS 0 rfl rfl 1 (by decide) (hts _ (wg_t kw_1433)) (fun _ h9 => h9) rfl hnm rfl (by decide +kernel) rfl rfl (Nat.le_of_ble_eq_true rfl) dMH_init_20 (fun H locs hP hD hS => ?_)
  have hP : va_P g.1 vcl ([(h0, .inr (12, [.null, .ref q21, .null, .null, .null, .null, .null, .null, .null, .null, .null, .null, .null, .null, .null, .null, .null, .null, .null, .null, .null, .null, .null, .int 0, .int 0, .int 0, .int 0, .int 0, .int 0, .int 0, .int 0]))] ++ pl) _ := hP
  have hD : va_D _ ([(h0, .inr (12, [.null, .ref q21, .null, .null, .null, .null, .null, .null, .null, .null, .null, .null, .null, .null, .null, .null, .null, .null, .null, .null, .null, .null, .null, .int 0, .int 0, .int 0, .int 0, .int 0, .int 0, .int 0, .int 0]))] ++ pl) := hD
  refine lv_aload_n hx hb dMH_init_23 rfl (lv_at hl 0 rfl) ?_
  refine lv_bipush (v := nI 64) hx hb dMH_init_24 (by decide) ?_
  refine lv_sipush (v := nI 256) hx hb dMH_init_26 (by decide) ?_
  refine nm_mnai (X := [(h0, .inr (12, [.null, .ref q21, .null, .null, .null, .null, .null, .null, .null, .null, .null, .null, .null, .null, .null, .null, .null, .null, .null, .null, .null, .null, .null, .int 0, .int 0, .int 0, .int 0, .int 0, .int 0, .int 0, .int 0]))]) hx hb hown (hts _ (wg_t kw_1431)) hE.2.2.2.2.2.1 (hts _ (wg_t kw_104)) hK hP hD hS hA hO hU hL 226 (by decide +kernel) rfl (by decide +kernel) (by decide) (Nat.le_of_ble_eq_true rfl) (Nat.le_of_ble_eq_true rfl) dMH_init_29 (fun q22 T pl H hxt24 hU kr30 hO hP hD hS hL => ?_)
  have kr31 := hxt24 _ _ kr27
  have kr32 := hxt24 _ _ kr28
  have kr33 := hxt24 _ _ kr29
  have kr34 := hxt24 _ _ kr26
  have hXT := extN_tr hXT hxt24
  have hL : nmL T [(226, 291), (181, 182), (183, 184), (182, 183), (184, 185), (224, 225), (223, 224), (222, 223), (221, 222), (220, 221), (219, 220), (218, 219), (217, 218), (212, 217), (207, 212), (202, 207), (185, 202), (178, 179), (180, 181), (179, 180), (172, 173), (177, 178), (176, 177), (175, 176), (174, 175), (173, 174), (171, 172), (170, 171), (161, 170), (152, 161), (151, 152), (150, 151), (149, 150), (0, 1), (8, 9), (11, 12), (10, 11), (9, 10), (4, 5), (7, 8), (6, 7), (5, 6), (39, 40), (147, 148), (146, 147), (145, 146), (144, 145), (143, 144), (142, 143), (141, 142), (140, 141), (131, 140), (123, 131), (114, 123), (105, 114), (97, 105), (40, 97), (37, 38), (38, 39), (18, 19), (19, 20), (22, 23), (23, 24), (16, 17), (17, 18), (24, 25), (36, 37), (35, 36), (34, 35), (33, 34), (32, 33), (31, 32), (30, 31), (25, 30), (20, 21), (21, 22), (14, 15), (15, 16), (12, 13), (13, 14), (3, 4), (2, 3), (1, 2)] := hL
  have hP : va_P g.1 vcl ([(h0, .inr (12, [.null, .ref q21, .null, .null, .null, .null, .null, .null, .null, .null, .null, .null, .null, .null, .null, .null, .null, .null, .null, .null, .null, .null, .null, .int 0, .int 0, .int 0, .int 0, .int 0, .int 0, .int 0, .int 0]))] ++ pl) _ := hP
  have hD : va_D _ ([(h0, .inr (12, [.null, .ref q21, .null, .null, .null, .null, .null, .null, .null, .null, .null, .null, .null, .null, .null, .null, .null, .null, .null, .null, .null, .null, .null, .int 0, .int 0, .int 0, .int 0, .int 0, .int 0, .int 0, .int 0]))] ++ pl) := hD
  refine W.widen (k := 68) (n := 17221) (by omega) (by omega) ?_
  refine va_putF (D := g.1) (ci := 12) (v := .ref q22) (ty := .array (.array .int)) (C := "LatticeKeysModel$Hands") (T := T_MH) (N := 31) hx hb hts (wg_ft i_MH) ty_MH k_MH n_MH hown hK hP hD hS 0 rfl rfl 2 (by decide) (hts _ (wg_t kw_1434)) (fun _ h9 => h9) rfl hnm rfl (by decide +kernel) rfl rfl (Nat.le_of_ble_eq_true rfl) dMH_init_33 (fun H locs hP hD hS => ?_)
  have hP : va_P g.1 vcl ([(h0, .inr (12, [.null, .ref q21, .ref q22, .null, .null, .null, .null, .null, .null, .null, .null, .null, .null, .null, .null, .null, .null, .null, .null, .null, .null, .null, .null, .int 0, .int 0, .int 0, .int 0, .int 0, .int 0, .int 0, .int 0]))] ++ pl) _ := hP
  have hD : va_D _ ([(h0, .inr (12, [.null, .ref q21, .ref q22, .null, .null, .null, .null, .null, .null, .null, .null, .null, .null, .null, .null, .null, .null, .null, .null, .null, .null, .null, .null, .int 0, .int 0, .int 0, .int 0, .int 0, .int 0, .int 0, .int 0]))] ++ pl) := hD
  refine lv_aload_n hx hb dMH_init_36 rfl (lv_at hl 0 rfl) ?_
  refine lv_bipush (v := nI 7) hx hb dMH_init_37 (by decide) ?_
  refine lv_sipush (v := nI 256) hx hb dMH_init_39 (by decide) ?_
  refine nm_mnai (X := [(h0, .inr (12, [.null, .ref q21, .ref q22, .null, .null, .null, .null, .null, .null, .null, .null, .null, .null, .null, .null, .null, .null, .null, .null, .null, .null, .null, .null, .int 0, .int 0, .int 0, .int 0, .int 0, .int 0, .int 0, .int 0]))]) hx hb hown (hts _ (wg_t kw_1431)) hE.2.2.2.2.2.1 (hts _ (wg_t kw_104)) hK hP hD hS hA hO hU hL 291 (by decide +kernel) rfl (by decide +kernel) (by decide) (Nat.le_of_ble_eq_true rfl) (Nat.le_of_ble_eq_true rfl) dMH_init_42 (fun q23 T pl H hxt25 hU kr35 hO hP hD hS hL => ?_)
  have kr36 := hxt25 _ _ kr31
  have kr37 := hxt25 _ _ kr32
  have kr38 := hxt25 _ _ kr33
  have kr39 := hxt25 _ _ kr34
  have kr40 := hxt25 _ _ kr30
  have hXT := extN_tr hXT hxt25
  have hL : nmL T [(291, 299), (226, 291), (181, 182), (183, 184), (182, 183), (184, 185), (224, 225), (223, 224), (222, 223), (221, 222), (220, 221), (219, 220), (218, 219), (217, 218), (212, 217), (207, 212), (202, 207), (185, 202), (178, 179), (180, 181), (179, 180), (172, 173), (177, 178), (176, 177), (175, 176), (174, 175), (173, 174), (171, 172), (170, 171), (161, 170), (152, 161), (151, 152), (150, 151), (149, 150), (0, 1), (8, 9), (11, 12), (10, 11), (9, 10), (4, 5), (7, 8), (6, 7), (5, 6), (39, 40), (147, 148), (146, 147), (145, 146), (144, 145), (143, 144), (142, 143), (141, 142), (140, 141), (131, 140), (123, 131), (114, 123), (105, 114), (97, 105), (40, 97), (37, 38), (38, 39), (18, 19), (19, 20), (22, 23), (23, 24), (16, 17), (17, 18), (24, 25), (36, 37), (35, 36), (34, 35), (33, 34), (32, 33), (31, 32), (30, 31), (25, 30), (20, 21), (21, 22), (14, 15), (15, 16), (12, 13), (13, 14), (3, 4), (2, 3), (1, 2)] := hL
  have hP : va_P g.1 vcl ([(h0, .inr (12, [.null, .ref q21, .ref q22, .null, .null, .null, .null, .null, .null, .null, .null, .null, .null, .null, .null, .null, .null, .null, .null, .null, .null, .null, .null, .int 0, .int 0, .int 0, .int 0, .int 0, .int 0, .int 0, .int 0]))] ++ pl) _ := hP
  have hD : va_D _ ([(h0, .inr (12, [.null, .ref q21, .ref q22, .null, .null, .null, .null, .null, .null, .null, .null, .null, .null, .null, .null, .null, .null, .null, .null, .null, .null, .null, .null, .int 0, .int 0, .int 0, .int 0, .int 0, .int 0, .int 0, .int 0]))] ++ pl) := hD
  refine W.widen (k := 76) (n := 19020) (by omega) (by omega) ?_
  refine va_putF (D := g.1) (ci := 12) (v := .ref q23) (ty := .array (.array .int)) (C := "LatticeKeysModel$Hands") (T := T_MH) (N := 31) hx hb hts (wg_ft i_MH) ty_MH k_MH n_MH hown hK hP hD hS 0 rfl rfl 3 (by decide) (hts _ (wg_t kw_1435)) (fun _ h9 => h9) rfl hnm rfl (by decide +kernel) rfl rfl (Nat.le_of_ble_eq_true rfl) dMH_init_46 (fun H locs hP hD hS => ?_)
  have hP : va_P g.1 vcl ([(h0, .inr (12, [.null, .ref q21, .ref q22, .ref q23, .null, .null, .null, .null, .null, .null, .null, .null, .null, .null, .null, .null, .null, .null, .null, .null, .null, .null, .null, .int 0, .int 0, .int 0, .int 0, .int 0, .int 0, .int 0, .int 0]))] ++ pl) _ := hP
  have hD : va_D _ ([(h0, .inr (12, [.null, .ref q21, .ref q22, .ref q23, .null, .null, .null, .null, .null, .null, .null, .null, .null, .null, .null, .null, .null, .null, .null, .null, .null, .null, .null, .int 0, .int 0, .int 0, .int 0, .int 0, .int 0, .int 0, .int 0]))] ++ pl) := hD
  refine lv_aload_n hx hb dMH_init_49 rfl (lv_at hl 0 rfl) ?_
  refine lv_bipush (v := nI 8) hx hb dMH_init_50 (by decide) ?_
  refine lv_sipush (v := nI 256) hx hb dMH_init_52 (by decide) ?_
  refine nm_mnai (X := [(h0, .inr (12, [.null, .ref q21, .ref q22, .ref q23, .null, .null, .null, .null, .null, .null, .null, .null, .null, .null, .null, .null, .null, .null, .null, .null, .null, .null, .null, .int 0, .int 0, .int 0, .int 0, .int 0, .int 0, .int 0, .int 0]))]) hx hb hown (hts _ (wg_t kw_1431)) hE.2.2.2.2.2.1 (hts _ (wg_t kw_104)) hK hP hD hS hA hO hU hL 299 (by decide +kernel) rfl (by decide +kernel) (by decide) (Nat.le_of_ble_eq_true rfl) (Nat.le_of_ble_eq_true rfl) dMH_init_55 (fun q24 T pl H hxt26 hU kr41 hO hP hD hS hL => ?_)
  have kr42 := hxt26 _ _ kr36
  have kr43 := hxt26 _ _ kr37
  have kr44 := hxt26 _ _ kr38
  have kr45 := hxt26 _ _ kr39
  have kr46 := hxt26 _ _ kr40
  have kr47 := hxt26 _ _ kr35
  have hXT := extN_tr hXT hxt26
  have hL : nmL T [(299, 308), (291, 299), (226, 291), (181, 182), (183, 184), (182, 183), (184, 185), (224, 225), (223, 224), (222, 223), (221, 222), (220, 221), (219, 220), (218, 219), (217, 218), (212, 217), (207, 212), (202, 207), (185, 202), (178, 179), (180, 181), (179, 180), (172, 173), (177, 178), (176, 177), (175, 176), (174, 175), (173, 174), (171, 172), (170, 171), (161, 170), (152, 161), (151, 152), (150, 151), (149, 150), (0, 1), (8, 9), (11, 12), (10, 11), (9, 10), (4, 5), (7, 8), (6, 7), (5, 6), (39, 40), (147, 148), (146, 147), (145, 146), (144, 145), (143, 144), (142, 143), (141, 142), (140, 141), (131, 140), (123, 131), (114, 123), (105, 114), (97, 105), (40, 97), (37, 38), (38, 39), (18, 19), (19, 20), (22, 23), (23, 24), (16, 17), (17, 18), (24, 25), (36, 37), (35, 36), (34, 35), (33, 34), (32, 33), (31, 32), (30, 31), (25, 30), (20, 21), (21, 22), (14, 15), (15, 16), (12, 13), (13, 14), (3, 4), (2, 3), (1, 2)] := hL
  have hP : va_P g.1 vcl ([(h0, .inr (12, [.null, .ref q21, .ref q22, .ref q23, .null, .null, .null, .null, .null, .null, .null, .null, .null, .null, .null, .null, .null, .null, .null, .null, .null, .null, .null, .int 0, .int 0, .int 0, .int 0, .int 0, .int 0, .int 0, .int 0]))] ++ pl) _ := hP
  have hD : va_D _ ([(h0, .inr (12, [.null, .ref q21, .ref q22, .ref q23, .null, .null, .null, .null, .null, .null, .null, .null, .null, .null, .null, .null, .null, .null, .null, .null, .null, .null, .null, .int 0, .int 0, .int 0, .int 0, .int 0, .int 0, .int 0, .int 0]))] ++ pl) := hD
  refine W.widen (k := 85) (n := 21076) (by omega) (by omega) ?_
  refine va_putF (D := g.1) (ci := 12) (v := .ref q24) (ty := .array (.array .int)) (C := "LatticeKeysModel$Hands") (T := T_MH) (N := 31) hx hb hts (wg_ft i_MH) ty_MH k_MH n_MH hown hK hP hD hS 0 rfl rfl 4 (by decide) (hts _ (wg_t kw_1436)) (fun _ h9 => h9) rfl hnm rfl (by decide +kernel) rfl rfl (Nat.le_of_ble_eq_true rfl) dMH_init_59 (fun H locs hP hD hS => ?_)
  have hP : va_P g.1 vcl ([(h0, .inr (12, [.null, .ref q21, .ref q22, .ref q23, .ref q24, .null, .null, .null, .null, .null, .null, .null, .null, .null, .null, .null, .null, .null, .null, .null, .null, .null, .null, .int 0, .int 0, .int 0, .int 0, .int 0, .int 0, .int 0, .int 0]))] ++ pl) _ := hP
  have hD : va_D _ ([(h0, .inr (12, [.null, .ref q21, .ref q22, .ref q23, .ref q24, .null, .null, .null, .null, .null, .null, .null, .null, .null, .null, .null, .null, .null, .null, .null, .null, .null, .null, .int 0, .int 0, .int 0, .int 0, .int 0, .int 0, .int 0, .int 0]))] ++ pl) := hD
  refine lv_aload_n hx hb dMH_init_62 rfl (lv_at hl 0 rfl) ?_
  refine lv_bipush (v := nI 8) hx hb dMH_init_63 (by decide) ?_
  refine lv_sipush (v := nI 256) hx hb dMH_init_65 (by decide) ?_
  refine nm_mnai (X := [(h0, .inr (12, [.null, .ref q21, .ref q22, .ref q23, .ref q24, .null, .null, .null, .null, .null, .null, .null, .null, .null, .null, .null, .null, .null, .null, .null, .null, .null, .null, .int 0, .int 0, .int 0, .int 0, .int 0, .int 0, .int 0, .int 0]))]) hx hb hown (hts _ (wg_t kw_1431)) hE.2.2.2.2.2.1 (hts _ (wg_t kw_104)) hK hP hD hS hA hO hU hL 308 (by decide +kernel) rfl (by decide +kernel) (by decide) (Nat.le_of_ble_eq_true rfl) (Nat.le_of_ble_eq_true rfl) dMH_init_68 (fun q25 T pl H hxt27 hU kr48 hO hP hD hS hL => ?_)
  have kr49 := hxt27 _ _ kr42
  have kr50 := hxt27 _ _ kr43
  have kr51 := hxt27 _ _ kr44
  have kr52 := hxt27 _ _ kr45
  have kr53 := hxt27 _ _ kr46
  have kr54 := hxt27 _ _ kr47
  have kr55 := hxt27 _ _ kr41
  have hXT := extN_tr hXT hxt27
  have hL : nmL T [(308, 317), (299, 308), (291, 299), (226, 291), (181, 182), (183, 184), (182, 183), (184, 185), (224, 225), (223, 224), (222, 223), (221, 222), (220, 221), (219, 220), (218, 219), (217, 218), (212, 217), (207, 212), (202, 207), (185, 202), (178, 179), (180, 181), (179, 180), (172, 173), (177, 178), (176, 177), (175, 176), (174, 175), (173, 174), (171, 172), (170, 171), (161, 170), (152, 161), (151, 152), (150, 151), (149, 150), (0, 1), (8, 9), (11, 12), (10, 11), (9, 10), (4, 5), (7, 8), (6, 7), (5, 6), (39, 40), (147, 148), (146, 147), (145, 146), (144, 145), (143, 144), (142, 143), (141, 142), (140, 141), (131, 140), (123, 131), (114, 123), (105, 114), (97, 105), (40, 97), (37, 38), (38, 39), (18, 19), (19, 20), (22, 23), (23, 24), (16, 17), (17, 18), (24, 25), (36, 37), (35, 36), (34, 35), (33, 34), (32, 33), (31, 32), (30, 31), (25, 30), (20, 21), (21, 22), (14, 15), (15, 16), (12, 13), (13, 14), (3, 4), (2, 3), (1, 2)] := hL
  have hP : va_P g.1 vcl ([(h0, .inr (12, [.null, .ref q21, .ref q22, .ref q23, .ref q24, .null, .null, .null, .null, .null, .null, .null, .null, .null, .null, .null, .null, .null, .null, .null, .null, .null, .null, .int 0, .int 0, .int 0, .int 0, .int 0, .int 0, .int 0, .int 0]))] ++ pl) _ := hP
  have hD : va_D _ ([(h0, .inr (12, [.null, .ref q21, .ref q22, .ref q23, .ref q24, .null, .null, .null, .null, .null, .null, .null, .null, .null, .null, .null, .null, .null, .null, .null, .null, .null, .null, .int 0, .int 0, .int 0, .int 0, .int 0, .int 0, .int 0, .int 0]))] ++ pl) := hD
  refine W.widen (k := 94) (n := 23132) (by omega) (by omega) ?_
  refine va_putF (D := g.1) (ci := 12) (v := .ref q25) (ty := .array (.array .int)) (C := "LatticeKeysModel$Hands") (T := T_MH) (N := 31) hx hb hts (wg_ft i_MH) ty_MH k_MH n_MH hown hK hP hD hS 0 rfl rfl 5 (by decide) (hts _ (wg_t kw_1437)) (fun _ h9 => h9) rfl hnm rfl (by decide +kernel) rfl rfl (Nat.le_of_ble_eq_true rfl) dMH_init_72 (fun H locs hP hD hS => ?_)
  have hP : va_P g.1 vcl ([(h0, .inr (12, [.null, .ref q21, .ref q22, .ref q23, .ref q24, .ref q25, .null, .null, .null, .null, .null, .null, .null, .null, .null, .null, .null, .null, .null, .null, .null, .null, .null, .int 0, .int 0, .int 0, .int 0, .int 0, .int 0, .int 0, .int 0]))] ++ pl) _ := hP
  have hD : va_D _ ([(h0, .inr (12, [.null, .ref q21, .ref q22, .ref q23, .ref q24, .ref q25, .null, .null, .null, .null, .null, .null, .null, .null, .null, .null, .null, .null, .null, .null, .null, .null, .null, .int 0, .int 0, .int 0, .int 0, .int 0, .int 0, .int 0, .int 0]))] ++ pl) := hD
  refine lv_aload_n hx hb dMH_init_75 rfl (lv_at hl 0 rfl) ?_
  refine lv_bipush (v := nI 8) hx hb dMH_init_76 (by decide) ?_
  refine lv_sipush (v := nI 256) hx hb dMH_init_78 (by decide) ?_
  refine nm_mnai (X := [(h0, .inr (12, [.null, .ref q21, .ref q22, .ref q23, .ref q24, .ref q25, .null, .null, .null, .null, .null, .null, .null, .null, .null, .null, .null, .null, .null, .null, .null, .null, .null, .int 0, .int 0, .int 0, .int 0, .int 0, .int 0, .int 0, .int 0]))]) hx hb hown (hts _ (wg_t kw_1431)) hE.2.2.2.2.2.1 (hts _ (wg_t kw_104)) hK hP hD hS hA hO hU hL 317 (by decide +kernel) rfl (by decide +kernel) (by decide) (Nat.le_of_ble_eq_true rfl) (Nat.le_of_ble_eq_true rfl) dMH_init_81 (fun q26 T pl H hxt28 hU kr56 hO hP hD hS hL => ?_)
  have kr57 := hxt28 _ _ kr49
  have kr58 := hxt28 _ _ kr50
  have kr59 := hxt28 _ _ kr51
  have kr60 := hxt28 _ _ kr52
  have kr61 := hxt28 _ _ kr53
  have kr62 := hxt28 _ _ kr54
  have kr63 := hxt28 _ _ kr55
  have kr64 := hxt28 _ _ kr48
  have hXT := extN_tr hXT hxt28
  have hL : nmL T [(317, 326), (308, 317), (299, 308), (291, 299), (226, 291), (181, 182), (183, 184), (182, 183), (184, 185), (224, 225), (223, 224), (222, 223), (221, 222), (220, 221), (219, 220), (218, 219), (217, 218), (212, 217), (207, 212), (202, 207), (185, 202), (178, 179), (180, 181), (179, 180), (172, 173), (177, 178), (176, 177), (175, 176), (174, 175), (173, 174), (171, 172), (170, 171), (161, 170), (152, 161), (151, 152), (150, 151), (149, 150), (0, 1), (8, 9), (11, 12), (10, 11), (9, 10), (4, 5), (7, 8), (6, 7), (5, 6), (39, 40), (147, 148), (146, 147), (145, 146), (144, 145), (143, 144), (142, 143), (141, 142), (140, 141), (131, 140), (123, 131), (114, 123), (105, 114), (97, 105), (40, 97), (37, 38), (38, 39), (18, 19), (19, 20), (22, 23), (23, 24), (16, 17), (17, 18), (24, 25), (36, 37), (35, 36), (34, 35), (33, 34), (32, 33), (31, 32), (30, 31), (25, 30), (20, 21), (21, 22), (14, 15), (15, 16), (12, 13), (13, 14), (3, 4), (2, 3), (1, 2)] := hL
  have hP : va_P g.1 vcl ([(h0, .inr (12, [.null, .ref q21, .ref q22, .ref q23, .ref q24, .ref q25, .null, .null, .null, .null, .null, .null, .null, .null, .null, .null, .null, .null, .null, .null, .null, .null, .null, .int 0, .int 0, .int 0, .int 0, .int 0, .int 0, .int 0, .int 0]))] ++ pl) _ := hP
  have hD : va_D _ ([(h0, .inr (12, [.null, .ref q21, .ref q22, .ref q23, .ref q24, .ref q25, .null, .null, .null, .null, .null, .null, .null, .null, .null, .null, .null, .null, .null, .null, .null, .null, .null, .int 0, .int 0, .int 0, .int 0, .int 0, .int 0, .int 0, .int 0]))] ++ pl) := hD
  refine W.widen (k := 103) (n := 25188) (by omega) (by omega) ?_
  refine va_putF (D := g.1) (ci := 12) (v := .ref q26) (ty := .array (.array .int)) (C := "LatticeKeysModel$Hands") (T := T_MH) (N := 31) hx hb hts (wg_ft i_MH) ty_MH k_MH n_MH hown hK hP hD hS 0 rfl rfl 6 (by decide) (hts _ (wg_t kw_1438)) (fun _ h9 => h9) rfl hnm rfl (by decide +kernel) rfl rfl (Nat.le_of_ble_eq_true rfl) dMH_init_85 (fun H locs hP hD hS => ?_)
  have hP : va_P g.1 vcl ([(h0, .inr (12, [.null, .ref q21, .ref q22, .ref q23, .ref q24, .ref q25, .ref q26, .null, .null, .null, .null, .null, .null, .null, .null, .null, .null, .null, .null, .null, .null, .null, .null, .int 0, .int 0, .int 0, .int 0, .int 0, .int 0, .int 0, .int 0]))] ++ pl) _ := hP
  have hD : va_D _ ([(h0, .inr (12, [.null, .ref q21, .ref q22, .ref q23, .ref q24, .ref q25, .ref q26, .null, .null, .null, .null, .null, .null, .null, .null, .null, .null, .null, .null, .null, .null, .null, .null, .int 0, .int 0, .int 0, .int 0, .int 0, .int 0, .int 0, .int 0]))] ++ pl) := hD
  refine lv_aload_n hx hb dMH_init_88 rfl (lv_at hl 0 rfl) ?_
  refine lv_bipush (v := nI 7) hx hb dMH_init_89 (by decide) ?_
  refine lv_sipush (v := nI 256) hx hb dMH_init_91 (by decide) ?_
  refine nm_mnai (X := [(h0, .inr (12, [.null, .ref q21, .ref q22, .ref q23, .ref q24, .ref q25, .ref q26, .null, .null, .null, .null, .null, .null, .null, .null, .null, .null, .null, .null, .null, .null, .null, .null, .int 0, .int 0, .int 0, .int 0, .int 0, .int 0, .int 0, .int 0]))]) hx hb hown (hts _ (wg_t kw_1431)) hE.2.2.2.2.2.1 (hts _ (wg_t kw_104)) hK hP hD hS hA hO hU hL 326 (by decide +kernel) rfl (by decide +kernel) (by decide) (Nat.le_of_ble_eq_true rfl) (Nat.le_of_ble_eq_true rfl) dMH_init_94 (fun q27 T pl H hxt29 hU kr65 hO hP hD hS hL => ?_)
  have kr66 := hxt29 _ _ kr57
  have kr67 := hxt29 _ _ kr58
  have kr68 := hxt29 _ _ kr59
  have kr69 := hxt29 _ _ kr60
  have kr70 := hxt29 _ _ kr61
  have kr71 := hxt29 _ _ kr62
  have kr72 := hxt29 _ _ kr63
  have kr73 := hxt29 _ _ kr64
  have kr74 := hxt29 _ _ kr56
  have hXT := extN_tr hXT hxt29
  have hL : nmL T [(326, 334), (317, 326), (308, 317), (299, 308), (291, 299), (226, 291), (181, 182), (183, 184), (182, 183), (184, 185), (224, 225), (223, 224), (222, 223), (221, 222), (220, 221), (219, 220), (218, 219), (217, 218), (212, 217), (207, 212), (202, 207), (185, 202), (178, 179), (180, 181), (179, 180), (172, 173), (177, 178), (176, 177), (175, 176), (174, 175), (173, 174), (171, 172), (170, 171), (161, 170), (152, 161), (151, 152), (150, 151), (149, 150), (0, 1), (8, 9), (11, 12), (10, 11), (9, 10), (4, 5), (7, 8), (6, 7), (5, 6), (39, 40), (147, 148), (146, 147), (145, 146), (144, 145), (143, 144), (142, 143), (141, 142), (140, 141), (131, 140), (123, 131), (114, 123), (105, 114), (97, 105), (40, 97), (37, 38), (38, 39), (18, 19), (19, 20), (22, 23), (23, 24), (16, 17), (17, 18), (24, 25), (36, 37), (35, 36), (34, 35), (33, 34), (32, 33), (31, 32), (30, 31), (25, 30), (20, 21), (21, 22), (14, 15), (15, 16), (12, 13), (13, 14), (3, 4), (2, 3), (1, 2)] := hL
  have hP : va_P g.1 vcl ([(h0, .inr (12, [.null, .ref q21, .ref q22, .ref q23, .ref q24, .ref q25, .ref q26, .null, .null, .null, .null, .null, .null, .null, .null, .null, .null, .null, .null, .null, .null, .null, .null, .int 0, .int 0, .int 0, .int 0, .int 0, .int 0, .int 0, .int 0]))] ++ pl) _ := hP
  have hD : va_D _ ([(h0, .inr (12, [.null, .ref q21, .ref q22, .ref q23, .ref q24, .ref q25, .ref q26, .null, .null, .null, .null, .null, .null, .null, .null, .null, .null, .null, .null, .null, .null, .null, .null, .int 0, .int 0, .int 0, .int 0, .int 0, .int 0, .int 0, .int 0]))] ++ pl) := hD
  refine W.widen (k := 111) (n := 26987) (by omega) (by omega) ?_
  refine va_putF (D := g.1) (ci := 12) (v := .ref q27) (ty := .array (.array .int)) (C := "LatticeKeysModel$Hands") (T := T_MH) (N := 31) hx hb hts (wg_ft i_MH) ty_MH k_MH n_MH hown hK hP hD hS 0 rfl rfl 7 (by decide) (hts _ (wg_t kw_1439)) (fun _ h9 => h9) rfl hnm rfl (by decide +kernel) rfl rfl (Nat.le_of_ble_eq_true rfl) dMH_init_98 (fun H locs hP hD hS => ?_)
  have hP : va_P g.1 vcl ([(h0, .inr (12, [.null, .ref q21, .ref q22, .ref q23, .ref q24, .ref q25, .ref q26, .ref q27, .null, .null, .null, .null, .null, .null, .null, .null, .null, .null, .null, .null, .null, .null, .null, .int 0, .int 0, .int 0, .int 0, .int 0, .int 0, .int 0, .int 0]))] ++ pl) _ := hP
  have hD : va_D _ ([(h0, .inr (12, [.null, .ref q21, .ref q22, .ref q23, .ref q24, .ref q25, .ref q26, .ref q27, .null, .null, .null, .null, .null, .null, .null, .null, .null, .null, .null, .null, .null, .null, .null, .int 0, .int 0, .int 0, .int 0, .int 0, .int 0, .int 0, .int 0]))] ++ pl) := hD
  refine lv_aload_n hx hb dMH_init_101 rfl (lv_at hl 0 rfl) ?_
  refine lv_bipush (v := nI 7) hx hb dMH_init_102 (by decide) ?_
  refine lv_sipush (v := nI 256) hx hb dMH_init_104 (by decide) ?_
  refine nm_mnai (X := [(h0, .inr (12, [.null, .ref q21, .ref q22, .ref q23, .ref q24, .ref q25, .ref q26, .ref q27, .null, .null, .null, .null, .null, .null, .null, .null, .null, .null, .null, .null, .null, .null, .null, .int 0, .int 0, .int 0, .int 0, .int 0, .int 0, .int 0, .int 0]))]) hx hb hown (hts _ (wg_t kw_1431)) hE.2.2.2.2.2.1 (hts _ (wg_t kw_104)) hK hP hD hS hA hO hU hL 334 (by decide +kernel) rfl (by decide +kernel) (by decide) (Nat.le_of_ble_eq_true rfl) (Nat.le_of_ble_eq_true rfl) dMH_init_107 (fun q28 T pl H hxt30 hU kr75 hO hP hD hS hL => ?_)
  have kr76 := hxt30 _ _ kr66
  have kr77 := hxt30 _ _ kr67
  have kr78 := hxt30 _ _ kr68
  have kr79 := hxt30 _ _ kr69
  have kr80 := hxt30 _ _ kr70
  have kr81 := hxt30 _ _ kr71
  have kr82 := hxt30 _ _ kr72
  have kr83 := hxt30 _ _ kr73
  have kr84 := hxt30 _ _ kr74
  have kr85 := hxt30 _ _ kr65
  have hXT := extN_tr hXT hxt30
  have hL : nmL T [(334, 342), (326, 334), (317, 326), (308, 317), (299, 308), (291, 299), (226, 291), (181, 182), (183, 184), (182, 183), (184, 185), (224, 225), (223, 224), (222, 223), (221, 222), (220, 221), (219, 220), (218, 219), (217, 218), (212, 217), (207, 212), (202, 207), (185, 202), (178, 179), (180, 181), (179, 180), (172, 173), (177, 178), (176, 177), (175, 176), (174, 175), (173, 174), (171, 172), (170, 171), (161, 170), (152, 161), (151, 152), (150, 151), (149, 150), (0, 1), (8, 9), (11, 12), (10, 11), (9, 10), (4, 5), (7, 8), (6, 7), (5, 6), (39, 40), (147, 148), (146, 147), (145, 146), (144, 145), (143, 144), (142, 143), (141, 142), (140, 141), (131, 140), (123, 131), (114, 123), (105, 114), (97, 105), (40, 97), (37, 38), (38, 39), (18, 19), (19, 20), (22, 23), (23, 24), (16, 17), (17, 18), (24, 25), (36, 37), (35, 36), (34, 35), (33, 34), (32, 33), (31, 32), (30, 31), (25, 30), (20, 21), (21, 22), (14, 15), (15, 16), (12, 13), (13, 14), (3, 4), (2, 3), (1, 2)] := hL
  have hP : va_P g.1 vcl ([(h0, .inr (12, [.null, .ref q21, .ref q22, .ref q23, .ref q24, .ref q25, .ref q26, .ref q27, .null, .null, .null, .null, .null, .null, .null, .null, .null, .null, .null, .null, .null, .null, .null, .int 0, .int 0, .int 0, .int 0, .int 0, .int 0, .int 0, .int 0]))] ++ pl) _ := hP
  have hD : va_D _ ([(h0, .inr (12, [.null, .ref q21, .ref q22, .ref q23, .ref q24, .ref q25, .ref q26, .ref q27, .null, .null, .null, .null, .null, .null, .null, .null, .null, .null, .null, .null, .null, .null, .null, .int 0, .int 0, .int 0, .int 0, .int 0, .int 0, .int 0, .int 0]))] ++ pl) := hD
  refine W.widen (k := 119) (n := 28786) (by omega) (by omega) ?_
  refine va_putF (D := g.1) (ci := 12) (v := .ref q28) (ty := .array (.array .int)) (C := "LatticeKeysModel$Hands") (T := T_MH) (N := 31) hx hb hts (wg_ft i_MH) ty_MH k_MH n_MH hown hK hP hD hS 0 rfl rfl 8 (by decide) (hts _ (wg_t kw_1440)) (fun _ h9 => h9) rfl hnm rfl (by decide +kernel) rfl rfl (Nat.le_of_ble_eq_true rfl) dMH_init_111 (fun H locs hP hD hS => ?_)
  have hP : va_P g.1 vcl ([(h0, .inr (12, [.null, .ref q21, .ref q22, .ref q23, .ref q24, .ref q25, .ref q26, .ref q27, .ref q28, .null, .null, .null, .null, .null, .null, .null, .null, .null, .null, .null, .null, .null, .null, .int 0, .int 0, .int 0, .int 0, .int 0, .int 0, .int 0, .int 0]))] ++ pl) _ := hP
  have hD : va_D _ ([(h0, .inr (12, [.null, .ref q21, .ref q22, .ref q23, .ref q24, .ref q25, .ref q26, .ref q27, .ref q28, .null, .null, .null, .null, .null, .null, .null, .null, .null, .null, .null, .null, .null, .null, .int 0, .int 0, .int 0, .int 0, .int 0, .int 0, .int 0, .int 0]))] ++ pl) := hD
  refine lv_aload_n hx hb dMH_init_114 rfl (lv_at hl 0 rfl) ?_
  refine lv_bipush (v := nI 7) hx hb dMH_init_115 (by decide) ?_
  refine lv_sipush (v := nI 256) hx hb dMH_init_117 (by decide) ?_
  refine nm_mnai (X := [(h0, .inr (12, [.null, .ref q21, .ref q22, .ref q23, .ref q24, .ref q25, .ref q26, .ref q27, .ref q28, .null, .null, .null, .null, .null, .null, .null, .null, .null, .null, .null, .null, .null, .null, .int 0, .int 0, .int 0, .int 0, .int 0, .int 0, .int 0, .int 0]))]) hx hb hown (hts _ (wg_t kw_1431)) hE.2.2.2.2.2.1 (hts _ (wg_t kw_104)) hK hP hD hS hA hO hU hL 342 (by decide +kernel) rfl (by decide +kernel) (by decide) (Nat.le_of_ble_eq_true rfl) (Nat.le_of_ble_eq_true rfl) dMH_init_120 (fun q29 T pl H hxt31 hU kr86 hO hP hD hS hL => ?_)
  have kr87 := hxt31 _ _ kr76
  have kr88 := hxt31 _ _ kr77
  have kr89 := hxt31 _ _ kr78
  have kr90 := hxt31 _ _ kr79
  have kr91 := hxt31 _ _ kr80
  have kr92 := hxt31 _ _ kr81
  have kr93 := hxt31 _ _ kr82
  have kr94 := hxt31 _ _ kr83
  have kr95 := hxt31 _ _ kr84
  have kr96 := hxt31 _ _ kr85
  have kr97 := hxt31 _ _ kr75
  have hXT := extN_tr hXT hxt31
  have hL : nmL T [(342, 350), (334, 342), (326, 334), (317, 326), (308, 317), (299, 308), (291, 299), (226, 291), (181, 182), (183, 184), (182, 183), (184, 185), (224, 225), (223, 224), (222, 223), (221, 222), (220, 221), (219, 220), (218, 219), (217, 218), (212, 217), (207, 212), (202, 207), (185, 202), (178, 179), (180, 181), (179, 180), (172, 173), (177, 178), (176, 177), (175, 176), (174, 175), (173, 174), (171, 172), (170, 171), (161, 170), (152, 161), (151, 152), (150, 151), (149, 150), (0, 1), (8, 9), (11, 12), (10, 11), (9, 10), (4, 5), (7, 8), (6, 7), (5, 6), (39, 40), (147, 148), (146, 147), (145, 146), (144, 145), (143, 144), (142, 143), (141, 142), (140, 141), (131, 140), (123, 131), (114, 123), (105, 114), (97, 105), (40, 97), (37, 38), (38, 39), (18, 19), (19, 20), (22, 23), (23, 24), (16, 17), (17, 18), (24, 25), (36, 37), (35, 36), (34, 35), (33, 34), (32, 33), (31, 32), (30, 31), (25, 30), (20, 21), (21, 22), (14, 15), (15, 16), (12, 13), (13, 14), (3, 4), (2, 3), (1, 2)] := hL
  have hP : va_P g.1 vcl ([(h0, .inr (12, [.null, .ref q21, .ref q22, .ref q23, .ref q24, .ref q25, .ref q26, .ref q27, .ref q28, .null, .null, .null, .null, .null, .null, .null, .null, .null, .null, .null, .null, .null, .null, .int 0, .int 0, .int 0, .int 0, .int 0, .int 0, .int 0, .int 0]))] ++ pl) _ := hP
  have hD : va_D _ ([(h0, .inr (12, [.null, .ref q21, .ref q22, .ref q23, .ref q24, .ref q25, .ref q26, .ref q27, .ref q28, .null, .null, .null, .null, .null, .null, .null, .null, .null, .null, .null, .null, .null, .null, .int 0, .int 0, .int 0, .int 0, .int 0, .int 0, .int 0, .int 0]))] ++ pl) := hD
  refine W.widen (k := 127) (n := 30585) (by omega) (by omega) ?_
  refine va_putF (D := g.1) (ci := 12) (v := .ref q29) (ty := .array (.array .int)) (C := "LatticeKeysModel$Hands") (T := T_MH) (N := 31) hx hb hts (wg_ft i_MH) ty_MH k_MH n_MH hown hK hP hD hS 0 rfl rfl 9 (by decide) (hts _ (wg_t kw_1441)) (fun _ h9 => h9) rfl hnm rfl (by decide +kernel) rfl rfl (Nat.le_of_ble_eq_true rfl) dMH_init_124 (fun H locs hP hD hS => ?_)
  have hP : va_P g.1 vcl ([(h0, .inr (12, [.null, .ref q21, .ref q22, .ref q23, .ref q24, .ref q25, .ref q26, .ref q27, .ref q28, .ref q29, .null, .null, .null, .null, .null, .null, .null, .null, .null, .null, .null, .null, .null, .int 0, .int 0, .int 0, .int 0, .int 0, .int 0, .int 0, .int 0]))] ++ pl) _ := hP
  have hD : va_D _ ([(h0, .inr (12, [.null, .ref q21, .ref q22, .ref q23, .ref q24, .ref q25, .ref q26, .ref q27, .ref q28, .ref q29, .null, .null, .null, .null, .null, .null, .null, .null, .null, .null, .null, .null, .null, .int 0, .int 0, .int 0, .int 0, .int 0, .int 0, .int 0, .int 0]))] ++ pl) := hD
  refine lv_aload_n hx hb dMH_init_127 rfl (lv_at hl 0 rfl) ?_
  refine lv_bipush (v := nI 8) hx hb dMH_init_128 (by decide) ?_
  refine lv_sipush (v := nI 256) hx hb dMH_init_130 (by decide) ?_
  refine nm_mnai (X := [(h0, .inr (12, [.null, .ref q21, .ref q22, .ref q23, .ref q24, .ref q25, .ref q26, .ref q27, .ref q28, .ref q29, .null, .null, .null, .null, .null, .null, .null, .null, .null, .null, .null, .null, .null, .int 0, .int 0, .int 0, .int 0, .int 0, .int 0, .int 0, .int 0]))]) hx hb hown (hts _ (wg_t kw_1431)) hE.2.2.2.2.2.1 (hts _ (wg_t kw_104)) hK hP hD hS hA hO hU hL 350 (by decide +kernel) rfl (by decide +kernel) (by decide) (Nat.le_of_ble_eq_true rfl) (Nat.le_of_ble_eq_true rfl) dMH_init_133 (fun q30 T pl H hxt32 hU kr98 hO hP hD hS hL => ?_)
  have kr99 := hxt32 _ _ kr87
  have kr100 := hxt32 _ _ kr88
  have kr101 := hxt32 _ _ kr89
  have kr102 := hxt32 _ _ kr90
  have kr103 := hxt32 _ _ kr91
  have kr104 := hxt32 _ _ kr92
  have kr105 := hxt32 _ _ kr93
  have kr106 := hxt32 _ _ kr94
  have kr107 := hxt32 _ _ kr95
  have kr108 := hxt32 _ _ kr96
  have kr109 := hxt32 _ _ kr97
  have kr110 := hxt32 _ _ kr86
  have hXT := extN_tr hXT hxt32
  have hL : nmL T [(350, 359), (342, 350), (334, 342), (326, 334), (317, 326), (308, 317), (299, 308), (291, 299), (226, 291), (181, 182), (183, 184), (182, 183), (184, 185), (224, 225), (223, 224), (222, 223), (221, 222), (220, 221), (219, 220), (218, 219), (217, 218), (212, 217), (207, 212), (202, 207), (185, 202), (178, 179), (180, 181), (179, 180), (172, 173), (177, 178), (176, 177), (175, 176), (174, 175), (173, 174), (171, 172), (170, 171), (161, 170), (152, 161), (151, 152), (150, 151), (149, 150), (0, 1), (8, 9), (11, 12), (10, 11), (9, 10), (4, 5), (7, 8), (6, 7), (5, 6), (39, 40), (147, 148), (146, 147), (145, 146), (144, 145), (143, 144), (142, 143), (141, 142), (140, 141), (131, 140), (123, 131), (114, 123), (105, 114), (97, 105), (40, 97), (37, 38), (38, 39), (18, 19), (19, 20), (22, 23), (23, 24), (16, 17), (17, 18), (24, 25), (36, 37), (35, 36), (34, 35), (33, 34), (32, 33), (31, 32), (30, 31), (25, 30), (20, 21), (21, 22), (14, 15), (15, 16), (12, 13), (13, 14), (3, 4), (2, 3), (1, 2)] := hL
  have hP : va_P g.1 vcl ([(h0, .inr (12, [.null, .ref q21, .ref q22, .ref q23, .ref q24, .ref q25, .ref q26, .ref q27, .ref q28, .ref q29, .null, .null, .null, .null, .null, .null, .null, .null, .null, .null, .null, .null, .null, .int 0, .int 0, .int 0, .int 0, .int 0, .int 0, .int 0, .int 0]))] ++ pl) _ := hP
  have hD : va_D _ ([(h0, .inr (12, [.null, .ref q21, .ref q22, .ref q23, .ref q24, .ref q25, .ref q26, .ref q27, .ref q28, .ref q29, .null, .null, .null, .null, .null, .null, .null, .null, .null, .null, .null, .null, .null, .int 0, .int 0, .int 0, .int 0, .int 0, .int 0, .int 0, .int 0]))] ++ pl) := hD
  refine W.widen (k := 136) (n := 32641) (by omega) (by omega) ?_
  refine va_putF (D := g.1) (ci := 12) (v := .ref q30) (ty := .array (.array .int)) (C := "LatticeKeysModel$Hands") (T := T_MH) (N := 31) hx hb hts (wg_ft i_MH) ty_MH k_MH n_MH hown hK hP hD hS 0 rfl rfl 10 (by decide) (hts _ (wg_t kw_1442)) (fun _ h9 => h9) rfl hnm rfl (by decide +kernel) rfl rfl (Nat.le_of_ble_eq_true rfl) dMH_init_137 (fun H locs hP hD hS => ?_)
  have hP : va_P g.1 vcl ([(h0, .inr (12, [.null, .ref q21, .ref q22, .ref q23, .ref q24, .ref q25, .ref q26, .ref q27, .ref q28, .ref q29, .ref q30, .null, .null, .null, .null, .null, .null, .null, .null, .null, .null, .null, .null, .int 0, .int 0, .int 0, .int 0, .int 0, .int 0, .int 0, .int 0]))] ++ pl) _ := hP
  have hD : va_D _ ([(h0, .inr (12, [.null, .ref q21, .ref q22, .ref q23, .ref q24, .ref q25, .ref q26, .ref q27, .ref q28, .ref q29, .ref q30, .null, .null, .null, .null, .null, .null, .null, .null, .null, .null, .null, .null, .int 0, .int 0, .int 0, .int 0, .int 0, .int 0, .int 0, .int 0]))] ++ pl) := hD
  refine lv_aload_n hx hb dMH_init_140 rfl (lv_at hl 0 rfl) ?_
  refine lv_bipush (v := nI 8) hx hb dMH_init_141 (by decide) ?_
  refine lv_sipush (v := nI 256) hx hb dMH_init_143 (by decide) ?_
  refine nm_mnai (X := [(h0, .inr (12, [.null, .ref q21, .ref q22, .ref q23, .ref q24, .ref q25, .ref q26, .ref q27, .ref q28, .ref q29, .ref q30, .null, .null, .null, .null, .null, .null, .null, .null, .null, .null, .null, .null, .int 0, .int 0, .int 0, .int 0, .int 0, .int 0, .int 0, .int 0]))]) hx hb hown (hts _ (wg_t kw_1431)) hE.2.2.2.2.2.1 (hts _ (wg_t kw_104)) hK hP hD hS hA hO hU hL 359 (by decide +kernel) rfl (by decide +kernel) (by decide) (Nat.le_of_ble_eq_true rfl) (Nat.le_of_ble_eq_true rfl) dMH_init_146 (fun q31 T pl H hxt33 hU kr111 hO hP hD hS hL => ?_)
  have kr112 := hxt33 _ _ kr99
  have kr113 := hxt33 _ _ kr100
  have kr114 := hxt33 _ _ kr101
  have kr115 := hxt33 _ _ kr102
  have kr116 := hxt33 _ _ kr103
  have kr117 := hxt33 _ _ kr104
  have kr118 := hxt33 _ _ kr105
  have kr119 := hxt33 _ _ kr106
  have kr120 := hxt33 _ _ kr107
  have kr121 := hxt33 _ _ kr108
  have kr122 := hxt33 _ _ kr109
  have kr123 := hxt33 _ _ kr110
  have kr124 := hxt33 _ _ kr98
  have hXT := extN_tr hXT hxt33
  have hL : nmL T [(359, 368), (350, 359), (342, 350), (334, 342), (326, 334), (317, 326), (308, 317), (299, 308), (291, 299), (226, 291), (181, 182), (183, 184), (182, 183), (184, 185), (224, 225), (223, 224), (222, 223), (221, 222), (220, 221), (219, 220), (218, 219), (217, 218), (212, 217), (207, 212), (202, 207), (185, 202), (178, 179), (180, 181), (179, 180), (172, 173), (177, 178), (176, 177), (175, 176), (174, 175), (173, 174), (171, 172), (170, 171), (161, 170), (152, 161), (151, 152), (150, 151), (149, 150), (0, 1), (8, 9), (11, 12), (10, 11), (9, 10), (4, 5), (7, 8), (6, 7), (5, 6), (39, 40), (147, 148), (146, 147), (145, 146), (144, 145), (143, 144), (142, 143), (141, 142), (140, 141), (131, 140), (123, 131), (114, 123), (105, 114), (97, 105), (40, 97), (37, 38), (38, 39), (18, 19), (19, 20), (22, 23), (23, 24), (16, 17), (17, 18), (24, 25), (36, 37), (35, 36), (34, 35), (33, 34), (32, 33), (31, 32), (30, 31), (25, 30), (20, 21), (21, 22), (14, 15), (15, 16), (12, 13), (13, 14), (3, 4), (2, 3), (1, 2)] := hL
  have hP : va_P g.1 vcl ([(h0, .inr (12, [.null, .ref q21, .ref q22, .ref q23, .ref q24, .ref q25, .ref q26, .ref q27, .ref q28, .ref q29, .ref q30, .null, .null, .null, .null, .null, .null, .null, .null, .null, .null, .null, .null, .int 0, .int 0, .int 0, .int 0, .int 0, .int 0, .int 0, .int 0]))] ++ pl) _ := hP
  have hD : va_D _ ([(h0, .inr (12, [.null, .ref q21, .ref q22, .ref q23, .ref q24, .ref q25, .ref q26, .ref q27, .ref q28, .ref q29, .ref q30, .null, .null, .null, .null, .null, .null, .null, .null, .null, .null, .null, .null, .int 0, .int 0, .int 0, .int 0, .int 0, .int 0, .int 0, .int 0]))] ++ pl) := hD
  refine W.widen (k := 145) (n := 34697) (by omega) (by omega) ?_
  refine va_putF (D := g.1) (ci := 12) (v := .ref q31) (ty := .array (.array .int)) (C := "LatticeKeysModel$Hands") (T := T_MH) (N := 31) hx hb hts (wg_ft i_MH) ty_MH k_MH n_MH hown hK hP hD hS 0 rfl rfl 11 (by decide) (hts _ (wg_t kw_1443)) (fun _ h9 => h9) rfl hnm rfl (by decide +kernel) rfl rfl (Nat.le_of_ble_eq_true rfl) dMH_init_150 (fun H locs hP hD hS => ?_)
  have hP : va_P g.1 vcl ([(h0, .inr (12, [.null, .ref q21, .ref q22, .ref q23, .ref q24, .ref q25, .ref q26, .ref q27, .ref q28, .ref q29, .ref q30, .ref q31, .null, .null, .null, .null, .null, .null, .null, .null, .null, .null, .null, .int 0, .int 0, .int 0, .int 0, .int 0, .int 0, .int 0, .int 0]))] ++ pl) _ := hP
  have hD : va_D _ ([(h0, .inr (12, [.null, .ref q21, .ref q22, .ref q23, .ref q24, .ref q25, .ref q26, .ref q27, .ref q28, .ref q29, .ref q30, .ref q31, .null, .null, .null, .null, .null, .null, .null, .null, .null, .null, .null, .int 0, .int 0, .int 0, .int 0, .int 0, .int 0, .int 0, .int 0]))] ++ pl) := hD
  refine lv_aload_n hx hb dMH_init_153 rfl (lv_at hl 0 rfl) ?_
  refine lv_sipush (v := nI 256) hx hb dMH_init_154 (by decide) ?_
  refine ma_newa (ws := [(h0, .inr (12, [.null, .ref q21, .ref q22, .ref q23, .ref q24, .ref q25, .ref q26, .ref q27, .ref q28, .ref q29, .ref q30, .ref q31, .null, .null, .null, .null, .null, .null, .null, .null, .null, .null, .null, .int 0, .int 0, .int 0, .int 0, .int 0, .int 0, .int 0, .int 0]))] ++ pl) (atype := .int) hx hb (hts _ (wg_t kw_104)) rfl hK hP hD hS hA 0 rfl (N' := 256) (a0 := (256, .inl (fun _ => 0))) (fun _ => rfl) (nI_pos (by omega)) (nI_clamp (by omega)) (by show (256) * 4 ≤ 536870912; omega) (Nat.le_of_ble_eq_true rfl) (Nat.le_of_ble_eq_true rfl) dMH_init_157 (fun q32 H hP hD hS => ?_)
  refine W.widen (k := 146) (n := 34953) (by omega) (by omega) ?_
  obtain ⟨T, pl, hxt34, hU, kr125, hO, hP, hD, hL⟩ := absorbX (X := [(h0, .inr (12, [.null, .ref q21, .ref q22, .ref q23, .ref q24, .ref q25, .ref q26, .ref q27, .ref q28, .ref q29, .ref q30, .ref q31, .null, .null, .null, .null, .null, .null, .null, .null, .null, .null, .null, .int 0, .int 0, .int 0, .int 0, .int 0, .int 0, .int 0, .int 0]))]) 368 hP hD hO hU hL rfl (fun _ _ _ => fit0 (k := 368) rfl)
  have kr126 := hxt34 _ _ kr112
  have kr127 := hxt34 _ _ kr113
  have kr128 := hxt34 _ _ kr114
  have kr129 := hxt34 _ _ kr115
  have kr130 := hxt34 _ _ kr116
  have kr131 := hxt34 _ _ kr117
  have kr132 := hxt34 _ _ kr118
  have kr133 := hxt34 _ _ kr119
  have kr134 := hxt34 _ _ kr120
  have kr135 := hxt34 _ _ kr121
  have kr136 := hxt34 _ _ kr122
  have kr137 := hxt34 _ _ kr123
  have kr138 := hxt34 _ _ kr124
  have kr139 := hxt34 _ _ kr111
  have hXT := extN_tr hXT hxt34
  have hL : nmL T [(368, 369), (359, 368), (350, 359), (342, 350), (334, 342), (326, 334), (317, 326), (308, 317), (299, 308), (291, 299), (226, 291), (181, 182), (183, 184), (182, 183), (184, 185), (224, 225), (223, 224), (222, 223), (221, 222), (220, 221), (219, 220), (218, 219), (217, 218), (212, 217), (207, 212), (202, 207), (185, 202), (178, 179), (180, 181), (179, 180), (172, 173), (177, 178), (176, 177), (175, 176), (174, 175), (173, 174), (171, 172), (170, 171), (161, 170), (152, 161), (151, 152), (150, 151), (149, 150), (0, 1), (8, 9), (11, 12), (10, 11), (9, 10), (4, 5), (7, 8), (6, 7), (5, 6), (39, 40), (147, 148), (146, 147), (145, 146), (144, 145), (143, 144), (142, 143), (141, 142), (140, 141), (131, 140), (123, 131), (114, 123), (105, 114), (97, 105), (40, 97), (37, 38), (38, 39), (18, 19), (19, 20), (22, 23), (23, 24), (16, 17), (17, 18), (24, 25), (36, 37), (35, 36), (34, 35), (33, 34), (32, 33), (31, 32), (30, 31), (25, 30), (20, 21), (21, 22), (14, 15), (15, 16), (12, 13), (13, 14), (3, 4), (2, 3), (1, 2)] := hL
  have hP : va_P g.1 vcl ([(h0, .inr (12, [.null, .ref q21, .ref q22, .ref q23, .ref q24, .ref q25, .ref q26, .ref q27, .ref q28, .ref q29, .ref q30, .ref q31, .null, .null, .null, .null, .null, .null, .null, .null, .null, .null, .null, .int 0, .int 0, .int 0, .int 0, .int 0, .int 0, .int 0, .int 0]))] ++ pl) _ := hP
  have hD : va_D _ ([(h0, .inr (12, [.null, .ref q21, .ref q22, .ref q23, .ref q24, .ref q25, .ref q26, .ref q27, .ref q28, .ref q29, .ref q30, .ref q31, .null, .null, .null, .null, .null, .null, .null, .null, .null, .null, .null, .int 0, .int 0, .int 0, .int 0, .int 0, .int 0, .int 0, .int 0]))] ++ pl) := hD
  refine va_putF (D := g.1) (ci := 12) (v := .ref q32) (ty := .array .int) (C := "LatticeKeysModel$Hands") (T := T_MH) (N := 31) hx hb hts (wg_ft i_MH) ty_MH k_MH n_MH hown hK hP hD hS 0 rfl rfl 12 (by decide) (hts _ (wg_t kw_1444)) (fun _ h9 => h9) rfl hnm rfl (by decide +kernel) rfl rfl (Nat.le_of_ble_eq_true rfl) dMH_init_159 (fun H locs hP hD hS => ?_)
  have hP : va_P g.1 vcl ([(h0, .inr (12, [.null, .ref q21, .ref q22, .ref q23, .ref q24, .ref q25, .ref q26, .ref q27, .ref q28, .ref q29, .ref q30, .ref q31, .ref q32, .null, .null, .null, .null, .null, .null, .null, .null, .null, .null, .int 0, .int 0, .int 0, .int 0, .int 0, .int 0, .int 0, .int 0]))] ++ pl) _ := hP
  have hD : va_D _ ([(h0, .inr (12, [.null, .ref q21, .ref q22, .ref q23, .ref q24, .ref q25, .ref q26, .ref q27, .ref q28, .ref q29, .ref q30, .ref q31, .ref q32, .null, .null, .null, .null, .null, .null, .null, .null, .null, .null, .int 0, .int 0, .int 0, .int 0, .int 0, .int 0, .int 0, .int 0]))] ++ pl) := hD
  refine lv_aload_n hx hb dMH_init_162 rfl (lv_at hl 0 rfl) ?_
  refine lv_sipush (v := nI 256) hx hb dMH_init_163 (by decide) ?_
  refine ma_newa (ws := [(h0, .inr (12, [.null, .ref q21, .ref q22, .ref q23, .ref q24, .ref q25, .ref q26, .ref q27, .ref q28, .ref q29, .ref q30, .ref q31, .ref q32, .null, .null, .null, .null, .null, .null, .null, .null, .null, .null, .int 0, .int 0, .int 0, .int 0, .int 0, .int 0, .int 0, .int 0]))] ++ pl) (atype := .int) hx hb (hts _ (wg_t kw_104)) rfl hK hP hD hS hA 0 rfl (N' := 256) (a0 := (256, .inl (fun _ => 0))) (fun _ => rfl) (nI_pos (by omega)) (nI_clamp (by omega)) (by show (256) * 4 ≤ 536870912; omega) (Nat.le_of_ble_eq_true rfl) (Nat.le_of_ble_eq_true rfl) dMH_init_166 (fun q33 H hP hD hS => ?_)
  refine W.widen (k := 147) (n := 35209) (by omega) (by omega) ?_
  obtain ⟨T, pl, hxt35, hU, kr140, hO, hP, hD, hL⟩ := absorbX (X := [(h0, .inr (12, [.null, .ref q21, .ref q22, .ref q23, .ref q24, .ref q25, .ref q26, .ref q27, .ref q28, .ref q29, .ref q30, .ref q31, .ref q32, .null, .null, .null, .null, .null, .null, .null, .null, .null, .null, .int 0, .int 0, .int 0, .int 0, .int 0, .int 0, .int 0, .int 0]))]) 369 hP hD hO hU hL rfl (fun _ _ _ => fit0 (k := 369) rfl)
  have kr141 := hxt35 _ _ kr126
  have kr142 := hxt35 _ _ kr127
  have kr143 := hxt35 _ _ kr128
  have kr144 := hxt35 _ _ kr129
  have kr145 := hxt35 _ _ kr130
  have kr146 := hxt35 _ _ kr131
  have kr147 := hxt35 _ _ kr132
  have kr148 := hxt35 _ _ kr133
  have kr149 := hxt35 _ _ kr134
  have kr150 := hxt35 _ _ kr135
  have kr151 := hxt35 _ _ kr136
  have kr152 := hxt35 _ _ kr137
  have kr153 := hxt35 _ _ kr138
  have kr154 := hxt35 _ _ kr139
  have kr155 := hxt35 _ _ kr125
  have hXT := extN_tr hXT hxt35
  have hL : nmL T [(369, 370), (368, 369), (359, 368), (350, 359), (342, 350), (334, 342), (326, 334), (317, 326), (308, 317), (299, 308), (291, 299), (226, 291), (181, 182), (183, 184), (182, 183), (184, 185), (224, 225), (223, 224), (222, 223), (221, 222), (220, 221), (219, 220), (218, 219), (217, 218), (212, 217), (207, 212), (202, 207), (185, 202), (178, 179), (180, 181), (179, 180), (172, 173), (177, 178), (176, 177), (175, 176), (174, 175), (173, 174), (171, 172), (170, 171), (161, 170), (152, 161), (151, 152), (150, 151), (149, 150), (0, 1), (8, 9), (11, 12), (10, 11), (9, 10), (4, 5), (7, 8), (6, 7), (5, 6), (39, 40), (147, 148), (146, 147), (145, 146), (144, 145), (143, 144), (142, 143), (141, 142), (140, 141), (131, 140), (123, 131), (114, 123), (105, 114), (97, 105), (40, 97), (37, 38), (38, 39), (18, 19), (19, 20), (22, 23), (23, 24), (16, 17), (17, 18), (24, 25), (36, 37), (35, 36), (34, 35), (33, 34), (32, 33), (31, 32), (30, 31), (25, 30), (20, 21), (21, 22), (14, 15), (15, 16), (12, 13), (13, 14), (3, 4), (2, 3), (1, 2)] := hL
  have hP : va_P g.1 vcl ([(h0, .inr (12, [.null, .ref q21, .ref q22, .ref q23, .ref q24, .ref q25, .ref q26, .ref q27, .ref q28, .ref q29, .ref q30, .ref q31, .ref q32, .null, .null, .null, .null, .null, .null, .null, .null, .null, .null, .int 0, .int 0, .int 0, .int 0, .int 0, .int 0, .int 0, .int 0]))] ++ pl) _ := hP
  have hD : va_D _ ([(h0, .inr (12, [.null, .ref q21, .ref q22, .ref q23, .ref q24, .ref q25, .ref q26, .ref q27, .ref q28, .ref q29, .ref q30, .ref q31, .ref q32, .null, .null, .null, .null, .null, .null, .null, .null, .null, .null, .int 0, .int 0, .int 0, .int 0, .int 0, .int 0, .int 0, .int 0]))] ++ pl) := hD
  refine va_putF (D := g.1) (ci := 12) (v := .ref q33) (ty := .array .int) (C := "LatticeKeysModel$Hands") (T := T_MH) (N := 31) hx hb hts (wg_ft i_MH) ty_MH k_MH n_MH hown hK hP hD hS 0 rfl rfl 13 (by decide) (hts _ (wg_t kw_1445)) (fun _ h9 => h9) rfl hnm rfl (by decide +kernel) rfl rfl (Nat.le_of_ble_eq_true rfl) dMH_init_168 (fun H locs hP hD hS => ?_)
  have hP : va_P g.1 vcl ([(h0, .inr (12, [.null, .ref q21, .ref q22, .ref q23, .ref q24, .ref q25, .ref q26, .ref q27, .ref q28, .ref q29, .ref q30, .ref q31, .ref q32, .ref q33, .null, .null, .null, .null, .null, .null, .null, .null, .null, .int 0, .int 0, .int 0, .int 0, .int 0, .int 0, .int 0, .int 0]))] ++ pl) _ := hP
  have hD : va_D _ ([(h0, .inr (12, [.null, .ref q21, .ref q22, .ref q23, .ref q24, .ref q25, .ref q26, .ref q27, .ref q28, .ref q29, .ref q30, .ref q31, .ref q32, .ref q33, .null, .null, .null, .null, .null, .null, .null, .null, .null, .int 0, .int 0, .int 0, .int 0, .int 0, .int 0, .int 0, .int 0]))] ++ pl) := hD
  refine lv_aload_n hx hb dMH_init_171 rfl (lv_at hl 0 rfl) ?_
  refine lv_sipush (v := nI 256) hx hb dMH_init_172 (by decide) ?_
  refine ma_newa (ws := [(h0, .inr (12, [.null, .ref q21, .ref q22, .ref q23, .ref q24, .ref q25, .ref q26, .ref q27, .ref q28, .ref q29, .ref q30, .ref q31, .ref q32, .ref q33, .null, .null, .null, .null, .null, .null, .null, .null, .null, .int 0, .int 0, .int 0, .int 0, .int 0, .int 0, .int 0, .int 0]))] ++ pl) (atype := .int) hx hb (hts _ (wg_t kw_104)) rfl hK hP hD hS hA 0 rfl (N' := 256) (a0 := (256, .inl (fun _ => 0))) (fun _ => rfl) (nI_pos (by omega)) (nI_clamp (by omega)) (by show (256) * 4 ≤ 536870912; omega) (Nat.le_of_ble_eq_true rfl) (Nat.le_of_ble_eq_true rfl) dMH_init_175 (fun q34 H hP hD hS => ?_)
  refine W.widen (k := 148) (n := 35465) (by omega) (by omega) ?_
  obtain ⟨T, pl, hxt36, hU, kr156, hO, hP, hD, hL⟩ := absorbX (X := [(h0, .inr (12, [.null, .ref q21, .ref q22, .ref q23, .ref q24, .ref q25, .ref q26, .ref q27, .ref q28, .ref q29, .ref q30, .ref q31, .ref q32, .ref q33, .null, .null, .null, .null, .null, .null, .null, .null, .null, .int 0, .int 0, .int 0, .int 0, .int 0, .int 0, .int 0, .int 0]))]) 370 hP hD hO hU hL rfl (fun _ _ _ => fit0 (k := 370) rfl)
  have kr157 := hxt36 _ _ kr141
  have kr158 := hxt36 _ _ kr142
  have kr159 := hxt36 _ _ kr143
  have kr160 := hxt36 _ _ kr144
  have kr161 := hxt36 _ _ kr145
  have kr162 := hxt36 _ _ kr146
  have kr163 := hxt36 _ _ kr147
  have kr164 := hxt36 _ _ kr148
  have kr165 := hxt36 _ _ kr149
  have kr166 := hxt36 _ _ kr150
  have kr167 := hxt36 _ _ kr151
  have kr168 := hxt36 _ _ kr152
  have kr169 := hxt36 _ _ kr153
  have kr170 := hxt36 _ _ kr154
  have kr171 := hxt36 _ _ kr155
  have kr172 := hxt36 _ _ kr140
  have hXT := extN_tr hXT hxt36
  have hL : nmL T [(370, 371), (369, 370), (368, 369), (359, 368), (350, 359), (342, 350), (334, 342), (326, 334), (317, 326), (308, 317), (299, 308), (291, 299), (226, 291), (181, 182), (183, 184), (182, 183), (184, 185), (224, 225), (223, 224), (222, 223), (221, 222), (220, 221), (219, 220), (218, 219), (217, 218), (212, 217), (207, 212), (202, 207), (185, 202), (178, 179), (180, 181), (179, 180), (172, 173), (177, 178), (176, 177), (175, 176), (174, 175), (173, 174), (171, 172), (170, 171), (161, 170), (152, 161), (151, 152), (150, 151), (149, 150), (0, 1), (8, 9), (11, 12), (10, 11), (9, 10), (4, 5), (7, 8), (6, 7), (5, 6), (39, 40), (147, 148), (146, 147), (145, 146), (144, 145), (143, 144), (142, 143), (141, 142), (140, 141), (131, 140), (123, 131), (114, 123), (105, 114), (97, 105), (40, 97), (37, 38), (38, 39), (18, 19), (19, 20), (22, 23), (23, 24), (16, 17), (17, 18), (24, 25), (36, 37), (35, 36), (34, 35), (33, 34), (32, 33), (31, 32), (30, 31), (25, 30), (20, 21), (21, 22), (14, 15), (15, 16), (12, 13), (13, 14), (3, 4), (2, 3), (1, 2)] := hL
  have hP : va_P g.1 vcl ([(h0, .inr (12, [.null, .ref q21, .ref q22, .ref q23, .ref q24, .ref q25, .ref q26, .ref q27, .ref q28, .ref q29, .ref q30, .ref q31, .ref q32, .ref q33, .null, .null, .null, .null, .null, .null, .null, .null, .null, .int 0, .int 0, .int 0, .int 0, .int 0, .int 0, .int 0, .int 0]))] ++ pl) _ := hP
  have hD : va_D _ ([(h0, .inr (12, [.null, .ref q21, .ref q22, .ref q23, .ref q24, .ref q25, .ref q26, .ref q27, .ref q28, .ref q29, .ref q30, .ref q31, .ref q32, .ref q33, .null, .null, .null, .null, .null, .null, .null, .null, .null, .int 0, .int 0, .int 0, .int 0, .int 0, .int 0, .int 0, .int 0]))] ++ pl) := hD
  refine va_putF (D := g.1) (ci := 12) (v := .ref q34) (ty := .array .int) (C := "LatticeKeysModel$Hands") (T := T_MH) (N := 31) hx hb hts (wg_ft i_MH) ty_MH k_MH n_MH hown hK hP hD hS 0 rfl rfl 14 (by decide) (hts _ (wg_t kw_1446)) (fun _ h9 => h9) rfl hnm rfl (by decide +kernel) rfl rfl (Nat.le_of_ble_eq_true rfl) dMH_init_177 (fun H locs hP hD hS => ?_)
  have hP : va_P g.1 vcl ([(h0, .inr (12, [.null, .ref q21, .ref q22, .ref q23, .ref q24, .ref q25, .ref q26, .ref q27, .ref q28, .ref q29, .ref q30, .ref q31, .ref q32, .ref q33, .ref q34, .null, .null, .null, .null, .null, .null, .null, .null, .int 0, .int 0, .int 0, .int 0, .int 0, .int 0, .int 0, .int 0]))] ++ pl) _ := hP
  have hD : va_D _ ([(h0, .inr (12, [.null, .ref q21, .ref q22, .ref q23, .ref q24, .ref q25, .ref q26, .ref q27, .ref q28, .ref q29, .ref q30, .ref q31, .ref q32, .ref q33, .ref q34, .null, .null, .null, .null, .null, .null, .null, .null, .int 0, .int 0, .int 0, .int 0, .int 0, .int 0, .int 0, .int 0]))] ++ pl) := hD
  refine lv_aload_n hx hb dMH_init_180 rfl (lv_at hl 0 rfl) ?_
  refine lv_sipush (v := nI 256) hx hb dMH_init_181 (by decide) ?_
  refine ma_newa (ws := [(h0, .inr (12, [.null, .ref q21, .ref q22, .ref q23, .ref q24, .ref q25, .ref q26, .ref q27, .ref q28, .ref q29, .ref q30, .ref q31, .ref q32, .ref q33, .ref q34, .null, .null, .null, .null, .null, .null, .null, .null, .int 0, .int 0, .int 0, .int 0, .int 0, .int 0, .int 0, .int 0]))] ++ pl) (atype := .long) hx hb (hts _ (wg_t kw_73)) rfl hK hP hD hS hA 2 rfl (N' := 256) (a0 := (256, .inr (.inl (fun _ => 0)))) (fun _ => rfl) (nI_pos (by omega)) (nI_clamp (by omega)) (by show (256) * 8 ≤ 536870912; omega) (Nat.le_of_ble_eq_true rfl) (Nat.le_of_ble_eq_true rfl) dMH_init_184 (fun q35 H hP hD hS => ?_)
  refine W.widen (k := 149) (n := 35721) (by omega) (by omega) ?_
  obtain ⟨T, pl, hxt37, hU, kr173, hO, hP, hD, hL⟩ := absorbX (X := [(h0, .inr (12, [.null, .ref q21, .ref q22, .ref q23, .ref q24, .ref q25, .ref q26, .ref q27, .ref q28, .ref q29, .ref q30, .ref q31, .ref q32, .ref q33, .ref q34, .null, .null, .null, .null, .null, .null, .null, .null, .int 0, .int 0, .int 0, .int 0, .int 0, .int 0, .int 0, .int 0]))]) 371 hP hD hO hU hL rfl (fun _ _ _ => fit2 (k := 371) rfl)
  have kr174 := hxt37 _ _ kr157
  have kr175 := hxt37 _ _ kr158
  have kr176 := hxt37 _ _ kr159
  have kr177 := hxt37 _ _ kr160
  have kr178 := hxt37 _ _ kr161
  have kr179 := hxt37 _ _ kr162
  have kr180 := hxt37 _ _ kr163
  have kr181 := hxt37 _ _ kr164
  have kr182 := hxt37 _ _ kr165
  have kr183 := hxt37 _ _ kr166
  have kr184 := hxt37 _ _ kr167
  have kr185 := hxt37 _ _ kr168
  have kr186 := hxt37 _ _ kr169
  have kr187 := hxt37 _ _ kr170
  have kr188 := hxt37 _ _ kr171
  have kr189 := hxt37 _ _ kr172
  have kr190 := hxt37 _ _ kr156
  have hXT := extN_tr hXT hxt37
  have hL : nmL T [(371, 372), (370, 371), (369, 370), (368, 369), (359, 368), (350, 359), (342, 350), (334, 342), (326, 334), (317, 326), (308, 317), (299, 308), (291, 299), (226, 291), (181, 182), (183, 184), (182, 183), (184, 185), (224, 225), (223, 224), (222, 223), (221, 222), (220, 221), (219, 220), (218, 219), (217, 218), (212, 217), (207, 212), (202, 207), (185, 202), (178, 179), (180, 181), (179, 180), (172, 173), (177, 178), (176, 177), (175, 176), (174, 175), (173, 174), (171, 172), (170, 171), (161, 170), (152, 161), (151, 152), (150, 151), (149, 150), (0, 1), (8, 9), (11, 12), (10, 11), (9, 10), (4, 5), (7, 8), (6, 7), (5, 6), (39, 40), (147, 148), (146, 147), (145, 146), (144, 145), (143, 144), (142, 143), (141, 142), (140, 141), (131, 140), (123, 131), (114, 123), (105, 114), (97, 105), (40, 97), (37, 38), (38, 39), (18, 19), (19, 20), (22, 23), (23, 24), (16, 17), (17, 18), (24, 25), (36, 37), (35, 36), (34, 35), (33, 34), (32, 33), (31, 32), (30, 31), (25, 30), (20, 21), (21, 22), (14, 15), (15, 16), (12, 13), (13, 14), (3, 4), (2, 3), (1, 2)] := hL
  have hP : va_P g.1 vcl ([(h0, .inr (12, [.null, .ref q21, .ref q22, .ref q23, .ref q24, .ref q25, .ref q26, .ref q27, .ref q28, .ref q29, .ref q30, .ref q31, .ref q32, .ref q33, .ref q34, .null, .null, .null, .null, .null, .null, .null, .null, .int 0, .int 0, .int 0, .int 0, .int 0, .int 0, .int 0, .int 0]))] ++ pl) _ := hP
  have hD : va_D _ ([(h0, .inr (12, [.null, .ref q21, .ref q22, .ref q23, .ref q24, .ref q25, .ref q26, .ref q27, .ref q28, .ref q29, .ref q30, .ref q31, .ref q32, .ref q33, .ref q34, .null, .null, .null, .null, .null, .null, .null, .null, .int 0, .int 0, .int 0, .int 0, .int 0, .int 0, .int 0, .int 0]))] ++ pl) := hD
  refine va_putF (D := g.1) (ci := 12) (v := .ref q35) (ty := .array .long) (C := "LatticeKeysModel$Hands") (T := T_MH) (N := 31) hx hb hts (wg_ft i_MH) ty_MH k_MH n_MH hown hK hP hD hS 0 rfl rfl 15 (by decide) (hts _ (wg_t kw_1447)) (fun _ h9 => h9) rfl hnm rfl (by decide +kernel) rfl rfl (Nat.le_of_ble_eq_true rfl) dMH_init_186 (fun H locs hP hD hS => ?_)
  have hP : va_P g.1 vcl ([(h0, .inr (12, [.null, .ref q21, .ref q22, .ref q23, .ref q24, .ref q25, .ref q26, .ref q27, .ref q28, .ref q29, .ref q30, .ref q31, .ref q32, .ref q33, .ref q34, .ref q35, .null, .null, .null, .null, .null, .null, .null, .int 0, .int 0, .int 0, .int 0, .int 0, .int 0, .int 0, .int 0]))] ++ pl) _ := hP
  have hD : va_D _ ([(h0, .inr (12, [.null, .ref q21, .ref q22, .ref q23, .ref q24, .ref q25, .ref q26, .ref q27, .ref q28, .ref q29, .ref q30, .ref q31, .ref q32, .ref q33, .ref q34, .ref q35, .null, .null, .null, .null, .null, .null, .null, .int 0, .int 0, .int 0, .int 0, .int 0, .int 0, .int 0, .int 0]))] ++ pl) := hD
  refine lv_aload_n hx hb dMH_init_189 rfl (lv_at hl 0 rfl) ?_
  refine lv_sipush (v := nI 128) hx hb dMH_init_190 (by decide) ?_
  refine ma_newa (ws := [(h0, .inr (12, [.null, .ref q21, .ref q22, .ref q23, .ref q24, .ref q25, .ref q26, .ref q27, .ref q28, .ref q29, .ref q30, .ref q31, .ref q32, .ref q33, .ref q34, .ref q35, .null, .null, .null, .null, .null, .null, .null, .int 0, .int 0, .int 0, .int 0, .int 0, .int 0, .int 0, .int 0]))] ++ pl) (atype := .byte) hx hb (hts _ (wg_t kw_72)) rfl hK hP hD hS hA 1 rfl (N' := 128) (a0 := (128, .inl (fun _ => 0))) (fun _ => rfl) (nI_pos (by omega)) (nI_clamp (by omega)) (by show (128) * 1 ≤ 536870912; omega) (Nat.le_of_ble_eq_true rfl) (Nat.le_of_ble_eq_true rfl) dMH_init_193 (fun q36 H hP hD hS => ?_)
  refine W.widen (k := 150) (n := 35849) (by omega) (by omega) ?_
  obtain ⟨T, pl, hxt38, hU, kr191, hO, hP, hD, hL⟩ := absorbX (X := [(h0, .inr (12, [.null, .ref q21, .ref q22, .ref q23, .ref q24, .ref q25, .ref q26, .ref q27, .ref q28, .ref q29, .ref q30, .ref q31, .ref q32, .ref q33, .ref q34, .ref q35, .null, .null, .null, .null, .null, .null, .null, .int 0, .int 0, .int 0, .int 0, .int 0, .int 0, .int 0, .int 0]))]) 372 hP hD hO hU hL rfl (fun _ _ _ => fit1 (k := 372) rfl)
  have kr192 := hxt38 _ _ kr174
  have kr193 := hxt38 _ _ kr175
  have kr194 := hxt38 _ _ kr176
  have kr195 := hxt38 _ _ kr177
  have kr196 := hxt38 _ _ kr178
  have kr197 := hxt38 _ _ kr179
  have kr198 := hxt38 _ _ kr180
  have kr199 := hxt38 _ _ kr181
  have kr200 := hxt38 _ _ kr182
  have kr201 := hxt38 _ _ kr183
  have kr202 := hxt38 _ _ kr184
  have kr203 := hxt38 _ _ kr185
  have kr204 := hxt38 _ _ kr186
  have kr205 := hxt38 _ _ kr187
  have kr206 := hxt38 _ _ kr188
  have kr207 := hxt38 _ _ kr189
  have kr208 := hxt38 _ _ kr190
  have kr209 := hxt38 _ _ kr173
  have hXT := extN_tr hXT hxt38
  have hL : nmL T [(372, 373), (371, 372), (370, 371), (369, 370), (368, 369), (359, 368), (350, 359), (342, 350), (334, 342), (326, 334), (317, 326), (308, 317), (299, 308), (291, 299), (226, 291), (181, 182), (183, 184), (182, 183), (184, 185), (224, 225), (223, 224), (222, 223), (221, 222), (220, 221), (219, 220), (218, 219), (217, 218), (212, 217), (207, 212), (202, 207), (185, 202), (178, 179), (180, 181), (179, 180), (172, 173), (177, 178), (176, 177), (175, 176), (174, 175), (173, 174), (171, 172), (170, 171), (161, 170), (152, 161), (151, 152), (150, 151), (149, 150), (0, 1), (8, 9), (11, 12), (10, 11), (9, 10), (4, 5), (7, 8), (6, 7), (5, 6), (39, 40), (147, 148), (146, 147), (145, 146), (144, 145), (143, 144), (142, 143), (141, 142), (140, 141), (131, 140), (123, 131), (114, 123), (105, 114), (97, 105), (40, 97), (37, 38), (38, 39), (18, 19), (19, 20), (22, 23), (23, 24), (16, 17), (17, 18), (24, 25), (36, 37), (35, 36), (34, 35), (33, 34), (32, 33), (31, 32), (30, 31), (25, 30), (20, 21), (21, 22), (14, 15), (15, 16), (12, 13), (13, 14), (3, 4), (2, 3), (1, 2)] := hL
  have hP : va_P g.1 vcl ([(h0, .inr (12, [.null, .ref q21, .ref q22, .ref q23, .ref q24, .ref q25, .ref q26, .ref q27, .ref q28, .ref q29, .ref q30, .ref q31, .ref q32, .ref q33, .ref q34, .ref q35, .null, .null, .null, .null, .null, .null, .null, .int 0, .int 0, .int 0, .int 0, .int 0, .int 0, .int 0, .int 0]))] ++ pl) _ := hP
  have hD : va_D _ ([(h0, .inr (12, [.null, .ref q21, .ref q22, .ref q23, .ref q24, .ref q25, .ref q26, .ref q27, .ref q28, .ref q29, .ref q30, .ref q31, .ref q32, .ref q33, .ref q34, .ref q35, .null, .null, .null, .null, .null, .null, .null, .int 0, .int 0, .int 0, .int 0, .int 0, .int 0, .int 0, .int 0]))] ++ pl) := hD
  refine va_putF (D := g.1) (ci := 12) (v := .ref q36) (ty := .array .byte) (C := "LatticeKeysModel$Hands") (T := T_MH) (N := 31) hx hb hts (wg_ft i_MH) ty_MH k_MH n_MH hown hK hP hD hS 0 rfl rfl 16 (by decide) (hts _ (wg_t kw_1448)) (fun _ h9 => h9) rfl hnm rfl (by decide +kernel) rfl rfl (Nat.le_of_ble_eq_true rfl) dMH_init_195 (fun H locs hP hD hS => ?_)
  have hP : va_P g.1 vcl ([(h0, .inr (12, [.null, .ref q21, .ref q22, .ref q23, .ref q24, .ref q25, .ref q26, .ref q27, .ref q28, .ref q29, .ref q30, .ref q31, .ref q32, .ref q33, .ref q34, .ref q35, .ref q36, .null, .null, .null, .null, .null, .null, .int 0, .int 0, .int 0, .int 0, .int 0, .int 0, .int 0, .int 0]))] ++ pl) _ := hP
  have hD : va_D _ ([(h0, .inr (12, [.null, .ref q21, .ref q22, .ref q23, .ref q24, .ref q25, .ref q26, .ref q27, .ref q28, .ref q29, .ref q30, .ref q31, .ref q32, .ref q33, .ref q34, .ref q35, .ref q36, .null, .null, .null, .null, .null, .null, .int 0, .int 0, .int 0, .int 0, .int 0, .int 0, .int 0, .int 0]))] ++ pl) := hD
  refine lv_aload_n hx hb dMH_init_198 rfl (lv_at hl 0 rfl) ?_
  refine lv_bipush (v := nI 64) hx hb dMH_init_199 (by decide) ?_
  refine ma_newa (ws := [(h0, .inr (12, [.null, .ref q21, .ref q22, .ref q23, .ref q24, .ref q25, .ref q26, .ref q27, .ref q28, .ref q29, .ref q30, .ref q31, .ref q32, .ref q33, .ref q34, .ref q35, .ref q36, .null, .null, .null, .null, .null, .null, .int 0, .int 0, .int 0, .int 0, .int 0, .int 0, .int 0, .int 0]))] ++ pl) (atype := .byte) hx hb (hts _ (wg_t kw_72)) rfl hK hP hD hS hA 1 rfl (N' := 64) (a0 := (64, .inl (fun _ => 0))) (fun _ => rfl) (nI_pos (by omega)) (nI_clamp (by omega)) (by show (64) * 1 ≤ 536870912; omega) (Nat.le_of_ble_eq_true rfl) (Nat.le_of_ble_eq_true rfl) dMH_init_201 (fun q37 H hP hD hS => ?_)
  refine W.widen (k := 151) (n := 35913) (by omega) (by omega) ?_
  obtain ⟨T, pl, hxt39, hU, kr210, hO, hP, hD, hL⟩ := absorbX (X := [(h0, .inr (12, [.null, .ref q21, .ref q22, .ref q23, .ref q24, .ref q25, .ref q26, .ref q27, .ref q28, .ref q29, .ref q30, .ref q31, .ref q32, .ref q33, .ref q34, .ref q35, .ref q36, .null, .null, .null, .null, .null, .null, .int 0, .int 0, .int 0, .int 0, .int 0, .int 0, .int 0, .int 0]))]) 373 hP hD hO hU hL rfl (fun _ _ _ => fit1 (k := 373) rfl)
  have kr211 := hxt39 _ _ kr192
  have kr212 := hxt39 _ _ kr193
  have kr213 := hxt39 _ _ kr194
  have kr214 := hxt39 _ _ kr195
  have kr215 := hxt39 _ _ kr196
  have kr216 := hxt39 _ _ kr197
  have kr217 := hxt39 _ _ kr198
  have kr218 := hxt39 _ _ kr199
  have kr219 := hxt39 _ _ kr200
  have kr220 := hxt39 _ _ kr201
  have kr221 := hxt39 _ _ kr202
  have kr222 := hxt39 _ _ kr203
  have kr223 := hxt39 _ _ kr204
  have kr224 := hxt39 _ _ kr205
  have kr225 := hxt39 _ _ kr206
  have kr226 := hxt39 _ _ kr207
  have kr227 := hxt39 _ _ kr208
  have kr228 := hxt39 _ _ kr209
  have kr229 := hxt39 _ _ kr191
  have hXT := extN_tr hXT hxt39
  have hL : nmL T [(373, 374), (372, 373), (371, 372), (370, 371), (369, 370), (368, 369), (359, 368), (350, 359), (342, 350), (334, 342), (326, 334), (317, 326), (308, 317), (299, 308), (291, 299), (226, 291), (181, 182), (183, 184), (182, 183), (184, 185), (224, 225), (223, 224), (222, 223), (221, 222), (220, 221), (219, 220), (218, 219), (217, 218), (212, 217), (207, 212), (202, 207), (185, 202), (178, 179), (180, 181), (179, 180), (172, 173), (177, 178), (176, 177), (175, 176), (174, 175), (173, 174), (171, 172), (170, 171), (161, 170), (152, 161), (151, 152), (150, 151), (149, 150), (0, 1), (8, 9), (11, 12), (10, 11), (9, 10), (4, 5), (7, 8), (6, 7), (5, 6), (39, 40), (147, 148), (146, 147), (145, 146), (144, 145), (143, 144), (142, 143), (141, 142), (140, 141), (131, 140), (123, 131), (114, 123), (105, 114), (97, 105), (40, 97), (37, 38), (38, 39), (18, 19), (19, 20), (22, 23), (23, 24), (16, 17), (17, 18), (24, 25), (36, 37), (35, 36), (34, 35), (33, 34), (32, 33), (31, 32), (30, 31), (25, 30), (20, 21), (21, 22), (14, 15), (15, 16), (12, 13), (13, 14), (3, 4), (2, 3), (1, 2)] := hL
  have hP : va_P g.1 vcl ([(h0, .inr (12, [.null, .ref q21, .ref q22, .ref q23, .ref q24, .ref q25, .ref q26, .ref q27, .ref q28, .ref q29, .ref q30, .ref q31, .ref q32, .ref q33, .ref q34, .ref q35, .ref q36, .null, .null, .null, .null, .null, .null, .int 0, .int 0, .int 0, .int 0, .int 0, .int 0, .int 0, .int 0]))] ++ pl) _ := hP
  have hD : va_D _ ([(h0, .inr (12, [.null, .ref q21, .ref q22, .ref q23, .ref q24, .ref q25, .ref q26, .ref q27, .ref q28, .ref q29, .ref q30, .ref q31, .ref q32, .ref q33, .ref q34, .ref q35, .ref q36, .null, .null, .null, .null, .null, .null, .int 0, .int 0, .int 0, .int 0, .int 0, .int 0, .int 0, .int 0]))] ++ pl) := hD
  refine va_putF (D := g.1) (ci := 12) (v := .ref q37) (ty := .array .byte) (C := "LatticeKeysModel$Hands") (T := T_MH) (N := 31) hx hb hts (wg_ft i_MH) ty_MH k_MH n_MH hown hK hP hD hS 0 rfl rfl 17 (by decide) (hts _ (wg_t kw_1449)) (fun _ h9 => h9) rfl hnm rfl (by decide +kernel) rfl rfl (Nat.le_of_ble_eq_true rfl) dMH_init_203 (fun H locs hP hD hS => ?_)
  have hP : va_P g.1 vcl ([(h0, .inr (12, [.null, .ref q21, .ref q22, .ref q23, .ref q24, .ref q25, .ref q26, .ref q27, .ref q28, .ref q29, .ref q30, .ref q31, .ref q32, .ref q33, .ref q34, .ref q35, .ref q36, .ref q37, .null, .null, .null, .null, .null, .int 0, .int 0, .int 0, .int 0, .int 0, .int 0, .int 0, .int 0]))] ++ pl) _ := hP
  have hD : va_D _ ([(h0, .inr (12, [.null, .ref q21, .ref q22, .ref q23, .ref q24, .ref q25, .ref q26, .ref q27, .ref q28, .ref q29, .ref q30, .ref q31, .ref q32, .ref q33, .ref q34, .ref q35, .ref q36, .ref q37, .null, .null, .null, .null, .null, .int 0, .int 0, .int 0, .int 0, .int 0, .int 0, .int 0, .int 0]))] ++ pl) := hD
  refine lv_aload_n hx hb dMH_init_206 rfl (lv_at hl 0 rfl) ?_
  refine lv_bipush (v := nI 64) hx hb dMH_init_207 (by decide) ?_
  refine ma_newa (ws := [(h0, .inr (12, [.null, .ref q21, .ref q22, .ref q23, .ref q24, .ref q25, .ref q26, .ref q27, .ref q28, .ref q29, .ref q30, .ref q31, .ref q32, .ref q33, .ref q34, .ref q35, .ref q36, .ref q37, .null, .null, .null, .null, .null, .int 0, .int 0, .int 0, .int 0, .int 0, .int 0, .int 0, .int 0]))] ++ pl) (atype := .byte) hx hb (hts _ (wg_t kw_72)) rfl hK hP hD hS hA 1 rfl (N' := 64) (a0 := (64, .inl (fun _ => 0))) (fun _ => rfl) (nI_pos (by omega)) (nI_clamp (by omega)) (by show (64) * 1 ≤ 536870912; omega) (Nat.le_of_ble_eq_true rfl) (Nat.le_of_ble_eq_true rfl) dMH_init_209 (fun q38 H hP hD hS => ?_)
  refine W.widen (k := 152) (n := 35977) (by omega) (by omega) ?_
  obtain ⟨T, pl, hxt40, hU, kr230, hO, hP, hD, hL⟩ := absorbX (X := [(h0, .inr (12, [.null, .ref q21, .ref q22, .ref q23, .ref q24, .ref q25, .ref q26, .ref q27, .ref q28, .ref q29, .ref q30, .ref q31, .ref q32, .ref q33, .ref q34, .ref q35, .ref q36, .ref q37, .null, .null, .null, .null, .null, .int 0, .int 0, .int 0, .int 0, .int 0, .int 0, .int 0, .int 0]))]) 374 hP hD hO hU hL rfl (fun _ _ _ => fit1 (k := 374) rfl)
  have kr231 := hxt40 _ _ kr211
  have kr232 := hxt40 _ _ kr212
  have kr233 := hxt40 _ _ kr213
  have kr234 := hxt40 _ _ kr214
  have kr235 := hxt40 _ _ kr215
  have kr236 := hxt40 _ _ kr216
  have kr237 := hxt40 _ _ kr217
  have kr238 := hxt40 _ _ kr218
  have kr239 := hxt40 _ _ kr219
  have kr240 := hxt40 _ _ kr220
  have kr241 := hxt40 _ _ kr221
  have kr242 := hxt40 _ _ kr222
  have kr243 := hxt40 _ _ kr223
  have kr244 := hxt40 _ _ kr224
  have kr245 := hxt40 _ _ kr225
  have kr246 := hxt40 _ _ kr226
  have kr247 := hxt40 _ _ kr227
  have kr248 := hxt40 _ _ kr228
  have kr249 := hxt40 _ _ kr229
  have kr250 := hxt40 _ _ kr210
  have hXT := extN_tr hXT hxt40
  have hL : nmL T [(374, 375), (373, 374), (372, 373), (371, 372), (370, 371), (369, 370), (368, 369), (359, 368), (350, 359), (342, 350), (334, 342), (326, 334), (317, 326), (308, 317), (299, 308), (291, 299), (226, 291), (181, 182), (183, 184), (182, 183), (184, 185), (224, 225), (223, 224), (222, 223), (221, 222), (220, 221), (219, 220), (218, 219), (217, 218), (212, 217), (207, 212), (202, 207), (185, 202), (178, 179), (180, 181), (179, 180), (172, 173), (177, 178), (176, 177), (175, 176), (174, 175), (173, 174), (171, 172), (170, 171), (161, 170), (152, 161), (151, 152), (150, 151), (149, 150), (0, 1), (8, 9), (11, 12), (10, 11), (9, 10), (4, 5), (7, 8), (6, 7), (5, 6), (39, 40), (147, 148), (146, 147), (145, 146), (144, 145), (143, 144), (142, 143), (141, 142), (140, 141), (131, 140), (123, 131), (114, 123), (105, 114), (97, 105), (40, 97), (37, 38), (38, 39), (18, 19), (19, 20), (22, 23), (23, 24), (16, 17), (17, 18), (24, 25), (36, 37), (35, 36), (34, 35), (33, 34), (32, 33), (31, 32), (30, 31), (25, 30), (20, 21), (21, 22), (14, 15), (15, 16), (12, 13), (13, 14), (3, 4), (2, 3), (1, 2)] := hL
  have hP : va_P g.1 vcl ([(h0, .inr (12, [.null, .ref q21, .ref q22, .ref q23, .ref q24, .ref q25, .ref q26, .ref q27, .ref q28, .ref q29, .ref q30, .ref q31, .ref q32, .ref q33, .ref q34, .ref q35, .ref q36, .ref q37, .null, .null, .null, .null, .null, .int 0, .int 0, .int 0, .int 0, .int 0, .int 0, .int 0, .int 0]))] ++ pl) _ := hP
  have hD : va_D _ ([(h0, .inr (12, [.null, .ref q21, .ref q22, .ref q23, .ref q24, .ref q25, .ref q26, .ref q27, .ref q28, .ref q29, .ref q30, .ref q31, .ref q32, .ref q33, .ref q34, .ref q35, .ref q36, .ref q37, .null, .null, .null, .null, .null, .int 0, .int 0, .int 0, .int 0, .int 0, .int 0, .int 0, .int 0]))] ++ pl) := hD
  refine va_putF (D := g.1) (ci := 12) (v := .ref q38) (ty := .array .byte) (C := "LatticeKeysModel$Hands") (T := T_MH) (N := 31) hx hb hts (wg_ft i_MH) ty_MH k_MH n_MH hown hK hP hD hS 0 rfl rfl 18 (by decide) (hts _ (wg_t kw_1450)) (fun _ h9 => h9) rfl hnm rfl (by decide +kernel) rfl rfl (Nat.le_of_ble_eq_true rfl) dMH_init_211 (fun H locs hP hD hS => ?_)
  have hP : va_P g.1 vcl ([(h0, .inr (12, [.null, .ref q21, .ref q22, .ref q23, .ref q24, .ref q25, .ref q26, .ref q27, .ref q28, .ref q29, .ref q30, .ref q31, .ref q32, .ref q33, .ref q34, .ref q35, .ref q36, .ref q37, .ref q38, .null, .null, .null, .null, .int 0, .int 0, .int 0, .int 0, .int 0, .int 0, .int 0, .int 0]))] ++ pl) _ := hP
  have hD : va_D _ ([(h0, .inr (12, [.null, .ref q21, .ref q22, .ref q23, .ref q24, .ref q25, .ref q26, .ref q27, .ref q28, .ref q29, .ref q30, .ref q31, .ref q32, .ref q33, .ref q34, .ref q35, .ref q36, .ref q37, .ref q38, .null, .null, .null, .null, .int 0, .int 0, .int 0, .int 0, .int 0, .int 0, .int 0, .int 0]))] ++ pl) := hD
  refine lv_aload_n hx hb dMH_init_214 rfl (lv_at hl 0 rfl) ?_
  refine lv_sipush (v := nI 640) hx hb dMH_init_215 (by decide) ?_
  refine ma_newa (ws := [(h0, .inr (12, [.null, .ref q21, .ref q22, .ref q23, .ref q24, .ref q25, .ref q26, .ref q27, .ref q28, .ref q29, .ref q30, .ref q31, .ref q32, .ref q33, .ref q34, .ref q35, .ref q36, .ref q37, .ref q38, .null, .null, .null, .null, .int 0, .int 0, .int 0, .int 0, .int 0, .int 0, .int 0, .int 0]))] ++ pl) (atype := .byte) hx hb (hts _ (wg_t kw_72)) rfl hK hP hD hS hA 1 rfl (N' := 640) (a0 := (640, .inl (fun _ => 0))) (fun _ => rfl) (nI_pos (by omega)) (nI_clamp (by omega)) (by show (640) * 1 ≤ 536870912; omega) (Nat.le_of_ble_eq_true rfl) (Nat.le_of_ble_eq_true rfl) dMH_init_218 (fun q39 H hP hD hS => ?_)
  refine W.widen (k := 153) (n := 36617) (by omega) (by omega) ?_
  obtain ⟨T, pl, hxt41, hU, kr251, hO, hP, hD, hL⟩ := absorbX (X := [(h0, .inr (12, [.null, .ref q21, .ref q22, .ref q23, .ref q24, .ref q25, .ref q26, .ref q27, .ref q28, .ref q29, .ref q30, .ref q31, .ref q32, .ref q33, .ref q34, .ref q35, .ref q36, .ref q37, .ref q38, .null, .null, .null, .null, .int 0, .int 0, .int 0, .int 0, .int 0, .int 0, .int 0, .int 0]))]) 375 hP hD hO hU hL rfl (fun _ _ _ => fit1 (k := 375) rfl)
  have kr252 := hxt41 _ _ kr231
  have kr253 := hxt41 _ _ kr232
  have kr254 := hxt41 _ _ kr233
  have kr255 := hxt41 _ _ kr234
  have kr256 := hxt41 _ _ kr235
  have kr257 := hxt41 _ _ kr236
  have kr258 := hxt41 _ _ kr237
  have kr259 := hxt41 _ _ kr238
  have kr260 := hxt41 _ _ kr239
  have kr261 := hxt41 _ _ kr240
  have kr262 := hxt41 _ _ kr241
  have kr263 := hxt41 _ _ kr242
  have kr264 := hxt41 _ _ kr243
  have kr265 := hxt41 _ _ kr244
  have kr266 := hxt41 _ _ kr245
  have kr267 := hxt41 _ _ kr246
  have kr268 := hxt41 _ _ kr247
  have kr269 := hxt41 _ _ kr248
  have kr270 := hxt41 _ _ kr249
  have kr271 := hxt41 _ _ kr250
  have kr272 := hxt41 _ _ kr230
  have hXT := extN_tr hXT hxt41
  have hL : nmL T [(375, 376), (374, 375), (373, 374), (372, 373), (371, 372), (370, 371), (369, 370), (368, 369), (359, 368), (350, 359), (342, 350), (334, 342), (326, 334), (317, 326), (308, 317), (299, 308), (291, 299), (226, 291), (181, 182), (183, 184), (182, 183), (184, 185), (224, 225), (223, 224), (222, 223), (221, 222), (220, 221), (219, 220), (218, 219), (217, 218), (212, 217), (207, 212), (202, 207), (185, 202), (178, 179), (180, 181), (179, 180), (172, 173), (177, 178), (176, 177), (175, 176), (174, 175), (173, 174), (171, 172), (170, 171), (161, 170), (152, 161), (151, 152), (150, 151), (149, 150), (0, 1), (8, 9), (11, 12), (10, 11), (9, 10), (4, 5), (7, 8), (6, 7), (5, 6), (39, 40), (147, 148), (146, 147), (145, 146), (144, 145), (143, 144), (142, 143), (141, 142), (140, 141), (131, 140), (123, 131), (114, 123), (105, 114), (97, 105), (40, 97), (37, 38), (38, 39), (18, 19), (19, 20), (22, 23), (23, 24), (16, 17), (17, 18), (24, 25), (36, 37), (35, 36), (34, 35), (33, 34), (32, 33), (31, 32), (30, 31), (25, 30), (20, 21), (21, 22), (14, 15), (15, 16), (12, 13), (13, 14), (3, 4), (2, 3), (1, 2)] := hL
  have hP : va_P g.1 vcl ([(h0, .inr (12, [.null, .ref q21, .ref q22, .ref q23, .ref q24, .ref q25, .ref q26, .ref q27, .ref q28, .ref q29, .ref q30, .ref q31, .ref q32, .ref q33, .ref q34, .ref q35, .ref q36, .ref q37, .ref q38, .null, .null, .null, .null, .int 0, .int 0, .int 0, .int 0, .int 0, .int 0, .int 0, .int 0]))] ++ pl) _ := hP
  have hD : va_D _ ([(h0, .inr (12, [.null, .ref q21, .ref q22, .ref q23, .ref q24, .ref q25, .ref q26, .ref q27, .ref q28, .ref q29, .ref q30, .ref q31, .ref q32, .ref q33, .ref q34, .ref q35, .ref q36, .ref q37, .ref q38, .null, .null, .null, .null, .int 0, .int 0, .int 0, .int 0, .int 0, .int 0, .int 0, .int 0]))] ++ pl) := hD
  refine va_putF (D := g.1) (ci := 12) (v := .ref q39) (ty := .array .byte) (C := "LatticeKeysModel$Hands") (T := T_MH) (N := 31) hx hb hts (wg_ft i_MH) ty_MH k_MH n_MH hown hK hP hD hS 0 rfl rfl 19 (by decide) (hts _ (wg_t kw_1451)) (fun _ h9 => h9) rfl hnm rfl (by decide +kernel) rfl rfl (Nat.le_of_ble_eq_true rfl) dMH_init_220 (fun H locs hP hD hS => ?_)
  have hP : va_P g.1 vcl ([(h0, .inr (12, [.null, .ref q21, .ref q22, .ref q23, .ref q24, .ref q25, .ref q26, .ref q27, .ref q28, .ref q29, .ref q30, .ref q31, .ref q32, .ref q33, .ref q34, .ref q35, .ref q36, .ref q37, .ref q38, .ref q39, .null, .null, .null, .int 0, .int 0, .int 0, .int 0, .int 0, .int 0, .int 0, .int 0]))] ++ pl) _ := hP
  have hD : va_D _ ([(h0, .inr (12, [.null, .ref q21, .ref q22, .ref q23, .ref q24, .ref q25, .ref q26, .ref q27, .ref q28, .ref q29, .ref q30, .ref q31, .ref q32, .ref q33, .ref q34, .ref q35, .ref q36, .ref q37, .ref q38, .ref q39, .null, .null, .null, .int 0, .int 0, .int 0, .int 0, .int 0, .int 0, .int 0, .int 0]))] ++ pl) := hD
  refine lv_aload_n hx hb dMH_init_223 rfl (lv_at hl 0 rfl) ?_
  refine lv_bipush (v := nI 64) hx hb dMH_init_224 (by decide) ?_
  refine ma_newa (ws := [(h0, .inr (12, [.null, .ref q21, .ref q22, .ref q23, .ref q24, .ref q25, .ref q26, .ref q27, .ref q28, .ref q29, .ref q30, .ref q31, .ref q32, .ref q33, .ref q34, .ref q35, .ref q36, .ref q37, .ref q38, .ref q39, .null, .null, .null, .int 0, .int 0, .int 0, .int 0, .int 0, .int 0, .int 0, .int 0]))] ++ pl) (atype := .byte) hx hb (hts _ (wg_t kw_72)) rfl hK hP hD hS hA 1 rfl (N' := 64) (a0 := (64, .inl (fun _ => 0))) (fun _ => rfl) (nI_pos (by omega)) (nI_clamp (by omega)) (by show (64) * 1 ≤ 536870912; omega) (Nat.le_of_ble_eq_true rfl) (Nat.le_of_ble_eq_true rfl) dMH_init_226 (fun q40 H hP hD hS => ?_)
  refine W.widen (k := 154) (n := 36681) (by omega) (by omega) ?_
  obtain ⟨T, pl, hxt42, hU, kr273, hO, hP, hD, hL⟩ := absorbX (X := [(h0, .inr (12, [.null, .ref q21, .ref q22, .ref q23, .ref q24, .ref q25, .ref q26, .ref q27, .ref q28, .ref q29, .ref q30, .ref q31, .ref q32, .ref q33, .ref q34, .ref q35, .ref q36, .ref q37, .ref q38, .ref q39, .null, .null, .null, .int 0, .int 0, .int 0, .int 0, .int 0, .int 0, .int 0, .int 0]))]) 376 hP hD hO hU hL rfl (fun _ _ _ => fit1 (k := 376) rfl)
  have kr274 := hxt42 _ _ kr252
  have kr275 := hxt42 _ _ kr253
  have kr276 := hxt42 _ _ kr254
  have kr277 := hxt42 _ _ kr255
  have kr278 := hxt42 _ _ kr256
  have kr279 := hxt42 _ _ kr257
  have kr280 := hxt42 _ _ kr258
  have kr281 := hxt42 _ _ kr259
  have kr282 := hxt42 _ _ kr260
  have kr283 := hxt42 _ _ kr261
  have kr284 := hxt42 _ _ kr262
  have kr285 := hxt42 _ _ kr263
  have kr286 := hxt42 _ _ kr264
  have kr287 := hxt42 _ _ kr265
  have kr288 := hxt42 _ _ kr266
  have kr289 := hxt42 _ _ kr267
  have kr290 := hxt42 _ _ kr268
  have kr291 := hxt42 _ _ kr269
  have kr292 := hxt42 _ _ kr270
  have kr293 := hxt42 _ _ kr271
  have kr294 := hxt42 _ _ kr272
  have kr295 := hxt42 _ _ kr251
  have hXT := extN_tr hXT hxt42
  have hL : nmL T [(376, 377), (375, 376), (374, 375), (373, 374), (372, 373), (371, 372), (370, 371), (369, 370), (368, 369), (359, 368), (350, 359), (342, 350), (334, 342), (326, 334), (317, 326), (308, 317), (299, 308), (291, 299), (226, 291), (181, 182), (183, 184), (182, 183), (184, 185), (224, 225), (223, 224), (222, 223), (221, 222), (220, 221), (219, 220), (218, 219), (217, 218), (212, 217), (207, 212), (202, 207), (185, 202), (178, 179), (180, 181), (179, 180), (172, 173), (177, 178), (176, 177), (175, 176), (174, 175), (173, 174), (171, 172), (170, 171), (161, 170), (152, 161), (151, 152), (150, 151), (149, 150), (0, 1), (8, 9), (11, 12), (10, 11), (9, 10), (4, 5), (7, 8), (6, 7), (5, 6), (39, 40), (147, 148), (146, 147), (145, 146), (144, 145), (143, 144), (142, 143), (141, 142), (140, 141), (131, 140), (123, 131), (114, 123), (105, 114), (97, 105), (40, 97), (37, 38), (38, 39), (18, 19), (19, 20), (22, 23), (23, 24), (16, 17), (17, 18), (24, 25), (36, 37), (35, 36), (34, 35), (33, 34), (32, 33), (31, 32), (30, 31), (25, 30), (20, 21), (21, 22), (14, 15), (15, 16), (12, 13), (13, 14), (3, 4), (2, 3), (1, 2)] := hL
  have hP : va_P g.1 vcl ([(h0, .inr (12, [.null, .ref q21, .ref q22, .ref q23, .ref q24, .ref q25, .ref q26, .ref q27, .ref q28, .ref q29, .ref q30, .ref q31, .ref q32, .ref q33, .ref q34, .ref q35, .ref q36, .ref q37, .ref q38, .ref q39, .null, .null, .null, .int 0, .int 0, .int 0, .int 0, .int 0, .int 0, .int 0, .int 0]))] ++ pl) _ := hP
  have hD : va_D _ ([(h0, .inr (12, [.null, .ref q21, .ref q22, .ref q23, .ref q24, .ref q25, .ref q26, .ref q27, .ref q28, .ref q29, .ref q30, .ref q31, .ref q32, .ref q33, .ref q34, .ref q35, .ref q36, .ref q37, .ref q38, .ref q39, .null, .null, .null, .int 0, .int 0, .int 0, .int 0, .int 0, .int 0, .int 0, .int 0]))] ++ pl) := hD
  refine va_putF (D := g.1) (ci := 12) (v := .ref q40) (ty := .array .byte) (C := "LatticeKeysModel$Hands") (T := T_MH) (N := 31) hx hb hts (wg_ft i_MH) ty_MH k_MH n_MH hown hK hP hD hS 0 rfl rfl 20 (by decide) (hts _ (wg_t kw_1452)) (fun _ h9 => h9) rfl hnm rfl (by decide +kernel) rfl rfl (Nat.le_of_ble_eq_true rfl) dMH_init_228 (fun H locs hP hD hS => ?_)
  have hP : va_P g.1 vcl ([(h0, .inr (12, [.null, .ref q21, .ref q22, .ref q23, .ref q24, .ref q25, .ref q26, .ref q27, .ref q28, .ref q29, .ref q30, .ref q31, .ref q32, .ref q33, .ref q34, .ref q35, .ref q36, .ref q37, .ref q38, .ref q39, .ref q40, .null, .null, .int 0, .int 0, .int 0, .int 0, .int 0, .int 0, .int 0, .int 0]))] ++ pl) _ := hP
  have hD : va_D _ ([(h0, .inr (12, [.null, .ref q21, .ref q22, .ref q23, .ref q24, .ref q25, .ref q26, .ref q27, .ref q28, .ref q29, .ref q30, .ref q31, .ref q32, .ref q33, .ref q34, .ref q35, .ref q36, .ref q37, .ref q38, .ref q39, .ref q40, .null, .null, .int 0, .int 0, .int 0, .int 0, .int 0, .int 0, .int 0, .int 0]))] ++ pl) := hD
  refine lv_aload_n hx hb dMH_init_231 rfl (lv_at hl 0 rfl) ?_
  refine lv_bipush (v := nI 64) hx hb dMH_init_232 (by decide) ?_
  refine ma_newa (ws := [(h0, .inr (12, [.null, .ref q21, .ref q22, .ref q23, .ref q24, .ref q25, .ref q26, .ref q27, .ref q28, .ref q29, .ref q30, .ref q31, .ref q32, .ref q33, .ref q34, .ref q35, .ref q36, .ref q37, .ref q38, .ref q39, .ref q40, .null, .null, .int 0, .int 0, .int 0, .int 0, .int 0, .int 0, .int 0, .int 0]))] ++ pl) (atype := .byte) hx hb (hts _ (wg_t kw_72)) rfl hK hP hD hS hA 1 rfl (N' := 64) (a0 := (64, .inl (fun _ => 0))) (fun _ => rfl) (nI_pos (by omega)) (nI_clamp (by omega)) (by show (64) * 1 ≤ 536870912; omega) (Nat.le_of_ble_eq_true rfl) (Nat.le_of_ble_eq_true rfl) dMH_init_234 (fun q41 H hP hD hS => ?_)
  refine W.widen (k := 155) (n := 36745) (by omega) (by omega) ?_
  obtain ⟨T, pl, hxt43, hU, kr296, hO, hP, hD, hL⟩ := absorbX (X := [(h0, .inr (12, [.null, .ref q21, .ref q22, .ref q23, .ref q24, .ref q25, .ref q26, .ref q27, .ref q28, .ref q29, .ref q30, .ref q31, .ref q32, .ref q33, .ref q34, .ref q35, .ref q36, .ref q37, .ref q38, .ref q39, .ref q40, .null, .null, .int 0, .int 0, .int 0, .int 0, .int 0, .int 0, .int 0, .int 0]))]) 377 hP hD hO hU hL rfl (fun _ _ _ => fit1 (k := 377) rfl)
  have kr297 := hxt43 _ _ kr274
  have kr298 := hxt43 _ _ kr275
  have kr299 := hxt43 _ _ kr276
  have kr300 := hxt43 _ _ kr277
  have kr301 := hxt43 _ _ kr278
  have kr302 := hxt43 _ _ kr279
  have kr303 := hxt43 _ _ kr280
  have kr304 := hxt43 _ _ kr281
  have kr305 := hxt43 _ _ kr282
  have kr306 := hxt43 _ _ kr283
  have kr307 := hxt43 _ _ kr284
  have kr308 := hxt43 _ _ kr285
  have kr309 := hxt43 _ _ kr286
  have kr310 := hxt43 _ _ kr287
  have kr311 := hxt43 _ _ kr288
  have kr312 := hxt43 _ _ kr289
  have kr313 := hxt43 _ _ kr290
  have kr314 := hxt43 _ _ kr291
  have kr315 := hxt43 _ _ kr292
  have kr316 := hxt43 _ _ kr293
  have kr317 := hxt43 _ _ kr294
  have kr318 := hxt43 _ _ kr295
  have kr319 := hxt43 _ _ kr273
  have hXT := extN_tr hXT hxt43
  have hL : nmL T [(377, 378), (376, 377), (375, 376), (374, 375), (373, 374), (372, 373), (371, 372), (370, 371), (369, 370), (368, 369), (359, 368), (350, 359), (342, 350), (334, 342), (326, 334), (317, 326), (308, 317), (299, 308), (291, 299), (226, 291), (181, 182), (183, 184), (182, 183), (184, 185), (224, 225), (223, 224), (222, 223), (221, 222), (220, 221), (219, 220), (218, 219), (217, 218), (212, 217), (207, 212), (202, 207), (185, 202), (178, 179), (180, 181), (179, 180), (172, 173), (177, 178), (176, 177), (175, 176), (174, 175), (173, 174), (171, 172), (170, 171), (161, 170), (152, 161), (151, 152), (150, 151), (149, 150), (0, 1), (8, 9), (11, 12), (10, 11), (9, 10), (4, 5), (7, 8), (6, 7), (5, 6), (39, 40), (147, 148), (146, 147), (145, 146), (144, 145), (143, 144), (142, 143), (141, 142), (140, 141), (131, 140), (123, 131), (114, 123), (105, 114), (97, 105), (40, 97), (37, 38), (38, 39), (18, 19), (19, 20), (22, 23), (23, 24), (16, 17), (17, 18), (24, 25), (36, 37), (35, 36), (34, 35), (33, 34), (32, 33), (31, 32), (30, 31), (25, 30), (20, 21), (21, 22), (14, 15), (15, 16), (12, 13), (13, 14), (3, 4), (2, 3), (1, 2)] := hL
  have hP : va_P g.1 vcl ([(h0, .inr (12, [.null, .ref q21, .ref q22, .ref q23, .ref q24, .ref q25, .ref q26, .ref q27, .ref q28, .ref q29, .ref q30, .ref q31, .ref q32, .ref q33, .ref q34, .ref q35, .ref q36, .ref q37, .ref q38, .ref q39, .ref q40, .null, .null, .int 0, .int 0, .int 0, .int 0, .int 0, .int 0, .int 0, .int 0]))] ++ pl) _ := hP
  have hD : va_D _ ([(h0, .inr (12, [.null, .ref q21, .ref q22, .ref q23, .ref q24, .ref q25, .ref q26, .ref q27, .ref q28, .ref q29, .ref q30, .ref q31, .ref q32, .ref q33, .ref q34, .ref q35, .ref q36, .ref q37, .ref q38, .ref q39, .ref q40, .null, .null, .int 0, .int 0, .int 0, .int 0, .int 0, .int 0, .int 0, .int 0]))] ++ pl) := hD
  refine va_putF (D := g.1) (ci := 12) (v := .ref q41) (ty := .array .byte) (C := "LatticeKeysModel$Hands") (T := T_MH) (N := 31) hx hb hts (wg_ft i_MH) ty_MH k_MH n_MH hown hK hP hD hS 0 rfl rfl 21 (by decide) (hts _ (wg_t kw_1453)) (fun _ h9 => h9) rfl hnm rfl (by decide +kernel) rfl rfl (Nat.le_of_ble_eq_true rfl) dMH_init_236 (fun H locs hP hD hS => ?_)
  have hP : va_P g.1 vcl ([(h0, .inr (12, [.null, .ref q21, .ref q22, .ref q23, .ref q24, .ref q25, .ref q26, .ref q27, .ref q28, .ref q29, .ref q30, .ref q31, .ref q32, .ref q33, .ref q34, .ref q35, .ref q36, .ref q37, .ref q38, .ref q39, .ref q40, .ref q41, .null, .int 0, .int 0, .int 0, .int 0, .int 0, .int 0, .int 0, .int 0]))] ++ pl) _ := hP
  have hD : va_D _ ([(h0, .inr (12, [.null, .ref q21, .ref q22, .ref q23, .ref q24, .ref q25, .ref q26, .ref q27, .ref q28, .ref q29, .ref q30, .ref q31, .ref q32, .ref q33, .ref q34, .ref q35, .ref q36, .ref q37, .ref q38, .ref q39, .ref q40, .ref q41, .null, .int 0, .int 0, .int 0, .int 0, .int 0, .int 0, .int 0, .int 0]))] ++ pl) := hD
  refine lv_aload_n hx hb dMH_init_239 rfl (lv_at hl 0 rfl) ?_
  refine lv_bipush (v := nI 64) hx hb dMH_init_240 (by decide) ?_
  refine ma_newa (ws := [(h0, .inr (12, [.null, .ref q21, .ref q22, .ref q23, .ref q24, .ref q25, .ref q26, .ref q27, .ref q28, .ref q29, .ref q30, .ref q31, .ref q32, .ref q33, .ref q34, .ref q35, .ref q36, .ref q37, .ref q38, .ref q39, .ref q40, .ref q41, .null, .int 0, .int 0, .int 0, .int 0, .int 0, .int 0, .int 0, .int 0]))] ++ pl) (atype := .byte) hx hb (hts _ (wg_t kw_72)) rfl hK hP hD hS hA 1 rfl (N' := 64) (a0 := (64, .inl (fun _ => 0))) (fun _ => rfl) (nI_pos (by omega)) (nI_clamp (by omega)) (by show (64) * 1 ≤ 536870912; omega) (Nat.le_of_ble_eq_true rfl) (Nat.le_of_ble_eq_true rfl) dMH_init_242 (fun q42 H hP hD hS => ?_)
  refine W.widen (k := 156) (n := 36809) (by omega) (by omega) ?_
  obtain ⟨T, pl, hxt44, hU, kr320, hO, hP, hD, hL⟩ := absorbX (X := [(h0, .inr (12, [.null, .ref q21, .ref q22, .ref q23, .ref q24, .ref q25, .ref q26, .ref q27, .ref q28, .ref q29, .ref q30, .ref q31, .ref q32, .ref q33, .ref q34, .ref q35, .ref q36, .ref q37, .ref q38, .ref q39, .ref q40, .ref q41, .null, .int 0, .int 0, .int 0, .int 0, .int 0, .int 0, .int 0, .int 0]))]) 378 hP hD hO hU hL rfl (fun _ _ _ => fit1 (k := 378) rfl)
  have kr321 := hxt44 _ _ kr297
  have kr322 := hxt44 _ _ kr298
  have kr323 := hxt44 _ _ kr299
  have kr324 := hxt44 _ _ kr300
  have kr325 := hxt44 _ _ kr301
  have kr326 := hxt44 _ _ kr302
  have kr327 := hxt44 _ _ kr303
  have kr328 := hxt44 _ _ kr304
  have kr329 := hxt44 _ _ kr305
  have kr330 := hxt44 _ _ kr306
  have kr331 := hxt44 _ _ kr307
  have kr332 := hxt44 _ _ kr308
  have kr333 := hxt44 _ _ kr309
  have kr334 := hxt44 _ _ kr310
  have kr335 := hxt44 _ _ kr311
  have kr336 := hxt44 _ _ kr312
  have kr337 := hxt44 _ _ kr313
  have kr338 := hxt44 _ _ kr314
  have kr339 := hxt44 _ _ kr315
  have kr340 := hxt44 _ _ kr316
  have kr341 := hxt44 _ _ kr317
  have kr342 := hxt44 _ _ kr318
  have kr343 := hxt44 _ _ kr319
  have kr344 := hxt44 _ _ kr296
  have hXT := extN_tr hXT hxt44
  have hL : nmL T [(378, 379), (377, 378), (376, 377), (375, 376), (374, 375), (373, 374), (372, 373), (371, 372), (370, 371), (369, 370), (368, 369), (359, 368), (350, 359), (342, 350), (334, 342), (326, 334), (317, 326), (308, 317), (299, 308), (291, 299), (226, 291), (181, 182), (183, 184), (182, 183), (184, 185), (224, 225), (223, 224), (222, 223), (221, 222), (220, 221), (219, 220), (218, 219), (217, 218), (212, 217), (207, 212), (202, 207), (185, 202), (178, 179), (180, 181), (179, 180), (172, 173), (177, 178), (176, 177), (175, 176), (174, 175), (173, 174), (171, 172), (170, 171), (161, 170), (152, 161), (151, 152), (150, 151), (149, 150), (0, 1), (8, 9), (11, 12), (10, 11), (9, 10), (4, 5), (7, 8), (6, 7), (5, 6), (39, 40), (147, 148), (146, 147), (145, 146), (144, 145), (143, 144), (142, 143), (141, 142), (140, 141), (131, 140), (123, 131), (114, 123), (105, 114), (97, 105), (40, 97), (37, 38), (38, 39), (18, 19), (19, 20), (22, 23), (23, 24), (16, 17), (17, 18), (24, 25), (36, 37), (35, 36), (34, 35), (33, 34), (32, 33), (31, 32), (30, 31), (25, 30), (20, 21), (21, 22), (14, 15), (15, 16), (12, 13), (13, 14), (3, 4), (2, 3), (1, 2)] := hL
  have hP : va_P g.1 vcl ([(h0, .inr (12, [.null, .ref q21, .ref q22, .ref q23, .ref q24, .ref q25, .ref q26, .ref q27, .ref q28, .ref q29, .ref q30, .ref q31, .ref q32, .ref q33, .ref q34, .ref q35, .ref q36, .ref q37, .ref q38, .ref q39, .ref q40, .ref q41, .null, .int 0, .int 0, .int 0, .int 0, .int 0, .int 0, .int 0, .int 0]))] ++ pl) _ := hP
  have hD : va_D _ ([(h0, .inr (12, [.null, .ref q21, .ref q22, .ref q23, .ref q24, .ref q25, .ref q26, .ref q27, .ref q28, .ref q29, .ref q30, .ref q31, .ref q32, .ref q33, .ref q34, .ref q35, .ref q36, .ref q37, .ref q38, .ref q39, .ref q40, .ref q41, .null, .int 0, .int 0, .int 0, .int 0, .int 0, .int 0, .int 0, .int 0]))] ++ pl) := hD
  refine va_putF (D := g.1) (ci := 12) (v := .ref q42) (ty := .array .byte) (C := "LatticeKeysModel$Hands") (T := T_MH) (N := 31) hx hb hts (wg_ft i_MH) ty_MH k_MH n_MH hown hK hP hD hS 0 rfl rfl 22 (by decide) (hts _ (wg_t kw_1454)) (fun _ h9 => h9) rfl hnm rfl (by decide +kernel) rfl rfl (Nat.le_of_ble_eq_true rfl) dMH_init_244 (fun H locs hP hD hS => ?_)
  have hP : va_P g.1 vcl ([(h0, .inr (12, [.null, .ref q21, .ref q22, .ref q23, .ref q24, .ref q25, .ref q26, .ref q27, .ref q28, .ref q29, .ref q30, .ref q31, .ref q32, .ref q33, .ref q34, .ref q35, .ref q36, .ref q37, .ref q38, .ref q39, .ref q40, .ref q41, .ref q42, .int 0, .int 0, .int 0, .int 0, .int 0, .int 0, .int 0, .int 0]))] ++ pl) _ := hP
  have hD : va_D _ ([(h0, .inr (12, [.null, .ref q21, .ref q22, .ref q23, .ref q24, .ref q25, .ref q26, .ref q27, .ref q28, .ref q29, .ref q30, .ref q31, .ref q32, .ref q33, .ref q34, .ref q35, .ref q36, .ref q37, .ref q38, .ref q39, .ref q40, .ref q41, .ref q42, .int 0, .int 0, .int 0, .int 0, .int 0, .int 0, .int 0, .int 0]))] ++ pl) := hD
  refine lv_aload_n hx hb dMH_init_247 rfl (lv_at hl 0 rfl) ?_
  refine lv_aload_n hx hb dMH_init_248 rfl (lv_at hl 1 rfl) ?_
  refine va_putF (D := g.1) (ci := 12) (v := .ref sp) (ty := .object "LatticeKeysModel$Sponge") (C := "LatticeKeysModel$Hands") (T := T_MH) (N := 31) hx hb hts (wg_ft i_MH) ty_MH k_MH n_MH hown hK hP hD hS 0 rfl rfl 0 (by decide) (hts _ (wg_t kw_1432)) (fun _ h9 => h9) rfl hnm rfl (by decide +kernel) rfl rfl (Nat.le_of_ble_eq_true rfl) dMH_init_249 (fun H locs hP hD hS => ?_)
  have hP : va_P g.1 vcl ([(h0, .inr (12, [.ref sp, .ref q21, .ref q22, .ref q23, .ref q24, .ref q25, .ref q26, .ref q27, .ref q28, .ref q29, .ref q30, .ref q31, .ref q32, .ref q33, .ref q34, .ref q35, .ref q36, .ref q37, .ref q38, .ref q39, .ref q40, .ref q41, .ref q42, .int 0, .int 0, .int 0, .int 0, .int 0, .int 0, .int 0, .int 0]))] ++ pl) _ := hP
  have hD : va_D _ ([(h0, .inr (12, [.ref sp, .ref q21, .ref q22, .ref q23, .ref q24, .ref q25, .ref q26, .ref q27, .ref q28, .ref q29, .ref q30, .ref q31, .ref q32, .ref q33, .ref q34, .ref q35, .ref q36, .ref q37, .ref q38, .ref q39, .ref q40, .ref q41, .ref q42, .int 0, .int 0, .int 0, .int 0, .int 0, .int 0, .int 0, .int 0]))] ++ pl) := hD
  obtain ⟨hP, hD⟩ := mv_last (X := []) (c := (h0, .inr (12, [.ref sp, .ref q21, .ref q22, .ref q23, .ref q24, .ref q25, .ref q26, .ref q27, .ref q28, .ref q29, .ref q30, .ref q31, .ref q32, .ref q33, .ref q34, .ref q35, .ref q36, .ref q37, .ref q38, .ref q39, .ref q40, .ref q41, .ref q42, .int 0, .int 0, .int 0, .int 0, .int 0, .int 0, .int 0, .int 0]))) hP hD
  obtain ⟨T, pl, hxt45, hU, kr345, hO, hP, hD, hL⟩ := absorbX (X := []) 225 hP hD hO hU hL rfl (fun _ h9 _ => fit5 (k := 225) (fl := [(3, 172), (3, 181), (3, 226), (3, 291), (3, 299), (3, 308), (3, 317), (3, 326), (3, 334), (3, 342), (3, 350), (3, 359), (3, 368), (3, 369), (3, 370), (3, 371), (3, 372), (3, 373), (3, 374), (3, 375), (3, 376), (3, 377), (3, 378), (0, 0), (0, 0), (0, 0), (0, 0), (0, 0), (0, 0), (0, 0), (0, 0)]) rfl ⟨⟨_, rfl, h9 _ _ kr321⟩, ⟨_, rfl, h9 _ _ kr324⟩, ⟨_, rfl, h9 _ _ kr325⟩, ⟨_, rfl, h9 _ _ kr326⟩, ⟨_, rfl, h9 _ _ kr327⟩, ⟨_, rfl, h9 _ _ kr328⟩, ⟨_, rfl, h9 _ _ kr329⟩, ⟨_, rfl, h9 _ _ kr330⟩, ⟨_, rfl, h9 _ _ kr331⟩, ⟨_, rfl, h9 _ _ kr332⟩, ⟨_, rfl, h9 _ _ kr333⟩, ⟨_, rfl, h9 _ _ kr334⟩, ⟨_, rfl, h9 _ _ kr335⟩, ⟨_, rfl, h9 _ _ kr336⟩, ⟨_, rfl, h9 _ _ kr337⟩, ⟨_, rfl, h9 _ _ kr338⟩, ⟨_, rfl, h9 _ _ kr339⟩, ⟨_, rfl, h9 _ _ kr340⟩, ⟨_, rfl, h9 _ _ kr341⟩, ⟨_, rfl, h9 _ _ kr342⟩, ⟨_, rfl, h9 _ _ kr343⟩, ⟨_, rfl, h9 _ _ kr344⟩, ⟨_, rfl, h9 _ _ kr320⟩, rfl, rfl, rfl, rfl, rfl, rfl, rfl, rfl, trivial⟩)
  have kr346 := hxt45 _ _ kr321
  have kr347 := hxt45 _ _ kr322
  have kr348 := hxt45 _ _ kr323
  have kr349 := hxt45 _ _ kr324
  have kr350 := hxt45 _ _ kr325
  have kr351 := hxt45 _ _ kr326
  have kr352 := hxt45 _ _ kr327
  have kr353 := hxt45 _ _ kr328
  have kr354 := hxt45 _ _ kr329
  have kr355 := hxt45 _ _ kr330
  have kr356 := hxt45 _ _ kr331
  have kr357 := hxt45 _ _ kr332
  have kr358 := hxt45 _ _ kr333
  have kr359 := hxt45 _ _ kr334
  have kr360 := hxt45 _ _ kr335
  have kr361 := hxt45 _ _ kr336
  have kr362 := hxt45 _ _ kr337
  have kr363 := hxt45 _ _ kr338
  have kr364 := hxt45 _ _ kr339
  have kr365 := hxt45 _ _ kr340
  have kr366 := hxt45 _ _ kr341
  have kr367 := hxt45 _ _ kr342
  have kr368 := hxt45 _ _ kr343
  have kr369 := hxt45 _ _ kr344
  have kr370 := hxt45 _ _ kr320
  have hXT := extN_tr hXT hxt45
  have hL : nmL T [(225, 226), (378, 379), (377, 378), (376, 377), (375, 376), (374, 375), (373, 374), (372, 373), (371, 372), (370, 371), (369, 370), (368, 369), (359, 368), (350, 359), (342, 350), (334, 342), (326, 334), (317, 326), (308, 317), (299, 308), (291, 299), (226, 291), (181, 182), (183, 184), (182, 183), (184, 185), (224, 225), (223, 224), (222, 223), (221, 222), (220, 221), (219, 220), (218, 219), (217, 218), (212, 217), (207, 212), (202, 207), (185, 202), (178, 179), (180, 181), (179, 180), (172, 173), (177, 178), (176, 177), (175, 176), (174, 175), (173, 174), (171, 172), (170, 171), (161, 170), (152, 161), (151, 152), (150, 151), (149, 150), (0, 1), (8, 9), (11, 12), (10, 11), (9, 10), (4, 5), (7, 8), (6, 7), (5, 6), (39, 40), (147, 148), (146, 147), (145, 146), (144, 145), (143, 144), (142, 143), (141, 142), (140, 141), (131, 140), (123, 131), (114, 123), (105, 114), (97, 105), (40, 97), (37, 38), (38, 39), (18, 19), (19, 20), (22, 23), (23, 24), (16, 17), (17, 18), (24, 25), (36, 37), (35, 36), (34, 35), (33, 34), (32, 33), (31, 32), (30, 31), (25, 30), (20, 21), (21, 22), (14, 15), (15, 16), (12, 13), (13, 14), (3, 4), (2, 3), (1, 2)] := hL
  have hP : va_P g.1 vcl ([] ++ pl) _ := hP
  have hD : va_D _ ([] ++ pl) := hD
  exact mp_vret hx hb hr hlk hP hD hS (T, pl) ⟨⟨hXT, hU, hL, kr345⟩, hO⟩ [] rfl rfl rfl (by omega) (by omega) dMH_init_252
set_option maxHeartbeats 4000000 in
set_option maxRecDepth 100000 in
theorem z_M_init (l : Launch) (g : Gd) (sz : Nat) (T0 : TyN) (pl : va_W) (hO : okn g T0 Z0 pl) (hU : inj T0) (hL : nmL T0 [(0, 1), (8, 9), (11, 12), (10, 11), (9, 10), (4, 5), (7, 8), (6, 7), (5, 6), (39, 40), (147, 148), (146, 147), (145, 146), (144, 145), (143, 144), (142, 143), (141, 142), (140, 141), (131, 140), (123, 131), (114, 123), (105, 114), (97, 105), (40, 97), (37, 38), (38, 39), (18, 19), (19, 20), (22, 23), (23, 24), (16, 17), (17, 18), (24, 25), (36, 37), (35, 36), (34, 35), (33, 34), (32, 33), (31, 32), (30, 31), (25, 30), (20, 21), (21, 22), (14, 15), (15, 16), (12, 13), (13, 14), (3, 4), (2, 3), (1, 2)]) (h0 : Nat) : Met l y_M_init w_M_init ({ frames := 3, cells := 230, slots := 139911, locals := 77 } : Room) (va_Pc [.ref h0] (pr (en g) g.1 vcl sz ([(h0, .inr (8, [.int 0, .int 0, .int 0, .int 0, .null, .null, .null, .null, .null, .null, .null, .null, .null, .null]))] ++ pl))) (va_Qv (fun (u : TyN × va_W) => (extN T0 u.1 ∧ inj u.1 ∧ nmL u.1 [(148, 149), (225, 226), (378, 379), (377, 378), (376, 377), (375, 376), (374, 375), (373, 374), (372, 373), (371, 372), (370, 371), (369, 370), (368, 369), (359, 368), (350, 359), (342, 350), (334, 342), (326, 334), (317, 326), (308, 317), (299, 308), (291, 299), (226, 291), (181, 182), (183, 184), (182, 183), (184, 185), (224, 225), (223, 224), (222, 223), (221, 222), (220, 221), (219, 220), (218, 219), (217, 218), (212, 217), (207, 212), (202, 207), (185, 202), (178, 179), (180, 181), (179, 180), (172, 173), (177, 178), (176, 177), (175, 176), (174, 175), (173, 174), (171, 172), (170, 171), (161, 170), (152, 161), (151, 152), (150, 151), (149, 150), (0, 1), (8, 9), (11, 12), (10, 11), (9, 10), (4, 5), (7, 8), (6, 7), (5, 6), (39, 40), (147, 148), (146, 147), (145, 146), (144, 145), (143, 144), (142, 143), (141, 142), (140, 141), (131, 140), (123, 131), (114, 123), (105, 114), (97, 105), (40, 97), (37, 38), (38, 39), (18, 19), (19, 20), (22, 23), (23, 24), (16, 17), (17, 18), (24, 25), (36, 37), (35, 36), (34, 35), (33, 34), (32, 33), (31, 32), (30, 31), (25, 30), (20, 21), (21, 22), (14, 15), (15, 16), (12, 13), (13, 14), (3, 4), (2, 3), (1, 2)] ∧ u.1 h0 = some 148) ∧ okn g u.1 Z0 u.2) (po g.1 vcl (va_A ([(h0, .inr (8, [.int 0, .int 0, .int 0, .int 0, .null, .null, .null, .null, .null, .null, .null, .null, .null, .null]))] ++ pl) sz) (fun (u : TyN × va_W) => [] ++ u.2)) (va_A ([(h0, .inr (8, [.int 0, .int 0, .int 0, .int 0, .null, .null, .null, .null, .null, .null, .null, .null, .null, .null]))] ++ pl) sz)) 230 139911 (va_A ([(h0, .inr (8, [.int 0, .int 0, .int 0, .int 0, .null, .null, .null, .null, .null, .null, .null, .null, .null, .null]))] ++ pl) sz) := by
  refine mc_entry (cc := c_M_init) (maxL := 1) (ret := none) (by decide) rfl (Nat.le_of_ble_eq_true rfl) ?_
  intro p e s m args below meth c ls F hr hlk hnm hsz hP hD hE hA hl
  obtain ⟨hx, hb, hml, hown, hts⟩ := id F
  have hK := hE.1
  generalize va_A ([(h0, .inr (8, [.int 0, .int 0, .int 0, .int 0, .null, .null, .null, .null, .null, .null, .null, .null, .null, .null]))] ++ pl) sz = A at hD hE hA ⊢
  obtain ⟨T, hXT, hO, hU, hL⟩ : ∃ T, extN T0 T ∧ okn g T Z0 pl ∧ inj T ∧ nmL T [(0, 1), (8, 9), (11, 12), (10, 11), (9, 10), (4, 5), (7, 8), (6, 7), (5, 6), (39, 40), (147, 148), (146, 147), (145, 146), (144, 145), (143, 144), (142, 143), (141, 142), (140, 141), (131, 140), (123, 131), (114, 123), (105, 114), (97, 105), (40, 97), (37, 38), (38, 39), (18, 19), (19, 20), (22, 23), (23, 24), (16, 17), (17, 18), (24, 25), (36, 37), (35, 36), (34, 35), (33, 34), (32, 33), (31, 32), (30, 31), (25, 30), (20, 21), (21, 22), (14, 15), (15, 16), (12, 13), (13, 14), (3, 4), (2, 3), (1, 2)] := ⟨T0, extN_rf, hO, hU, hL⟩
  have hS : va_S A s.heap s.heap [] := va_S.rf
  have hl : lv_has ls 1 [(0, .ref h0)] := hl
  refine lv_aload_n hx hb dM_init_0 rfl (lv_at hl 0 rfl) ?_
  refine W.objInit hx hb hown (hts _ (wg_t kw_1316)) (hts _ (wg_t kw_41)) (hts _ (wg_t kobj)) rfl (by rw [hml]; exact hl.1) rfl dM_init_1 (Nat.le_of_ble_eq_true rfl) (Nat.le_of_ble_eq_true rfl) ?_
  refine W.eq (g2 := F0 m 4 ls []) rfl ?_
  refine lv_aload_n hx hb dM_init_4 rfl (lv_at hl 0 rfl) ?_
  refine lv_sipush (v := nI 16384) hx hb dM_init_5 (by decide) ?_
  refine ma_newa (ws := [(h0, .inr (8, [.int 0, .int 0, .int 0, .int 0, .null, .null, .null, .null, .null, .null, .null, .null, .null, .null]))] ++ pl) (atype := .byte) hx hb (hts _ (wg_t kw_72)) rfl hK hP hD hS hA 1 rfl (N' := 16384) (a0 := (16384, .inl (fun _ => 0))) (fun _ => rfl) (nI_pos (by omega)) (nI_clamp (by omega)) (by show (16384) * 1 ≤ 536870912; omega) (Nat.le_of_ble_eq_true rfl) (Nat.le_of_ble_eq_true rfl) dM_init_8 (fun q21 H hP hD hS => ?_)
  refine W.widen (k := 1) (n := 16384) (by omega) (by omega) ?_
  obtain ⟨T, pl, hxt21, hU, kr21, hO, hP, hD, hL⟩ := absorbX (X := [(h0, .inr (8, [.int 0, .int 0, .int 0, .int 0, .null, .null, .null, .null, .null, .null, .null, .null, .null, .null]))]) 149 hP hD hO hU hL rfl (fun _ _ _ => fit1 (k := 149) rfl)
  have hXT := extN_tr hXT hxt21
  have hL : nmL T [(149, 150), (0, 1), (8, 9), (11, 12), (10, 11), (9, 10), (4, 5), (7, 8), (6, 7), (5, 6), (39, 40), (147, 148), (146, 147), (145, 146), (144, 145), (143, 144), (142, 143), (141, 142), (140, 141), (131, 140), (123, 131), (114, 123), (105, 114), (97, 105), (40, 97), (37, 38), (38, 39), (18, 19), (19, 20), (22, 23), (23, 24), (16, 17), (17, 18), (24, 25), (36, 37), (35, 36), (34, 35), (33, 34), (32, 33), (31, 32), (30, 31), (25, 30), (20, 21), (21, 22), (14, 15), (15, 16), (12, 13), (13, 14), (3, 4), (2, 3), (1, 2)] := hL
  have hP : va_P g.1 vcl ([(h0, .inr (8, [.int 0, .int 0, .int 0, .int 0, .null, .null, .null, .null, .null, .null, .null, .null, .null, .null]))] ++ pl) _ := hP
  have hD : va_D _ ([(h0, .inr (8, [.int 0, .int 0, .int 0, .int 0, .null, .null, .null, .null, .null, .null, .null, .null, .null, .null]))] ++ pl) := hD
  refine va_putF (D := g.1) (ci := 8) (v := .ref q21) (ty := .array .byte) (C := "LatticeKeysModel") (T := T_M) (N := 14) hx hb hts (wg_ft i_M) ty_M k_M n_M hown hK hP hD hS 0 rfl rfl 4 (by decide) (hts _ (wg_t kw_1530)) (fun _ h9 => h9) rfl hnm rfl (by decide +kernel) rfl rfl (Nat.le_of_ble_eq_true rfl) dM_init_10 (fun H locs hP hD hS => ?_)
  have hP : va_P g.1 vcl ([(h0, .inr (8, [.int 0, .int 0, .int 0, .int 0, .ref q21, .null, .null, .null, .null, .null, .null, .null, .null, .null]))] ++ pl) _ := hP
  have hD : va_D _ ([(h0, .inr (8, [.int 0, .int 0, .int 0, .int 0, .ref q21, .null, .null, .null, .null, .null, .null, .null, .null, .null]))] ++ pl) := hD
  refine lv_aload_n hx hb dM_init_13 rfl (lv_at hl 0 rfl) ?_
  refine lv_sipush (v := nI 8192) hx hb dM_init_14 (by decide) ?_
  refine ma_newa (ws := [(h0, .inr (8, [.int 0, .int 0, .int 0, .int 0, .ref q21, .null, .null, .null, .null, .null, .null, .null, .null, .null]))] ++ pl) (atype := .byte) hx hb (hts _ (wg_t kw_72)) rfl hK hP hD hS hA 1 rfl (N' := 8192) (a0 := (8192, .inl (fun _ => 0))) (fun _ => rfl) (nI_pos (by omega)) (nI_clamp (by omega)) (by show (8192) * 1 ≤ 536870912; omega) (Nat.le_of_ble_eq_true rfl) (Nat.le_of_ble_eq_true rfl) dM_init_17 (fun q22 H hP hD hS => ?_)
  refine W.widen (k := 2) (n := 24576) (by omega) (by omega) ?_
  obtain ⟨T, pl, hxt22, hU, kr22, hO, hP, hD, hL⟩ := absorbX (X := [(h0, .inr (8, [.int 0, .int 0, .int 0, .int 0, .ref q21, .null, .null, .null, .null, .null, .null, .null, .null, .null]))]) 150 hP hD hO hU hL rfl (fun _ _ _ => fit1 (k := 150) rfl)
  have kr23 := hxt22 _ _ kr21
  have hXT := extN_tr hXT hxt22
  have hL : nmL T [(150, 151), (149, 150), (0, 1), (8, 9), (11, 12), (10, 11), (9, 10), (4, 5), (7, 8), (6, 7), (5, 6), (39, 40), (147, 148), (146, 147), (145, 146), (144, 145), (143, 144), (142, 143), (141, 142), (140, 141), (131, 140), (123, 131), (114, 123), (105, 114), (97, 105), (40, 97), (37, 38), (38, 39), (18, 19), (19, 20), (22, 23), (23, 24), (16, 17), (17, 18), (24, 25), (36, 37), (35, 36), (34, 35), (33, 34), (32, 33), (31, 32), (30, 31), (25, 30), (20, 21), (21, 22), (14, 15), (15, 16), (12, 13), (13, 14), (3, 4), (2, 3), (1, 2)] := hL
  have hP : va_P g.1 vcl ([(h0, .inr (8, [.int 0, .int 0, .int 0, .int 0, .ref q21, .null, .null, .null, .null, .null, .null, .null, .null, .null]))] ++ pl) _ := hP
  have hD : va_D _ ([(h0, .inr (8, [.int 0, .int 0, .int 0, .int 0, .ref q21, .null, .null, .null, .null, .null, .null, .null, .null, .null]))] ++ pl) := hD
  refine va_putF (D := g.1) (ci := 8) (v := .ref q22) (ty := .array .byte) (C := "LatticeKeysModel") (T := T_M) (N := 14) hx hb hts (wg_ft i_M) ty_M k_M n_M hown hK hP hD hS 0 rfl rfl 5 (by decide) (hts _ (wg_t kw_1531)) (fun _ h9 => h9) rfl hnm rfl (by decide +kernel) rfl rfl (Nat.le_of_ble_eq_true rfl) dM_init_19 (fun H locs hP hD hS => ?_)
  have hP : va_P g.1 vcl ([(h0, .inr (8, [.int 0, .int 0, .int 0, .int 0, .ref q21, .ref q22, .null, .null, .null, .null, .null, .null, .null, .null]))] ++ pl) _ := hP
  have hD : va_D _ ([(h0, .inr (8, [.int 0, .int 0, .int 0, .int 0, .ref q21, .ref q22, .null, .null, .null, .null, .null, .null, .null, .null]))] ++ pl) := hD
  refine lv_aload_n hx hb dM_init_22 rfl (lv_at hl 0 rfl) ?_
  refine lv_sipush (v := nI 8192) hx hb dM_init_23 (by decide) ?_
  refine ma_newa (ws := [(h0, .inr (8, [.int 0, .int 0, .int 0, .int 0, .ref q21, .ref q22, .null, .null, .null, .null, .null, .null, .null, .null]))] ++ pl) (atype := .byte) hx hb (hts _ (wg_t kw_72)) rfl hK hP hD hS hA 1 rfl (N' := 8192) (a0 := (8192, .inl (fun _ => 0))) (fun _ => rfl) (nI_pos (by omega)) (nI_clamp (by omega)) (by show (8192) * 1 ≤ 536870912; omega) (Nat.le_of_ble_eq_true rfl) (Nat.le_of_ble_eq_true rfl) dM_init_26 (fun q23 H hP hD hS => ?_)
  refine W.widen (k := 3) (n := 32768) (by omega) (by omega) ?_
  obtain ⟨T, pl, hxt23, hU, kr24, hO, hP, hD, hL⟩ := absorbX (X := [(h0, .inr (8, [.int 0, .int 0, .int 0, .int 0, .ref q21, .ref q22, .null, .null, .null, .null, .null, .null, .null, .null]))]) 151 hP hD hO hU hL rfl (fun _ _ _ => fit1 (k := 151) rfl)
  have kr25 := hxt23 _ _ kr23
  have kr26 := hxt23 _ _ kr22
  have hXT := extN_tr hXT hxt23
  have hL : nmL T [(151, 152), (150, 151), (149, 150), (0, 1), (8, 9), (11, 12), (10, 11), (9, 10), (4, 5), (7, 8), (6, 7), (5, 6), (39, 40), (147, 148), (146, 147), (145, 146), (144, 145), (143, 144), (142, 143), (141, 142), (140, 141), (131, 140), (123, 131), (114, 123), (105, 114), (97, 105), (40, 97), (37, 38), (38, 39), (18, 19), (19, 20), (22, 23), (23, 24), (16, 17), (17, 18), (24, 25), (36, 37), (35, 36), (34, 35), (33, 34), (32, 33), (31, 32), (30, 31), (25, 30), (20, 21), (21, 22), (14, 15), (15, 16), (12, 13), (13, 14), (3, 4), (2, 3), (1, 2)] := hL
  have hP : va_P g.1 vcl ([(h0, .inr (8, [.int 0, .int 0, .int 0, .int 0, .ref q21, .ref q22, .null, .null, .null, .null, .null, .null, .null, .null]))] ++ pl) _ := hP
  have hD : va_D _ ([(h0, .inr (8, [.int 0, .int 0, .int 0, .int 0, .ref q21, .ref q22, .null, .null, .null, .null, .null, .null, .null, .null]))] ++ pl) := hD
  refine va_putF (D := g.1) (ci := 8) (v := .ref q23) (ty := .array .byte) (C := "LatticeKeysModel") (T := T_M) (N := 14) hx hb hts (wg_ft i_M) ty_M k_M n_M hown hK hP hD hS 0 rfl rfl 6 (by decide) (hts _ (wg_t kw_1532)) (fun _ h9 => h9) rfl hnm rfl (by decide +kernel) rfl rfl (Nat.le_of_ble_eq_true rfl) dM_init_28 (fun H locs hP hD hS => ?_)
  have hP : va_P g.1 vcl ([(h0, .inr (8, [.int 0, .int 0, .int 0, .int 0, .ref q21, .ref q22, .ref q23, .null, .null, .null, .null, .null, .null, .null]))] ++ pl) _ := hP
  have hD : va_D _ ([(h0, .inr (8, [.int 0, .int 0, .int 0, .int 0, .ref q21, .ref q22, .ref q23, .null, .null, .null, .null, .null, .null, .null]))] ++ pl) := hD
  refine lv_aload_n hx hb dM_init_31 rfl (lv_at hl 0 rfl) ?_
  refine lv_bipush (v := nI 8) hx hb dM_init_32 (by decide) ?_
  refine lv_sipush (v := nI 2592) hx hb dM_init_34 (by decide) ?_
  refine nm_mnab (X := [(h0, .inr (8, [.int 0, .int 0, .int 0, .int 0, .ref q21, .ref q22, .ref q23, .null, .null, .null, .null, .null, .null, .null]))]) hx hb hown (hts _ (wg_t kw_1317)) hE.2.2.2.2.2.2.1 (hts _ (wg_t kw_72)) hK hP hD hS hA hO hU hL 152 (by decide +kernel) rfl (by decide +kernel) (by decide) (Nat.le_of_ble_eq_true rfl) (Nat.le_of_ble_eq_true rfl) dM_init_37 (fun q24 T pl H hxt24 hU kr27 hO hP hD hS hL => ?_)
  have kr28 := hxt24 _ _ kr25
  have kr29 := hxt24 _ _ kr26
  have kr30 := hxt24 _ _ kr24
  have hXT := extN_tr hXT hxt24
  have hL : nmL T [(152, 161), (151, 152), (150, 151), (149, 150), (0, 1), (8, 9), (11, 12), (10, 11), (9, 10), (4, 5), (7, 8), (6, 7), (5, 6), (39, 40), (147, 148), (146, 147), (145, 146), (144, 145), (143, 144), (142, 143), (141, 142), (140, 141), (131, 140), (123, 131), (114, 123), (105, 114), (97, 105), (40, 97), (37, 38), (38, 39), (18, 19), (19, 20), (22, 23), (23, 24), (16, 17), (17, 18), (24, 25), (36, 37), (35, 36), (34, 35), (33, 34), (32, 33), (31, 32), (30, 31), (25, 30), (20, 21), (21, 22), (14, 15), (15, 16), (12, 13), (13, 14), (3, 4), (2, 3), (1, 2)] := hL
  have hP : va_P g.1 vcl ([(h0, .inr (8, [.int 0, .int 0, .int 0, .int 0, .ref q21, .ref q22, .ref q23, .null, .null, .null, .null, .null, .null, .null]))] ++ pl) _ := hP
  have hD : va_D _ ([(h0, .inr (8, [.int 0, .int 0, .int 0, .int 0, .ref q21, .ref q22, .ref q23, .null, .null, .null, .null, .null, .null, .null]))] ++ pl) := hD
  refine W.widen (k := 12) (n := 53512) (by omega) (by omega) ?_
  refine va_putF (D := g.1) (ci := 8) (v := .ref q24) (ty := .array (.array .byte)) (C := "LatticeKeysModel") (T := T_M) (N := 14) hx hb hts (wg_ft i_M) ty_M k_M n_M hown hK hP hD hS 0 rfl rfl 7 (by decide) (hts _ (wg_t kw_1533)) (fun _ h9 => h9) rfl hnm rfl (by decide +kernel) rfl rfl (Nat.le_of_ble_eq_true rfl) dM_init_41 (fun H locs hP hD hS => ?_)
  have hP : va_P g.1 vcl ([(h0, .inr (8, [.int 0, .int 0, .int 0, .int 0, .ref q21, .ref q22, .ref q23, .ref q24, .null, .null, .null, .null, .null, .null]))] ++ pl) _ := hP
  have hD : va_D _ ([(h0, .inr (8, [.int 0, .int 0, .int 0, .int 0, .ref q21, .ref q22, .ref q23, .ref q24, .null, .null, .null, .null, .null, .null]))] ++ pl) := hD
  refine lv_aload_n hx hb dM_init_44 rfl (lv_at hl 0 rfl) ?_
  refine lv_bipush (v := nI 8) hx hb dM_init_45 (by decide) ?_
  refine lv_sipush (v := nI 4896) hx hb dM_init_47 (by decide) ?_
  refine nm_mnab (X := [(h0, .inr (8, [.int 0, .int 0, .int 0, .int 0, .ref q21, .ref q22, .ref q23, .ref q24, .null, .null, .null, .null, .null, .null]))]) hx hb hown (hts _ (wg_t kw_1317)) hE.2.2.2.2.2.2.1 (hts _ (wg_t kw_72)) hK hP hD hS hA hO hU hL 161 (by decide +kernel) rfl (by decide +kernel) (by decide) (Nat.le_of_ble_eq_true rfl) (Nat.le_of_ble_eq_true rfl) dM_init_50 (fun q25 T pl H hxt25 hU kr31 hO hP hD hS hL => ?_)
  have kr32 := hxt25 _ _ kr28
  have kr33 := hxt25 _ _ kr29
  have kr34 := hxt25 _ _ kr30
  have kr35 := hxt25 _ _ kr27
  have hXT := extN_tr hXT hxt25
  have hL : nmL T [(161, 170), (152, 161), (151, 152), (150, 151), (149, 150), (0, 1), (8, 9), (11, 12), (10, 11), (9, 10), (4, 5), (7, 8), (6, 7), (5, 6), (39, 40), (147, 148), (146, 147), (145, 146), (144, 145), (143, 144), (142, 143), (141, 142), (140, 141), (131, 140), (123, 131), (114, 123), (105, 114), (97, 105), (40, 97), (37, 38), (38, 39), (18, 19), (19, 20), (22, 23), (23, 24), (16, 17), (17, 18), (24, 25), (36, 37), (35, 36), (34, 35), (33, 34), (32, 33), (31, 32), (30, 31), (25, 30), (20, 21), (21, 22), (14, 15), (15, 16), (12, 13), (13, 14), (3, 4), (2, 3), (1, 2)] := hL
  have hP : va_P g.1 vcl ([(h0, .inr (8, [.int 0, .int 0, .int 0, .int 0, .ref q21, .ref q22, .ref q23, .ref q24, .null, .null, .null, .null, .null, .null]))] ++ pl) _ := hP
  have hD : va_D _ ([(h0, .inr (8, [.int 0, .int 0, .int 0, .int 0, .ref q21, .ref q22, .ref q23, .ref q24, .null, .null, .null, .null, .null, .null]))] ++ pl) := hD
  refine W.widen (k := 21) (n := 92688) (by omega) (by omega) ?_
  refine va_putF (D := g.1) (ci := 8) (v := .ref q25) (ty := .array (.array .byte)) (C := "LatticeKeysModel") (T := T_M) (N := 14) hx hb hts (wg_ft i_M) ty_M k_M n_M hown hK hP hD hS 0 rfl rfl 8 (by decide) (hts _ (wg_t kw_1534)) (fun _ h9 => h9) rfl hnm rfl (by decide +kernel) rfl rfl (Nat.le_of_ble_eq_true rfl) dM_init_54 (fun H locs hP hD hS => ?_)
  have hP : va_P g.1 vcl ([(h0, .inr (8, [.int 0, .int 0, .int 0, .int 0, .ref q21, .ref q22, .ref q23, .ref q24, .ref q25, .null, .null, .null, .null, .null]))] ++ pl) _ := hP
  have hD : va_D _ ([(h0, .inr (8, [.int 0, .int 0, .int 0, .int 0, .ref q21, .ref q22, .ref q23, .ref q24, .ref q25, .null, .null, .null, .null, .null]))] ++ pl) := hD
  refine lv_aload_n hx hb dM_init_57 rfl (lv_at hl 0 rfl) ?_
  refine lv_bipush (v := nI 8) hx hb dM_init_58 (by decide) ?_
  refine ma_newa (ws := [(h0, .inr (8, [.int 0, .int 0, .int 0, .int 0, .ref q21, .ref q22, .ref q23, .ref q24, .ref q25, .null, .null, .null, .null, .null]))] ++ pl) (atype := .int) hx hb (hts _ (wg_t kw_104)) rfl hK hP hD hS hA 0 rfl (N' := 8) (a0 := (8, .inl (fun _ => 0))) (fun _ => rfl) (nI_pos (by omega)) (nI_clamp (by omega)) (by show (8) * 4 ≤ 536870912; omega) (Nat.le_of_ble_eq_true rfl) (Nat.le_of_ble_eq_true rfl) dM_init_60 (fun q26 H hP hD hS => ?_)
  refine W.widen (k := 22) (n := 92696) (by omega) (by omega) ?_
  obtain ⟨T, pl, hxt26, hU, kr36, hO, hP, hD, hL⟩ := absorbX (X := [(h0, .inr (8, [.int 0, .int 0, .int 0, .int 0, .ref q21, .ref q22, .ref q23, .ref q24, .ref q25, .null, .null, .null, .null, .null]))]) 170 hP hD hO hU hL rfl (fun _ _ _ => fit0 (k := 170) rfl)
  have kr37 := hxt26 _ _ kr32
  have kr38 := hxt26 _ _ kr33
  have kr39 := hxt26 _ _ kr34
  have kr40 := hxt26 _ _ kr35
  have kr41 := hxt26 _ _ kr31
  have hXT := extN_tr hXT hxt26
  have hL : nmL T [(170, 171), (161, 170), (152, 161), (151, 152), (150, 151), (149, 150), (0, 1), (8, 9), (11, 12), (10, 11), (9, 10), (4, 5), (7, 8), (6, 7), (5, 6), (39, 40), (147, 148), (146, 147), (145, 146), (144, 145), (143, 144), (142, 143), (141, 142), (140, 141), (131, 140), (123, 131), (114, 123), (105, 114), (97, 105), (40, 97), (37, 38), (38, 39), (18, 19), (19, 20), (22, 23), (23, 24), (16, 17), (17, 18), (24, 25), (36, 37), (35, 36), (34, 35), (33, 34), (32, 33), (31, 32), (30, 31), (25, 30), (20, 21), (21, 22), (14, 15), (15, 16), (12, 13), (13, 14), (3, 4), (2, 3), (1, 2)] := hL
  have hP : va_P g.1 vcl ([(h0, .inr (8, [.int 0, .int 0, .int 0, .int 0, .ref q21, .ref q22, .ref q23, .ref q24, .ref q25, .null, .null, .null, .null, .null]))] ++ pl) _ := hP
  have hD : va_D _ ([(h0, .inr (8, [.int 0, .int 0, .int 0, .int 0, .ref q21, .ref q22, .ref q23, .ref q24, .ref q25, .null, .null, .null, .null, .null]))] ++ pl) := hD
  refine va_putF (D := g.1) (ci := 8) (v := .ref q26) (ty := .array .int) (C := "LatticeKeysModel") (T := T_M) (N := 14) hx hb hts (wg_ft i_M) ty_M k_M n_M hown hK hP hD hS 0 rfl rfl 9 (by decide) (hts _ (wg_t kw_1535)) (fun _ h9 => h9) rfl hnm rfl (by decide +kernel) rfl rfl (Nat.le_of_ble_eq_true rfl) dM_init_62 (fun H locs hP hD hS => ?_)
  have hP : va_P g.1 vcl ([(h0, .inr (8, [.int 0, .int 0, .int 0, .int 0, .ref q21, .ref q22, .ref q23, .ref q24, .ref q25, .ref q26, .null, .null, .null, .null]))] ++ pl) _ := hP
  have hD : va_D _ ([(h0, .inr (8, [.int 0, .int 0, .int 0, .int 0, .ref q21, .ref q22, .ref q23, .ref q24, .ref q25, .ref q26, .null, .null, .null, .null]))] ++ pl) := hD
  refine lv_aload_n hx hb dM_init_65 rfl (lv_at hl 0 rfl) ?_
  refine lv_bipush (v := nI 8) hx hb dM_init_66 (by decide) ?_
  refine ma_newa (ws := [(h0, .inr (8, [.int 0, .int 0, .int 0, .int 0, .ref q21, .ref q22, .ref q23, .ref q24, .ref q25, .ref q26, .null, .null, .null, .null]))] ++ pl) (atype := .int) hx hb (hts _ (wg_t kw_104)) rfl hK hP hD hS hA 0 rfl (N' := 8) (a0 := (8, .inl (fun _ => 0))) (fun _ => rfl) (nI_pos (by omega)) (nI_clamp (by omega)) (by show (8) * 4 ≤ 536870912; omega) (Nat.le_of_ble_eq_true rfl) (Nat.le_of_ble_eq_true rfl) dM_init_68 (fun q27 H hP hD hS => ?_)
  refine W.widen (k := 23) (n := 92704) (by omega) (by omega) ?_
  obtain ⟨T, pl, hxt27, hU, kr42, hO, hP, hD, hL⟩ := absorbX (X := [(h0, .inr (8, [.int 0, .int 0, .int 0, .int 0, .ref q21, .ref q22, .ref q23, .ref q24, .ref q25, .ref q26, .null, .null, .null, .null]))]) 171 hP hD hO hU hL rfl (fun _ _ _ => fit0 (k := 171) rfl)
  have kr43 := hxt27 _ _ kr37
  have kr44 := hxt27 _ _ kr38
  have kr45 := hxt27 _ _ kr39
  have kr46 := hxt27 _ _ kr40
  have kr47 := hxt27 _ _ kr41
  have kr48 := hxt27 _ _ kr36
  have hXT := extN_tr hXT hxt27
  have hL : nmL T [(171, 172), (170, 171), (161, 170), (152, 161), (151, 152), (150, 151), (149, 150), (0, 1), (8, 9), (11, 12), (10, 11), (9, 10), (4, 5), (7, 8), (6, 7), (5, 6), (39, 40), (147, 148), (146, 147), (145, 146), (144, 145), (143, 144), (142, 143), (141, 142), (140, 141), (131, 140), (123, 131), (114, 123), (105, 114), (97, 105), (40, 97), (37, 38), (38, 39), (18, 19), (19, 20), (22, 23), (23, 24), (16, 17), (17, 18), (24, 25), (36, 37), (35, 36), (34, 35), (33, 34), (32, 33), (31, 32), (30, 31), (25, 30), (20, 21), (21, 22), (14, 15), (15, 16), (12, 13), (13, 14), (3, 4), (2, 3), (1, 2)] := hL
  have hP : va_P g.1 vcl ([(h0, .inr (8, [.int 0, .int 0, .int 0, .int 0, .ref q21, .ref q22, .ref q23, .ref q24, .ref q25, .ref q26, .null, .null, .null, .null]))] ++ pl) _ := hP
  have hD : va_D _ ([(h0, .inr (8, [.int 0, .int 0, .int 0, .int 0, .ref q21, .ref q22, .ref q23, .ref q24, .ref q25, .ref q26, .null, .null, .null, .null]))] ++ pl) := hD
  refine va_putF (D := g.1) (ci := 8) (v := .ref q27) (ty := .array .int) (C := "LatticeKeysModel") (T := T_M) (N := 14) hx hb hts (wg_ft i_M) ty_M k_M n_M hown hK hP hD hS 0 rfl rfl 10 (by decide) (hts _ (wg_t kw_1536)) (fun _ h9 => h9) rfl hnm rfl (by decide +kernel) rfl rfl (Nat.le_of_ble_eq_true rfl) dM_init_70 (fun H locs hP hD hS => ?_)
  have hP : va_P g.1 vcl ([(h0, .inr (8, [.int 0, .int 0, .int 0, .int 0, .ref q21, .ref q22, .ref q23, .ref q24, .ref q25, .ref q26, .ref q27, .null, .null, .null]))] ++ pl) _ := hP
  have hD : va_D _ ([(h0, .inr (8, [.int 0, .int 0, .int 0, .int 0, .ref q21, .ref q22, .ref q23, .ref q24, .ref q25, .ref q26, .ref q27, .null, .null, .null]))] ++ pl) := hD
  refine lv_aload_n hx hb dM_init_73 rfl (lv_at hl 0 rfl) ?_
  refine va_new (ws := [(h0, .inr (8, [.int 0, .int 0, .int 0, .int 0, .ref q21, .ref q22, .ref q23, .ref q24, .ref q25, .ref q26, .ref q27, .null, .null, .null]))] ++ pl) (ci := 9) (fs := [.null, .null, .null, .null, .null, .int 0, .int 0, .int 0]) (C := "LatticeKeysModel$Sponge") (T := T_MS) (N := 8) hx hb hts (wg_ft i_MS) ty_MS k_MS hown (hts _ (wg_t kw_1319)) (hts _ (wg_t kw_1320)) (hts _ (wg_t kw_10)) hK hP hD hS hA rfl z_MS (Nat.le_of_ble_eq_true rfl) (Nat.le_of_ble_eq_true rfl) dM_init_74 (fun q28 H hP hD hS => ?_)
  obtain ⟨hP, hD⟩ := mv_first hP hD
  have hP : va_P g.1 vcl ([(h0, .inr (8, [.int 0, .int 0, .int 0, .int 0, .ref q21, .ref q22, .ref q23, .ref q24, .ref q25, .ref q26, .ref q27, .null, .null, .null])), (q28, .inr (9, [.null, .null, .null, .null, .null, .int 0, .int 0, .int 0]))] ++ pl) _ := hP
  have hD : va_D _ ([(h0, .inr (8, [.int 0, .int 0, .int 0, .int 0, .ref q21, .ref q22, .ref q23, .ref q24, .ref q25, .ref q26, .ref q27, .null, .null, .null])), (q28, .inr (9, [.null, .null, .null, .null, .null, .int 0, .int 0, .int 0]))] ++ pl) := hD
  refine W.widen (k := 24) (n := 92712) (by omega) (by omega) ?_
  refine lv_dup hx hb dM_init_77 rfl ?_
  refine mq_v (cx := [(q28, .inr (9, [.null, .null, .null, .null, .null, .int 0, .int 0, .int 0]))]) (wr := [(h0, .inr (8, [.int 0, .int 0, .int 0, .int 0, .ref q21, .ref q22, .ref q23, .ref q24, .ref q25, .ref q26, .ref q27, .null, .null, .null]))]) hP hD hS hA [1] [0] rfl rfl rfl (by decide) (va_runI (As := []) (rest := [.ref q28, .ref h0]) F (m_MS_initX l g _ q28) (cwI 0 hts (wg_in kw_1323) rfl rfl rfl (hts _ (wg_t kw_10)) (hts _ (wg_t kw_1321)) (hts _ (wg_t kw_1322)) rfl (by decide +kernel) ⟨by decide, by decide⟩) (pr_S (en_ok g) (md_P hP) (md_D hD) hS hA hE [1] rfl rfl) rfl rfl hl.1 rfl (lv_room (Nat.le_of_ble_eq_true rfl)) dM_init_78 ⟨Nat.le_of_ble_eq_true rfl, Nat.le_of_ble_eq_true rfl⟩) (fun u21 H locs hu21 hP hD hS => ?_)
  have hP : va_P g.1 vcl ([(h0, .inr (8, [.int 0, .int 0, .int 0, .int 0, .ref q21, .ref q22, .ref q23, .ref q24, .ref q25, .ref q26, .ref q27, .null, .null, .null])), (q28, .inr (9, [.ref ((u21 0)), .ref ((u21 1)), .ref ((u21 2)), .ref ((u21 3)), .ref ((u21 4)), .int 0, .int 0, .int 0])), ((u21 0), .inl (g.2.1 2, 25, .inr (.inl ((fun _ => 0))))), ((u21 1), .inl (g.2.1 2, 25, .inr (.inl ((fun _ => 0))))), ((u21 2), .inl (g.2.1 2, 5, .inr (.inl ((fun _ => 0))))), ((u21 3), .inl (g.2.1 2, 24, .inr (.inl ((msO 24).2)))), ((u21 4), .inl (g.2.1 0, 25, .inl ((msU 24))))] ++ pl) _ := hP
  have hD : va_D _ ([(h0, .inr (8, [.int 0, .int 0, .int 0, .int 0, .ref q21, .ref q22, .ref q23, .ref q24, .ref q25, .ref q26, .ref q27, .null, .null, .null])), (q28, .inr (9, [.ref ((u21 0)), .ref ((u21 1)), .ref ((u21 2)), .ref ((u21 3)), .ref ((u21 4)), .int 0, .int 0, .int 0])), ((u21 0), .inl (g.2.1 2, 25, .inr (.inl ((fun _ => 0))))), ((u21 1), .inl (g.2.1 2, 25, .inr (.inl ((fun _ => 0))))), ((u21 2), .inl (g.2.1 2, 5, .inr (.inl ((fun _ => 0))))), ((u21 3), .inl (g.2.1 2, 24, .inr (.inl ((msO 24).2)))), ((u21 4), .inl (g.2.1 0, 25, .inl ((msU 24))))] ++ pl) := hD
  refine W.widen (k := 29) (n := 92816) (by omega) (by omega) ?_
  obtain ⟨am21, heam21⟩ : ∃ z, z = (u21 0) := ⟨_, rfl⟩
  rw [← heam21] at hP hD
  have hP : va_P g.1 vcl ([(h0, .inr (8, [.int 0, .int 0, .int 0, .int 0, .ref q21, .ref q22, .ref q23, .ref q24, .ref q25, .ref q26, .ref q27, .null, .null, .null])), (q28, .inr (9, [.ref am21, .ref ((u21 1)), .ref ((u21 2)), .ref ((u21 3)), .ref ((u21 4)), .int 0, .int 0, .int 0])), (am21, .inl (g.2.1 2, 25, .inr (.inl ((fun _ => 0))))), ((u21 1), .inl (g.2.1 2, 25, .inr (.inl ((fun _ => 0))))), ((u21 2), .inl (g.2.1 2, 5, .inr (.inl ((fun _ => 0))))), ((u21 3), .inl (g.2.1 2, 24, .inr (.inl ((msO 24).2)))), ((u21 4), .inl (g.2.1 0, 25, .inl ((msU 24))))] ++ pl) _ := hP
  have hD : va_D _ ([(h0, .inr (8, [.int 0, .int 0, .int 0, .int 0, .ref q21, .ref q22, .ref q23, .ref q24, .ref q25, .ref q26, .ref q27, .null, .null, .null])), (q28, .inr (9, [.ref am21, .ref ((u21 1)), .ref ((u21 2)), .ref ((u21 3)), .ref ((u21 4)), .int 0, .int 0, .int 0])), (am21, .inl (g.2.1 2, 25, .inr (.inl ((fun _ => 0))))), ((u21 1), .inl (g.2.1 2, 25, .inr (.inl ((fun _ => 0))))), ((u21 2), .inl (g.2.1 2, 5, .inr (.inl ((fun _ => 0))))), ((u21 3), .inl (g.2.1 2, 24, .inr (.inl ((msO 24).2)))), ((u21 4), .inl (g.2.1 0, 25, .inl ((msU 24))))] ++ pl) := hD
  obtain ⟨am22, heam22⟩ : ∃ z, z = (u21 1) := ⟨_, rfl⟩
  rw [← heam22] at hP hD
  have hP : va_P g.1 vcl ([(h0, .inr (8, [.int 0, .int 0, .int 0, .int 0, .ref q21, .ref q22, .ref q23, .ref q24, .ref q25, .ref q26, .ref q27, .null, .null, .null])), (q28, .inr (9, [.ref am21, .ref am22, .ref ((u21 2)), .ref ((u21 3)), .ref ((u21 4)), .int 0, .int 0, .int 0])), (am21, .inl (g.2.1 2, 25, .inr (.inl ((fun _ => 0))))), (am22, .inl (g.2.1 2, 25, .inr (.inl ((fun _ => 0))))), ((u21 2), .inl (g.2.1 2, 5, .inr (.inl ((fun _ => 0))))), ((u21 3), .inl (g.2.1 2, 24, .inr (.inl ((msO 24).2)))), ((u21 4), .inl (g.2.1 0, 25, .inl ((msU 24))))] ++ pl) _ := hP
  have hD : va_D _ ([(h0, .inr (8, [.int 0, .int 0, .int 0, .int 0, .ref q21, .ref q22, .ref q23, .ref q24, .ref q25, .ref q26, .ref q27, .null, .null, .null])), (q28, .inr (9, [.ref am21, .ref am22, .ref ((u21 2)), .ref ((u21 3)), .ref ((u21 4)), .int 0, .int 0, .int 0])), (am21, .inl (g.2.1 2, 25, .inr (.inl ((fun _ => 0))))), (am22, .inl (g.2.1 2, 25, .inr (.inl ((fun _ => 0))))), ((u21 2), .inl (g.2.1 2, 5, .inr (.inl ((fun _ => 0))))), ((u21 3), .inl (g.2.1 2, 24, .inr (.inl ((msO 24).2)))), ((u21 4), .inl (g.2.1 0, 25, .inl ((msU 24))))] ++ pl) := hD
  obtain ⟨am23, heam23⟩ : ∃ z, z = (u21 2) := ⟨_, rfl⟩
  rw [← heam23] at hP hD
  have hP : va_P g.1 vcl ([(h0, .inr (8, [.int 0, .int 0, .int 0, .int 0, .ref q21, .ref q22, .ref q23, .ref q24, .ref q25, .ref q26, .ref q27, .null, .null, .null])), (q28, .inr (9, [.ref am21, .ref am22, .ref am23, .ref ((u21 3)), .ref ((u21 4)), .int 0, .int 0, .int 0])), (am21, .inl (g.2.1 2, 25, .inr (.inl ((fun _ => 0))))), (am22, .inl (g.2.1 2, 25, .inr (.inl ((fun _ => 0))))), (am23, .inl (g.2.1 2, 5, .inr (.inl ((fun _ => 0))))), ((u21 3), .inl (g.2.1 2, 24, .inr (.inl ((msO 24).2)))), ((u21 4), .inl (g.2.1 0, 25, .inl ((msU 24))))] ++ pl) _ := hP
  have hD : va_D _ ([(h0, .inr (8, [.int 0, .int 0, .int 0, .int 0, .ref q21, .ref q22, .ref q23, .ref q24, .ref q25, .ref q26, .ref q27, .null, .null, .null])), (q28, .inr (9, [.ref am21, .ref am22, .ref am23, .ref ((u21 3)), .ref ((u21 4)), .int 0, .int 0, .int 0])), (am21, .inl (g.2.1 2, 25, .inr (.inl ((fun _ => 0))))), (am22, .inl (g.2.1 2, 25, .inr (.inl ((fun _ => 0))))), (am23, .inl (g.2.1 2, 5, .inr (.inl ((fun _ => 0))))), ((u21 3), .inl (g.2.1 2, 24, .inr (.inl ((msO 24).2)))), ((u21 4), .inl (g.2.1 0, 25, .inl ((msU 24))))] ++ pl) := hD
  obtain ⟨am24, heam24⟩ : ∃ z, z = (u21 3) := ⟨_, rfl⟩
  rw [← heam24] at hP hD
  have hP : va_P g.1 vcl ([(h0, .inr (8, [.int 0, .int 0, .int 0, .int 0, .ref q21, .ref q22, .ref q23, .ref q24, .ref q25, .ref q26, .ref q27, .null, .null, .null])), (q28, .inr (9, [.ref am21, .ref am22, .ref am23, .ref am24, .ref ((u21 4)), .int 0, .int 0, .int 0])), (am21, .inl (g.2.1 2, 25, .inr (.inl ((fun _ => 0))))), (am22, .inl (g.2.1 2, 25, .inr (.inl ((fun _ => 0))))), (am23, .inl (g.2.1 2, 5, .inr (.inl ((fun _ => 0))))), (am24, .inl (g.2.1 2, 24, .inr (.inl ((msO 24).2)))), ((u21 4), .inl (g.2.1 0, 25, .inl ((msU 24))))] ++ pl) _ := hP
  have hD : va_D _ ([(h0, .inr (8, [.int 0, .int 0, .int 0, .int 0, .ref q21, .ref q22, .ref q23, .ref q24, .ref q25, .ref q26, .ref q27, .null, .null, .null])), (q28, .inr (9, [.ref am21, .ref am22, .ref am23, .ref am24, .ref ((u21 4)), .int 0, .int 0, .int 0])), (am21, .inl (g.2.1 2, 25, .inr (.inl ((fun _ => 0))))), (am22, .inl (g.2.1 2, 25, .inr (.inl ((fun _ => 0))))), (am23, .inl (g.2.1 2, 5, .inr (.inl ((fun _ => 0))))), (am24, .inl (g.2.1 2, 24, .inr (.inl ((msO 24).2)))), ((u21 4), .inl (g.2.1 0, 25, .inl ((msU 24))))] ++ pl) := hD
  obtain ⟨am25, heam25⟩ : ∃ z, z = (u21 4) := ⟨_, rfl⟩
  rw [← heam25] at hP hD
  have hP : va_P g.1 vcl ([(h0, .inr (8, [.int 0, .int 0, .int 0, .int 0, .ref q21, .ref q22, .ref q23, .ref q24, .ref q25, .ref q26, .ref q27, .null, .null, .null])), (q28, .inr (9, [.ref am21, .ref am22, .ref am23, .ref am24, .ref am25, .int 0, .int 0, .int 0])), (am21, .inl (g.2.1 2, 25, .inr (.inl ((fun _ => 0))))), (am22, .inl (g.2.1 2, 25, .inr (.inl ((fun _ => 0))))), (am23, .inl (g.2.1 2, 5, .inr (.inl ((fun _ => 0))))), (am24, .inl (g.2.1 2, 24, .inr (.inl ((msO 24).2)))), (am25, .inl (g.2.1 0, 25, .inl ((msU 24))))] ++ pl) _ := hP
  have hD : va_D _ ([(h0, .inr (8, [.int 0, .int 0, .int 0, .int 0, .ref q21, .ref q22, .ref q23, .ref q24, .ref q25, .ref q26, .ref q27, .null, .null, .null])), (q28, .inr (9, [.ref am21, .ref am22, .ref am23, .ref am24, .ref am25, .int 0, .int 0, .int 0])), (am21, .inl (g.2.1 2, 25, .inr (.inl ((fun _ => 0))))), (am22, .inl (g.2.1 2, 25, .inr (.inl ((fun _ => 0))))), (am23, .inl (g.2.1 2, 5, .inr (.inl ((fun _ => 0))))), (am24, .inl (g.2.1 2, 24, .inr (.inl ((msO 24).2)))), (am25, .inl (g.2.1 0, 25, .inl ((msU 24))))] ++ pl) := hD
  have hP : va_P g.1 vcl ([(h0, .inr (8, [.int 0, .int 0, .int 0, .int 0, .ref q21, .ref q22, .ref q23, .ref q24, .ref q25, .ref q26, .ref q27, .null, .null, .null])), (q28, .inr (9, [.ref am21, .ref am22, .ref am23, .ref am24, .ref am25, .int 0, .int 0, .int 0])), (am22, .inl (g.2.1 2, 25, .inr (.inl ((fun _ => 0))))), (am23, .inl (g.2.1 2, 5, .inr (.inl ((fun _ => 0))))), (am24, .inl (g.2.1 2, 24, .inr (.inl ((msO 24).2)))), (am25, .inl (g.2.1 0, 25, .inl ((msU 24)))), (am21, .inl (g.2.1 2, 25, .inr (.inl ((fun _ => 0)))))] ++ pl) _ := hP.part [0, 1, 3, 4, 5, 6, 2] rfl
  have hD : va_D _ ([(h0, .inr (8, [.int 0, .int 0, .int 0, .int 0, .ref q21, .ref q22, .ref q23, .ref q24, .ref q25, .ref q26, .ref q27, .null, .null, .null])), (q28, .inr (9, [.ref am21, .ref am22, .ref am23, .ref am24, .ref am25, .int 0, .int 0, .int 0])), (am22, .inl (g.2.1 2, 25, .inr (.inl ((fun _ => 0))))), (am23, .inl (g.2.1 2, 5, .inr (.inl ((fun _ => 0))))), (am24, .inl (g.2.1 2, 24, .inr (.inl ((msO 24).2)))), (am25, .inl (g.2.1 0, 25, .inl ((msU 24)))), (am21, .inl (g.2.1 2, 25, .inr (.inl ((fun _ => 0)))))] ++ pl) := hD.part [0, 1, 3, 4, 5, 6, 2] (by decide) rfl
  obtain ⟨hP, hD⟩ := mv_last (X := [(h0, .inr (8, [.int 0, .int 0, .int 0, .int 0, .ref q21, .ref q22, .ref q23, .ref q24, .ref q25, .ref q26, .ref q27, .null, .null, .null])), (q28, .inr (9, [.ref am21, .ref am22, .ref am23, .ref am24, .ref am25, .int 0, .int 0, .int 0])), (am22, .inl (g.2.1 2, 25, .inr (.inl ((fun _ => 0))))), (am23, .inl (g.2.1 2, 5, .inr (.inl ((fun _ => 0))))), (am24, .inl (g.2.1 2, 24, .inr (.inl ((msO 24).2)))), (am25, .inl (g.2.1 0, 25, .inl ((msU 24))))]) (c := (am21, .inl (g.2.1 2, 25, .inr (.inl ((fun _ => 0)))))) hP hD
  obtain ⟨T, pl, hxt28, hU, kr49, hO, hP, hD, hL⟩ := absorbX (X := [(h0, .inr (8, [.int 0, .int 0, .int 0, .int 0, .ref q21, .ref q22, .ref q23, .ref q24, .ref q25, .ref q26, .ref q27, .null, .null, .null])), (q28, .inr (9, [.ref am21, .ref am22, .ref am23, .ref am24, .ref am25, .int 0, .int 0, .int 0])), (am22, .inl (g.2.1 2, 25, .inr (.inl ((fun _ => 0))))), (am23, .inl (g.2.1 2, 5, .inr (.inl ((fun _ => 0))))), (am24, .inl (g.2.1 2, 24, .inr (.inl ((msO 24).2)))), (am25, .inl (g.2.1 0, 25, .inl ((msU 24))))]) 173 hP hD hO hU hL rfl (fun _ _ _ => fit2 (k := 173) rfl)
  have kr50 := hxt28 _ _ kr43
  have kr51 := hxt28 _ _ kr44
  have kr52 := hxt28 _ _ kr45
  have kr53 := hxt28 _ _ kr46
  have kr54 := hxt28 _ _ kr47
  have kr55 := hxt28 _ _ kr48
  have kr56 := hxt28 _ _ kr42
  have hXT := extN_tr hXT hxt28
  have hL : nmL T [(173, 174), (171, 172), (170, 171), (161, 170), (152, 161), (151, 152), (150, 151), (149, 150), (0, 1), (8, 9), (11, 12), (10, 11), (9, 10), (4, 5), (7, 8), (6, 7), (5, 6), (39, 40), (147, 148), (146, 147), (145, 146), (144, 145), (143, 144), (142, 143), (141, 142), (140, 141), (131, 140), (123, 131), (114, 123), (105, 114), (97, 105), (40, 97), (37, 38), (38, 39), (18, 19), (19, 20), (22, 23), (23, 24), (16, 17), (17, 18), (24, 25), (36, 37), (35, 36), (34, 35), (33, 34), (32, 33), (31, 32), (30, 31), (25, 30), (20, 21), (21, 22), (14, 15), (15, 16), (12, 13), (13, 14), (3, 4), (2, 3), (1, 2)] := hL
  have hP : va_P g.1 vcl ([(h0, .inr (8, [.int 0, .int 0, .int 0, .int 0, .ref q21, .ref q22, .ref q23, .ref q24, .ref q25, .ref q26, .ref q27, .null, .null, .null])), (q28, .inr (9, [.ref am21, .ref am22, .ref am23, .ref am24, .ref am25, .int 0, .int 0, .int 0])), (am22, .inl (g.2.1 2, 25, .inr (.inl ((fun _ => 0))))), (am23, .inl (g.2.1 2, 5, .inr (.inl ((fun _ => 0))))), (am24, .inl (g.2.1 2, 24, .inr (.inl ((msO 24).2)))), (am25, .inl (g.2.1 0, 25, .inl ((msU 24))))] ++ pl) _ := hP
  have hD : va_D _ ([(h0, .inr (8, [.int 0, .int 0, .int 0, .int 0, .ref q21, .ref q22, .ref q23, .ref q24, .ref q25, .ref q26, .ref q27, .null, .null, .null])), (q28, .inr (9, [.ref am21, .ref am22, .ref am23, .ref am24, .ref am25, .int 0, .int 0, .int 0])), (am22, .inl (g.2.1 2, 25, .inr (.inl ((fun _ => 0))))), (am23, .inl (g.2.1 2, 5, .inr (.inl ((fun _ => 0))))), (am24, .inl (g.2.1 2, 24, .inr (.inl ((msO 24).2)))), (am25, .inl (g.2.1 0, 25, .inl ((msU 24))))] ++ pl) := hD
  have hP : va_P g.1 vcl ([(h0, .inr (8, [.int 0, .int 0, .int 0, .int 0, .ref q21, .ref q22, .ref q23, .ref q24, .ref q25, .ref q26, .ref q27, .null, .null, .null])), (q28, .inr (9, [.ref am21, .ref am22, .ref am23, .ref am24, .ref am25, .int 0, .int 0, .int 0])), (am23, .inl (g.2.1 2, 5, .inr (.inl ((fun _ => 0))))), (am24, .inl (g.2.1 2, 24, .inr (.inl ((msO 24).2)))), (am25, .inl (g.2.1 0, 25, .inl ((msU 24)))), (am22, .inl (g.2.1 2, 25, .inr (.inl ((fun _ => 0)))))] ++ pl) _ := hP.part [0, 1, 3, 4, 5, 2] rfl
  have hD : va_D _ ([(h0, .inr (8, [.int 0, .int 0, .int 0, .int 0, .ref q21, .ref q22, .ref q23, .ref q24, .ref q25, .ref q26, .ref q27, .null, .null, .null])), (q28, .inr (9, [.ref am21, .ref am22, .ref am23, .ref am24, .ref am25, .int 0, .int 0, .int 0])), (am23, .inl (g.2.1 2, 5, .inr (.inl ((fun _ => 0))))), (am24, .inl (g.2.1 2, 24, .inr (.inl ((msO 24).2)))), (am25, .inl (g.2.1 0, 25, .inl ((msU 24)))), (am22, .inl (g.2.1 2, 25, .inr (.inl ((fun _ => 0)))))] ++ pl) := hD.part [0, 1, 3, 4, 5, 2] (by decide) rfl
  obtain ⟨hP, hD⟩ := mv_last (X := [(h0, .inr (8, [.int 0, .int 0, .int 0, .int 0, .ref q21, .ref q22, .ref q23, .ref q24, .ref q25, .ref q26, .ref q27, .null, .null, .null])), (q28, .inr (9, [.ref am21, .ref am22, .ref am23, .ref am24, .ref am25, .int 0, .int 0, .int 0])), (am23, .inl (g.2.1 2, 5, .inr (.inl ((fun _ => 0))))), (am24, .inl (g.2.1 2, 24, .inr (.inl ((msO 24).2)))), (am25, .inl (g.2.1 0, 25, .inl ((msU 24))))]) (c := (am22, .inl (g.2.1 2, 25, .inr (.inl ((fun _ => 0)))))) hP hD
  obtain ⟨T, pl, hxt29, hU, kr57, hO, hP, hD, hL⟩ := absorbX (X := [(h0, .inr (8, [.int 0, .int 0, .int 0, .int 0, .ref q21, .ref q22, .ref q23, .ref q24, .ref q25, .ref q26, .ref q27, .null, .null, .null])), (q28, .inr (9, [.ref am21, .ref am22, .ref am23, .ref am24, .ref am25, .int 0, .int 0, .int 0])), (am23, .inl (g.2.1 2, 5, .inr (.inl ((fun _ => 0))))), (am24, .inl (g.2.1 2, 24, .inr (.inl ((msO 24).2)))), (am25, .inl (g.2.1 0, 25, .inl ((msU 24))))]) 174 hP hD hO hU hL rfl (fun _ _ _ => fit10 (k := 174) rfl)
  have kr58 := hxt29 _ _ kr50
  have kr59 := hxt29 _ _ kr51
  have kr60 := hxt29 _ _ kr52
  have kr61 := hxt29 _ _ kr53
  have kr62 := hxt29 _ _ kr54
  have kr63 := hxt29 _ _ kr55
  have kr64 := hxt29 _ _ kr56
  have kr65 := hxt29 _ _ kr49
  have hXT := extN_tr hXT hxt29
  have hL : nmL T [(174, 175), (173, 174), (171, 172), (170, 171), (161, 170), (152, 161), (151, 152), (150, 151), (149, 150), (0, 1), (8, 9), (11, 12), (10, 11), (9, 10), (4, 5), (7, 8), (6, 7), (5, 6), (39, 40), (147, 148), (146, 147), (145, 146), (144, 145), (143, 144), (142, 143), (141, 142), (140, 141), (131, 140), (123, 131), (114, 123), (105, 114), (97, 105), (40, 97), (37, 38), (38, 39), (18, 19), (19, 20), (22, 23), (23, 24), (16, 17), (17, 18), (24, 25), (36, 37), (35, 36), (34, 35), (33, 34), (32, 33), (31, 32), (30, 31), (25, 30), (20, 21), (21, 22), (14, 15), (15, 16), (12, 13), (13, 14), (3, 4), (2, 3), (1, 2)] := hL
  have hP : va_P g.1 vcl ([(h0, .inr (8, [.int 0, .int 0, .int 0, .int 0, .ref q21, .ref q22, .ref q23, .ref q24, .ref q25, .ref q26, .ref q27, .null, .null, .null])), (q28, .inr (9, [.ref am21, .ref am22, .ref am23, .ref am24, .ref am25, .int 0, .int 0, .int 0])), (am23, .inl (g.2.1 2, 5, .inr (.inl ((fun _ => 0))))), (am24, .inl (g.2.1 2, 24, .inr (.inl ((msO 24).2)))), (am25, .inl (g.2.1 0, 25, .inl ((msU 24))))] ++ pl) _ := hP
  have hD : va_D _ ([(h0, .inr (8, [.int 0, .int 0, .int 0, .int 0, .ref q21, .ref q22, .ref q23, .ref q24, .ref q25, .ref q26, .ref q27, .null, .null, .null])), (q28, .inr (9, [.ref am21, .ref am22, .ref am23, .ref am24, .ref am25, .int 0, .int 0, .int 0])), (am23, .inl (g.2.1 2, 5, .inr (.inl ((fun _ => 0))))), (am24, .inl (g.2.1 2, 24, .inr (.inl ((msO 24).2)))), (am25, .inl (g.2.1 0, 25, .inl ((msU 24))))] ++ pl) := hD
  have hP : va_P g.1 vcl ([(h0, .inr (8, [.int 0, .int 0, .int 0, .int 0, .ref q21, .ref q22, .ref q23, .ref q24, .ref q25, .ref q26, .ref q27, .null, .null, .null])), (q28, .inr (9, [.ref am21, .ref am22, .ref am23, .ref am24, .ref am25, .int 0, .int 0, .int 0])), (am24, .inl (g.2.1 2, 24, .inr (.inl ((msO 24).2)))), (am25, .inl (g.2.1 0, 25, .inl ((msU 24)))), (am23, .inl (g.2.1 2, 5, .inr (.inl ((fun _ => 0)))))] ++ pl) _ := hP.part [0, 1, 3, 4, 2] rfl
  have hD : va_D _ ([(h0, .inr (8, [.int 0, .int 0, .int 0, .int 0, .ref q21, .ref q22, .ref q23, .ref q24, .ref q25, .ref q26, .ref q27, .null, .null, .null])), (q28, .inr (9, [.ref am21, .ref am22, .ref am23, .ref am24, .ref am25, .int 0, .int 0, .int 0])), (am24, .inl (g.2.1 2, 24, .inr (.inl ((msO 24).2)))), (am25, .inl (g.2.1 0, 25, .inl ((msU 24)))), (am23, .inl (g.2.1 2, 5, .inr (.inl ((fun _ => 0)))))] ++ pl) := hD.part [0, 1, 3, 4, 2] (by decide) rfl
  obtain ⟨hP, hD⟩ := mv_last (X := [(h0, .inr (8, [.int 0, .int 0, .int 0, .int 0, .ref q21, .ref q22, .ref q23, .ref q24, .ref q25, .ref q26, .ref q27, .null, .null, .null])), (q28, .inr (9, [.ref am21, .ref am22, .ref am23, .ref am24, .ref am25, .int 0, .int 0, .int 0])), (am24, .inl (g.2.1 2, 24, .inr (.inl ((msO 24).2)))), (am25, .inl (g.2.1 0, 25, .inl ((msU 24))))]) (c := (am23, .inl (g.2.1 2, 5, .inr (.inl ((fun _ => 0)))))) hP hD
  obtain ⟨T, pl, hxt30, hU, kr66, hO, hP, hD, hL⟩ := absorbX (X := [(h0, .inr (8, [.int 0, .int 0, .int 0, .int 0, .ref q21, .ref q22, .ref q23, .ref q24, .ref q25, .ref q26, .ref q27, .null, .null, .null])), (q28, .inr (9, [.ref am21, .ref am22, .ref am23, .ref am24, .ref am25, .int 0, .int 0, .int 0])), (am24, .inl (g.2.1 2, 24, .inr (.inl ((msO 24).2)))), (am25, .inl (g.2.1 0, 25, .inl ((msU 24))))]) 175 hP hD hO hU hL rfl (fun _ _ _ => fit10 (k := 175) rfl)
  have kr67 := hxt30 _ _ kr58
  have kr68 := hxt30 _ _ kr59
  have kr69 := hxt30 _ _ kr60
  have kr70 := hxt30 _ _ kr61
  have kr71 := hxt30 _ _ kr62
  have kr72 := hxt30 _ _ kr63
  have kr73 := hxt30 _ _ kr64
  have kr74 := hxt30 _ _ kr65
  have kr75 := hxt30 _ _ kr57
  have hXT := extN_tr hXT hxt30
  have hL : nmL T [(175, 176), (174, 175), (173, 174), (171, 172), (170, 171), (161, 170), (152, 161), (151, 152), (150, 151), (149, 150), (0, 1), (8, 9), (11, 12), (10, 11), (9, 10), (4, 5), (7, 8), (6, 7), (5, 6), (39, 40), (147, 148), (146, 147), (145, 146), (144, 145), (143, 144), (142, 143), (141, 142), (140, 141), (131, 140), (123, 131), (114, 123), (105, 114), (97, 105), (40, 97), (37, 38), (38, 39), (18, 19), (19, 20), (22, 23), (23, 24), (16, 17), (17, 18), (24, 25), (36, 37), (35, 36), (34, 35), (33, 34), (32, 33), (31, 32), (30, 31), (25, 30), (20, 21), (21, 22), (14, 15), (15, 16), (12, 13), (13, 14), (3, 4), (2, 3), (1, 2)] := hL
  have hP : va_P g.1 vcl ([(h0, .inr (8, [.int 0, .int 0, .int 0, .int 0, .ref q21, .ref q22, .ref q23, .ref q24, .ref q25, .ref q26, .ref q27, .null, .null, .null])), (q28, .inr (9, [.ref am21, .ref am22, .ref am23, .ref am24, .ref am25, .int 0, .int 0, .int 0])), (am24, .inl (g.2.1 2, 24, .inr (.inl ((msO 24).2)))), (am25, .inl (g.2.1 0, 25, .inl ((msU 24))))] ++ pl) _ := hP
  have hD : va_D _ ([(h0, .inr (8, [.int 0, .int 0, .int 0, .int 0, .ref q21, .ref q22, .ref q23, .ref q24, .ref q25, .ref q26, .ref q27, .null, .null, .null])), (q28, .inr (9, [.ref am21, .ref am22, .ref am23, .ref am24, .ref am25, .int 0, .int 0, .int 0])), (am24, .inl (g.2.1 2, 24, .inr (.inl ((msO 24).2)))), (am25, .inl (g.2.1 0, 25, .inl ((msU 24))))] ++ pl) := hD
  have hP : va_P g.1 vcl ([(h0, .inr (8, [.int 0, .int 0, .int 0, .int 0, .ref q21, .ref q22, .ref q23, .ref q24, .ref q25, .ref q26, .ref q27, .null, .null, .null])), (q28, .inr (9, [.ref am21, .ref am22, .ref am23, .ref am24, .ref am25, .int 0, .int 0, .int 0])), (am25, .inl (g.2.1 0, 25, .inl ((msU 24)))), (am24, .inl (g.2.1 2, 24, .inr (.inl ((msO 24).2))))] ++ pl) _ := hP.part [0, 1, 3, 2] rfl
  have hD : va_D _ ([(h0, .inr (8, [.int 0, .int 0, .int 0, .int 0, .ref q21, .ref q22, .ref q23, .ref q24, .ref q25, .ref q26, .ref q27, .null, .null, .null])), (q28, .inr (9, [.ref am21, .ref am22, .ref am23, .ref am24, .ref am25, .int 0, .int 0, .int 0])), (am25, .inl (g.2.1 0, 25, .inl ((msU 24)))), (am24, .inl (g.2.1 2, 24, .inr (.inl ((msO 24).2))))] ++ pl) := hD.part [0, 1, 3, 2] (by decide) rfl
  obtain ⟨hP, hD⟩ := mv_last (X := [(h0, .inr (8, [.int 0, .int 0, .int 0, .int 0, .ref q21, .ref q22, .ref q23, .ref q24, .ref q25, .ref q26, .ref q27, .null, .null, .null])), (q28, .inr (9, [.ref am21, .ref am22, .ref am23, .ref am24, .ref am25, .int 0, .int 0, .int 0])), (am25, .inl (g.2.1 0, 25, .inl ((msU 24))))]) (c := (am24, .inl (g.2.1 2, 24, .inr (.inl ((msO 24).2))))) hP hD
  obtain ⟨T, pl, hxt31, hU, kr76, hO, hP, hD, hL⟩ := absorbX (X := [(h0, .inr (8, [.int 0, .int 0, .int 0, .int 0, .ref q21, .ref q22, .ref q23, .ref q24, .ref q25, .ref q26, .ref q27, .null, .null, .null])), (q28, .inr (9, [.ref am21, .ref am22, .ref am23, .ref am24, .ref am25, .int 0, .int 0, .int 0])), (am25, .inl (g.2.1 0, 25, .inl ((msU 24))))]) 176 hP hD hO hU hL rfl (fun _ _ _ => fit12 (k := 176) rfl ms_tabR)
  have kr77 := hxt31 _ _ kr67
  have kr78 := hxt31 _ _ kr68
  have kr79 := hxt31 _ _ kr69
  have kr80 := hxt31 _ _ kr70
  have kr81 := hxt31 _ _ kr71
  have kr82 := hxt31 _ _ kr72
  have kr83 := hxt31 _ _ kr73
  have kr84 := hxt31 _ _ kr74
  have kr85 := hxt31 _ _ kr75
  have kr86 := hxt31 _ _ kr66
  have hXT := extN_tr hXT hxt31
  have hL : nmL T [(176, 177), (175, 176), (174, 175), (173, 174), (171, 172), (170, 171), (161, 170), (152, 161), (151, 152), (150, 151), (149, 150), (0, 1), (8, 9), (11, 12), (10, 11), (9, 10), (4, 5), (7, 8), (6, 7), (5, 6), (39, 40), (147, 148), (146, 147), (145, 146), (144, 145), (143, 144), (142, 143), (141, 142), (140, 141), (131, 140), (123, 131), (114, 123), (105, 114), (97, 105), (40, 97), (37, 38), (38, 39), (18, 19), (19, 20), (22, 23), (23, 24), (16, 17), (17, 18), (24, 25), (36, 37), (35, 36), (34, 35), (33, 34), (32, 33), (31, 32), (30, 31), (25, 30), (20, 21), (21, 22), (14, 15), (15, 16), (12, 13), (13, 14), (3, 4), (2, 3), (1, 2)] := hL
  have hP : va_P g.1 vcl ([(h0, .inr (8, [.int 0, .int 0, .int 0, .int 0, .ref q21, .ref q22, .ref q23, .ref q24, .ref q25, .ref q26, .ref q27, .null, .null, .null])), (q28, .inr (9, [.ref am21, .ref am22, .ref am23, .ref am24, .ref am25, .int 0, .int 0, .int 0])), (am25, .inl (g.2.1 0, 25, .inl ((msU 24))))] ++ pl) _ := hP
  have hD : va_D _ ([(h0, .inr (8, [.int 0, .int 0, .int 0, .int 0, .ref q21, .ref q22, .ref q23, .ref q24, .ref q25, .ref q26, .ref q27, .null, .null, .null])), (q28, .inr (9, [.ref am21, .ref am22, .ref am23, .ref am24, .ref am25, .int 0, .int 0, .int 0])), (am25, .inl (g.2.1 0, 25, .inl ((msU 24))))] ++ pl) := hD
  obtain ⟨hP, hD⟩ := mv_last (X := [(h0, .inr (8, [.int 0, .int 0, .int 0, .int 0, .ref q21, .ref q22, .ref q23, .ref q24, .ref q25, .ref q26, .ref q27, .null, .null, .null])), (q28, .inr (9, [.ref am21, .ref am22, .ref am23, .ref am24, .ref am25, .int 0, .int 0, .int 0]))]) (c := (am25, .inl (g.2.1 0, 25, .inl ((msU 24))))) hP hD
  obtain ⟨T, pl, hxt32, hU, kr87, hO, hP, hD, hL⟩ := absorbX (X := [(h0, .inr (8, [.int 0, .int 0, .int 0, .int 0, .ref q21, .ref q22, .ref q23, .ref q24, .ref q25, .ref q26, .ref q27, .null, .null, .null])), (q28, .inr (9, [.ref am21, .ref am22, .ref am23, .ref am24, .ref am25, .int 0, .int 0, .int 0]))]) 177 hP hD hO hU hL rfl (fun _ _ _ => fit11 (k := 177) rfl ms_tabU)
  have kr88 := hxt32 _ _ kr77
  have kr89 := hxt32 _ _ kr78
  have kr90 := hxt32 _ _ kr79
  have kr91 := hxt32 _ _ kr80
  have kr92 := hxt32 _ _ kr81
  have kr93 := hxt32 _ _ kr82
  have kr94 := hxt32 _ _ kr83
  have kr95 := hxt32 _ _ kr84
  have kr96 := hxt32 _ _ kr85
  have kr97 := hxt32 _ _ kr86
  have kr98 := hxt32 _ _ kr76
  have hXT := extN_tr hXT hxt32
  have hL : nmL T [(177, 178), (176, 177), (175, 176), (174, 175), (173, 174), (171, 172), (170, 171), (161, 170), (152, 161), (151, 152), (150, 151), (149, 150), (0, 1), (8, 9), (11, 12), (10, 11), (9, 10), (4, 5), (7, 8), (6, 7), (5, 6), (39, 40), (147, 148), (146, 147), (145, 146), (144, 145), (143, 144), (142, 143), (141, 142), (140, 141), (131, 140), (123, 131), (114, 123), (105, 114), (97, 105), (40, 97), (37, 38), (38, 39), (18, 19), (19, 20), (22, 23), (23, 24), (16, 17), (17, 18), (24, 25), (36, 37), (35, 36), (34, 35), (33, 34), (32, 33), (31, 32), (30, 31), (25, 30), (20, 21), (21, 22), (14, 15), (15, 16), (12, 13), (13, 14), (3, 4), (2, 3), (1, 2)] := hL
  have hP : va_P g.1 vcl ([(h0, .inr (8, [.int 0, .int 0, .int 0, .int 0, .ref q21, .ref q22, .ref q23, .ref q24, .ref q25, .ref q26, .ref q27, .null, .null, .null])), (q28, .inr (9, [.ref am21, .ref am22, .ref am23, .ref am24, .ref am25, .int 0, .int 0, .int 0]))] ++ pl) _ := hP
  have hD : va_D _ ([(h0, .inr (8, [.int 0, .int 0, .int 0, .int 0, .ref q21, .ref q22, .ref q23, .ref q24, .ref q25, .ref q26, .ref q27, .null, .null, .null])), (q28, .inr (9, [.ref am21, .ref am22, .ref am23, .ref am24, .ref am25, .int 0, .int 0, .int 0]))] ++ pl) := hD
  obtain ⟨hP, hD⟩ := mv_last (X := [(h0, .inr (8, [.int 0, .int 0, .int 0, .int 0, .ref q21, .ref q22, .ref q23, .ref q24, .ref q25, .ref q26, .ref q27, .null, .null, .null]))]) (c := (q28, .inr (9, [.ref am21, .ref am22, .ref am23, .ref am24, .ref am25, .int 0, .int 0, .int 0]))) hP hD
  obtain ⟨T, pl, hxt33, hU, kr99, hO, hP, hD, hL⟩ := absorbX (X := [(h0, .inr (8, [.int 0, .int 0, .int 0, .int 0, .ref q21, .ref q22, .ref q23, .ref q24, .ref q25, .ref q26, .ref q27, .null, .null, .null]))]) 172 hP hD hO hU hL rfl (fun _ h9 _ => fit5 (k := 172) (fl := [(3, 173), (3, 174), (3, 175), (3, 176), (3, 177), (0, 0), (0, 0), (0, 0)]) rfl ⟨⟨_, rfl, h9 _ _ kr95⟩, ⟨_, rfl, h9 _ _ kr96⟩, ⟨_, rfl, h9 _ _ kr97⟩, ⟨_, rfl, h9 _ _ kr98⟩, ⟨_, rfl, h9 _ _ kr87⟩, rfl, rfl, rfl, trivial⟩)
  have kr100 := hxt33 _ _ kr88
  have kr101 := hxt33 _ _ kr89
  have kr102 := hxt33 _ _ kr90
  have kr103 := hxt33 _ _ kr91
  have kr104 := hxt33 _ _ kr92
  have kr105 := hxt33 _ _ kr93
  have kr106 := hxt33 _ _ kr94
  have kr107 := hxt33 _ _ kr95
  have kr108 := hxt33 _ _ kr96
  have kr109 := hxt33 _ _ kr97
  have kr110 := hxt33 _ _ kr98
  have kr111 := hxt33 _ _ kr87
  have hXT := extN_tr hXT hxt33
  have hL : nmL T [(172, 173), (177, 178), (176, 177), (175, 176), (174, 175), (173, 174), (171, 172), (170, 171), (161, 170), (152, 161), (151, 152), (150, 151), (149, 150), (0, 1), (8, 9), (11, 12), (10, 11), (9, 10), (4, 5), (7, 8), (6, 7), (5, 6), (39, 40), (147, 148), (146, 147), (145, 146), (144, 145), (143, 144), (142, 143), (141, 142), (140, 141), (131, 140), (123, 131), (114, 123), (105, 114), (97, 105), (40, 97), (37, 38), (38, 39), (18, 19), (19, 20), (22, 23), (23, 24), (16, 17), (17, 18), (24, 25), (36, 37), (35, 36), (34, 35), (33, 34), (32, 33), (31, 32), (30, 31), (25, 30), (20, 21), (21, 22), (14, 15), (15, 16), (12, 13), (13, 14), (3, 4), (2, 3), (1, 2)] := hL
  have hP : va_P g.1 vcl ([(h0, .inr (8, [.int 0, .int 0, .int 0, .int 0, .ref q21, .ref q22, .ref q23, .ref q24, .ref q25, .ref q26, .ref q27, .null, .null, .null]))] ++ pl) _ := hP
  have hD : va_D _ ([(h0, .inr (8, [.int 0, .int 0, .int 0, .int 0, .ref q21, .ref q22, .ref q23, .ref q24, .ref q25, .ref q26, .ref q27, .null, .null, .null]))] ++ pl) := hD
  refine va_putF (D := g.1) (ci := 8) (v := .ref q28) (ty := .object "LatticeKeysModel$Sponge") (C := "LatticeKeysModel") (T := T_M) (N := 14) hx hb hts (wg_ft i_M) ty_M k_M n_M hown hK hP hD hS 0 rfl rfl 11 (by decide) (hts _ (wg_t kw_1537)) (fun _ h9 => h9) rfl hnm rfl (by decide +kernel) rfl rfl (Nat.le_of_ble_eq_true rfl) dM_init_81 (fun H locs hP hD hS => ?_)
  have hP : va_P g.1 vcl ([(h0, .inr (8, [.int 0, .int 0, .int 0, .int 0, .ref q21, .ref q22, .ref q23, .ref q24, .ref q25, .ref q26, .ref q27, .ref q28, .null, .null]))] ++ pl) _ := hP
  have hD : va_D _ ([(h0, .inr (8, [.int 0, .int 0, .int 0, .int 0, .ref q21, .ref q22, .ref q23, .ref q24, .ref q25, .ref q26, .ref q27, .ref q28, .null, .null]))] ++ pl) := hD
  refine lv_aload_n hx hb dM_init_84 rfl (lv_at hl 0 rfl) ?_
  refine va_new (ws := [(h0, .inr (8, [.int 0, .int 0, .int 0, .int 0, .ref q21, .ref q22, .ref q23, .ref q24, .ref q25, .ref q26, .ref q27, .ref q28, .null, .null]))] ++ pl) (ci := 11) (fs := [.null, .null, .null, .null, .null, .null, .null, .null, .null, .null, .null, .null, .null, .null]) (C := "LatticeKeysModel$Secrets") (T := T_ME) (N := 14) hx hb hts (wg_ft i_ME) ty_ME k_ME hown (hts _ (wg_t kw_1350)) (hts _ (wg_t kw_1351)) (hts _ (wg_t kw_11)) hK hP hD hS hA rfl z_ME (Nat.le_of_ble_eq_true rfl) (Nat.le_of_ble_eq_true rfl) dM_init_85 (fun q29 H hP hD hS => ?_)
  obtain ⟨hP, hD⟩ := mv_first hP hD
  have hP : va_P g.1 vcl ([(h0, .inr (8, [.int 0, .int 0, .int 0, .int 0, .ref q21, .ref q22, .ref q23, .ref q24, .ref q25, .ref q26, .ref q27, .ref q28, .null, .null])), (q29, .inr (11, [.null, .null, .null, .null, .null, .null, .null, .null, .null, .null, .null, .null, .null, .null]))] ++ pl) _ := hP
  have hD : va_D _ ([(h0, .inr (8, [.int 0, .int 0, .int 0, .int 0, .ref q21, .ref q22, .ref q23, .ref q24, .ref q25, .ref q26, .ref q27, .ref q28, .null, .null])), (q29, .inr (11, [.null, .null, .null, .null, .null, .null, .null, .null, .null, .null, .null, .null, .null, .null]))] ++ pl) := hD
  refine W.widen (k := 30) (n := 92830) (by omega) (by omega) ?_
  refine lv_dup hx hb dM_init_88 rfl ?_
  refine lv_aload_n hx hb dM_init_89 rfl (lv_at hl 0 rfl) ?_
  refine va_get (D := g.1) (ci := 8) (C := "LatticeKeysModel") (T := T_M) (N := 14) hx hb hts (wg_ft i_M) hown hK hP 0 rfl rfl 11 (by decide) (hts _ (wg_t kw_1537)) (fun _ h9 => h9) rfl dM_init_90 ?_
  refine mp_v (cx := [(q29, .inr (11, [.null, .null, .null, .null, .null, .null, .null, .null, .null, .null, .null, .null, .null, .null]))]) (wr := [(h0, .inr (8, [.int 0, .int 0, .int 0, .int 0, .ref q21, .ref q22, .ref q23, .ref q24, .ref q25, .ref q26, .ref q27, .ref q28, .null, .null]))]) hP hD hS hA [1] [0] rfl rfl rfl (by decide) (va_runI (As := [.ref q28]) (rest := [.ref q29, .ref h0]) F (z_ME_init l g _ T pl hO hU hL q29 q28 kr99) (cwI 1 hts (wg_in kw_1354) rfl rfl rfl (hts _ (wg_t kw_11)) (hts _ (wg_t kw_1352)) (hts _ (wg_t kw_1353)) rfl (by decide +kernel) ⟨by decide, by decide⟩) (pp_S (en_ok g) hP hD hS hA hE [1] rfl rfl) rfl rfl hl.1 rfl (lv_room (Nat.le_of_ble_eq_true rfl)) dM_init_93 ⟨Nat.le_of_ble_eq_true rfl, Nat.le_of_ble_eq_true rfl⟩) (fun u22 H locs hu22 hP hD hS => ?_)
  obtain ⟨T, pl⟩ := u22
  obtain ⟨⟨hxt34, hU, hL, kr112⟩, hO⟩ := hu22
  have hO : okn g T Z0 pl := hO
  have hU : inj T := hU
  have hxt34 : extN _ T := hxt34
  have kr113 := hxt34 _ _ kr100
  have kr114 := hxt34 _ _ kr101
  have kr115 := hxt34 _ _ kr102
  have kr116 := hxt34 _ _ kr103
  have kr117 := hxt34 _ _ kr104
  have kr118 := hxt34 _ _ kr105
  have kr119 := hxt34 _ _ kr106
  have kr120 := hxt34 _ _ kr107
  have kr121 := hxt34 _ _ kr108
  have kr122 := hxt34 _ _ kr109
  have kr123 := hxt34 _ _ kr110
  have kr124 := hxt34 _ _ kr111
  have kr125 := hxt34 _ _ kr99
  have hXT := extN_tr hXT hxt34
  have hL : nmL T [(184, 185), (224, 225), (223, 224), (222, 223), (221, 222), (220, 221), (219, 220), (218, 219), (217, 218), (212, 217), (207, 212), (202, 207), (185, 202), (178, 179), (180, 181), (179, 180), (172, 173), (177, 178), (176, 177), (175, 176), (174, 175), (173, 174), (171, 172), (170, 171), (161, 170), (152, 161), (151, 152), (150, 151), (149, 150), (0, 1), (8, 9), (11, 12), (10, 11), (9, 10), (4, 5), (7, 8), (6, 7), (5, 6), (39, 40), (147, 148), (146, 147), (145, 146), (144, 145), (143, 144), (142, 143), (141, 142), (140, 141), (131, 140), (123, 131), (114, 123), (105, 114), (97, 105), (40, 97), (37, 38), (38, 39), (18, 19), (19, 20), (22, 23), (23, 24), (16, 17), (17, 18), (24, 25), (36, 37), (35, 36), (34, 35), (33, 34), (32, 33), (31, 32), (30, 31), (25, 30), (20, 21), (21, 22), (14, 15), (15, 16), (12, 13), (13, 14), (3, 4), (2, 3), (1, 2)] := hL
  have kr112 : T q29 = some 184 := kr112
  have hP : va_P g.1 vcl ([(h0, .inr (8, [.int 0, .int 0, .int 0, .int 0, .ref q21, .ref q22, .ref q23, .ref q24, .ref q25, .ref q26, .ref q27, .ref q28, .null, .null]))] ++ pl) _ := hP
  have hD : va_D _ ([(h0, .inr (8, [.int 0, .int 0, .int 0, .int 0, .ref q21, .ref q22, .ref q23, .ref q24, .ref q25, .ref q26, .ref q27, .ref q28, .null, .null]))] ++ pl) := hD
  refine W.widen (k := 73) (n := 103071) (by omega) (by omega) ?_
  refine va_putF (D := g.1) (ci := 8) (v := .ref q29) (ty := .object "LatticeKeysModel$Secrets") (C := "LatticeKeysModel") (T := T_M) (N := 14) hx hb hts (wg_ft i_M) ty_M k_M n_M hown hK hP hD hS 0 rfl rfl 12 (by decide) (hts _ (wg_t kw_1538)) (fun _ h9 => h9) rfl hnm rfl (by decide +kernel) rfl rfl (Nat.le_of_ble_eq_true rfl) dM_init_96 (fun H locs hP hD hS => ?_)
  have hP : va_P g.1 vcl ([(h0, .inr (8, [.int 0, .int 0, .int 0, .int 0, .ref q21, .ref q22, .ref q23, .ref q24, .ref q25, .ref q26, .ref q27, .ref q28, .ref q29, .null]))] ++ pl) _ := hP
  have hD : va_D _ ([(h0, .inr (8, [.int 0, .int 0, .int 0, .int 0, .ref q21, .ref q22, .ref q23, .ref q24, .ref q25, .ref q26, .ref q27, .ref q28, .ref q29, .null]))] ++ pl) := hD
  refine lv_aload_n hx hb dM_init_99 rfl (lv_at hl 0 rfl) ?_
  refine va_new (ws := [(h0, .inr (8, [.int 0, .int 0, .int 0, .int 0, .ref q21, .ref q22, .ref q23, .ref q24, .ref q25, .ref q26, .ref q27, .ref q28, .ref q29, .null]))] ++ pl) (ci := 12) (fs := [.null, .null, .null, .null, .null, .null, .null, .null, .null, .null, .null, .null, .null, .null, .null, .null, .null, .null, .null, .null, .null, .null, .null, .int 0, .int 0, .int 0, .int 0, .int 0, .int 0, .int 0, .int 0]) (C := "LatticeKeysModel$Hands") (T := T_MH) (N := 31) hx hb hts (wg_ft i_MH) ty_MH k_MH hown (hts _ (wg_t kw_1422)) (hts _ (wg_t kw_1423)) (hts _ (wg_t kw_13)) hK hP hD hS hA rfl z_MH (Nat.le_of_ble_eq_true rfl) (Nat.le_of_ble_eq_true rfl) dM_init_100 (fun q30 H hP hD hS => ?_)
  obtain ⟨hP, hD⟩ := mv_first hP hD
  have hP : va_P g.1 vcl ([(h0, .inr (8, [.int 0, .int 0, .int 0, .int 0, .ref q21, .ref q22, .ref q23, .ref q24, .ref q25, .ref q26, .ref q27, .ref q28, .ref q29, .null])), (q30, .inr (12, [.null, .null, .null, .null, .null, .null, .null, .null, .null, .null, .null, .null, .null, .null, .null, .null, .null, .null, .null, .null, .null, .null, .null, .int 0, .int 0, .int 0, .int 0, .int 0, .int 0, .int 0, .int 0]))] ++ pl) _ := hP
  have hD : va_D _ ([(h0, .inr (8, [.int 0, .int 0, .int 0, .int 0, .ref q21, .ref q22, .ref q23, .ref q24, .ref q25, .ref q26, .ref q27, .ref q28, .ref q29, .null])), (q30, .inr (12, [.null, .null, .null, .null, .null, .null, .null, .null, .null, .null, .null, .null, .null, .null, .null, .null, .null, .null, .null, .null, .null, .null, .null, .int 0, .int 0, .int 0, .int 0, .int 0, .int 0, .int 0, .int 0]))] ++ pl) := hD
  refine W.widen (k := 74) (n := 103102) (by omega) (by omega) ?_
  refine lv_dup hx hb dM_init_103 rfl ?_
  refine lv_aload_n hx hb dM_init_104 rfl (lv_at hl 0 rfl) ?_
  refine va_get (D := g.1) (ci := 8) (C := "LatticeKeysModel") (T := T_M) (N := 14) hx hb hts (wg_ft i_M) hown hK hP 0 rfl rfl 11 (by decide) (hts _ (wg_t kw_1537)) (fun _ h9 => h9) rfl dM_init_105 ?_
  refine mp_v (cx := [(q30, .inr (12, [.null, .null, .null, .null, .null, .null, .null, .null, .null, .null, .null, .null, .null, .null, .null, .null, .null, .null, .null, .null, .null, .null, .null, .int 0, .int 0, .int 0, .int 0, .int 0, .int 0, .int 0, .int 0]))]) (wr := [(h0, .inr (8, [.int 0, .int 0, .int 0, .int 0, .ref q21, .ref q22, .ref q23, .ref q24, .ref q25, .ref q26, .ref q27, .ref q28, .ref q29, .null]))]) hP hD hS hA [1] [0] rfl rfl rfl (by decide) (va_runI (As := [.ref q28]) (rest := [.ref q30, .ref h0]) F (z_MH_init l g _ T pl hO hU hL q30 q28 kr125) (cwI 1 hts (wg_in kw_1426) rfl rfl rfl (hts _ (wg_t kw_13)) (hts _ (wg_t kw_1424)) (hts _ (wg_t kw_1425)) rfl (by decide +kernel) ⟨by decide, by decide⟩) (pp_S (en_ok g) hP hD hS hA hE [1] rfl rfl) rfl rfl hl.1 rfl (lv_room (Nat.le_of_ble_eq_true rfl)) dM_init_108 ⟨Nat.le_of_ble_eq_true rfl, Nat.le_of_ble_eq_true rfl⟩) (fun u23 H locs hu23 hP hD hS => ?_)
  obtain ⟨T, pl⟩ := u23
  obtain ⟨⟨hxt35, hU, hL, kr126⟩, hO⟩ := hu23
  have hO : okn g T Z0 pl := hO
  have hU : inj T := hU
  have hxt35 : extN _ T := hxt35
  have kr127 := hxt35 _ _ kr113
  have kr128 := hxt35 _ _ kr114
  have kr129 := hxt35 _ _ kr115
  have kr130 := hxt35 _ _ kr116
  have kr131 := hxt35 _ _ kr117
  have kr132 := hxt35 _ _ kr118
  have kr133 := hxt35 _ _ kr119
  have kr134 := hxt35 _ _ kr120
  have kr135 := hxt35 _ _ kr121
  have kr136 := hxt35 _ _ kr122
  have kr137 := hxt35 _ _ kr123
  have kr138 := hxt35 _ _ kr124
  have kr139 := hxt35 _ _ kr125
  have kr140 := hxt35 _ _ kr112
  have hXT := extN_tr hXT hxt35
  have hL : nmL T [(225, 226), (378, 379), (377, 378), (376, 377), (375, 376), (374, 375), (373, 374), (372, 373), (371, 372), (370, 371), (369, 370), (368, 369), (359, 368), (350, 359), (342, 350), (334, 342), (326, 334), (317, 326), (308, 317), (299, 308), (291, 299), (226, 291), (181, 182), (183, 184), (182, 183), (184, 185), (224, 225), (223, 224), (222, 223), (221, 222), (220, 221), (219, 220), (218, 219), (217, 218), (212, 217), (207, 212), (202, 207), (185, 202), (178, 179), (180, 181), (179, 180), (172, 173), (177, 178), (176, 177), (175, 176), (174, 175), (173, 174), (171, 172), (170, 171), (161, 170), (152, 161), (151, 152), (150, 151), (149, 150), (0, 1), (8, 9), (11, 12), (10, 11), (9, 10), (4, 5), (7, 8), (6, 7), (5, 6), (39, 40), (147, 148), (146, 147), (145, 146), (144, 145), (143, 144), (142, 143), (141, 142), (140, 141), (131, 140), (123, 131), (114, 123), (105, 114), (97, 105), (40, 97), (37, 38), (38, 39), (18, 19), (19, 20), (22, 23), (23, 24), (16, 17), (17, 18), (24, 25), (36, 37), (35, 36), (34, 35), (33, 34), (32, 33), (31, 32), (30, 31), (25, 30), (20, 21), (21, 22), (14, 15), (15, 16), (12, 13), (13, 14), (3, 4), (2, 3), (1, 2)] := hL
  have kr126 : T q30 = some 225 := kr126
  have hP : va_P g.1 vcl ([(h0, .inr (8, [.int 0, .int 0, .int 0, .int 0, .ref q21, .ref q22, .ref q23, .ref q24, .ref q25, .ref q26, .ref q27, .ref q28, .ref q29, .null]))] ++ pl) _ := hP
  have hD : va_D _ ([(h0, .inr (8, [.int 0, .int 0, .int 0, .int 0, .ref q21, .ref q22, .ref q23, .ref q24, .ref q25, .ref q26, .ref q27, .ref q28, .ref q29, .null]))] ++ pl) := hD
  refine W.widen (k := 230) (n := 139911) (by omega) (by omega) ?_
  refine va_putF (D := g.1) (ci := 8) (v := .ref q30) (ty := .object "LatticeKeysModel$Hands") (C := "LatticeKeysModel") (T := T_M) (N := 14) hx hb hts (wg_ft i_M) ty_M k_M n_M hown hK hP hD hS 0 rfl rfl 13 (by decide) (hts _ (wg_t kw_1539)) (fun _ h9 => h9) rfl hnm rfl (by decide +kernel) rfl rfl (Nat.le_of_ble_eq_true rfl) dM_init_111 (fun H locs hP hD hS => ?_)
  have hP : va_P g.1 vcl ([(h0, .inr (8, [.int 0, .int 0, .int 0, .int 0, .ref q21, .ref q22, .ref q23, .ref q24, .ref q25, .ref q26, .ref q27, .ref q28, .ref q29, .ref q30]))] ++ pl) _ := hP
  have hD : va_D _ ([(h0, .inr (8, [.int 0, .int 0, .int 0, .int 0, .ref q21, .ref q22, .ref q23, .ref q24, .ref q25, .ref q26, .ref q27, .ref q28, .ref q29, .ref q30]))] ++ pl) := hD
  obtain ⟨hP, hD⟩ := mv_last (X := []) (c := (h0, .inr (8, [.int 0, .int 0, .int 0, .int 0, .ref q21, .ref q22, .ref q23, .ref q24, .ref q25, .ref q26, .ref q27, .ref q28, .ref q29, .ref q30]))) hP hD
  obtain ⟨T, pl, hxt36, hU, kr141, hO, hP, hD, hL⟩ := absorbX (X := []) 148 hP hD hO hU hL rfl (fun _ h9 _ => fit5 (k := 148) (fl := [(0, 0), (0, 0), (0, 0), (0, 0), (3, 149), (3, 150), (3, 151), (3, 152), (3, 161), (3, 170), (3, 171), (3, 172), (3, 184), (3, 225)]) rfl ⟨rfl, rfl, rfl, rfl, ⟨_, rfl, h9 _ _ kr127⟩, ⟨_, rfl, h9 _ _ kr128⟩, ⟨_, rfl, h9 _ _ kr129⟩, ⟨_, rfl, h9 _ _ kr130⟩, ⟨_, rfl, h9 _ _ kr131⟩, ⟨_, rfl, h9 _ _ kr132⟩, ⟨_, rfl, h9 _ _ kr133⟩, ⟨_, rfl, h9 _ _ kr139⟩, ⟨_, rfl, h9 _ _ kr140⟩, ⟨_, rfl, h9 _ _ kr126⟩, trivial⟩)
  have kr142 := hxt36 _ _ kr127
  have kr143 := hxt36 _ _ kr128
  have kr144 := hxt36 _ _ kr129
  have kr145 := hxt36 _ _ kr130
  have kr146 := hxt36 _ _ kr131
  have kr147 := hxt36 _ _ kr132
  have kr148 := hxt36 _ _ kr133
  have kr149 := hxt36 _ _ kr134
  have kr150 := hxt36 _ _ kr135
  have kr151 := hxt36 _ _ kr136
  have kr152 := hxt36 _ _ kr137
  have kr153 := hxt36 _ _ kr138
  have kr154 := hxt36 _ _ kr139
  have kr155 := hxt36 _ _ kr140
  have kr156 := hxt36 _ _ kr126
  have hXT := extN_tr hXT hxt36
  have hL : nmL T [(148, 149), (225, 226), (378, 379), (377, 378), (376, 377), (375, 376), (374, 375), (373, 374), (372, 373), (371, 372), (370, 371), (369, 370), (368, 369), (359, 368), (350, 359), (342, 350), (334, 342), (326, 334), (317, 326), (308, 317), (299, 308), (291, 299), (226, 291), (181, 182), (183, 184), (182, 183), (184, 185), (224, 225), (223, 224), (222, 223), (221, 222), (220, 221), (219, 220), (218, 219), (217, 218), (212, 217), (207, 212), (202, 207), (185, 202), (178, 179), (180, 181), (179, 180), (172, 173), (177, 178), (176, 177), (175, 176), (174, 175), (173, 174), (171, 172), (170, 171), (161, 170), (152, 161), (151, 152), (150, 151), (149, 150), (0, 1), (8, 9), (11, 12), (10, 11), (9, 10), (4, 5), (7, 8), (6, 7), (5, 6), (39, 40), (147, 148), (146, 147), (145, 146), (144, 145), (143, 144), (142, 143), (141, 142), (140, 141), (131, 140), (123, 131), (114, 123), (105, 114), (97, 105), (40, 97), (37, 38), (38, 39), (18, 19), (19, 20), (22, 23), (23, 24), (16, 17), (17, 18), (24, 25), (36, 37), (35, 36), (34, 35), (33, 34), (32, 33), (31, 32), (30, 31), (25, 30), (20, 21), (21, 22), (14, 15), (15, 16), (12, 13), (13, 14), (3, 4), (2, 3), (1, 2)] := hL
  have hP : va_P g.1 vcl ([] ++ pl) _ := hP
  have hD : va_D _ ([] ++ pl) := hD
  exact mp_vret hx hb hr hlk hP hD hS (T, pl) ⟨⟨hXT, hU, hL, kr141⟩, hO⟩ [] rfl rfl rfl (by omega) (by omega) dM_init_114
