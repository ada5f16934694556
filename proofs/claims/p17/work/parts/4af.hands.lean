abbrev c_MH_sign : ByteArray := prog_13_method_22_code
abbrev y_MH_sign : MethodName := ⟨"LatticeKeysModel$Hands", "sign", "(I[B[BII[B)I"⟩
abbrev w_MH_sign : List Cond := Cond.code y_MH_sign c_MH_sign 9 (some .int) :: WG
theorem dMH_sign_0 : decode c_MH_sign 0 = .ok (.aload_n 0, 1) := by decide +kernel
theorem dMH_sign_1 : decode c_MH_sign 1 = .ok (.iload_n 1, 1) := by decide +kernel
theorem dMH_sign_2 : decode c_MH_sign 2 = .ok (.invokevirtual 166, 3) := by decide +kernel
theorem dMH_sign_5 : decode c_MH_sign 5 = .ok (.aload_n 0, 1) := by decide +kernel
theorem dMH_sign_6 : decode c_MH_sign 6 = .ok (.aload_n 2, 1) := by decide +kernel
theorem dMH_sign_7 : decode c_MH_sign 7 = .ok (.invokevirtual 226, 3) := by decide +kernel
theorem dMH_sign_10 : decode c_MH_sign 10 = .ok (.aload_n 0, 1) := by decide +kernel
theorem dMH_sign_11 : decode c_MH_sign 11 = .ok (.aload_n 2, 1) := by decide +kernel
theorem dMH_sign_12 : decode c_MH_sign 12 = .ok (.invokevirtual 172, 3) := by decide +kernel
theorem dMH_sign_15 : decode c_MH_sign 15 = .ok (.aload_n 0, 1) := by decide +kernel
theorem dMH_sign_16 : decode c_MH_sign 16 = .ok (.aload_n 2, 1) := by decide +kernel
theorem dMH_sign_17 : decode c_MH_sign 17 = .ok (.bipush 64, 2) := by decide +kernel
theorem dMH_sign_19 : decode c_MH_sign 19 = .ok (.aload_n 3, 1) := by decide +kernel
theorem dMH_sign_20 : decode c_MH_sign 20 = .ok (.bipush 32, 2) := by decide +kernel
theorem dMH_sign_22 : decode c_MH_sign 22 = .ok (.iload 4, 2) := by decide +kernel
theorem dMH_sign_24 : decode c_MH_sign 24 = .ok (.iload 5, 2) := by decide +kernel
theorem dMH_sign_26 : decode c_MH_sign 26 = .ok (.invokevirtual 229, 3) := by decide +kernel
theorem dMH_sign_29 : decode c_MH_sign 29 = .ok (.aload_n 0, 1) := by decide +kernel
theorem dMH_sign_30 : decode c_MH_sign 30 = .ok (.getfield 87, 3) := by decide +kernel
theorem dMH_sign_33 : decode c_MH_sign 33 = .ok (.invokevirtual 156, 3) := by decide +kernel
theorem dMH_sign_36 : decode c_MH_sign 36 = .ok (.aload_n 0, 1) := by decide +kernel
theorem dMH_sign_37 : decode c_MH_sign 37 = .ok (.getfield 87, 3) := by decide +kernel
theorem dMH_sign_40 : decode c_MH_sign 40 = .ok (.aload_n 2, 1) := by decide +kernel
theorem dMH_sign_41 : decode c_MH_sign 41 = .ok (.bipush 32, 2) := by decide +kernel
theorem dMH_sign_43 : decode c_MH_sign 43 = .ok (.bipush 32, 2) := by decide +kernel
theorem dMH_sign_45 : decode c_MH_sign 45 = .ok (.invokevirtual 142, 3) := by decide +kernel
theorem dMH_sign_48 : decode c_MH_sign 48 = .ok (.aload_n 0, 1) := by decide +kernel
theorem dMH_sign_49 : decode c_MH_sign 49 = .ok (.getfield 87, 3) := by decide +kernel
theorem dMH_sign_52 : decode c_MH_sign 52 = .ok (.aload_n 3, 1) := by decide +kernel
theorem dMH_sign_53 : decode c_MH_sign 53 = .ok (.iconst 0, 1) := by decide +kernel
theorem dMH_sign_54 : decode c_MH_sign 54 = .ok (.bipush 32, 2) := by decide +kernel
theorem dMH_sign_56 : decode c_MH_sign 56 = .ok (.invokevirtual 142, 3) := by decide +kernel
theorem dMH_sign_59 : decode c_MH_sign 59 = .ok (.aload_n 0, 1) := by decide +kernel
theorem dMH_sign_60 : decode c_MH_sign 60 = .ok (.getfield 87, 3) := by decide +kernel
theorem dMH_sign_63 : decode c_MH_sign 63 = .ok (.aload_n 0, 1) := by decide +kernel
theorem dMH_sign_64 : decode c_MH_sign 64 = .ok (.getfield 69, 3) := by decide +kernel
theorem dMH_sign_67 : decode c_MH_sign 67 = .ok (.iconst 0, 1) := by decide +kernel
theorem dMH_sign_68 : decode c_MH_sign 68 = .ok (.bipush 64, 2) := by decide +kernel
theorem dMH_sign_70 : decode c_MH_sign 70 = .ok (.invokevirtual 142, 3) := by decide +kernel
theorem dMH_sign_73 : decode c_MH_sign 73 = .ok (.aload_n 0, 1) := by decide +kernel
theorem dMH_sign_74 : decode c_MH_sign 74 = .ok (.getfield 87, 3) := by decide +kernel
theorem dMH_sign_77 : decode c_MH_sign 77 = .ok (.invokevirtual 149, 3) := by decide +kernel
theorem dMH_sign_80 : decode c_MH_sign 80 = .ok (.aload_n 0, 1) := by decide +kernel
theorem dMH_sign_81 : decode c_MH_sign 81 = .ok (.getfield 87, 3) := by decide +kernel
theorem dMH_sign_84 : decode c_MH_sign 84 = .ok (.aload_n 0, 1) := by decide +kernel
theorem dMH_sign_85 : decode c_MH_sign 85 = .ok (.getfield 72, 3) := by decide +kernel
theorem dMH_sign_88 : decode c_MH_sign 88 = .ok (.iconst 0, 1) := by decide +kernel
theorem dMH_sign_89 : decode c_MH_sign 89 = .ok (.bipush 64, 2) := by decide +kernel
theorem dMH_sign_91 : decode c_MH_sign 91 = .ok (.invokevirtual 169, 3) := by decide +kernel
theorem dMH_sign_94 : decode c_MH_sign 94 = .ok (.iconst 1, 1) := by decide +kernel
theorem dMH_sign_95 : decode c_MH_sign 95 = .ok (.istore 7, 2) := by decide +kernel
theorem dMH_sign_97 : decode c_MH_sign 97 = .ok (.iload 7, 2) := by decide +kernel
theorem dMH_sign_99 : decode c_MH_sign 99 = .ok (.sipush 200, 3) := by decide +kernel
theorem dMH_sign_102 : decode c_MH_sign 102 = .ok (.if_icmp .gt 130, 3) := by decide +kernel
theorem dMH_sign_105 : decode c_MH_sign 105 = .ok (.aload_n 0, 1) := by decide +kernel
theorem dMH_sign_106 : decode c_MH_sign 106 = .ok (.iload 7, 2) := by decide +kernel
theorem dMH_sign_108 : decode c_MH_sign 108 = .ok (.iconst 1, 1) := by decide +kernel
theorem dMH_sign_109 : decode c_MH_sign 109 = .ok (.isub, 1) := by decide +kernel
theorem dMH_sign_110 : decode c_MH_sign 110 = .ok (.aload_n 0, 1) := by decide +kernel
theorem dMH_sign_111 : decode c_MH_sign 111 = .ok (.getfield 110, 3) := by decide +kernel
theorem dMH_sign_114 : decode c_MH_sign 114 = .ok (.imul, 1) := by decide +kernel
theorem dMH_sign_115 : decode c_MH_sign 115 = .ok (.invokevirtual 233, 3) := by decide +kernel
theorem dMH_sign_118 : decode c_MH_sign 118 = .ok (.iconst 0, 1) := by decide +kernel
theorem dMH_sign_119 : decode c_MH_sign 119 = .ok (.istore 8, 2) := by decide +kernel
theorem dMH_sign_121 : decode c_MH_sign 121 = .ok (.iload 8, 2) := by decide +kernel
theorem dMH_sign_123 : decode c_MH_sign 123 = .ok (.aload_n 0, 1) := by decide +kernel
theorem dMH_sign_124 : decode c_MH_sign 124 = .ok (.getfield 110, 3) := by decide +kernel
theorem dMH_sign_127 : decode c_MH_sign 127 = .ok (.if_icmp .ge 32, 3) := by decide +kernel
theorem dMH_sign_130 : decode c_MH_sign 130 = .ok (.aload_n 0, 1) := by decide +kernel
theorem dMH_sign_131 : decode c_MH_sign 131 = .ok (.getfield 15, 3) := by decide +kernel
theorem dMH_sign_134 : decode c_MH_sign 134 = .ok (.aload_n 0, 1) := by decide +kernel
theorem dMH_sign_135 : decode c_MH_sign 135 = .ok (.getfield 36, 3) := by decide +kernel
theorem dMH_sign_138 : decode c_MH_sign 138 = .ok (.iload 8, 2) := by decide +kernel
theorem dMH_sign_140 : decode c_MH_sign 140 = .ok (.aaload, 1) := by decide +kernel
theorem dMH_sign_141 : decode c_MH_sign 141 = .ok (.aload_n 0, 1) := by decide +kernel
theorem dMH_sign_142 : decode c_MH_sign 142 = .ok (.getfield 42, 3) := by decide +kernel
theorem dMH_sign_145 : decode c_MH_sign 145 = .ok (.iload 8, 2) := by decide +kernel
theorem dMH_sign_147 : decode c_MH_sign 147 = .ok (.aaload, 1) := by decide +kernel
theorem dMH_sign_148 : decode c_MH_sign 148 = .ok (.iconst 1, 1) := by decide +kernel
theorem dMH_sign_149 : decode c_MH_sign 149 = .ok (.iconst 0, 1) := by decide +kernel
theorem dMH_sign_150 : decode c_MH_sign 150 = .ok (.invokevirtual 180, 3) := by decide +kernel
theorem dMH_sign_153 : decode c_MH_sign 153 = .ok (.iinc 8 1, 3) := by decide +kernel
theorem dMH_sign_156 : decode c_MH_sign 156 = .ok (.goto (-35), 3) := by decide +kernel
theorem dMH_sign_159 : decode c_MH_sign 159 = .ok (.iconst 0, 1) := by decide +kernel
theorem dMH_sign_160 : decode c_MH_sign 160 = .ok (.istore 8, 2) := by decide +kernel
theorem dMH_sign_162 : decode c_MH_sign 162 = .ok (.iload 8, 2) := by decide +kernel
theorem dMH_sign_164 : decode c_MH_sign 164 = .ok (.aload_n 0, 1) := by decide +kernel
theorem dMH_sign_165 : decode c_MH_sign 165 = .ok (.getfield 107, 3) := by decide +kernel
theorem dMH_sign_168 : decode c_MH_sign 168 = .ok (.if_icmp .ge 22, 3) := by decide +kernel
theorem dMH_sign_171 : decode c_MH_sign 171 = .ok (.aload_n 0, 1) := by decide +kernel
theorem dMH_sign_172 : decode c_MH_sign 172 = .ok (.iload 8, 2) := by decide +kernel
theorem dMH_sign_174 : decode c_MH_sign 174 = .ok (.aload_n 0, 1) := by decide +kernel
theorem dMH_sign_175 : decode c_MH_sign 175 = .ok (.getfield 45, 3) := by decide +kernel
theorem dMH_sign_178 : decode c_MH_sign 178 = .ok (.iload 8, 2) := by decide +kernel
theorem dMH_sign_180 : decode c_MH_sign 180 = .ok (.aaload, 1) := by decide +kernel
theorem dMH_sign_181 : decode c_MH_sign 181 = .ok (.invokevirtual 183, 3) := by decide +kernel
theorem dMH_sign_184 : decode c_MH_sign 184 = .ok (.iinc 8 1, 3) := by decide +kernel
theorem dMH_sign_187 : decode c_MH_sign 187 = .ok (.goto (-25), 3) := by decide +kernel
theorem dMH_sign_190 : decode c_MH_sign 190 = .ok (.aload_n 0, 1) := by decide +kernel
theorem dMH_sign_191 : decode c_MH_sign 191 = .ok (.iconst 0, 1) := by decide +kernel
theorem dMH_sign_192 : decode c_MH_sign 192 = .ok (.aload_n 0, 1) := by decide +kernel
theorem dMH_sign_193 : decode c_MH_sign 193 = .ok (.getfield 78, 3) := by decide +kernel
theorem dMH_sign_196 : decode c_MH_sign 196 = .ok (.invokevirtual 236, 3) := by decide +kernel
theorem dMH_sign_199 : decode c_MH_sign 199 = .ok (.aload_n 0, 1) := by decide +kernel
theorem dMH_sign_200 : decode c_MH_sign 200 = .ok (.aload_n 0, 1) := by decide +kernel
theorem dMH_sign_201 : decode c_MH_sign 201 = .ok (.getfield 78, 3) := by decide +kernel
theorem dMH_sign_204 : decode c_MH_sign 204 = .ok (.invokevirtual 240, 3) := by decide +kernel
theorem dMH_sign_207 : decode c_MH_sign 207 = .ok (.aload_n 0, 1) := by decide +kernel
theorem dMH_sign_208 : decode c_MH_sign 208 = .ok (.invokevirtual 243, 3) := by decide +kernel
theorem dMH_sign_211 : decode c_MH_sign 211 = .ok (.ifCond .ne 6, 3) := by decide +kernel
theorem dMH_sign_214 : decode c_MH_sign 214 = .ok (.goto 12, 3) := by decide +kernel
theorem dMH_sign_217 : decode c_MH_sign 217 = .ok (.aload_n 0, 1) := by decide +kernel
theorem dMH_sign_218 : decode c_MH_sign 218 = .ok (.aload 6, 2) := by decide +kernel
theorem dMH_sign_220 : decode c_MH_sign 220 = .ok (.invokevirtual 247, 3) := by decide +kernel
theorem dMH_sign_223 : decode c_MH_sign 223 = .ok (.iload 7, 2) := by decide +kernel
theorem dMH_sign_225 : decode c_MH_sign 225 = .ok (.ireturn, 1) := by decide +kernel
theorem dMH_sign_226 : decode c_MH_sign 226 = .ok (.iinc 7 1, 3) := by decide +kernel
theorem dMH_sign_229 : decode c_MH_sign 229 = .ok (.goto (-132), 3) := by decide +kernel
theorem dMH_sign_232 : decode c_MH_sign 232 = .ok (.iconst 0, 1) := by decide +kernel
theorem dMH_sign_233 : decode c_MH_sign 233 = .ok (.ireturn, 1) := by decide +kernel
abbrev c_MH_verify : ByteArray := prog_13_method_25_code
abbrev y_MH_verify : MethodName := ⟨"LatticeKeysModel$Hands", "verify", "(I[B[BII)Z"⟩
abbrev w_MH_verify : List Cond := Cond.code y_MH_verify c_MH_verify 11 (some .boolean) :: WG
theorem dMH_verify_0 : decode c_MH_verify 0 = .ok (.aload_n 0, 1) := by decide +kernel
theorem dMH_verify_1 : decode c_MH_verify 1 = .ok (.iload_n 1, 1) := by decide +kernel
theorem dMH_verify_2 : decode c_MH_verify 2 = .ok (.invokevirtual 166, 3) := by decide +kernel
theorem dMH_verify_5 : decode c_MH_verify 5 = .ok (.aload_n 0, 1) := by decide +kernel
theorem dMH_verify_6 : decode c_MH_verify 6 = .ok (.getfield 103, 3) := by decide +kernel
theorem dMH_verify_9 : decode c_MH_verify 9 = .ok (.ifCond .ne 8, 3) := by decide +kernel
theorem dMH_verify_12 : decode c_MH_verify 12 = .ok (.bipush 18, 2) := by decide +kernel
theorem dMH_verify_14 : decode c_MH_verify 14 = .ok (.goto 5, 3) := by decide +kernel
theorem dMH_verify_17 : decode c_MH_verify 17 = .ok (.bipush 20, 2) := by decide +kernel
theorem dMH_verify_19 : decode c_MH_verify 19 = .ok (.istore 6, 2) := by decide +kernel
theorem dMH_verify_21 : decode c_MH_verify 21 = .ok (.bipush 8, 2) := by decide +kernel
theorem dMH_verify_23 : decode c_MH_verify 23 = .ok (.aload_n 0, 1) := by decide +kernel
theorem dMH_verify_24 : decode c_MH_verify 24 = .ok (.getfield 132, 3) := by decide +kernel
theorem dMH_verify_27 : decode c_MH_verify 27 = .ok (.imul, 1) := by decide +kernel
theorem dMH_verify_28 : decode c_MH_verify 28 = .ok (.istore 7, 2) := by decide +kernel
theorem dMH_verify_30 : decode c_MH_verify 30 = .ok (.iconst 1, 1) := by decide +kernel
theorem dMH_verify_31 : decode c_MH_verify 31 = .ok (.istore 8, 2) := by decide +kernel
theorem dMH_verify_33 : decode c_MH_verify 33 = .ok (.iconst 0, 1) := by decide +kernel
theorem dMH_verify_34 : decode c_MH_verify 34 = .ok (.istore 9, 2) := by decide +kernel
theorem dMH_verify_36 : decode c_MH_verify 36 = .ok (.iload 9, 2) := by decide +kernel
theorem dMH_verify_38 : decode c_MH_verify 38 = .ok (.aload_n 0, 1) := by decide +kernel
theorem dMH_verify_39 : decode c_MH_verify 39 = .ok (.getfield 132, 3) := by decide +kernel
theorem dMH_verify_42 : decode c_MH_verify 42 = .ok (.if_icmp .ge 20, 3) := by decide +kernel
theorem dMH_verify_45 : decode c_MH_verify 45 = .ok (.aload_n 0, 1) := by decide +kernel
theorem dMH_verify_46 : decode c_MH_verify 46 = .ok (.getfield 78, 3) := by decide +kernel
theorem dMH_verify_49 : decode c_MH_verify 49 = .ok (.iload 9, 2) := by decide +kernel
theorem dMH_verify_51 : decode c_MH_verify 51 = .ok (.aload_n 3, 1) := by decide +kernel
theorem dMH_verify_52 : decode c_MH_verify 52 = .ok (.iload 9, 2) := by decide +kernel
theorem dMH_verify_54 : decode c_MH_verify 54 = .ok (.baload, 1) := by decide +kernel
theorem dMH_verify_55 : decode c_MH_verify 55 = .ok (.bastore, 1) := by decide +kernel
theorem dMH_verify_56 : decode c_MH_verify 56 = .ok (.iinc 9 1, 3) := by decide +kernel
theorem dMH_verify_59 : decode c_MH_verify 59 = .ok (.goto (-23), 3) := by decide +kernel
theorem dMH_verify_62 : decode c_MH_verify 62 = .ok (.iconst 0, 1) := by decide +kernel
theorem dMH_verify_63 : decode c_MH_verify 63 = .ok (.istore 9, 2) := by decide +kernel
theorem dMH_verify_65 : decode c_MH_verify 65 = .ok (.iload 9, 2) := by decide +kernel
theorem dMH_verify_67 : decode c_MH_verify 67 = .ok (.aload_n 0, 1) := by decide +kernel
theorem dMH_verify_68 : decode c_MH_verify 68 = .ok (.getfield 110, 3) := by decide +kernel
theorem dMH_verify_71 : decode c_MH_verify 71 = .ok (.if_icmp .ge 93, 3) := by decide +kernel
theorem dMH_verify_74 : decode c_MH_verify 74 = .ok (.iconst 0, 1) := by decide +kernel
theorem dMH_verify_75 : decode c_MH_verify 75 = .ok (.istore 10, 2) := by decide +kernel
theorem dMH_verify_77 : decode c_MH_verify 77 = .ok (.iload 10, 2) := by decide +kernel
theorem dMH_verify_79 : decode c_MH_verify 79 = .ok (.sipush 256, 3) := by decide +kernel
theorem dMH_verify_82 : decode c_MH_verify 82 = .ok (.if_icmp .ge 76, 3) := by decide +kernel
theorem dMH_verify_85 : decode c_MH_verify 85 = .ok (.aload_n 0, 1) := by decide +kernel
theorem dMH_verify_86 : decode c_MH_verify 86 = .ok (.getfield 39, 3) := by decide +kernel
theorem dMH_verify_89 : decode c_MH_verify 89 = .ok (.iload 9, 2) := by decide +kernel
theorem dMH_verify_91 : decode c_MH_verify 91 = .ok (.aaload, 1) := by decide +kernel
theorem dMH_verify_92 : decode c_MH_verify 92 = .ok (.iload 10, 2) := by decide +kernel
theorem dMH_verify_94 : decode c_MH_verify 94 = .ok (.aload_n 0, 1) := by decide +kernel
theorem dMH_verify_95 : decode c_MH_verify 95 = .ok (.getfield 118, 3) := by decide +kernel
theorem dMH_verify_98 : decode c_MH_verify 98 = .ok (.aload_n 3, 1) := by decide +kernel
theorem dMH_verify_99 : decode c_MH_verify 99 = .ok (.iload 7, 2) := by decide +kernel
theorem dMH_verify_101 : decode c_MH_verify 101 = .ok (.iload 6, 2) := by decide +kernel
theorem dMH_verify_103 : decode c_MH_verify 103 = .ok (.invokestatic 197, 3) := by decide +kernel
theorem dMH_verify_106 : decode c_MH_verify 106 = .ok (.invokestatic 201, 3) := by decide +kernel
theorem dMH_verify_109 : decode c_MH_verify 109 = .ok (.iastore, 1) := by decide +kernel
theorem dMH_verify_110 : decode c_MH_verify 110 = .ok (.iload 8, 2) := by decide +kernel
theorem dMH_verify_112 : decode c_MH_verify 112 = .ok (.aload_n 0, 1) := by decide +kernel
theorem dMH_verify_113 : decode c_MH_verify 113 = .ok (.getfield 39, 3) := by decide +kernel
theorem dMH_verify_116 : decode c_MH_verify 116 = .ok (.iload 9, 2) := by decide +kernel
theorem dMH_verify_118 : decode c_MH_verify 118 = .ok (.aaload, 1) := by decide +kernel
theorem dMH_verify_119 : decode c_MH_verify 119 = .ok (.iload 10, 2) := by decide +kernel
theorem dMH_verify_121 : decode c_MH_verify 121 = .ok (.iaload, 1) := by decide +kernel
theorem dMH_verify_122 : decode c_MH_verify 122 = .ok (.invokestatic 218, 3) := by decide +kernel
theorem dMH_verify_125 : decode c_MH_verify 125 = .ok (.aload_n 0, 1) := by decide +kernel
theorem dMH_verify_126 : decode c_MH_verify 126 = .ok (.getfield 118, 3) := by decide +kernel
theorem dMH_verify_129 : decode c_MH_verify 129 = .ok (.aload_n 0, 1) := by decide +kernel
theorem dMH_verify_130 : decode c_MH_verify 130 = .ok (.getfield 129, 3) := by decide +kernel
theorem dMH_verify_133 : decode c_MH_verify 133 = .ok (.isub, 1) := by decide +kernel
theorem dMH_verify_134 : decode c_MH_verify 134 = .ok (.if_icmp .ge 7, 3) := by decide +kernel
theorem dMH_verify_137 : decode c_MH_verify 137 = .ok (.iconst 1, 1) := by decide +kernel
theorem dMH_verify_138 : decode c_MH_verify 138 = .ok (.goto 4, 3) := by decide +kernel
theorem dMH_verify_141 : decode c_MH_verify 141 = .ok (.iconst 0, 1) := by decide +kernel
theorem dMH_verify_142 : decode c_MH_verify 142 = .ok (.iand, 1) := by decide +kernel
theorem dMH_verify_143 : decode c_MH_verify 143 = .ok (.istore 8, 2) := by decide +kernel
theorem dMH_verify_145 : decode c_MH_verify 145 = .ok (.iload 7, 2) := by decide +kernel
theorem dMH_verify_147 : decode c_MH_verify 147 = .ok (.iload 6, 2) := by decide +kernel
theorem dMH_verify_149 : decode c_MH_verify 149 = .ok (.iadd, 1) := by decide +kernel
theorem dMH_verify_150 : decode c_MH_verify 150 = .ok (.istore 7, 2) := by decide +kernel
theorem dMH_verify_152 : decode c_MH_verify 152 = .ok (.iinc 10 1, 3) := by decide +kernel
theorem dMH_verify_155 : decode c_MH_verify 155 = .ok (.goto (-78), 3) := by decide +kernel
theorem dMH_verify_158 : decode c_MH_verify 158 = .ok (.iinc 9 1, 3) := by decide +kernel
theorem dMH_verify_161 : decode c_MH_verify 161 = .ok (.goto (-96), 3) := by decide +kernel
theorem dMH_verify_164 : decode c_MH_verify 164 = .ok (.iload 8, 2) := by decide +kernel
theorem dMH_verify_166 : decode c_MH_verify 166 = .ok (.ifCond .eq 16, 3) := by decide +kernel
theorem dMH_verify_169 : decode c_MH_verify 169 = .ok (.aload_n 0, 1) := by decide +kernel
theorem dMH_verify_170 : decode c_MH_verify 170 = .ok (.aload_n 3, 1) := by decide +kernel
theorem dMH_verify_171 : decode c_MH_verify 171 = .ok (.iload 7, 2) := by decide +kernel
theorem dMH_verify_173 : decode c_MH_verify 173 = .ok (.bipush 8, 2) := by decide +kernel
theorem dMH_verify_175 : decode c_MH_verify 175 = .ok (.idiv, 1) := by decide +kernel
theorem dMH_verify_176 : decode c_MH_verify 176 = .ok (.invokevirtual 250, 3) := by decide +kernel
theorem dMH_verify_179 : decode c_MH_verify 179 = .ok (.ifCond .ne 5, 3) := by decide +kernel
theorem dMH_verify_182 : decode c_MH_verify 182 = .ok (.iconst 0, 1) := by decide +kernel
theorem dMH_verify_183 : decode c_MH_verify 183 = .ok (.ireturn, 1) := by decide +kernel
theorem dMH_verify_184 : decode c_MH_verify 184 = .ok (.aload_n 0, 1) := by decide +kernel
theorem dMH_verify_185 : decode c_MH_verify 185 = .ok (.getfield 87, 3) := by decide +kernel
theorem dMH_verify_188 : decode c_MH_verify 188 = .ok (.invokevirtual 156, 3) := by decide +kernel
theorem dMH_verify_191 : decode c_MH_verify 191 = .ok (.aload_n 0, 1) := by decide +kernel
theorem dMH_verify_192 : decode c_MH_verify 192 = .ok (.getfield 87, 3) := by decide +kernel
theorem dMH_verify_195 : decode c_MH_verify 195 = .ok (.aload_n 2, 1) := by decide +kernel
theorem dMH_verify_196 : decode c_MH_verify 196 = .ok (.iconst 0, 1) := by decide +kernel
theorem dMH_verify_197 : decode c_MH_verify 197 = .ok (.aload_n 0, 1) := by decide +kernel
theorem dMH_verify_198 : decode c_MH_verify 198 = .ok (.getfield 103, 3) := by decide +kernel
theorem dMH_verify_201 : decode c_MH_verify 201 = .ok (.invokestatic 193, 3) := by decide +kernel
theorem dMH_verify_204 : decode c_MH_verify 204 = .ok (.invokevirtual 142, 3) := by decide +kernel
theorem dMH_verify_207 : decode c_MH_verify 207 = .ok (.aload_n 0, 1) := by decide +kernel
theorem dMH_verify_208 : decode c_MH_verify 208 = .ok (.getfield 87, 3) := by decide +kernel
theorem dMH_verify_211 : decode c_MH_verify 211 = .ok (.invokevirtual 149, 3) := by decide +kernel
theorem dMH_verify_214 : decode c_MH_verify 214 = .ok (.aload_n 0, 1) := by decide +kernel
theorem dMH_verify_215 : decode c_MH_verify 215 = .ok (.getfield 87, 3) := by decide +kernel
theorem dMH_verify_218 : decode c_MH_verify 218 = .ok (.aload_n 0, 1) := by decide +kernel
theorem dMH_verify_219 : decode c_MH_verify 219 = .ok (.getfield 84, 3) := by decide +kernel
theorem dMH_verify_222 : decode c_MH_verify 222 = .ok (.iconst 0, 1) := by decide +kernel
theorem dMH_verify_223 : decode c_MH_verify 223 = .ok (.bipush 64, 2) := by decide +kernel
theorem dMH_verify_225 : decode c_MH_verify 225 = .ok (.invokevirtual 169, 3) := by decide +kernel
theorem dMH_verify_228 : decode c_MH_verify 228 = .ok (.aload_n 0, 1) := by decide +kernel
theorem dMH_verify_229 : decode c_MH_verify 229 = .ok (.aload_n 0, 1) := by decide +kernel
theorem dMH_verify_230 : decode c_MH_verify 230 = .ok (.getfield 84, 3) := by decide +kernel
theorem dMH_verify_233 : decode c_MH_verify 233 = .ok (.iconst 0, 1) := by decide +kernel
theorem dMH_verify_234 : decode c_MH_verify 234 = .ok (.aload_n 3, 1) := by decide +kernel
theorem dMH_verify_235 : decode c_MH_verify 235 = .ok (.aload_n 0, 1) := by decide +kernel
theorem dMH_verify_236 : decode c_MH_verify 236 = .ok (.getfield 103, 3) := by decide +kernel
theorem dMH_verify_239 : decode c_MH_verify 239 = .ok (.invokestatic 254, 3) := by decide +kernel
theorem dMH_verify_242 : decode c_MH_verify 242 = .ok (.iload 4, 2) := by decide +kernel
theorem dMH_verify_244 : decode c_MH_verify 244 = .ok (.iload 5, 2) := by decide +kernel
theorem dMH_verify_246 : decode c_MH_verify 246 = .ok (.invokevirtual 229, 3) := by decide +kernel
theorem dMH_verify_249 : decode c_MH_verify 249 = .ok (.aload_n 0, 1) := by decide +kernel
theorem dMH_verify_250 : decode c_MH_verify 250 = .ok (.aload_n 2, 1) := by decide +kernel
theorem dMH_verify_251 : decode c_MH_verify 251 = .ok (.invokevirtual 172, 3) := by decide +kernel
theorem dMH_verify_254 : decode c_MH_verify 254 = .ok (.aload_n 0, 1) := by decide +kernel
theorem dMH_verify_255 : decode c_MH_verify 255 = .ok (.aload_n 0, 1) := by decide +kernel
theorem dMH_verify_256 : decode c_MH_verify 256 = .ok (.getfield 78, 3) := by decide +kernel
theorem dMH_verify_259 : decode c_MH_verify 259 = .ok (.invokevirtual 240, 3) := by decide +kernel
theorem dMH_verify_262 : decode c_MH_verify 262 = .ok (.iconst 0, 1) := by decide +kernel
theorem dMH_verify_263 : decode c_MH_verify 263 = .ok (.istore 9, 2) := by decide +kernel
theorem dMH_verify_265 : decode c_MH_verify 265 = .ok (.iload 9, 2) := by decide +kernel
theorem dMH_verify_267 : decode c_MH_verify 267 = .ok (.aload_n 0, 1) := by decide +kernel
theorem dMH_verify_268 : decode c_MH_verify 268 = .ok (.getfield 110, 3) := by decide +kernel
theorem dMH_verify_271 : decode c_MH_verify 271 = .ok (.if_icmp .ge 32, 3) := by decide +kernel
theorem dMH_verify_274 : decode c_MH_verify 274 = .ok (.aload_n 0, 1) := by decide +kernel
theorem dMH_verify_275 : decode c_MH_verify 275 = .ok (.getfield 15, 3) := by decide +kernel
theorem dMH_verify_278 : decode c_MH_verify 278 = .ok (.aload_n 0, 1) := by decide +kernel
theorem dMH_verify_279 : decode c_MH_verify 279 = .ok (.getfield 39, 3) := by decide +kernel
theorem dMH_verify_282 : decode c_MH_verify 282 = .ok (.iload 9, 2) := by decide +kernel
theorem dMH_verify_284 : decode c_MH_verify 284 = .ok (.aaload, 1) := by decide +kernel
theorem dMH_verify_285 : decode c_MH_verify 285 = .ok (.aload_n 0, 1) := by decide +kernel
theorem dMH_verify_286 : decode c_MH_verify 286 = .ok (.getfield 42, 3) := by decide +kernel
theorem dMH_verify_289 : decode c_MH_verify 289 = .ok (.iload 9, 2) := by decide +kernel
theorem dMH_verify_291 : decode c_MH_verify 291 = .ok (.aaload, 1) := by decide +kernel
theorem dMH_verify_292 : decode c_MH_verify 292 = .ok (.iconst 1, 1) := by decide +kernel
theorem dMH_verify_293 : decode c_MH_verify 293 = .ok (.iconst 0, 1) := by decide +kernel
theorem dMH_verify_294 : decode c_MH_verify 294 = .ok (.invokevirtual 180, 3) := by decide +kernel
theorem dMH_verify_297 : decode c_MH_verify 297 = .ok (.iinc 9 1, 3) := by decide +kernel
theorem dMH_verify_300 : decode c_MH_verify 300 = .ok (.goto (-35), 3) := by decide +kernel
theorem dMH_verify_303 : decode c_MH_verify 303 = .ok (.iconst 0, 1) := by decide +kernel
theorem dMH_verify_304 : decode c_MH_verify 304 = .ok (.istore 9, 2) := by decide +kernel
theorem dMH_verify_306 : decode c_MH_verify 306 = .ok (.iload 9, 2) := by decide +kernel
theorem dMH_verify_308 : decode c_MH_verify 308 = .ok (.aload_n 0, 1) := by decide +kernel
theorem dMH_verify_309 : decode c_MH_verify 309 = .ok (.getfield 107, 3) := by decide +kernel
theorem dMH_verify_312 : decode c_MH_verify 312 = .ok (.if_icmp .ge 136, 3) := by decide +kernel
theorem dMH_verify_315 : decode c_MH_verify 315 = .ok (.aload_n 0, 1) := by decide +kernel
theorem dMH_verify_316 : decode c_MH_verify 316 = .ok (.iload 9, 2) := by decide +kernel
theorem dMH_verify_318 : decode c_MH_verify 318 = .ok (.aload_n 0, 1) := by decide +kernel
theorem dMH_verify_319 : decode c_MH_verify 319 = .ok (.getfield 45, 3) := by decide +kernel
theorem dMH_verify_322 : decode c_MH_verify 322 = .ok (.iload 9, 2) := by decide +kernel
theorem dMH_verify_324 : decode c_MH_verify 324 = .ok (.aaload, 1) := by decide +kernel
theorem dMH_verify_325 : decode c_MH_verify 325 = .ok (.invokevirtual 183, 3) := by decide +kernel
theorem dMH_verify_328 : decode c_MH_verify 328 = .ok (.iconst 0, 1) := by decide +kernel
theorem dMH_verify_329 : decode c_MH_verify 329 = .ok (.istore 10, 2) := by decide +kernel
theorem dMH_verify_331 : decode c_MH_verify 331 = .ok (.iload 10, 2) := by decide +kernel
theorem dMH_verify_333 : decode c_MH_verify 333 = .ok (.sipush 256, 3) := by decide +kernel
theorem dMH_verify_336 : decode c_MH_verify 336 = .ok (.if_icmp .ge 44, 3) := by decide +kernel
theorem dMH_verify_339 : decode c_MH_verify 339 = .ok (.aload_n 0, 1) := by decide +kernel
theorem dMH_verify_340 : decode c_MH_verify 340 = .ok (.getfield 33, 3) := by decide +kernel
theorem dMH_verify_343 : decode c_MH_verify 343 = .ok (.iload 9, 2) := by decide +kernel
theorem dMH_verify_345 : decode c_MH_verify 345 = .ok (.aaload, 1) := by decide +kernel
theorem dMH_verify_346 : decode c_MH_verify 346 = .ok (.iload 10, 2) := by decide +kernel
theorem dMH_verify_348 : decode c_MH_verify 348 = .ok (.aload_n 2, 1) := by decide +kernel
theorem dMH_verify_349 : decode c_MH_verify 349 = .ok (.sipush 256, 3) := by decide +kernel
theorem dMH_verify_352 : decode c_MH_verify 352 = .ok (.sipush 2560, 3) := by decide +kernel
theorem dMH_verify_355 : decode c_MH_verify 355 = .ok (.iload 9, 2) := by decide +kernel
theorem dMH_verify_357 : decode c_MH_verify 357 = .ok (.imul, 1) := by decide +kernel
theorem dMH_verify_358 : decode c_MH_verify 358 = .ok (.iadd, 1) := by decide +kernel
theorem dMH_verify_359 : decode c_MH_verify 359 = .ok (.bipush 10, 2) := by decide +kernel
theorem dMH_verify_361 : decode c_MH_verify 361 = .ok (.iload 10, 2) := by decide +kernel
theorem dMH_verify_363 : decode c_MH_verify 363 = .ok (.imul, 1) := by decide +kernel
theorem dMH_verify_364 : decode c_MH_verify 364 = .ok (.iadd, 1) := by decide +kernel
theorem dMH_verify_365 : decode c_MH_verify 365 = .ok (.bipush 10, 2) := by decide +kernel
theorem dMH_verify_367 : decode c_MH_verify 367 = .ok (.invokestatic 197, 3) := by decide +kernel
theorem dMH_verify_370 : decode c_MH_verify 370 = .ok (.bipush 13, 2) := by decide +kernel
theorem dMH_verify_372 : decode c_MH_verify 372 = .ok (.ishl, 1) := by decide +kernel
theorem dMH_verify_373 : decode c_MH_verify 373 = .ok (.iastore, 1) := by decide +kernel
theorem dMH_verify_374 : decode c_MH_verify 374 = .ok (.iinc 10 1, 3) := by decide +kernel
theorem dMH_verify_377 : decode c_MH_verify 377 = .ok (.goto (-46), 3) := by decide +kernel
theorem dMH_verify_380 : decode c_MH_verify 380 = .ok (.aload_n 0, 1) := by decide +kernel
theorem dMH_verify_381 : decode c_MH_verify 381 = .ok (.aload_n 0, 1) := by decide +kernel
theorem dMH_verify_382 : decode c_MH_verify 382 = .ok (.getfield 33, 3) := by decide +kernel
theorem dMH_verify_385 : decode c_MH_verify 385 = .ok (.iload 9, 2) := by decide +kernel
theorem dMH_verify_387 : decode c_MH_verify 387 = .ok (.aaload, 1) := by decide +kernel
theorem dMH_verify_388 : decode c_MH_verify 388 = .ok (.aload_n 0, 1) := by decide +kernel
theorem dMH_verify_389 : decode c_MH_verify 389 = .ok (.getfield 55, 3) := by decide +kernel
theorem dMH_verify_392 : decode c_MH_verify 392 = .ok (.invokevirtual 214, 3) := by decide +kernel
theorem dMH_verify_395 : decode c_MH_verify 395 = .ok (.iconst 0, 1) := by decide +kernel
theorem dMH_verify_396 : decode c_MH_verify 396 = .ok (.istore 10, 2) := by decide +kernel
theorem dMH_verify_398 : decode c_MH_verify 398 = .ok (.iload 10, 2) := by decide +kernel
theorem dMH_verify_400 : decode c_MH_verify 400 = .ok (.sipush 256, 3) := by decide +kernel
theorem dMH_verify_403 : decode c_MH_verify 403 = .ok (.if_icmp .ge 39, 3) := by decide +kernel
theorem dMH_verify_406 : decode c_MH_verify 406 = .ok (.aload_n 0, 1) := by decide +kernel
theorem dMH_verify_407 : decode c_MH_verify 407 = .ok (.getfield 45, 3) := by decide +kernel
theorem dMH_verify_410 : decode c_MH_verify 410 = .ok (.iload 9, 2) := by decide +kernel
theorem dMH_verify_412 : decode c_MH_verify 412 = .ok (.aaload, 1) := by decide +kernel
theorem dMH_verify_413 : decode c_MH_verify 413 = .ok (.iload 10, 2) := by decide +kernel
theorem dMH_verify_415 : decode c_MH_verify 415 = .ok (.aload_n 0, 1) := by decide +kernel
theorem dMH_verify_416 : decode c_MH_verify 416 = .ok (.getfield 45, 3) := by decide +kernel
theorem dMH_verify_419 : decode c_MH_verify 419 = .ok (.iload 9, 2) := by decide +kernel
theorem dMH_verify_421 : decode c_MH_verify 421 = .ok (.aaload, 1) := by decide +kernel
theorem dMH_verify_422 : decode c_MH_verify 422 = .ok (.iload 10, 2) := by decide +kernel
theorem dMH_verify_424 : decode c_MH_verify 424 = .ok (.iaload, 1) := by decide +kernel
theorem dMH_verify_425 : decode c_MH_verify 425 = .ok (.aload_n 0, 1) := by decide +kernel
theorem dMH_verify_426 : decode c_MH_verify 426 = .ok (.getfield 55, 3) := by decide +kernel
theorem dMH_verify_429 : decode c_MH_verify 429 = .ok (.iload 10, 2) := by decide +kernel
theorem dMH_verify_431 : decode c_MH_verify 431 = .ok (.iaload, 1) := by decide +kernel
theorem dMH_verify_432 : decode c_MH_verify 432 = .ok (.invokestatic 201, 3) := by decide +kernel
theorem dMH_verify_435 : decode c_MH_verify 435 = .ok (.iastore, 1) := by decide +kernel
theorem dMH_verify_436 : decode c_MH_verify 436 = .ok (.iinc 10 1, 3) := by decide +kernel
theorem dMH_verify_439 : decode c_MH_verify 439 = .ok (.goto (-41), 3) := by decide +kernel
theorem dMH_verify_442 : decode c_MH_verify 442 = .ok (.iinc 9 1, 3) := by decide +kernel
theorem dMH_verify_445 : decode c_MH_verify 445 = .ok (.goto (-139), 3) := by decide +kernel
theorem dMH_verify_448 : decode c_MH_verify 448 = .ok (.aload_n 0, 1) := by decide +kernel
theorem dMH_verify_449 : decode c_MH_verify 449 = .ok (.iconst 1, 1) := by decide +kernel
theorem dMH_verify_450 : decode c_MH_verify 450 = .ok (.aload_n 0, 1) := by decide +kernel
theorem dMH_verify_451 : decode c_MH_verify 451 = .ok (.getfield 81, 3) := by decide +kernel
theorem dMH_verify_454 : decode c_MH_verify 454 = .ok (.invokevirtual 236, 3) := by decide +kernel
theorem dMH_verify_457 : decode c_MH_verify 457 = .ok (.iconst 0, 1) := by decide +kernel
theorem dMH_verify_458 : decode c_MH_verify 458 = .ok (.istore 9, 2) := by decide +kernel
theorem dMH_verify_460 : decode c_MH_verify 460 = .ok (.iload 9, 2) := by decide +kernel
theorem dMH_verify_462 : decode c_MH_verify 462 = .ok (.aload_n 0, 1) := by decide +kernel
theorem dMH_verify_463 : decode c_MH_verify 463 = .ok (.getfield 132, 3) := by decide +kernel
theorem dMH_verify_466 : decode c_MH_verify 466 = .ok (.if_icmp .ge 28, 3) := by decide +kernel
theorem dMH_verify_469 : decode c_MH_verify 469 = .ok (.aload_n 0, 1) := by decide +kernel
theorem dMH_verify_470 : decode c_MH_verify 470 = .ok (.getfield 81, 3) := by decide +kernel
theorem dMH_verify_473 : decode c_MH_verify 473 = .ok (.iload 9, 2) := by decide +kernel
theorem dMH_verify_475 : decode c_MH_verify 475 = .ok (.baload, 1) := by decide +kernel
theorem dMH_verify_476 : decode c_MH_verify 476 = .ok (.aload_n 0, 1) := by decide +kernel
theorem dMH_verify_477 : decode c_MH_verify 477 = .ok (.getfield 78, 3) := by decide +kernel
theorem dMH_verify_480 : decode c_MH_verify 480 = .ok (.iload 9, 2) := by decide +kernel
theorem dMH_verify_482 : decode c_MH_verify 482 = .ok (.baload, 1) := by decide +kernel
theorem dMH_verify_483 : decode c_MH_verify 483 = .ok (.if_icmp .eq 5, 3) := by decide +kernel
theorem dMH_verify_486 : decode c_MH_verify 486 = .ok (.iconst 0, 1) := by decide +kernel
theorem dMH_verify_487 : decode c_MH_verify 487 = .ok (.ireturn, 1) := by decide +kernel
theorem dMH_verify_488 : decode c_MH_verify 488 = .ok (.iinc 9 1, 3) := by decide +kernel
theorem dMH_verify_491 : decode c_MH_verify 491 = .ok (.goto (-31), 3) := by decide +kernel
theorem dMH_verify_494 : decode c_MH_verify 494 = .ok (.iconst 1, 1) := by decide +kernel
theorem dMH_verify_495 : decode c_MH_verify 495 = .ok (.ireturn, 1) := by decide +kernel
def M_MH_sign_0 (pt : Nat) (k : Nat) : Prop := (227 ≤ k ∧ k < 291) ∨ (292 ≤ k ∧ k < 299) ∨ (300 ≤ k ∧ k < 308) ∨ (309 ≤ k ∧ k < 317) ∨ (327 ≤ k ∧ k < 334) ∨ (335 ≤ k ∧ k < 342) ∨ (343 ≤ k ∧ k < 350) ∨ (351 ≤ k ∧ k < 359) ∨ (360 ≤ k ∧ k < 368) ∨ k = 172 ∨ k = 225 ∨ k = 368 ∨ k = 369 ∨ k = 370 ∨ k = 373 ∨ k = 374 ∨ k = 375 ∨ k = 376 ∨ k = pt ∨ (0 : Nat) = 1
noncomputable def F_MH_sign_0_L2 (pt : Nat) (i21 : Nat) (kk : Nat → Sto → Int32 × Sto) : Nat → Nat → Sto → Int32 × Sto
  | 0, i23, s34 => bnd ((s34.1 225 24).toNatClampNeg) fun z23 => bnd (F_MH_marked_0 (nI 0) 376 s34) fun s35 => bnd (F_MH_ball_0 376 s35) fun s36 => bnd (F_MH_fits_0  s36) fun q21 => if (q21.1) = 0 then kk (i21 + 1) q21.2 else bnd (F_MH_written_0 pt q21.2) fun s37 => (nI i21, s37)
  | n23 + 1, i23, s34 => bnd ((s34.1 225 24).toNatClampNeg) fun z24 => bnd (F_MH_rowBy_0 i23 (351 + i23) s34) fun s38 => F_MH_sign_0_L2 pt i21 kk n23 (i23 + 1) s38
noncomputable def E_MH_sign_0_L2 (pt : Nat) (i21 : Nat) (ke : Nat → Sto → Prop) : Nat → Nat → Sto → Prop
  | 0, i23, s34 => bnd ((s34.1 225 24).toNatClampNeg) fun z23 => bnd (F_MH_marked_0 (nI 0) 376 s34) fun s35 => (E_MH_ball_0 376 s35) ∧ (bnd (F_MH_ball_0 376 s35) fun s36 => bnd (F_MH_fits_0  s36) fun q21 => if (q21.1) = 0 then ke (i21 + 1) q21.2 else bnd (F_MH_written_0 pt q21.2) fun s37 => True)
  | n23 + 1, i23, s34 => bnd ((s34.1 225 24).toNatClampNeg) fun z24 => bnd (F_MH_rowBy_0 i23 (351 + i23) s34) fun s38 => E_MH_sign_0_L2 pt i21 ke n23 (i23 + 1) s38
noncomputable def F_MH_sign_0_L1 (pt : Nat) (i21 : Nat) (kk : Nat → Sto → Int32 × Sto) : Nat → Nat → Sto → Int32 × Sto
  | 0, i22, s33 => bnd ((s33.1 225 25).toNatClampNeg) fun z22 => F_MH_sign_0_L2 pt i21 (kk) 4 0 s33
  | n22 + 1, i22, s33 => bnd ((s33.1 225 25).toNatClampNeg) fun z25 => bnd (F_MR_forth_8_0 (327 + i22) (343 + i22) s33) fun s39 => F_MH_sign_0_L1 pt i21 kk n22 (i22 + 1) s39
noncomputable def E_MH_sign_0_L1 (pt : Nat) (i21 : Nat) (ke : Nat → Sto → Prop) : Nat → Nat → Sto → Prop
  | 0, i22, s33 => bnd ((s33.1 225 25).toNatClampNeg) fun z22 => E_MH_sign_0_L2 pt i21 (ke) 4 0 s33
  | n22 + 1, i22, s33 => bnd ((s33.1 225 25).toNatClampNeg) fun z25 => bnd (F_MR_forth_8_0 (327 + i22) (343 + i22) s33) fun s39 => E_MH_sign_0_L1 pt i21 ke n22 (i22 + 1) s39
noncomputable def F_MH_sign_0_L0 (pt : Nat) : Nat → Nat → Sto → Int32 × Sto
  | 0, i21, s31 => (nI 0, s31)
  | n21 + 1, i21, s31 => bnd ((s31.1 225 25).toNatClampNeg) fun z21 => bnd (F_MH_mask_0 (nI ((i21 - 1) * 4)) s31) fun s32 => F_MH_sign_0_L1 pt i21 (F_MH_sign_0_L0 pt n21) 4 0 s32
noncomputable def E_MH_sign_0_L0 (pt : Nat) : Nat → Nat → Sto → Prop
  | 0, i21, s31 => True
  | n21 + 1, i21, s31 => bnd ((s31.1 225 25).toNatClampNeg) fun z21 => bnd (F_MH_mask_0 (nI ((i21 - 1) * 4)) s31) fun s32 => E_MH_sign_0_L1 pt i21 (E_MH_sign_0_L0 pt n21) 4 0 s32
noncomputable def F_MH_sign_0 (psk : Nat) (pb : Nat) (n : Nat) (cl_ : Int32) (ed : Nat) (pt : Nat) (s : Sto) : Int32 × Sto := bnd (F_MH_as_0  s) fun s21 => bnd (F_MH_readHidden_0 psk s21) fun s22 => bnd (F_MH_expand_0 psk 4896 s22) fun s23 => bnd (F_MH_message_0 psk 4896 64 pb n 32 cl_ ed s23) fun s24 => bnd (F_MS_shake  s24) fun s25 => bnd (F_MS_puts psk 4896 32 32 s25) fun s26 => bnd (F_MS_puts pb n 0 32 s26) fun s27 => bnd (F_MS_puts 373 64 0 64 s27) fun s28 => bnd (F_MS_end  s28) fun s29 => bnd (F_MS_take 374 64 0 64 s29) fun s30 => F_MH_sign_0_L0 pt (201 - 1) 1 s30
noncomputable def E_MH_sign_0 (psk : Nat) (pb : Nat) (n : Nat) (cl_ : Int32) (ed : Nat) (pt : Nat) (s : Sto) : Prop := bnd (F_MH_as_0  s) fun s21 => bnd (F_MH_readHidden_0 psk s21) fun s22 => (E_MH_expand_0 psk 4896 s22) ∧ (bnd (F_MH_expand_0 psk 4896 s22) fun s23 => bnd (F_MH_message_0 psk 4896 64 pb n 32 cl_ ed s23) fun s24 => bnd (F_MS_shake  s24) fun s25 => bnd (F_MS_puts psk 4896 32 32 s25) fun s26 => bnd (F_MS_puts pb n 0 32 s26) fun s27 => bnd (F_MS_puts 373 64 0 64 s27) fun s28 => bnd (F_MS_end  s28) fun s29 => bnd (F_MS_take 374 64 0 64 s29) fun s30 => E_MH_sign_0_L0 pt (201 - 1) 1 s30)
set_option maxHeartbeats 8000000 in
set_option maxRecDepth 100000 in
theorem N_MH_sign_0 (l : Launch) (g : Gd) (sz : Nat) (T : TyN) (s : Sto) (pl : va_W) (hO : okn g T s pl) (hU : inj T) (h0 sk b to : Nat) (psk : Nat) (pb : Nat) (n : Nat) (cl_ : Int32) (ed : Nat) (pt : Nat) (k_h0 : T h0 = some 225) (k_sk : T sk = some psk) (n_sk : nsp psk = (1, 4896, [])) (k_b : T b = some pb) (n_b : nsp pb = (1, n, [])) (k_to : T to = some pt) (n_to : nsp pt = (1, 8192, [])) (h1 : 32 ≤ ed) (h3 : ed ≤ n) (h2 : n < 65536) (hE : E_MH_sign_0 psk pb n cl_ ed pt s)  : Met l y_MH_sign w_MH_sign ({ frames := 5, cells := 0, slots := 0, locals := 116 } : Room) (va_Pc [.ref h0, .int (nI 0), .ref sk, .ref b, .int cl_, .int (nI ed), .ref to] (pr (en g) g.1 vcl sz ([] ++ pl))) (va_Qi (fun (r : Int32) (u : (Int32 × Sto) × va_W) => (u.1 = F_MH_sign_0 psk pb n cl_ ed pt s ∧ r = u.1.1 ∧ frm (M_MH_sign_0 pt) s u.1.2 ∧ True) ∧ okn g T u.1.2 u.2) (po g.1 vcl (va_A ([] ++ pl) sz) (fun (u : (Int32 × Sto) × va_W) => [] ++ u.2)) (va_A ([] ++ pl) sz)) 0 0 (va_A ([] ++ pl) sz) := by
  refine mc_entry (cc := c_MH_sign) (maxL := 9) (ret := (some .int)) (by decide) rfl (Nat.le_of_ble_eq_true rfl) ?_
  intro p e s0 m args below meth c ls F hr hlk hnm hsz hP hD hEn hA hl
  obtain ⟨hx, hb, hml, hown, hts⟩ := id F
  have hK := hEn.1
  generalize va_A ([] ++ pl) sz = A at hD hEn hA ⊢
  have hS : va_S A s0.heap s0.heap [] := va_S.rf
  have hl : lv_has ls 9 [(0, .ref h0), (1, .int (nI 0)), (2, .ref sk), (3, .ref b), (4, .int cl_), (5, .int (nI ed)), (6, .ref to)] := hl
  have hR : F_MH_sign_0 psk pb n cl_ ed pt s = F_MH_sign_0 psk pb n cl_ ed pt s := rfl
  have hF : frm (M_MH_sign_0 pt) s s := frm_rf
  have ne_172_psk : 172 ≠ psk := nsp_ne (p := 172) rfl n_sk (show (5 : Nat) ≠ 1 by decide)
  have ne_172_pb : 172 ≠ pb := nsp_ne (p := 172) rfl n_b (show (5 : Nat) ≠ 1 by decide)
  have ne_172_pt : 172 ≠ pt := nsp_ne (p := 172) rfl n_to (show (5 : Nat) ≠ 1 by decide)
  have ne_225_psk : 225 ≠ psk := nsp_ne (p := 225) rfl n_sk (show (5 : Nat) ≠ 1 by decide)
  have ne_225_pb : 225 ≠ pb := nsp_ne (p := 225) rfl n_b (show (5 : Nat) ≠ 1 by decide)
  have ne_225_pt : 225 ≠ pt := nsp_ne (p := 225) rfl n_to (show (5 : Nat) ≠ 1 by decide)
  refine lv_aload_n hx hb dMH_sign_0 rfl (lv_at hl 0 rfl) ?_
  refine lv_iload_n hx hb dMH_sign_1 rfl (lv_at hl 1 rfl) ?_
  refine mp_v (cx := []) (wr := []) hP hD hS hA [] [] rfl rfl rfl (by decide) (va_runV (As := [.int (nI 0)]) (rest := []) F (N_MH_as_0 l g _ T s pl hO hU h0 k_h0) (cwV 1 hts (wg_app (wg_c kw_1698 (wg_c kw_1700 (wg_c ks_60 (wg_c kw_13 wg_n)))) kw_1701) rfl rfl rfl (by decide +kernel) ⟨by decide, by decide⟩) (pn_V (en_ok g) (ci := 12) (kn := 225) (fl := [(3, 172), (3, 181), (3, 226), (3, 291), (3, 299), (3, 308), (3, 317), (3, 326), (3, 334), (3, 342), (3, 350), (3, 359), (3, 368), (3, 369), (3, 370), (3, 371), (3, 372), (3, 373), (3, 374), (3, 375), (3, 376), (3, 377), (3, 378), (0, 0), (0, 0), (0, 0), (0, 0), (0, 0), (0, 0), (0, 0), (0, 0)]) hK hO k_h0 rfl hP hD hS hA hEn [] rfl rfl rfl) rfl rfl hl.1 rfl (lv_room (Nat.le_of_ble_eq_true rfl)) dMH_sign_2 ⟨by omega, by omega⟩) (fun  u21 H locs hu21 hP hD hS => ?_)
  obtain ⟨s21, pl⟩ := u21
  obtain ⟨⟨eq21, hFc21, ⟨x21, hx_21, hb_21⟩, ⟨x22, hx_22, hb_22⟩, ⟨x23, hx_23, hb_23⟩, ⟨x24, hx_24, hb_24⟩, ⟨x25, hx_25, hb_25⟩, ⟨x26, hx_26, hb_26⟩, ⟨x27, hx_27, hb_27⟩, ⟨x28, hx_28, hb_28⟩, -⟩, hO⟩ := hu21
  have hO : okn g T s21 pl := hO
  have hP : va_P g.1 vcl ([] ++ pl) _ := hP
  have hD : va_D _ ([] ++ pl) := hD
  have hFc21 : frm (M_MH_as_0) s s21 := hFc21
  have hb_21 : x21 = 0 := hb_21
  have hb_22 : x22 = 4 := hb_22
  have hb_23 : x23 = 4 := hb_23
  have hb_24 : x24 = 2 := hb_24
  have hb_25 : x25 = 131072 := hb_25
  have hb_26 : x26 = 95232 := hb_26
  have hb_27 : x27 = 78 := hb_27
  have hb_28 : x28 = 32 := hb_28
  replace hR := bnd_step hR eq21
  replace hE := bndP_step hE eq21
  have hF := frm_tr hF hFc21 (fun k hk => by unfold M_MH_as_0 at hk; unfold M_MH_sign_0; omega)
  subst hb_21
  subst hb_22
  subst hb_23
  subst hb_24
  subst hb_25
  subst hb_26
  subst hb_27
  subst hb_28
  refine W.widen (k := 0) (n := 0) (by omega) (by omega) ?_
  refine lv_aload_n hx hb dMH_sign_5 rfl (lv_at hl 0 rfl) ?_
  refine lv_aload_n hx hb dMH_sign_6 rfl (lv_at hl 2 rfl) ?_
  refine mp_v (cx := []) (wr := []) hP hD hS hA [] [] rfl rfl rfl (by decide) (va_runV (As := [.ref sk]) (rest := []) F (N_MH_readHidden_0 l g _ T s21 pl hO hU h0 sk psk k_h0 k_sk n_sk hx_21 hx_22 hx_23 hx_24 hx_25 hx_26 hx_27 hx_28) (cwV 1 hts (wg_app (wg_c kw_1856 (wg_c kw_1858 (wg_c ks_70 (wg_c kw_13 wg_n)))) kw_1859) rfl rfl rfl (by decide +kernel) ⟨by decide, by decide⟩) (pn_V (en_ok g) (ci := 12) (kn := 225) (fl := [(3, 172), (3, 181), (3, 226), (3, 291), (3, 299), (3, 308), (3, 317), (3, 326), (3, 334), (3, 342), (3, 350), (3, 359), (3, 368), (3, 369), (3, 370), (3, 371), (3, 372), (3, 373), (3, 374), (3, 375), (3, 376), (3, 377), (3, 378), (0, 0), (0, 0), (0, 0), (0, 0), (0, 0), (0, 0), (0, 0), (0, 0)]) hK hO k_h0 rfl hP hD hS hA hEn [] rfl rfl rfl) rfl rfl hl.1 rfl (lv_room (Nat.le_of_ble_eq_true rfl)) dMH_sign_7 ⟨by omega, by omega⟩) (fun  u22 H locs hu22 hP hD hS => ?_)
  obtain ⟨s22, pl⟩ := u22
  obtain ⟨⟨eq22, hFc22, -⟩, hO⟩ := hu22
  have hO : okn g T s22 pl := hO
  have hP : va_P g.1 vcl ([] ++ pl) _ := hP
  have hD : va_D _ ([] ++ pl) := hD
  have hFc22 : frm (M_MH_readHidden_0) s21 s22 := hFc22
  replace hR := bnd_step hR eq22
  replace hE := bndP_step hE eq22
  have hF := frm_tr hF hFc22 (fun k hk => by unfold M_MH_readHidden_0 at hk; unfold M_MH_sign_0; omega)
  have hf21 : s22.1 225 23 = nI 0 := fc_F hx_21 hFc22 (by unfold M_MH_readHidden_0; omega)
  have hf22 : s22.1 225 24 = nI 4 := fc_F hx_22 hFc22 (by unfold M_MH_readHidden_0; omega)
  have hf23 : s22.1 225 25 = nI 4 := fc_F hx_23 hFc22 (by unfold M_MH_readHidden_0; omega)
  have hf24 : s22.1 225 26 = nI 2 := fc_F hx_24 hFc22 (by unfold M_MH_readHidden_0; omega)
  have hf25 : s22.1 225 27 = nI 131072 := fc_F hx_25 hFc22 (by unfold M_MH_readHidden_0; omega)
  have hf26 : s22.1 225 28 = nI 95232 := fc_F hx_26 hFc22 (by unfold M_MH_readHidden_0; omega)
  have hf27 : s22.1 225 29 = nI 78 := fc_F hx_27 hFc22 (by unfold M_MH_readHidden_0; omega)
  have hf28 : s22.1 225 30 = nI 32 := fc_F hx_28 hFc22 (by unfold M_MH_readHidden_0; omega)
  refine W.widen (k := 0) (n := 0) (by omega) (by omega) ?_
  refine lv_aload_n hx hb dMH_sign_10 rfl (lv_at hl 0 rfl) ?_
  refine lv_aload_n hx hb dMH_sign_11 rfl (lv_at hl 2 rfl) ?_
  refine mp_v (cx := []) (wr := []) hP hD hS hA [] [] rfl rfl rfl (by decide) (va_runV (As := [.ref sk]) (rest := []) F (N_MH_expand_0 l g _ T s22 pl hO hU h0 sk psk 4896 k_h0 k_sk n_sk hf21 hf22 hf23 hf24 hf25 hf26 hf27 hf28 (by omega) (by omega) hE.1) (cwV 1 hts (wg_app (wg_c kw_1719 (wg_c kw_1721 (wg_c ks_61 (wg_c kw_13 wg_n)))) kw_1722) rfl rfl rfl (by decide +kernel) ⟨by decide, by decide⟩) (pn_V (en_ok g) (ci := 12) (kn := 225) (fl := [(3, 172), (3, 181), (3, 226), (3, 291), (3, 299), (3, 308), (3, 317), (3, 326), (3, 334), (3, 342), (3, 350), (3, 359), (3, 368), (3, 369), (3, 370), (3, 371), (3, 372), (3, 373), (3, 374), (3, 375), (3, 376), (3, 377), (3, 378), (0, 0), (0, 0), (0, 0), (0, 0), (0, 0), (0, 0), (0, 0), (0, 0)]) hK hO k_h0 rfl hP hD hS hA hEn [] rfl rfl rfl) rfl rfl hl.1 rfl (lv_room (Nat.le_of_ble_eq_true rfl)) dMH_sign_12 ⟨by omega, by omega⟩) (fun  u23 H locs hu23 hP hD hS => ?_)
  obtain ⟨s23, pl⟩ := u23
  obtain ⟨⟨eq23, hFc23, -⟩, hO⟩ := hu23
  have hO : okn g T s23 pl := hO
  have hP : va_P g.1 vcl ([] ++ pl) _ := hP
  have hD : va_D _ ([] ++ pl) := hD
  have hFc23 : frm (M_MH_expand_0) s22 s23 := hFc23
  replace hE := hE.2
  replace hR := bnd_step hR eq23
  replace hE := bndP_step hE eq23
  have hF := frm_tr hF hFc23 (fun k hk => by unfold M_MH_expand_0 at hk; unfold M_MH_sign_0; omega)
  have hf29 : s23.1 225 23 = nI 0 := fc_F hf21 hFc23 (by unfold M_MH_expand_0; omega)
  have hf30 : s23.1 225 24 = nI 4 := fc_F hf22 hFc23 (by unfold M_MH_expand_0; omega)
  have hf31 : s23.1 225 25 = nI 4 := fc_F hf23 hFc23 (by unfold M_MH_expand_0; omega)
  have hf32 : s23.1 225 26 = nI 2 := fc_F hf24 hFc23 (by unfold M_MH_expand_0; omega)
  have hf33 : s23.1 225 27 = nI 131072 := fc_F hf25 hFc23 (by unfold M_MH_expand_0; omega)
  have hf34 : s23.1 225 28 = nI 95232 := fc_F hf26 hFc23 (by unfold M_MH_expand_0; omega)
  have hf35 : s23.1 225 29 = nI 78 := fc_F hf27 hFc23 (by unfold M_MH_expand_0; omega)
  have hf36 : s23.1 225 30 = nI 32 := fc_F hf28 hFc23 (by unfold M_MH_expand_0; omega)
  refine W.widen (k := 0) (n := 0) (by omega) (by omega) ?_
  refine lv_aload_n hx hb dMH_sign_15 rfl (lv_at hl 0 rfl) ?_
  refine lv_aload_n hx hb dMH_sign_16 rfl (lv_at hl 2 rfl) ?_
  refine lv_bipush (v := nI 64) hx hb dMH_sign_17 (by decide) ?_
  refine lv_aload_n hx hb dMH_sign_19 rfl (lv_at hl 3 rfl) ?_
  refine lv_bipush (v := nI 32) hx hb dMH_sign_20 (by decide) ?_
  refine lv_iload hx hb dMH_sign_22 (lv_at hl 4 rfl) ?_
  refine lv_iload hx hb dMH_sign_24 (lv_at hl 5 rfl) ?_
  refine mp_v (cx := []) (wr := []) hP hD hS hA [] [] rfl rfl rfl (by decide) (va_runV (As := [.ref sk, .int (nI 64), .ref b, .int (nI 32), .int cl_, .int (nI ed)]) (rest := []) F (N_MH_message_0 l g _ T s23 pl hO hU h0 sk b psk 4896 64 pb n 32 cl_ ed k_h0 k_sk n_sk k_b n_b hf29 hf30 hf31 hf32 hf33 hf34 hf35 hf36 (by omega) (by omega) (by omega) (by omega) (by omega)) (cwV 6 hts (wg_app (wg_c kw_1864 (wg_c kw_1866 (wg_c ks_71 (wg_c kw_13 wg_n)))) kw_1867) rfl rfl rfl (by decide +kernel) ⟨by decide, by decide⟩) (pn_V (en_ok g) (ci := 12) (kn := 225) (fl := [(3, 172), (3, 181), (3, 226), (3, 291), (3, 299), (3, 308), (3, 317), (3, 326), (3, 334), (3, 342), (3, 350), (3, 359), (3, 368), (3, 369), (3, 370), (3, 371), (3, 372), (3, 373), (3, 374), (3, 375), (3, 376), (3, 377), (3, 378), (0, 0), (0, 0), (0, 0), (0, 0), (0, 0), (0, 0), (0, 0), (0, 0)]) hK hO k_h0 rfl hP hD hS hA hEn [] rfl rfl rfl) rfl rfl hl.1 rfl (lv_room (Nat.le_of_ble_eq_true rfl)) dMH_sign_26 ⟨by omega, by omega⟩) (fun  u24 H locs hu24 hP hD hS => ?_)
  obtain ⟨s24, pl⟩ := u24
  obtain ⟨⟨eq24, hFc24, -⟩, hO⟩ := hu24
  have hO : okn g T s24 pl := hO
  have hP : va_P g.1 vcl ([] ++ pl) _ := hP
  have hD : va_D _ ([] ++ pl) := hD
  have hFc24 : frm (M_MH_message_0) s23 s24 := hFc24
  replace hR := bnd_step hR eq24
  replace hE := bndP_step hE eq24
  have hF := frm_tr hF hFc24 (fun k hk => by unfold M_MH_message_0 at hk; unfold M_MH_sign_0; omega)
  have hf37 : s24.1 225 23 = nI 0 := fc_F hf29 hFc24 (by unfold M_MH_message_0; omega)
  have hf38 : s24.1 225 24 = nI 4 := fc_F hf30 hFc24 (by unfold M_MH_message_0; omega)
  have hf39 : s24.1 225 25 = nI 4 := fc_F hf31 hFc24 (by unfold M_MH_message_0; omega)
  have hf40 : s24.1 225 26 = nI 2 := fc_F hf32 hFc24 (by unfold M_MH_message_0; omega)
  have hf41 : s24.1 225 27 = nI 131072 := fc_F hf33 hFc24 (by unfold M_MH_message_0; omega)
  have hf42 : s24.1 225 28 = nI 95232 := fc_F hf34 hFc24 (by unfold M_MH_message_0; omega)
  have hf43 : s24.1 225 29 = nI 78 := fc_F hf35 hFc24 (by unfold M_MH_message_0; omega)
  have hf44 : s24.1 225 30 = nI 32 := fc_F hf36 hFc24 (by unfold M_MH_message_0; omega)
  refine W.widen (k := 0) (n := 0) (by omega) (by omega) ?_
  refine lv_aload_n hx hb dMH_sign_29 rfl (lv_at hl 0 rfl) ?_
  refine nw_get (C := "LatticeKeysModel$Hands") (TT := T_MH) (N := 31) hx hb hts (wg_ft i_MH) hown hK hO k_h0 (kn := 225) (ci := 12) (fl := [(3, 172), (3, 181), (3, 226), (3, 291), (3, 299), (3, 308), (3, 317), (3, 326), (3, 334), (3, 342), (3, 350), (3, 359), (3, 368), (3, 369), (3, 370), (3, 371), (3, 372), (3, 373), (3, 374), (3, 375), (3, 376), (3, 377), (3, 378), (0, 0), (0, 0), (0, 0), (0, 0), (0, 0), (0, 0), (0, 0), (0, 0)]) rfl hP rfl 0 (by decide) (hts _ (wg_t kw_1432)) (fun _ h9 => h9) (cd := (3, 172)) rfl dMH_sign_30 (fun v21 hv21 => ?_)
  obtain ⟨r21, rfl, kr21⟩ := (show ∃ r : Nat, v21 = .ref r ∧ T r = some 172 from hv21)
  refine mp_v (cx := []) (wr := []) hP hD hS hA [] [] rfl rfl rfl (by decide) (va_runV (As := []) (rest := []) F (N_MS_shake l g _ T s24 pl hO hU r21 kr21) (cwV 0 hts (wg_app (wg_c kw_1714 (wg_c kw_1657 (wg_c kw_1658 (wg_c kw_10 wg_n)))) kw_1659) rfl rfl rfl (by decide +kernel) ⟨by decide, by decide⟩) (pn_V (en_ok g) (ci := 9) (kn := 172) (fl := [(3, 173), (3, 174), (3, 175), (3, 176), (3, 177), (0, 0), (0, 0), (0, 0)]) hK hO kr21 rfl hP hD hS hA hEn [] rfl rfl rfl) rfl rfl hl.1 rfl (lv_room (Nat.le_of_ble_eq_true rfl)) dMH_sign_33 ⟨by omega, by omega⟩) (fun  u25 H locs hu25 hP hD hS => ?_)
  obtain ⟨s25, pl⟩ := u25
  obtain ⟨⟨eq25, hFc25, ⟨x33, hx_33, hb_33⟩, ⟨x34, hx_34, hb_34⟩, -⟩, hO⟩ := hu25
  have hO : okn g T s25 pl := hO
  have hP : va_P g.1 vcl ([] ++ pl) _ := hP
  have hD : va_D _ ([] ++ pl) := hD
  have hFc25 : frm (M_MS_shake) s24 s25 := hFc25
  have hb_33 : x33 = 0 := hb_33
  have hb_34 : x34 = 136 := hb_34
  replace hR := bnd_step hR eq25
  replace hE := bndP_step hE eq25
  have hF := frm_tr hF hFc25 (fun k hk => by unfold M_MS_shake at hk; unfold M_MH_sign_0; omega)
  have hf45 : s25.1 225 23 = nI 0 := fc_F hf37 hFc25 (by unfold M_MS_shake; omega)
  have hf46 : s25.1 225 24 = nI 4 := fc_F hf38 hFc25 (by unfold M_MS_shake; omega)
  have hf47 : s25.1 225 25 = nI 4 := fc_F hf39 hFc25 (by unfold M_MS_shake; omega)
  have hf48 : s25.1 225 26 = nI 2 := fc_F hf40 hFc25 (by unfold M_MS_shake; omega)
  have hf49 : s25.1 225 27 = nI 131072 := fc_F hf41 hFc25 (by unfold M_MS_shake; omega)
  have hf50 : s25.1 225 28 = nI 95232 := fc_F hf42 hFc25 (by unfold M_MS_shake; omega)
  have hf51 : s25.1 225 29 = nI 78 := fc_F hf43 hFc25 (by unfold M_MS_shake; omega)
  have hf52 : s25.1 225 30 = nI 32 := fc_F hf44 hFc25 (by unfold M_MS_shake; omega)
  refine W.widen (k := 0) (n := 0) (by omega) (by omega) ?_
  refine lv_aload_n hx hb dMH_sign_36 rfl (lv_at hl 0 rfl) ?_
  refine nw_get (C := "LatticeKeysModel$Hands") (TT := T_MH) (N := 31) hx hb hts (wg_ft i_MH) hown hK hO k_h0 (kn := 225) (ci := 12) (fl := [(3, 172), (3, 181), (3, 226), (3, 291), (3, 299), (3, 308), (3, 317), (3, 326), (3, 334), (3, 342), (3, 350), (3, 359), (3, 368), (3, 369), (3, 370), (3, 371), (3, 372), (3, 373), (3, 374), (3, 375), (3, 376), (3, 377), (3, 378), (0, 0), (0, 0), (0, 0), (0, 0), (0, 0), (0, 0), (0, 0), (0, 0)]) rfl hP rfl 0 (by decide) (hts _ (wg_t kw_1432)) (fun _ h9 => h9) (cd := (3, 172)) rfl dMH_sign_37 (fun v22 hv22 => ?_)
  obtain ⟨r22, rfl, kr22⟩ := (show ∃ r : Nat, v22 = .ref r ∧ T r = some 172 from hv22)
  refine lv_aload_n hx hb dMH_sign_40 rfl (lv_at hl 2 rfl) ?_
  refine lv_bipush (v := nI 32) hx hb dMH_sign_41 (by decide) ?_
  refine lv_bipush (v := nI 32) hx hb dMH_sign_43 (by decide) ?_
  refine mp_v (cx := []) (wr := []) hP hD hS hA [] [] rfl rfl rfl (by decide) (va_runV (As := [.ref sk, .int (nI 32), .int (nI 32)]) (rest := []) F (N_MS_puts l g _ T s25 pl hO hU r22 sk psk 4896 32 32 x33 x34 kr22 k_sk n_sk hx_33 hx_34 (by omega) (by omega) (by omega) (by omega)) (cwV 3 hts (wg_app (wg_c kw_1715 (wg_c kw_1608 (wg_c kw_1609 (wg_c kw_10 wg_n)))) kw_1610) rfl rfl rfl (by decide +kernel) ⟨by decide, by decide⟩) (pn_V (en_ok g) (ci := 9) (kn := 172) (fl := [(3, 173), (3, 174), (3, 175), (3, 176), (3, 177), (0, 0), (0, 0), (0, 0)]) hK hO kr22 rfl hP hD hS hA hEn [] rfl rfl rfl) rfl rfl hl.1 rfl (lv_room (Nat.le_of_ble_eq_true rfl)) dMH_sign_45 ⟨by omega, by omega⟩) (fun  u26 H locs hu26 hP hD hS => ?_)
  obtain ⟨s26, pl⟩ := u26
  obtain ⟨⟨eq26, hFc26, ⟨x36, hx_36, hb_36⟩, ⟨x37, hx_37, hb_37⟩, -⟩, hO⟩ := hu26
  have hO : okn g T s26 pl := hO
  have hP : va_P g.1 vcl ([] ++ pl) _ := hP
  have hD : va_D _ ([] ++ pl) := hD
  have hFc26 : frm (M_MS_puts) s25 s26 := hFc26
  have hb_36 : x36 < x34 := hb_36
  have hb_37 : x37 = x34 := hb_37
  replace hR := bnd_step hR eq26
  replace hE := bndP_step hE eq26
  have hF := frm_tr hF hFc26 (fun k hk => by unfold M_MS_puts at hk; unfold M_MH_sign_0; omega)
  have hf53 : s26.1 225 23 = nI 0 := fc_F hf45 hFc26 (by unfold M_MS_puts; omega)
  have hf54 : s26.1 225 24 = nI 4 := fc_F hf46 hFc26 (by unfold M_MS_puts; omega)
  have hf55 : s26.1 225 25 = nI 4 := fc_F hf47 hFc26 (by unfold M_MS_puts; omega)
  have hf56 : s26.1 225 26 = nI 2 := fc_F hf48 hFc26 (by unfold M_MS_puts; omega)
  have hf57 : s26.1 225 27 = nI 131072 := fc_F hf49 hFc26 (by unfold M_MS_puts; omega)
  have hf58 : s26.1 225 28 = nI 95232 := fc_F hf50 hFc26 (by unfold M_MS_puts; omega)
  have hf59 : s26.1 225 29 = nI 78 := fc_F hf51 hFc26 (by unfold M_MS_puts; omega)
  have hf60 : s26.1 225 30 = nI 32 := fc_F hf52 hFc26 (by unfold M_MS_puts; omega)
  refine W.widen (k := 0) (n := 0) (by omega) (by omega) ?_
  refine lv_aload_n hx hb dMH_sign_48 rfl (lv_at hl 0 rfl) ?_
  refine nw_get (C := "LatticeKeysModel$Hands") (TT := T_MH) (N := 31) hx hb hts (wg_ft i_MH) hown hK hO k_h0 (kn := 225) (ci := 12) (fl := [(3, 172), (3, 181), (3, 226), (3, 291), (3, 299), (3, 308), (3, 317), (3, 326), (3, 334), (3, 342), (3, 350), (3, 359), (3, 368), (3, 369), (3, 370), (3, 371), (3, 372), (3, 373), (3, 374), (3, 375), (3, 376), (3, 377), (3, 378), (0, 0), (0, 0), (0, 0), (0, 0), (0, 0), (0, 0), (0, 0), (0, 0)]) rfl hP rfl 0 (by decide) (hts _ (wg_t kw_1432)) (fun _ h9 => h9) (cd := (3, 172)) rfl dMH_sign_49 (fun v23 hv23 => ?_)
  obtain ⟨r23, rfl, kr23⟩ := (show ∃ r : Nat, v23 = .ref r ∧ T r = some 172 from hv23)
  refine lv_aload_n hx hb dMH_sign_52 rfl (lv_at hl 3 rfl) ?_
  refine lv_iconst (v := nI 0) hx hb dMH_sign_53 (by decide) ?_
  refine lv_bipush (v := nI 32) hx hb dMH_sign_54 (by decide) ?_
  refine mp_v (cx := []) (wr := []) hP hD hS hA [] [] rfl rfl rfl (by decide) (va_runV (As := [.ref b, .int (nI 0), .int (nI 32)]) (rest := []) F (N_MS_puts l g _ T s26 pl hO hU r23 b pb n 0 32 x36 x37 kr23 k_b n_b hx_36 hx_37 (by omega) (by omega) (by omega) (by omega)) (cwV 3 hts (wg_app (wg_c kw_1715 (wg_c kw_1608 (wg_c kw_1609 (wg_c kw_10 wg_n)))) kw_1610) rfl rfl rfl (by decide +kernel) ⟨by decide, by decide⟩) (pn_V (en_ok g) (ci := 9) (kn := 172) (fl := [(3, 173), (3, 174), (3, 175), (3, 176), (3, 177), (0, 0), (0, 0), (0, 0)]) hK hO kr23 rfl hP hD hS hA hEn [] rfl rfl rfl) rfl rfl hl.1 rfl (lv_room (Nat.le_of_ble_eq_true rfl)) dMH_sign_56 ⟨by omega, by omega⟩) (fun  u27 H locs hu27 hP hD hS => ?_)
  obtain ⟨s27, pl⟩ := u27
  obtain ⟨⟨eq27, hFc27, ⟨x39, hx_39, hb_39⟩, ⟨x40, hx_40, hb_40⟩, -⟩, hO⟩ := hu27
  have hO : okn g T s27 pl := hO
  have hP : va_P g.1 vcl ([] ++ pl) _ := hP
  have hD : va_D _ ([] ++ pl) := hD
  have hFc27 : frm (M_MS_puts) s26 s27 := hFc27
  have hb_39 : x39 < x37 := hb_39
  have hb_40 : x40 = x37 := hb_40
  replace hR := bnd_step hR eq27
  replace hE := bndP_step hE eq27
  have hF := frm_tr hF hFc27 (fun k hk => by unfold M_MS_puts at hk; unfold M_MH_sign_0; omega)
  have hf61 : s27.1 225 23 = nI 0 := fc_F hf53 hFc27 (by unfold M_MS_puts; omega)
  have hf62 : s27.1 225 24 = nI 4 := fc_F hf54 hFc27 (by unfold M_MS_puts; omega)
  have hf63 : s27.1 225 25 = nI 4 := fc_F hf55 hFc27 (by unfold M_MS_puts; omega)
  have hf64 : s27.1 225 26 = nI 2 := fc_F hf56 hFc27 (by unfold M_MS_puts; omega)
  have hf65 : s27.1 225 27 = nI 131072 := fc_F hf57 hFc27 (by unfold M_MS_puts; omega)
  have hf66 : s27.1 225 28 = nI 95232 := fc_F hf58 hFc27 (by unfold M_MS_puts; omega)
  have hf67 : s27.1 225 29 = nI 78 := fc_F hf59 hFc27 (by unfold M_MS_puts; omega)
  have hf68 : s27.1 225 30 = nI 32 := fc_F hf60 hFc27 (by unfold M_MS_puts; omega)
  refine W.widen (k := 0) (n := 0) (by omega) (by omega) ?_
  refine lv_aload_n hx hb dMH_sign_59 rfl (lv_at hl 0 rfl) ?_
  refine nw_get (C := "LatticeKeysModel$Hands") (TT := T_MH) (N := 31) hx hb hts (wg_ft i_MH) hown hK hO k_h0 (kn := 225) (ci := 12) (fl := [(3, 172), (3, 181), (3, 226), (3, 291), (3, 299), (3, 308), (3, 317), (3, 326), (3, 334), (3, 342), (3, 350), (3, 359), (3, 368), (3, 369), (3, 370), (3, 371), (3, 372), (3, 373), (3, 374), (3, 375), (3, 376), (3, 377), (3, 378), (0, 0), (0, 0), (0, 0), (0, 0), (0, 0), (0, 0), (0, 0), (0, 0)]) rfl hP rfl 0 (by decide) (hts _ (wg_t kw_1432)) (fun _ h9 => h9) (cd := (3, 172)) rfl dMH_sign_60 (fun v24 hv24 => ?_)
  obtain ⟨r24, rfl, kr24⟩ := (show ∃ r : Nat, v24 = .ref r ∧ T r = some 172 from hv24)
  refine lv_aload_n hx hb dMH_sign_63 rfl (lv_at hl 0 rfl) ?_
  refine nw_get (C := "LatticeKeysModel$Hands") (TT := T_MH) (N := 31) hx hb hts (wg_ft i_MH) hown hK hO k_h0 (kn := 225) (ci := 12) (fl := [(3, 172), (3, 181), (3, 226), (3, 291), (3, 299), (3, 308), (3, 317), (3, 326), (3, 334), (3, 342), (3, 350), (3, 359), (3, 368), (3, 369), (3, 370), (3, 371), (3, 372), (3, 373), (3, 374), (3, 375), (3, 376), (3, 377), (3, 378), (0, 0), (0, 0), (0, 0), (0, 0), (0, 0), (0, 0), (0, 0), (0, 0)]) rfl hP rfl 17 (by decide) (hts _ (wg_t kw_1449)) (fun _ h9 => h9) (cd := (3, 373)) rfl dMH_sign_64 (fun v25 hv25 => ?_)
  obtain ⟨r25, rfl, kr25⟩ := (show ∃ r : Nat, v25 = .ref r ∧ T r = some 373 from hv25)
  refine lv_iconst (v := nI 0) hx hb dMH_sign_67 (by decide) ?_
  refine lv_bipush (v := nI 64) hx hb dMH_sign_68 (by decide) ?_
  refine mp_v (cx := []) (wr := []) hP hD hS hA [] [] rfl rfl rfl (by decide) (va_runV (As := [.ref r25, .int (nI 0), .int (nI 64)]) (rest := []) F (N_MS_puts l g _ T s27 pl hO hU r24 r25 373 64 0 64 x39 x40 kr24 kr25 rfl hx_39 hx_40 (by omega) (by omega) (by omega) (by omega)) (cwV 3 hts (wg_app (wg_c kw_1715 (wg_c kw_1608 (wg_c kw_1609 (wg_c kw_10 wg_n)))) kw_1610) rfl rfl rfl (by decide +kernel) ⟨by decide, by decide⟩) (pn_V (en_ok g) (ci := 9) (kn := 172) (fl := [(3, 173), (3, 174), (3, 175), (3, 176), (3, 177), (0, 0), (0, 0), (0, 0)]) hK hO kr24 rfl hP hD hS hA hEn [] rfl rfl rfl) rfl rfl hl.1 rfl (lv_room (Nat.le_of_ble_eq_true rfl)) dMH_sign_70 ⟨by omega, by omega⟩) (fun  u28 H locs hu28 hP hD hS => ?_)
  obtain ⟨s28, pl⟩ := u28
  obtain ⟨⟨eq28, hFc28, ⟨x42, hx_42, hb_42⟩, ⟨x43, hx_43, hb_43⟩, -⟩, hO⟩ := hu28
  have hO : okn g T s28 pl := hO
  have hP : va_P g.1 vcl ([] ++ pl) _ := hP
  have hD : va_D _ ([] ++ pl) := hD
  have hFc28 : frm (M_MS_puts) s27 s28 := hFc28
  have hb_42 : x42 < x40 := hb_42
  have hb_43 : x43 = x40 := hb_43
  replace hR := bnd_step hR eq28
  replace hE := bndP_step hE eq28
  have hF := frm_tr hF hFc28 (fun k hk => by unfold M_MS_puts at hk; unfold M_MH_sign_0; omega)
  have hf69 : s28.1 225 23 = nI 0 := fc_F hf61 hFc28 (by unfold M_MS_puts; omega)
  have hf70 : s28.1 225 24 = nI 4 := fc_F hf62 hFc28 (by unfold M_MS_puts; omega)
  have hf71 : s28.1 225 25 = nI 4 := fc_F hf63 hFc28 (by unfold M_MS_puts; omega)
  have hf72 : s28.1 225 26 = nI 2 := fc_F hf64 hFc28 (by unfold M_MS_puts; omega)
  have hf73 : s28.1 225 27 = nI 131072 := fc_F hf65 hFc28 (by unfold M_MS_puts; omega)
  have hf74 : s28.1 225 28 = nI 95232 := fc_F hf66 hFc28 (by unfold M_MS_puts; omega)
  have hf75 : s28.1 225 29 = nI 78 := fc_F hf67 hFc28 (by unfold M_MS_puts; omega)
  have hf76 : s28.1 225 30 = nI 32 := fc_F hf68 hFc28 (by unfold M_MS_puts; omega)
  refine W.widen (k := 0) (n := 0) (by omega) (by omega) ?_
  refine lv_aload_n hx hb dMH_sign_73 rfl (lv_at hl 0 rfl) ?_
  refine nw_get (C := "LatticeKeysModel$Hands") (TT := T_MH) (N := 31) hx hb hts (wg_ft i_MH) hown hK hO k_h0 (kn := 225) (ci := 12) (fl := [(3, 172), (3, 181), (3, 226), (3, 291), (3, 299), (3, 308), (3, 317), (3, 326), (3, 334), (3, 342), (3, 350), (3, 359), (3, 368), (3, 369), (3, 370), (3, 371), (3, 372), (3, 373), (3, 374), (3, 375), (3, 376), (3, 377), (3, 378), (0, 0), (0, 0), (0, 0), (0, 0), (0, 0), (0, 0), (0, 0), (0, 0)]) rfl hP rfl 0 (by decide) (hts _ (wg_t kw_1432)) (fun _ h9 => h9) (cd := (3, 172)) rfl dMH_sign_74 (fun v26 hv26 => ?_)
  obtain ⟨r26, rfl, kr26⟩ := (show ∃ r : Nat, v26 = .ref r ∧ T r = some 172 from hv26)
  refine mp_v (cx := []) (wr := []) hP hD hS hA [] [] rfl rfl rfl (by decide) (va_runV (As := []) (rest := []) F (N_MS_end l g _ T s28 pl hO hU r26 x42 x43 kr26 hx_42 hx_43 (by omega) (by omega)) (cwV 0 hts (wg_app (wg_c kw_1717 (wg_c kw_1630 (wg_c kw_1631 (wg_c kw_10 wg_n)))) kw_1632) rfl rfl rfl (by decide +kernel) ⟨by decide, by decide⟩) (pn_V (en_ok g) (ci := 9) (kn := 172) (fl := [(3, 173), (3, 174), (3, 175), (3, 176), (3, 177), (0, 0), (0, 0), (0, 0)]) hK hO kr26 rfl hP hD hS hA hEn [] rfl rfl rfl) rfl rfl hl.1 rfl (lv_room (Nat.le_of_ble_eq_true rfl)) dMH_sign_77 ⟨by omega, by omega⟩) (fun  u29 H locs hu29 hP hD hS => ?_)
  obtain ⟨s29, pl⟩ := u29
  obtain ⟨⟨eq29, hFc29, ⟨x45, hx_45, hb_45⟩, ⟨x46, hx_46, hb_46⟩, -⟩, hO⟩ := hu29
  have hO : okn g T s29 pl := hO
  have hP : va_P g.1 vcl ([] ++ pl) _ := hP
  have hD : va_D _ ([] ++ pl) := hD
  have hFc29 : frm (M_MS_end) s28 s29 := hFc29
  have hb_45 : x45 = 0 := hb_45
  have hb_46 : x46 = x43 := hb_46
  replace hR := bnd_step hR eq29
  replace hE := bndP_step hE eq29
  have hF := frm_tr hF hFc29 (fun k hk => by unfold M_MS_end at hk; unfold M_MH_sign_0; omega)
  have hf77 : s29.1 225 23 = nI 0 := fc_F hf69 hFc29 (by unfold M_MS_end; omega)
  have hf78 : s29.1 225 24 = nI 4 := fc_F hf70 hFc29 (by unfold M_MS_end; omega)
  have hf79 : s29.1 225 25 = nI 4 := fc_F hf71 hFc29 (by unfold M_MS_end; omega)
  have hf80 : s29.1 225 26 = nI 2 := fc_F hf72 hFc29 (by unfold M_MS_end; omega)
  have hf81 : s29.1 225 27 = nI 131072 := fc_F hf73 hFc29 (by unfold M_MS_end; omega)
  have hf82 : s29.1 225 28 = nI 95232 := fc_F hf74 hFc29 (by unfold M_MS_end; omega)
  have hf83 : s29.1 225 29 = nI 78 := fc_F hf75 hFc29 (by unfold M_MS_end; omega)
  have hf84 : s29.1 225 30 = nI 32 := fc_F hf76 hFc29 (by unfold M_MS_end; omega)
  refine W.widen (k := 0) (n := 0) (by omega) (by omega) ?_
  refine lv_aload_n hx hb dMH_sign_80 rfl (lv_at hl 0 rfl) ?_
  refine nw_get (C := "LatticeKeysModel$Hands") (TT := T_MH) (N := 31) hx hb hts (wg_ft i_MH) hown hK hO k_h0 (kn := 225) (ci := 12) (fl := [(3, 172), (3, 181), (3, 226), (3, 291), (3, 299), (3, 308), (3, 317), (3, 326), (3, 334), (3, 342), (3, 350), (3, 359), (3, 368), (3, 369), (3, 370), (3, 371), (3, 372), (3, 373), (3, 374), (3, 375), (3, 376), (3, 377), (3, 378), (0, 0), (0, 0), (0, 0), (0, 0), (0, 0), (0, 0), (0, 0), (0, 0)]) rfl hP rfl 0 (by decide) (hts _ (wg_t kw_1432)) (fun _ h9 => h9) (cd := (3, 172)) rfl dMH_sign_81 (fun v27 hv27 => ?_)
  obtain ⟨r27, rfl, kr27⟩ := (show ∃ r : Nat, v27 = .ref r ∧ T r = some 172 from hv27)
  refine lv_aload_n hx hb dMH_sign_84 rfl (lv_at hl 0 rfl) ?_
  refine nw_get (C := "LatticeKeysModel$Hands") (TT := T_MH) (N := 31) hx hb hts (wg_ft i_MH) hown hK hO k_h0 (kn := 225) (ci := 12) (fl := [(3, 172), (3, 181), (3, 226), (3, 291), (3, 299), (3, 308), (3, 317), (3, 326), (3, 334), (3, 342), (3, 350), (3, 359), (3, 368), (3, 369), (3, 370), (3, 371), (3, 372), (3, 373), (3, 374), (3, 375), (3, 376), (3, 377), (3, 378), (0, 0), (0, 0), (0, 0), (0, 0), (0, 0), (0, 0), (0, 0), (0, 0)]) rfl hP rfl 18 (by decide) (hts _ (wg_t kw_1450)) (fun _ h9 => h9) (cd := (3, 374)) rfl dMH_sign_85 (fun v28 hv28 => ?_)
  obtain ⟨r28, rfl, kr28⟩ := (show ∃ r : Nat, v28 = .ref r ∧ T r = some 374 from hv28)
  refine lv_iconst (v := nI 0) hx hb dMH_sign_88 (by decide) ?_
  refine lv_bipush (v := nI 64) hx hb dMH_sign_89 (by decide) ?_
  refine mp_v (cx := []) (wr := []) hP hD hS hA [] [] rfl rfl rfl (by decide) (va_runV (As := [.ref r28, .int (nI 0), .int (nI 64)]) (rest := []) F (N_MS_take l g _ T s29 pl hO hU r27 r28 374 64 0 64 x45 x46 kr27 kr28 rfl hx_45 hx_46 (by omega) (by omega) (by omega) (by omega)) (cwV 3 hts (wg_app (wg_c kw_1718 (wg_c kw_1634 (wg_c kw_1635 (wg_c kw_10 wg_n)))) kw_1636) rfl rfl rfl (by decide +kernel) ⟨by decide, by decide⟩) (pn_V (en_ok g) (ci := 9) (kn := 172) (fl := [(3, 173), (3, 174), (3, 175), (3, 176), (3, 177), (0, 0), (0, 0), (0, 0)]) hK hO kr27 rfl hP hD hS hA hEn [] rfl rfl rfl) rfl rfl hl.1 rfl (lv_room (Nat.le_of_ble_eq_true rfl)) dMH_sign_91 ⟨by omega, by omega⟩) (fun  u30 H locs hu30 hP hD hS => ?_)
  obtain ⟨s30, pl⟩ := u30
  obtain ⟨⟨eq30, hFc30, ⟨x48, hx_48, hb_48⟩, ⟨x49, hx_49, hb_49⟩, -⟩, hO⟩ := hu30
  have hO : okn g T s30 pl := hO
  have hP : va_P g.1 vcl ([] ++ pl) _ := hP
  have hD : va_D _ ([] ++ pl) := hD
  have hFc30 : frm (M_MS_take 374) s29 s30 := hFc30
  have hb_48 : x48 ≤ x46 := hb_48
  have hb_49 : x49 = x46 := hb_49
  replace hR := bnd_step hR eq30
  replace hE := bndP_step hE eq30
  have hF := frm_tr hF hFc30 (fun k hk => by unfold M_MS_take at hk; unfold M_MH_sign_0; omega)
  have hf85 : s30.1 225 23 = nI 0 := fc_F hf77 hFc30 (by unfold M_MS_take; omega)
  have hf86 : s30.1 225 24 = nI 4 := fc_F hf78 hFc30 (by unfold M_MS_take; omega)
  have hf87 : s30.1 225 25 = nI 4 := fc_F hf79 hFc30 (by unfold M_MS_take; omega)
  have hf88 : s30.1 225 26 = nI 2 := fc_F hf80 hFc30 (by unfold M_MS_take; omega)
  have hf89 : s30.1 225 27 = nI 131072 := fc_F hf81 hFc30 (by unfold M_MS_take; omega)
  have hf90 : s30.1 225 28 = nI 95232 := fc_F hf82 hFc30 (by unfold M_MS_take; omega)
  have hf91 : s30.1 225 29 = nI 78 := fc_F hf83 hFc30 (by unfold M_MS_take; omega)
  have hf92 : s30.1 225 30 = nI 32 := fc_F hf84 hFc30 (by unfold M_MS_take; omega)
  refine W.widen (k := 0) (n := 0) (by omega) (by omega) ?_
  refine lv_iconst (v := nI 1) hx hb dMH_sign_94 (by decide) ?_
  refine lv_istore (lv' := [(7, .int (nI 1)), (0, .ref h0), (1, .int (nI 0)), (2, .ref sk), (3, .ref b), (4, .int cl_), (5, .int (nI ed)), (6, .ref to)]) hx hb dMH_sign_95 hl (by decide) rfl (fun ls hl => ?_)
  have lp21 : ∀ (n21 : Nat) (i21 : Nat) (s31 : Sto) (pl : va_W) (ls : Array Slot) (H : Heap) (locs : List Loc), n21 + i21 = 201 → (1 ≤ i21) → frm (M_MH_sign_0 pt) s s31 → s31.1 225 23 = nI 0 → s31.1 225 24 = nI 4 → s31.1 225 25 = nI 4 → s31.1 225 26 = nI 2 → s31.1 225 27 = nI 131072 → s31.1 225 28 = nI 95232 → s31.1 225 29 = nI 78 → s31.1 225 30 = nI 32 → E_MH_sign_0_L0 pt n21 i21 s31 → F_MH_sign_0 psk pb n cl_ ed pt s = F_MH_sign_0_L0 pt n21 i21 s31 → lv_has ls 9 [(7, .int (nI i21)), (0, .ref h0), (6, .ref to)] → okn g T s31 pl → va_P g.1 vcl ([] ++ pl) H → va_D A ([] ++ pl) → va_S A s0.heap H locs → W p l e ({ frames := 5, cells := 0, slots := 0, locals := 116 } : Room) s0 m args below meth c H locs 0 0 (MQ below (va_Qi (fun (r : Int32) (u : (Int32 × Sto) × va_W) => (u.1 = F_MH_sign_0 psk pb n cl_ ed pt s ∧ r = u.1.1 ∧ frm (M_MH_sign_0 pt) s u.1.2 ∧ True) ∧ okn g T u.1.2 u.2) (po g.1 vcl A (fun (u : (Int32 × Sto) × va_W) => [] ++ u.2)) A) args s0 0 0 A) (F0 m 97 ls []) := by
    intro n21
    induction n21 with
    | zero =>
      intro i21 s31 pl ls H locs hm21 hi21 hF hf93 hf94 hf95 hf96 hf97 hf98 hf99 hf100 hE hR hl hO hP hD hS
      refine lv_iload hx hb dMH_sign_97 (lv_at hl 0 rfl) ?_
      refine lv_sipush (v := nI 200) hx hb dMH_sign_99 (by decide) ?_
      refine mi_gt (tgt := 232) hx hb dMH_sign_102 (by decide) (by omega) (by omega) (fun h21 => ?_) (fun h21 => absurd h21 (by omega))
      refine lv_iconst (v := nI 0) hx hb dMH_sign_232 (by decide) ?_
      exact mp_iret hx hb hr hlk hP hD hS ((nI 0, s31), pl) ⟨⟨hR.symm, rfl, hF, trivial⟩, hO⟩ [] rfl rfl rfl (by omega) (by omega) dMH_sign_233
    | succ n21 ih21 =>
      intro i21 s31 pl ls H locs hm21 hi21 hF hf101 hf102 hf103 hf104 hf105 hf106 hf107 hf108 hE hR hl hO hP hD hS
      refine lv_iload hx hb dMH_sign_97 (lv_at hl 0 rfl) ?_
      refine lv_sipush (v := nI 200) hx hb dMH_sign_99 (by decide) ?_
      refine mi_gt (tgt := 232) hx hb dMH_sign_102 (by decide) (by omega) (by omega) (fun h22 => absurd h22 (by omega)) (fun h22 => ?_)
      refine lv_aload_n hx hb dMH_sign_105 rfl (lv_at hl 1 rfl) ?_
      refine lv_iload hx hb dMH_sign_106 (lv_at hl 0 rfl) ?_
      refine lv_iconst (v := nI 1) hx hb dMH_sign_108 (by decide) ?_
      refine mi_isub hx hb dMH_sign_109 (by omega) ?_
      refine lv_aload_n hx hb dMH_sign_110 rfl (lv_at hl 1 rfl) ?_
      refine nw_get (C := "LatticeKeysModel$Hands") (TT := T_MH) (N := 31) hx hb hts (wg_ft i_MH) hown hK hO k_h0 (kn := 225) (ci := 12) (fl := [(3, 172), (3, 181), (3, 226), (3, 291), (3, 299), (3, 308), (3, 317), (3, 326), (3, 334), (3, 342), (3, 350), (3, 359), (3, 368), (3, 369), (3, 370), (3, 371), (3, 372), (3, 373), (3, 374), (3, 375), (3, 376), (3, 377), (3, 378), (0, 0), (0, 0), (0, 0), (0, 0), (0, 0), (0, 0), (0, 0), (0, 0)]) rfl hP rfl 25 (by decide) (hts _ (wg_t kw_1457)) (fun _ h9 => h9) (cd := (0, 0)) rfl dMH_sign_111 (fun v29 hv29 => ?_)
      obtain rfl := (show v29 = .int (s31.1 225 25) from hv29)
      obtain ⟨z21, ez21, hz21, hz22⟩ := cl_of (b := 2147483648) hf103 (by omega) (by decide)
      replace hR := bnd_step hR ez21
      replace hE := bndP_step hE ez21
      refine mi_as hz21 ?_
      subst hz22
      refine mi_imul hx hb dMH_sign_114 ?_
      refine mp_v (cx := []) (wr := []) hP hD hS hA [] [] rfl rfl rfl (by decide) (va_runV (As := [.int (nI ((i21 - 1) * 4))]) (rest := []) F (N_MH_mask_0 l g _ T s31 pl hO hU h0 (nI ((i21 - 1) * 4)) k_h0 hf101 hf102 hf103 hf104 hf105 hf106 hf107 hf108) (cwV 1 hts (wg_app (wg_c kw_1868 (wg_c kw_1870 (wg_c ks_72 (wg_c kw_13 wg_n)))) kw_1871) rfl rfl rfl (by decide +kernel) ⟨by decide, by decide⟩) (pn_V (en_ok g) (ci := 12) (kn := 225) (fl := [(3, 172), (3, 181), (3, 226), (3, 291), (3, 299), (3, 308), (3, 317), (3, 326), (3, 334), (3, 342), (3, 350), (3, 359), (3, 368), (3, 369), (3, 370), (3, 371), (3, 372), (3, 373), (3, 374), (3, 375), (3, 376), (3, 377), (3, 378), (0, 0), (0, 0), (0, 0), (0, 0), (0, 0), (0, 0), (0, 0), (0, 0)]) hK hO k_h0 rfl hP hD hS hA hEn [] rfl rfl rfl) rfl rfl hl.1 rfl (lv_room (Nat.le_of_ble_eq_true rfl)) dMH_sign_115 ⟨by omega, by omega⟩) (fun  u31 H locs hu31 hP hD hS => ?_)
      obtain ⟨s32, pl⟩ := u31
      obtain ⟨⟨eq31, hFc31, -⟩, hO⟩ := hu31
      have hO : okn g T s32 pl := hO
      have hP : va_P g.1 vcl ([] ++ pl) _ := hP
      have hD : va_D _ ([] ++ pl) := hD
      have hFc31 : frm (M_MH_mask_0) s31 s32 := hFc31
      replace hR := bnd_step hR eq31
      replace hE := bndP_step hE eq31
      have hF := frm_tr hF hFc31 (fun k hk => by unfold M_MH_mask_0 at hk; unfold M_MH_sign_0; omega)
      have hf109 : s32.1 225 23 = nI 0 := fc_F hf101 hFc31 (by unfold M_MH_mask_0; omega)
      have hf110 : s32.1 225 24 = nI 4 := fc_F hf102 hFc31 (by unfold M_MH_mask_0; omega)
      have hf111 : s32.1 225 25 = nI 4 := fc_F hf103 hFc31 (by unfold M_MH_mask_0; omega)
      have hf112 : s32.1 225 26 = nI 2 := fc_F hf104 hFc31 (by unfold M_MH_mask_0; omega)
      have hf113 : s32.1 225 27 = nI 131072 := fc_F hf105 hFc31 (by unfold M_MH_mask_0; omega)
      have hf114 : s32.1 225 28 = nI 95232 := fc_F hf106 hFc31 (by unfold M_MH_mask_0; omega)
      have hf115 : s32.1 225 29 = nI 78 := fc_F hf107 hFc31 (by unfold M_MH_mask_0; omega)
      have hf116 : s32.1 225 30 = nI 32 := fc_F hf108 hFc31 (by unfold M_MH_mask_0; omega)
      refine W.widen (k := 0) (n := 0) (by omega) (by omega) ?_
      refine lv_iconst (v := nI 0) hx hb dMH_sign_118 (by decide) ?_
      refine lv_istore (lv' := [(8, .int (nI 0)), (7, .int (nI i21)), (0, .ref h0), (6, .ref to)]) hx hb dMH_sign_119 hl (by decide) rfl (fun ls hl => ?_)
      have lp22 : ∀ (n22 : Nat) (i22 : Nat) (s33 : Sto) (pl : va_W) (ls : Array Slot) (H : Heap) (locs : List Loc), n22 + i22 = 4 → frm (M_MH_sign_0 pt) s s33 → s33.1 225 23 = nI 0 → s33.1 225 24 = nI 4 → s33.1 225 25 = nI 4 → s33.1 225 26 = nI 2 → s33.1 225 27 = nI 131072 → s33.1 225 28 = nI 95232 → s33.1 225 29 = nI 78 → s33.1 225 30 = nI 32 → E_MH_sign_0_L1 pt i21 (E_MH_sign_0_L0 pt n21) n22 i22 s33 → F_MH_sign_0 psk pb n cl_ ed pt s = F_MH_sign_0_L1 pt i21 (F_MH_sign_0_L0 pt n21) n22 i22 s33 → lv_has ls 9 [(8, .int (nI i22)), (7, .int (nI i21)), (0, .ref h0), (6, .ref to)] → okn g T s33 pl → va_P g.1 vcl ([] ++ pl) H → va_D A ([] ++ pl) → va_S A s0.heap H locs → W p l e ({ frames := 5, cells := 0, slots := 0, locals := 116 } : Room) s0 m args below meth c H locs 0 0 (MQ below (va_Qi (fun (r : Int32) (u : (Int32 × Sto) × va_W) => (u.1 = F_MH_sign_0 psk pb n cl_ ed pt s ∧ r = u.1.1 ∧ frm (M_MH_sign_0 pt) s u.1.2 ∧ True) ∧ okn g T u.1.2 u.2) (po g.1 vcl A (fun (u : (Int32 × Sto) × va_W) => [] ++ u.2)) A) args s0 0 0 A) (F0 m 121 ls []) := by
        intro n22
        induction n22 with
        | zero =>
          intro i22 s33 pl ls H locs hm22 hF hf117 hf118 hf119 hf120 hf121 hf122 hf123 hf124 hE hR hl hO hP hD hS
          refine lv_iload hx hb dMH_sign_121 (lv_at hl 0 rfl) ?_
          refine lv_aload_n hx hb dMH_sign_123 rfl (lv_at hl 2 rfl) ?_
          refine nw_get (C := "LatticeKeysModel$Hands") (TT := T_MH) (N := 31) hx hb hts (wg_ft i_MH) hown hK hO k_h0 (kn := 225) (ci := 12) (fl := [(3, 172), (3, 181), (3, 226), (3, 291), (3, 299), (3, 308), (3, 317), (3, 326), (3, 334), (3, 342), (3, 350), (3, 359), (3, 368), (3, 369), (3, 370), (3, 371), (3, 372), (3, 373), (3, 374), (3, 375), (3, 376), (3, 377), (3, 378), (0, 0), (0, 0), (0, 0), (0, 0), (0, 0), (0, 0), (0, 0), (0, 0)]) rfl hP rfl 25 (by decide) (hts _ (wg_t kw_1457)) (fun _ h9 => h9) (cd := (0, 0)) rfl dMH_sign_124 (fun v30 hv30 => ?_)
          obtain rfl := (show v30 = .int (s33.1 225 25) from hv30)
          obtain ⟨z22, ez22, hz23, hz24⟩ := cl_of (b := 2147483648) hf119 (by omega) (by decide)
          replace hR := bnd_step hR ez22
          replace hE := bndP_step hE ez22
          refine mi_as hz23 ?_
          subst hz24
          refine mi_ge (tgt := 159) hx hb dMH_sign_127 (by decide) (by omega) (by omega) (fun h23 => ?_) (fun h23 => absurd h23 (by omega))
          refine lv_iconst (v := nI 0) hx hb dMH_sign_159 (by decide) ?_
          refine lv_istore (lv' := [(8, .int (nI 0)), (7, .int (nI i21)), (0, .ref h0), (6, .ref to)]) hx hb dMH_sign_160 hl (by decide) rfl (fun ls hl => ?_)
          have lp23 : ∀ (n23 : Nat) (i23 : Nat) (s34 : Sto) (pl : va_W) (ls : Array Slot) (H : Heap) (locs : List Loc), n23 + i23 = 4 → frm (M_MH_sign_0 pt) s s34 → s34.1 225 23 = nI 0 → s34.1 225 24 = nI 4 → s34.1 225 25 = nI 4 → s34.1 225 26 = nI 2 → s34.1 225 27 = nI 131072 → s34.1 225 28 = nI 95232 → s34.1 225 29 = nI 78 → s34.1 225 30 = nI 32 → E_MH_sign_0_L2 pt i21 (E_MH_sign_0_L0 pt n21) n23 i23 s34 → F_MH_sign_0 psk pb n cl_ ed pt s = F_MH_sign_0_L2 pt i21 (F_MH_sign_0_L0 pt n21) n23 i23 s34 → lv_has ls 9 [(8, .int (nI i23)), (7, .int (nI i21)), (0, .ref h0), (6, .ref to)] → okn g T s34 pl → va_P g.1 vcl ([] ++ pl) H → va_D A ([] ++ pl) → va_S A s0.heap H locs → W p l e ({ frames := 5, cells := 0, slots := 0, locals := 116 } : Room) s0 m args below meth c H locs 0 0 (MQ below (va_Qi (fun (r : Int32) (u : (Int32 × Sto) × va_W) => (u.1 = F_MH_sign_0 psk pb n cl_ ed pt s ∧ r = u.1.1 ∧ frm (M_MH_sign_0 pt) s u.1.2 ∧ True) ∧ okn g T u.1.2 u.2) (po g.1 vcl A (fun (u : (Int32 × Sto) × va_W) => [] ++ u.2)) A) args s0 0 0 A) (F0 m 162 ls []) := by
            intro n23
            induction n23 with
            | zero =>
              intro i23 s34 pl ls H locs hm23 hF hf125 hf126 hf127 hf128 hf129 hf130 hf131 hf132 hE hR hl hO hP hD hS
              refine lv_iload hx hb dMH_sign_162 (lv_at hl 0 rfl) ?_
              refine lv_aload_n hx hb dMH_sign_164 rfl (lv_at hl 2 rfl) ?_
              refine nw_get (C := "LatticeKeysModel$Hands") (TT := T_MH) (N := 31) hx hb hts (wg_ft i_MH) hown hK hO k_h0 (kn := 225) (ci := 12) (fl := [(3, 172), (3, 181), (3, 226), (3, 291), (3, 299), (3, 308), (3, 317), (3, 326), (3, 334), (3, 342), (3, 350), (3, 359), (3, 368), (3, 369), (3, 370), (3, 371), (3, 372), (3, 373), (3, 374), (3, 375), (3, 376), (3, 377), (3, 378), (0, 0), (0, 0), (0, 0), (0, 0), (0, 0), (0, 0), (0, 0), (0, 0)]) rfl hP rfl 24 (by decide) (hts _ (wg_t kw_1456)) (fun _ h9 => h9) (cd := (0, 0)) rfl dMH_sign_165 (fun v31 hv31 => ?_)
              obtain rfl := (show v31 = .int (s34.1 225 24) from hv31)
              obtain ⟨z23, ez23, hz25, hz26⟩ := cl_of (b := 2147483648) hf126 (by omega) (by decide)
              replace hR := bnd_step hR ez23
              replace hE := bndP_step hE ez23
              refine mi_as hz25 ?_
              subst hz26
              refine mi_ge (tgt := 190) hx hb dMH_sign_168 (by decide) (by omega) (by omega) (fun h24 => ?_) (fun h24 => absurd h24 (by omega))
              refine lv_aload_n hx hb dMH_sign_190 rfl (lv_at hl 2 rfl) ?_
              refine lv_iconst (v := nI 0) hx hb dMH_sign_191 (by decide) ?_
              refine lv_aload_n hx hb dMH_sign_192 rfl (lv_at hl 2 rfl) ?_
              refine nw_get (C := "LatticeKeysModel$Hands") (TT := T_MH) (N := 31) hx hb hts (wg_ft i_MH) hown hK hO k_h0 (kn := 225) (ci := 12) (fl := [(3, 172), (3, 181), (3, 226), (3, 291), (3, 299), (3, 308), (3, 317), (3, 326), (3, 334), (3, 342), (3, 350), (3, 359), (3, 368), (3, 369), (3, 370), (3, 371), (3, 372), (3, 373), (3, 374), (3, 375), (3, 376), (3, 377), (3, 378), (0, 0), (0, 0), (0, 0), (0, 0), (0, 0), (0, 0), (0, 0), (0, 0)]) rfl hP rfl 20 (by decide) (hts _ (wg_t kw_1452)) (fun _ h9 => h9) (cd := (3, 376)) rfl dMH_sign_193 (fun v32 hv32 => ?_)
              obtain ⟨r29, rfl, kr29⟩ := (show ∃ r : Nat, v32 = .ref r ∧ T r = some 376 from hv32)
              refine mp_v (cx := []) (wr := []) hP hD hS hA [] [] rfl rfl rfl (by decide) (va_runV (As := [.int (nI 0), .ref r29]) (rest := []) F (N_MH_marked_0 l g _ T s34 pl hO hU h0 r29 (nI 0) 376 k_h0 kr29 rfl hf125 hf126 hf127 hf128 hf129 hf130 hf131 hf132) (cwV 2 hts (wg_app (wg_c kw_1872 (wg_c kw_1874 (wg_c ks_73 (wg_c kw_13 wg_n)))) kw_1875) rfl rfl rfl (by decide +kernel) ⟨by decide, by decide⟩) (pn_V (en_ok g) (ci := 12) (kn := 225) (fl := [(3, 172), (3, 181), (3, 226), (3, 291), (3, 299), (3, 308), (3, 317), (3, 326), (3, 334), (3, 342), (3, 350), (3, 359), (3, 368), (3, 369), (3, 370), (3, 371), (3, 372), (3, 373), (3, 374), (3, 375), (3, 376), (3, 377), (3, 378), (0, 0), (0, 0), (0, 0), (0, 0), (0, 0), (0, 0), (0, 0), (0, 0)]) hK hO k_h0 rfl hP hD hS hA hEn [] rfl rfl rfl) rfl rfl hl.1 rfl (lv_room (Nat.le_of_ble_eq_true rfl)) dMH_sign_196 ⟨by omega, by omega⟩) (fun  u32 H locs hu32 hP hD hS => ?_)
              obtain ⟨s35, pl⟩ := u32
              obtain ⟨⟨eq32, hFc32, -⟩, hO⟩ := hu32
              have hO : okn g T s35 pl := hO
              have hP : va_P g.1 vcl ([] ++ pl) _ := hP
              have hD : va_D _ ([] ++ pl) := hD
              have hFc32 : frm (M_MH_marked_0 376) s34 s35 := hFc32
              replace hR := bnd_step hR eq32
              replace hE := bndP_step hE eq32
              have hF := frm_tr hF hFc32 (fun k hk => by unfold M_MH_marked_0 at hk; unfold M_MH_sign_0; omega)
              have hf133 : s35.1 225 23 = nI 0 := fc_F hf125 hFc32 (by unfold M_MH_marked_0; omega)
              have hf134 : s35.1 225 24 = nI 4 := fc_F hf126 hFc32 (by unfold M_MH_marked_0; omega)
              have hf135 : s35.1 225 25 = nI 4 := fc_F hf127 hFc32 (by unfold M_MH_marked_0; omega)
              have hf136 : s35.1 225 26 = nI 2 := fc_F hf128 hFc32 (by unfold M_MH_marked_0; omega)
              have hf137 : s35.1 225 27 = nI 131072 := fc_F hf129 hFc32 (by unfold M_MH_marked_0; omega)
              have hf138 : s35.1 225 28 = nI 95232 := fc_F hf130 hFc32 (by unfold M_MH_marked_0; omega)
              have hf139 : s35.1 225 29 = nI 78 := fc_F hf131 hFc32 (by unfold M_MH_marked_0; omega)
              have hf140 : s35.1 225 30 = nI 32 := fc_F hf132 hFc32 (by unfold M_MH_marked_0; omega)
              refine W.widen (k := 0) (n := 0) (by omega) (by omega) ?_
              refine lv_aload_n hx hb dMH_sign_199 rfl (lv_at hl 2 rfl) ?_
              refine lv_aload_n hx hb dMH_sign_200 rfl (lv_at hl 2 rfl) ?_
              refine nw_get (C := "LatticeKeysModel$Hands") (TT := T_MH) (N := 31) hx hb hts (wg_ft i_MH) hown hK hO k_h0 (kn := 225) (ci := 12) (fl := [(3, 172), (3, 181), (3, 226), (3, 291), (3, 299), (3, 308), (3, 317), (3, 326), (3, 334), (3, 342), (3, 350), (3, 359), (3, 368), (3, 369), (3, 370), (3, 371), (3, 372), (3, 373), (3, 374), (3, 375), (3, 376), (3, 377), (3, 378), (0, 0), (0, 0), (0, 0), (0, 0), (0, 0), (0, 0), (0, 0), (0, 0)]) rfl hP rfl 20 (by decide) (hts _ (wg_t kw_1452)) (fun _ h9 => h9) (cd := (3, 376)) rfl dMH_sign_201 (fun v33 hv33 => ?_)
              obtain ⟨r30, rfl, kr30⟩ := (show ∃ r : Nat, v33 = .ref r ∧ T r = some 376 from hv33)
              refine mp_v (cx := []) (wr := []) hP hD hS hA [] [] rfl rfl rfl (by decide) (va_runV (As := [.ref r30]) (rest := []) F (N_MH_ball_0 l g _ T s35 pl hO hU h0 r30 376 k_h0 kr30 rfl hf133 hf134 hf135 hf136 hf137 hf138 hf139 hf140 hE.1) (cwV 1 hts (wg_app (wg_c kw_1889 (wg_c kw_1891 (wg_c ks_77 (wg_c kw_13 wg_n)))) kw_1892) rfl rfl rfl (by decide +kernel) ⟨by decide, by decide⟩) (pn_V (en_ok g) (ci := 12) (kn := 225) (fl := [(3, 172), (3, 181), (3, 226), (3, 291), (3, 299), (3, 308), (3, 317), (3, 326), (3, 334), (3, 342), (3, 350), (3, 359), (3, 368), (3, 369), (3, 370), (3, 371), (3, 372), (3, 373), (3, 374), (3, 375), (3, 376), (3, 377), (3, 378), (0, 0), (0, 0), (0, 0), (0, 0), (0, 0), (0, 0), (0, 0), (0, 0)]) hK hO k_h0 rfl hP hD hS hA hEn [] rfl rfl rfl) rfl rfl hl.1 rfl (lv_room (Nat.le_of_ble_eq_true rfl)) dMH_sign_204 ⟨by omega, by omega⟩) (fun  u33 H locs hu33 hP hD hS => ?_)
              obtain ⟨s36, pl⟩ := u33
              obtain ⟨⟨eq33, hFc33, -⟩, hO⟩ := hu33
              have hO : okn g T s36 pl := hO
              have hP : va_P g.1 vcl ([] ++ pl) _ := hP
              have hD : va_D _ ([] ++ pl) := hD
              have hFc33 : frm (M_MH_ball_0) s35 s36 := hFc33
              replace hE := hE.2
              replace hR := bnd_step hR eq33
              replace hE := bndP_step hE eq33
              have hF := frm_tr hF hFc33 (fun k hk => by unfold M_MH_ball_0 at hk; unfold M_MH_sign_0; omega)
              have hf141 : s36.1 225 23 = nI 0 := fc_F hf133 hFc33 (by unfold M_MH_ball_0; omega)
              have hf142 : s36.1 225 24 = nI 4 := fc_F hf134 hFc33 (by unfold M_MH_ball_0; omega)
              have hf143 : s36.1 225 25 = nI 4 := fc_F hf135 hFc33 (by unfold M_MH_ball_0; omega)
              have hf144 : s36.1 225 26 = nI 2 := fc_F hf136 hFc33 (by unfold M_MH_ball_0; omega)
              have hf145 : s36.1 225 27 = nI 131072 := fc_F hf137 hFc33 (by unfold M_MH_ball_0; omega)
              have hf146 : s36.1 225 28 = nI 95232 := fc_F hf138 hFc33 (by unfold M_MH_ball_0; omega)
              have hf147 : s36.1 225 29 = nI 78 := fc_F hf139 hFc33 (by unfold M_MH_ball_0; omega)
              have hf148 : s36.1 225 30 = nI 32 := fc_F hf140 hFc33 (by unfold M_MH_ball_0; omega)
              refine W.widen (k := 0) (n := 0) (by omega) (by omega) ?_
              refine lv_aload_n hx hb dMH_sign_207 rfl (lv_at hl 2 rfl) ?_
              refine mp_i (cx := []) (wr := []) hP hD hS hA [] [] rfl rfl rfl (by decide) (va_runV (As := []) (rest := []) F (N_MH_fits_0 l g _ T s36 pl hO hU h0 k_h0 hf141 hf142 hf143 hf144 hf145 hf146 hf147 hf148) (cwV 0 hts (wg_app (wg_c kw_1893 (wg_c kw_1895 (wg_c ks_78 (wg_c kw_13 wg_n)))) kw_1896) rfl rfl rfl (by decide +kernel) ⟨by decide, by decide⟩) (pn_V (en_ok g) (ci := 12) (kn := 225) (fl := [(3, 172), (3, 181), (3, 226), (3, 291), (3, 299), (3, 308), (3, 317), (3, 326), (3, 334), (3, 342), (3, 350), (3, 359), (3, 368), (3, 369), (3, 370), (3, 371), (3, 372), (3, 373), (3, 374), (3, 375), (3, 376), (3, 377), (3, 378), (0, 0), (0, 0), (0, 0), (0, 0), (0, 0), (0, 0), (0, 0), (0, 0)]) hK hO k_h0 rfl hP hD hS hA hEn [] rfl rfl rfl) rfl rfl hl.1 rfl (lv_room (Nat.le_of_ble_eq_true rfl)) dMH_sign_208 ⟨by omega, by omega⟩) (fun r31 u34 H locs hu34 hP hD hS => ?_)
              obtain ⟨q21, pl⟩ := u34
              obtain ⟨⟨eq34, rfl, hFc34, -⟩, hO⟩ := hu34
              have hO : okn g T q21.2 pl := hO
              have hP : va_P g.1 vcl ([] ++ pl) _ := hP
              have hD : va_D _ ([] ++ pl) := hD
              have hFc34 : frm (M_MH_fits_0) s36 q21.2 := hFc34
              replace hR := bnd_step hR eq34
              replace hE := bndP_step hE eq34
              have hF := frm_tr hF hFc34 (fun k hk => by unfold M_MH_fits_0 at hk; unfold M_MH_sign_0; omega)
              have hf149 : q21.2.1 225 23 = nI 0 := fc_F hf141 hFc34 (by unfold M_MH_fits_0; omega)
              have hf150 : q21.2.1 225 24 = nI 4 := fc_F hf142 hFc34 (by unfold M_MH_fits_0; omega)
              have hf151 : q21.2.1 225 25 = nI 4 := fc_F hf143 hFc34 (by unfold M_MH_fits_0; omega)
              have hf152 : q21.2.1 225 26 = nI 2 := fc_F hf144 hFc34 (by unfold M_MH_fits_0; omega)
              have hf153 : q21.2.1 225 27 = nI 131072 := fc_F hf145 hFc34 (by unfold M_MH_fits_0; omega)
              have hf154 : q21.2.1 225 28 = nI 95232 := fc_F hf146 hFc34 (by unfold M_MH_fits_0; omega)
              have hf155 : q21.2.1 225 29 = nI 78 := fc_F hf147 hFc34 (by unfold M_MH_fits_0; omega)
              have hf156 : q21.2.1 225 30 = nI 32 := fc_F hf148 hFc34 (by unfold M_MH_fits_0; omega)
              refine W.widen (k := 0) (n := 0) (by omega) (by omega) ?_
              refine lv_if_ne (tgt := 217) hx hb dMH_sign_211 (by decide) (fun h25 => ?_) (fun h25 => ?_)
              · replace hR := hR.trans (if_neg h25)
                replace hE := iteP_neg h25 hE
                refine lv_aload_n hx hb dMH_sign_217 rfl (lv_at hl 2 rfl) ?_
                refine lv_aload hx hb dMH_sign_218 (lv_at hl 3 rfl) ?_
                refine mp_v (cx := []) (wr := []) hP hD hS hA [] [] rfl rfl rfl (by decide) (va_runV (As := [.ref to]) (rest := []) F (N_MH_written_0 l g _ T q21.2 pl hO hU h0 to pt k_h0 k_to n_to hf149 hf150 hf151 hf152 hf153 hf154 hf155 hf156) (cwV 1 hts (wg_app (wg_c kw_1910 (wg_c kw_1912 (wg_c ks_80 (wg_c kw_13 wg_n)))) kw_1913) rfl rfl rfl (by decide +kernel) ⟨by decide, by decide⟩) (pn_V (en_ok g) (ci := 12) (kn := 225) (fl := [(3, 172), (3, 181), (3, 226), (3, 291), (3, 299), (3, 308), (3, 317), (3, 326), (3, 334), (3, 342), (3, 350), (3, 359), (3, 368), (3, 369), (3, 370), (3, 371), (3, 372), (3, 373), (3, 374), (3, 375), (3, 376), (3, 377), (3, 378), (0, 0), (0, 0), (0, 0), (0, 0), (0, 0), (0, 0), (0, 0), (0, 0)]) hK hO k_h0 rfl hP hD hS hA hEn [] rfl rfl rfl) rfl rfl hl.1 rfl (lv_room (Nat.le_of_ble_eq_true rfl)) dMH_sign_220 ⟨by omega, by omega⟩) (fun  u35 H locs hu35 hP hD hS => ?_)
                obtain ⟨s37, pl⟩ := u35
                obtain ⟨⟨eq35, hFc35, -⟩, hO⟩ := hu35
                have hO : okn g T s37 pl := hO
                have hP : va_P g.1 vcl ([] ++ pl) _ := hP
                have hD : va_D _ ([] ++ pl) := hD
                have hFc35 : frm (M_MH_written_0 pt) q21.2 s37 := hFc35
                replace hR := bnd_step hR eq35
                replace hE := bndP_step hE eq35
                have hF := frm_tr hF hFc35 (fun k hk => by unfold M_MH_written_0 at hk; unfold M_MH_sign_0; omega)
                have hf157 : s37.1 225 23 = nI 0 := fc_F hf149 hFc35 (by unfold M_MH_written_0; omega)
                have hf158 : s37.1 225 24 = nI 4 := fc_F hf150 hFc35 (by unfold M_MH_written_0; omega)
                have hf159 : s37.1 225 25 = nI 4 := fc_F hf151 hFc35 (by unfold M_MH_written_0; omega)
                have hf160 : s37.1 225 26 = nI 2 := fc_F hf152 hFc35 (by unfold M_MH_written_0; omega)
                have hf161 : s37.1 225 27 = nI 131072 := fc_F hf153 hFc35 (by unfold M_MH_written_0; omega)
                have hf162 : s37.1 225 28 = nI 95232 := fc_F hf154 hFc35 (by unfold M_MH_written_0; omega)
                have hf163 : s37.1 225 29 = nI 78 := fc_F hf155 hFc35 (by unfold M_MH_written_0; omega)
                have hf164 : s37.1 225 30 = nI 32 := fc_F hf156 hFc35 (by unfold M_MH_written_0; omega)
                refine W.widen (k := 0) (n := 0) (by omega) (by omega) ?_
                refine lv_iload hx hb dMH_sign_223 (lv_at hl 1 rfl) ?_
                exact mp_iret hx hb hr hlk hP hD hS ((nI i21, s37), pl) ⟨⟨hR.symm, rfl, hF, trivial⟩, hO⟩ [] rfl rfl rfl (by omega) (by omega) dMH_sign_225
              · replace hR := hR.trans (if_pos h25)
                replace hE := iteP_pos h25 hE
                refine lv_goto (tgt := 226) hx hb dMH_sign_214 (by decide) ?_
                refine mi_iinc (k := 1) (x := i21) (d := 1) (y := i21 + 1) (lv' := [(7, .int (nI (i21 + 1))), (8, .int (nI i23)), (0, .ref h0), (6, .ref to)]) hx hb dMH_sign_226 hl rfl (by decide) rfl (by decide) rfl (fun ls hl => ?_)
                refine lv_goto (tgt := 97) hx hb dMH_sign_229 (by decide) ?_
                exact ih21 (i21 + 1) q21.2 pl ls H locs (by omega) (by omega) hF hf149 hf150 hf151 hf152 hf153 hf154 hf155 hf156 hE hR (lv_sub hl [0, 2, 3] rfl) hO hP hD hS
            | succ n23 ih23 =>
              intro i23 s34 pl ls H locs hm23 hF hf165 hf166 hf167 hf168 hf169 hf170 hf171 hf172 hE hR hl hO hP hD hS
              refine lv_iload hx hb dMH_sign_162 (lv_at hl 0 rfl) ?_
              refine lv_aload_n hx hb dMH_sign_164 rfl (lv_at hl 2 rfl) ?_
              refine nw_get (C := "LatticeKeysModel$Hands") (TT := T_MH) (N := 31) hx hb hts (wg_ft i_MH) hown hK hO k_h0 (kn := 225) (ci := 12) (fl := [(3, 172), (3, 181), (3, 226), (3, 291), (3, 299), (3, 308), (3, 317), (3, 326), (3, 334), (3, 342), (3, 350), (3, 359), (3, 368), (3, 369), (3, 370), (3, 371), (3, 372), (3, 373), (3, 374), (3, 375), (3, 376), (3, 377), (3, 378), (0, 0), (0, 0), (0, 0), (0, 0), (0, 0), (0, 0), (0, 0), (0, 0)]) rfl hP rfl 24 (by decide) (hts _ (wg_t kw_1456)) (fun _ h9 => h9) (cd := (0, 0)) rfl dMH_sign_165 (fun v34 hv34 => ?_)
              obtain rfl := (show v34 = .int (s34.1 225 24) from hv34)
              obtain ⟨z24, ez24, hz27, hz28⟩ := cl_of (b := 2147483648) hf166 (by omega) (by decide)
              replace hR := bnd_step hR ez24
              replace hE := bndP_step hE ez24
              refine mi_as hz27 ?_
              subst hz28
              refine mi_ge (tgt := 190) hx hb dMH_sign_168 (by decide) (by omega) (by omega) (fun h26 => absurd h26 (by omega)) (fun h26 => ?_)
              refine lv_aload_n hx hb dMH_sign_171 rfl (lv_at hl 2 rfl) ?_
              refine lv_iload hx hb dMH_sign_172 (lv_at hl 0 rfl) ?_
              refine lv_aload_n hx hb dMH_sign_174 rfl (lv_at hl 2 rfl) ?_
              refine nw_get (C := "LatticeKeysModel$Hands") (TT := T_MH) (N := 31) hx hb hts (wg_ft i_MH) hown hK hO k_h0 (kn := 225) (ci := 12) (fl := [(3, 172), (3, 181), (3, 226), (3, 291), (3, 299), (3, 308), (3, 317), (3, 326), (3, 334), (3, 342), (3, 350), (3, 359), (3, 368), (3, 369), (3, 370), (3, 371), (3, 372), (3, 373), (3, 374), (3, 375), (3, 376), (3, 377), (3, 378), (0, 0), (0, 0), (0, 0), (0, 0), (0, 0), (0, 0), (0, 0), (0, 0)]) rfl hP rfl 10 (by decide) (hts _ (wg_t kw_1442)) (fun _ h9 => h9) (cd := (3, 350)) rfl dMH_sign_175 (fun v35 hv35 => ?_)
              obtain ⟨r32, rfl, kr31⟩ := (show ∃ r : Nat, v35 = .ref r ∧ T r = some 350 from hv35)
              refine lv_iload hx hb dMH_sign_178 (lv_at hl 0 rfl) ?_
              refine nw_aald3 hx hb hK hO kr31 (k := 350) (b := 351) rfl hP (by omega) (by omega) dMH_sign_180 (fun r33 kr32 => ?_)
              have hn21 : nsp (351 + i23) = (0, 256, []) := rows_ok 351 8 (by decide) _ (by omega)
              refine mp_v (cx := []) (wr := []) hP hD hS hA [] [] rfl rfl rfl (by decide) (va_runV (As := [.int (nI i23), .ref r33]) (rest := []) F (N_MH_rowBy_0 l g _ T s34 pl hO hU h0 r33 i23 (351 + i23) k_h0 kr32 hn21 hf165 hf166 hf167 hf168 hf169 hf170 hf171 hf172 (by omega)) (cwV 2 hts (wg_app (wg_c kw_1730 (wg_c kw_1732 (wg_c ks_63 (wg_c kw_13 wg_n)))) kw_1733) rfl rfl rfl (by decide +kernel) ⟨by decide, by decide⟩) (pn_V (en_ok g) (ci := 12) (kn := 225) (fl := [(3, 172), (3, 181), (3, 226), (3, 291), (3, 299), (3, 308), (3, 317), (3, 326), (3, 334), (3, 342), (3, 350), (3, 359), (3, 368), (3, 369), (3, 370), (3, 371), (3, 372), (3, 373), (3, 374), (3, 375), (3, 376), (3, 377), (3, 378), (0, 0), (0, 0), (0, 0), (0, 0), (0, 0), (0, 0), (0, 0), (0, 0)]) hK hO k_h0 rfl hP hD hS hA hEn [] rfl rfl rfl) rfl rfl hl.1 rfl (lv_room (Nat.le_of_ble_eq_true rfl)) dMH_sign_181 ⟨by omega, by omega⟩) (fun  u36 H locs hu36 hP hD hS => ?_)
              obtain ⟨s38, pl⟩ := u36
              obtain ⟨⟨eq36, hFc36, -⟩, hO⟩ := hu36
              have hO : okn g T s38 pl := hO
              have hP : va_P g.1 vcl ([] ++ pl) _ := hP
              have hD : va_D _ ([] ++ pl) := hD
              have hFc36 : frm (M_MH_rowBy_0 (351 + i23)) s34 s38 := hFc36
              replace hR := bnd_step hR eq36
              replace hE := bndP_step hE eq36
              have hF := frm_tr hF hFc36 (fun k hk => by unfold M_MH_rowBy_0 at hk; unfold M_MH_sign_0; omega)
              have hf173 : s38.1 225 23 = nI 0 := fc_F hf165 hFc36 (by unfold M_MH_rowBy_0; omega)
              have hf174 : s38.1 225 24 = nI 4 := fc_F hf166 hFc36 (by unfold M_MH_rowBy_0; omega)
              have hf175 : s38.1 225 25 = nI 4 := fc_F hf167 hFc36 (by unfold M_MH_rowBy_0; omega)
              have hf176 : s38.1 225 26 = nI 2 := fc_F hf168 hFc36 (by unfold M_MH_rowBy_0; omega)
              have hf177 : s38.1 225 27 = nI 131072 := fc_F hf169 hFc36 (by unfold M_MH_rowBy_0; omega)
              have hf178 : s38.1 225 28 = nI 95232 := fc_F hf170 hFc36 (by unfold M_MH_rowBy_0; omega)
              have hf179 : s38.1 225 29 = nI 78 := fc_F hf171 hFc36 (by unfold M_MH_rowBy_0; omega)
              have hf180 : s38.1 225 30 = nI 32 := fc_F hf172 hFc36 (by unfold M_MH_rowBy_0; omega)
              refine W.widen (k := 0) (n := 0) (by omega) (by omega) ?_
              refine mi_iinc (k := 0) (x := i23) (d := 1) (y := i23 + 1) (lv' := [(8, .int (nI (i23 + 1))), (7, .int (nI i21)), (0, .ref h0), (6, .ref to)]) hx hb dMH_sign_184 hl rfl (by decide) rfl (by decide) rfl (fun ls hl => ?_)
              refine lv_goto (tgt := 162) hx hb dMH_sign_187 (by decide) ?_
              exact ih23 (i23 + 1) s38 pl ls H locs (by omega) hF hf173 hf174 hf175 hf176 hf177 hf178 hf179 hf180 hE hR (lv_sub hl [0, 1, 2, 3] rfl) hO hP hD hS
          exact lp23 4 0 s33 pl ls _ _ (by omega) hF hf117 hf118 hf119 hf120 hf121 hf122 hf123 hf124 hE hR (lv_sub hl [0, 1, 2, 3] rfl) hO hP hD hS
        | succ n22 ih22 =>
          intro i22 s33 pl ls H locs hm22 hF hf181 hf182 hf183 hf184 hf185 hf186 hf187 hf188 hE hR hl hO hP hD hS
          refine lv_iload hx hb dMH_sign_121 (lv_at hl 0 rfl) ?_
          refine lv_aload_n hx hb dMH_sign_123 rfl (lv_at hl 2 rfl) ?_
          refine nw_get (C := "LatticeKeysModel$Hands") (TT := T_MH) (N := 31) hx hb hts (wg_ft i_MH) hown hK hO k_h0 (kn := 225) (ci := 12) (fl := [(3, 172), (3, 181), (3, 226), (3, 291), (3, 299), (3, 308), (3, 317), (3, 326), (3, 334), (3, 342), (3, 350), (3, 359), (3, 368), (3, 369), (3, 370), (3, 371), (3, 372), (3, 373), (3, 374), (3, 375), (3, 376), (3, 377), (3, 378), (0, 0), (0, 0), (0, 0), (0, 0), (0, 0), (0, 0), (0, 0), (0, 0)]) rfl hP rfl 25 (by decide) (hts _ (wg_t kw_1457)) (fun _ h9 => h9) (cd := (0, 0)) rfl dMH_sign_124 (fun v36 hv36 => ?_)
          obtain rfl := (show v36 = .int (s33.1 225 25) from hv36)
          obtain ⟨z25, ez25, hz29, hz30⟩ := cl_of (b := 2147483648) hf183 (by omega) (by decide)
          replace hR := bnd_step hR ez25
          replace hE := bndP_step hE ez25
          refine mi_as hz29 ?_
          subst hz30
          refine mi_ge (tgt := 159) hx hb dMH_sign_127 (by decide) (by omega) (by omega) (fun h27 => absurd h27 (by omega)) (fun h27 => ?_)
          refine lv_aload_n hx hb dMH_sign_130 rfl (lv_at hl 2 rfl) ?_
          refine nw_get (C := "LatticeKeysModel$Hands") (TT := T_MH) (N := 31) hx hb hts (wg_ft i_MH) hown hK hO k_h0 (kn := 225) (ci := 12) (fl := [(3, 172), (3, 181), (3, 226), (3, 291), (3, 299), (3, 308), (3, 317), (3, 326), (3, 334), (3, 342), (3, 350), (3, 359), (3, 368), (3, 369), (3, 370), (3, 371), (3, 372), (3, 373), (3, 374), (3, 375), (3, 376), (3, 377), (3, 378), (0, 0), (0, 0), (0, 0), (0, 0), (0, 0), (0, 0), (0, 0), (0, 0)]) rfl hP rfl 1 (by decide) (hts _ (wg_t kw_1433)) (fun _ h9 => h9) (cd := (3, 181)) rfl dMH_sign_131 (fun v37 hv37 => ?_)
          obtain ⟨r34, rfl, kr33⟩ := (show ∃ r : Nat, v37 = .ref r ∧ T r = some 181 from hv37)
          refine lv_aload_n hx hb dMH_sign_134 rfl (lv_at hl 2 rfl) ?_
          refine nw_get (C := "LatticeKeysModel$Hands") (TT := T_MH) (N := 31) hx hb hts (wg_ft i_MH) hown hK hO k_h0 (kn := 225) (ci := 12) (fl := [(3, 172), (3, 181), (3, 226), (3, 291), (3, 299), (3, 308), (3, 317), (3, 326), (3, 334), (3, 342), (3, 350), (3, 359), (3, 368), (3, 369), (3, 370), (3, 371), (3, 372), (3, 373), (3, 374), (3, 375), (3, 376), (3, 377), (3, 378), (0, 0), (0, 0), (0, 0), (0, 0), (0, 0), (0, 0), (0, 0), (0, 0)]) rfl hP rfl 7 (by decide) (hts _ (wg_t kw_1439)) (fun _ h9 => h9) (cd := (3, 326)) rfl dMH_sign_135 (fun v38 hv38 => ?_)
          obtain ⟨r35, rfl, kr34⟩ := (show ∃ r : Nat, v38 = .ref r ∧ T r = some 326 from hv38)
          refine lv_iload hx hb dMH_sign_138 (lv_at hl 0 rfl) ?_
          refine nw_aald3 hx hb hK hO kr34 (k := 326) (b := 327) rfl hP (by omega) (by omega) dMH_sign_140 (fun r36 kr35 => ?_)
          have hn22 : nsp (327 + i22) = (0, 256, []) := rows_ok 327 7 (by decide) _ (by omega)
          refine lv_aload_n hx hb dMH_sign_141 rfl (lv_at hl 2 rfl) ?_
          refine nw_get (C := "LatticeKeysModel$Hands") (TT := T_MH) (N := 31) hx hb hts (wg_ft i_MH) hown hK hO k_h0 (kn := 225) (ci := 12) (fl := [(3, 172), (3, 181), (3, 226), (3, 291), (3, 299), (3, 308), (3, 317), (3, 326), (3, 334), (3, 342), (3, 350), (3, 359), (3, 368), (3, 369), (3, 370), (3, 371), (3, 372), (3, 373), (3, 374), (3, 375), (3, 376), (3, 377), (3, 378), (0, 0), (0, 0), (0, 0), (0, 0), (0, 0), (0, 0), (0, 0), (0, 0)]) rfl hP rfl 9 (by decide) (hts _ (wg_t kw_1441)) (fun _ h9 => h9) (cd := (3, 342)) rfl dMH_sign_142 (fun v39 hv39 => ?_)
          obtain ⟨r37, rfl, kr36⟩ := (show ∃ r : Nat, v39 = .ref r ∧ T r = some 342 from hv39)
          refine lv_iload hx hb dMH_sign_145 (lv_at hl 0 rfl) ?_
          refine nw_aald3 hx hb hK hO kr36 (k := 342) (b := 343) rfl hP (by omega) (by omega) dMH_sign_147 (fun r38 kr37 => ?_)
          have hn23 : nsp (343 + i22) = (0, 256, []) := rows_ok 343 7 (by decide) _ (by omega)
          refine lv_iconst (v := nI 1) hx hb dMH_sign_148 (by decide) ?_
          refine lv_iconst (v := nI 0) hx hb dMH_sign_149 (by decide) ?_
          refine mp_v (cx := []) (wr := []) hP hD hS hA [] [] rfl rfl rfl (by decide) (va_runV (As := [.ref r36, .ref r38, .int (nI 1), .int (nI 0)]) (rest := []) F (N_MR_forth_8_0 l g _ T s33 pl hO hU r34 r36 r38 (327 + i22) (343 + i22) kr33 kr35 hn22 kr37 hn23) (cwV 4 hts (wg_app (wg_c kw_1729 (wg_c kw_1669 (wg_c kw_1670 (wg_c kw_12 wg_n)))) kw_1671) rfl rfl rfl (by decide +kernel) ⟨by decide, by decide⟩) (pn_V (en_ok g) (ci := 10) (kn := 181) (fl := [(1, 8380417), (1, 256), (3, 182), (3, 183), (4, 8347681)]) hK hO kr33 rfl hP hD hS hA hEn [] rfl rfl rfl) rfl rfl hl.1 rfl (lv_room (Nat.le_of_ble_eq_true rfl)) dMH_sign_150 ⟨by omega, by omega⟩) (fun  u37 H locs hu37 hP hD hS => ?_)
          obtain ⟨s39, pl⟩ := u37
          obtain ⟨⟨eq37, hFc37, -⟩, hO⟩ := hu37
          have hO : okn g T s39 pl := hO
          have hP : va_P g.1 vcl ([] ++ pl) _ := hP
          have hD : va_D _ ([] ++ pl) := hD
          have hFc37 : frm (M_MR_forth_8_0 (343 + i22)) s33 s39 := hFc37
          replace hR := bnd_step hR eq37
          replace hE := bndP_step hE eq37
          have hF := frm_tr hF hFc37 (fun k hk => by unfold M_MR_forth_8_0 at hk; unfold M_MH_sign_0; omega)
          have hf189 : s39.1 225 23 = nI 0 := fc_F hf181 hFc37 (by unfold M_MR_forth_8_0; omega)
          have hf190 : s39.1 225 24 = nI 4 := fc_F hf182 hFc37 (by unfold M_MR_forth_8_0; omega)
          have hf191 : s39.1 225 25 = nI 4 := fc_F hf183 hFc37 (by unfold M_MR_forth_8_0; omega)
          have hf192 : s39.1 225 26 = nI 2 := fc_F hf184 hFc37 (by unfold M_MR_forth_8_0; omega)
          have hf193 : s39.1 225 27 = nI 131072 := fc_F hf185 hFc37 (by unfold M_MR_forth_8_0; omega)
          have hf194 : s39.1 225 28 = nI 95232 := fc_F hf186 hFc37 (by unfold M_MR_forth_8_0; omega)
          have hf195 : s39.1 225 29 = nI 78 := fc_F hf187 hFc37 (by unfold M_MR_forth_8_0; omega)
          have hf196 : s39.1 225 30 = nI 32 := fc_F hf188 hFc37 (by unfold M_MR_forth_8_0; omega)
          refine W.widen (k := 0) (n := 0) (by omega) (by omega) ?_
          refine mi_iinc (k := 0) (x := i22) (d := 1) (y := i22 + 1) (lv' := [(8, .int (nI (i22 + 1))), (7, .int (nI i21)), (0, .ref h0), (6, .ref to)]) hx hb dMH_sign_153 hl rfl (by decide) rfl (by decide) rfl (fun ls hl => ?_)
          refine lv_goto (tgt := 121) hx hb dMH_sign_156 (by decide) ?_
          exact ih22 (i22 + 1) s39 pl ls H locs (by omega) hF hf189 hf190 hf191 hf192 hf193 hf194 hf195 hf196 hE hR (lv_sub hl [0, 1, 2, 3] rfl) hO hP hD hS
      exact lp22 4 0 s32 pl ls _ _ (by omega) hF hf109 hf110 hf111 hf112 hf113 hf114 hf115 hf116 hE hR (lv_sub hl [0, 1, 2, 3] rfl) hO hP hD hS
  exact lp21 (201 - 1) 1 s30 pl ls _ _ (by omega) (by omega) hF hf85 hf86 hf87 hf88 hf89 hf90 hf91 hf92 hE hR (lv_sub hl [0, 1, 7] rfl) hO hP hD hS
def M_MH_sign_1 (pt : Nat) (k : Nat) : Prop := (227 ≤ k ∧ k < 291) ∨ (292 ≤ k ∧ k < 299) ∨ (300 ≤ k ∧ k < 308) ∨ (309 ≤ k ∧ k < 317) ∨ (327 ≤ k ∧ k < 334) ∨ (335 ≤ k ∧ k < 342) ∨ (343 ≤ k ∧ k < 350) ∨ (351 ≤ k ∧ k < 359) ∨ (360 ≤ k ∧ k < 368) ∨ k = 172 ∨ k = 225 ∨ k = 368 ∨ k = 369 ∨ k = 370 ∨ k = 373 ∨ k = 374 ∨ k = 375 ∨ k = 376 ∨ k = pt ∨ (0 : Nat) = 1
noncomputable def F_MH_sign_1_L2 (pt : Nat) (i21 : Nat) (kk : Nat → Sto → Int32 × Sto) : Nat → Nat → Sto → Int32 × Sto
  | 0, i23, s34 => bnd ((s34.1 225 24).toNatClampNeg) fun z23 => bnd (F_MH_marked_1 (nI 0) 376 s34) fun s35 => bnd (F_MH_ball_1 376 s35) fun s36 => bnd (F_MH_fits_1  s36) fun q21 => if (q21.1) = 0 then kk (i21 + 1) q21.2 else bnd (F_MH_written_1 pt q21.2) fun s37 => (nI i21, s37)
  | n23 + 1, i23, s34 => bnd ((s34.1 225 24).toNatClampNeg) fun z24 => bnd (F_MH_rowBy_1 i23 (351 + i23) s34) fun s38 => F_MH_sign_1_L2 pt i21 kk n23 (i23 + 1) s38
noncomputable def E_MH_sign_1_L2 (pt : Nat) (i21 : Nat) (ke : Nat → Sto → Prop) : Nat → Nat → Sto → Prop
  | 0, i23, s34 => bnd ((s34.1 225 24).toNatClampNeg) fun z23 => bnd (F_MH_marked_1 (nI 0) 376 s34) fun s35 => (E_MH_ball_1 376 s35) ∧ (bnd (F_MH_ball_1 376 s35) fun s36 => bnd (F_MH_fits_1  s36) fun q21 => if (q21.1) = 0 then ke (i21 + 1) q21.2 else bnd (F_MH_written_1 pt q21.2) fun s37 => True)
  | n23 + 1, i23, s34 => bnd ((s34.1 225 24).toNatClampNeg) fun z24 => bnd (F_MH_rowBy_1 i23 (351 + i23) s34) fun s38 => E_MH_sign_1_L2 pt i21 ke n23 (i23 + 1) s38
noncomputable def F_MH_sign_1_L1 (pt : Nat) (i21 : Nat) (kk : Nat → Sto → Int32 × Sto) : Nat → Nat → Sto → Int32 × Sto
  | 0, i22, s33 => bnd ((s33.1 225 25).toNatClampNeg) fun z22 => F_MH_sign_1_L2 pt i21 (kk) 6 0 s33
  | n22 + 1, i22, s33 => bnd ((s33.1 225 25).toNatClampNeg) fun z25 => bnd (F_MR_forth_8_0 (327 + i22) (343 + i22) s33) fun s39 => F_MH_sign_1_L1 pt i21 kk n22 (i22 + 1) s39
noncomputable def E_MH_sign_1_L1 (pt : Nat) (i21 : Nat) (ke : Nat → Sto → Prop) : Nat → Nat → Sto → Prop
  | 0, i22, s33 => bnd ((s33.1 225 25).toNatClampNeg) fun z22 => E_MH_sign_1_L2 pt i21 (ke) 6 0 s33
  | n22 + 1, i22, s33 => bnd ((s33.1 225 25).toNatClampNeg) fun z25 => bnd (F_MR_forth_8_0 (327 + i22) (343 + i22) s33) fun s39 => E_MH_sign_1_L1 pt i21 ke n22 (i22 + 1) s39
noncomputable def F_MH_sign_1_L0 (pt : Nat) : Nat → Nat → Sto → Int32 × Sto
  | 0, i21, s31 => (nI 0, s31)
  | n21 + 1, i21, s31 => bnd ((s31.1 225 25).toNatClampNeg) fun z21 => bnd (F_MH_mask_1 (nI ((i21 - 1) * 5)) s31) fun s32 => F_MH_sign_1_L1 pt i21 (F_MH_sign_1_L0 pt n21) 5 0 s32
noncomputable def E_MH_sign_1_L0 (pt : Nat) : Nat → Nat → Sto → Prop
  | 0, i21, s31 => True
  | n21 + 1, i21, s31 => bnd ((s31.1 225 25).toNatClampNeg) fun z21 => bnd (F_MH_mask_1 (nI ((i21 - 1) * 5)) s31) fun s32 => E_MH_sign_1_L1 pt i21 (E_MH_sign_1_L0 pt n21) 5 0 s32
noncomputable def F_MH_sign_1 (psk : Nat) (pb : Nat) (n : Nat) (cl_ : Int32) (ed : Nat) (pt : Nat) (s : Sto) : Int32 × Sto := bnd (F_MH_as_1  s) fun s21 => bnd (F_MH_readHidden_1 psk s21) fun s22 => bnd (F_MH_expand_1 psk 4896 s22) fun s23 => bnd (F_MH_message_1 psk 4896 64 pb n 32 cl_ ed s23) fun s24 => bnd (F_MS_shake  s24) fun s25 => bnd (F_MS_puts psk 4896 32 32 s25) fun s26 => bnd (F_MS_puts pb n 0 32 s26) fun s27 => bnd (F_MS_puts 373 64 0 64 s27) fun s28 => bnd (F_MS_end  s28) fun s29 => bnd (F_MS_take 374 64 0 64 s29) fun s30 => F_MH_sign_1_L0 pt (201 - 1) 1 s30
noncomputable def E_MH_sign_1 (psk : Nat) (pb : Nat) (n : Nat) (cl_ : Int32) (ed : Nat) (pt : Nat) (s : Sto) : Prop := bnd (F_MH_as_1  s) fun s21 => bnd (F_MH_readHidden_1 psk s21) fun s22 => (E_MH_expand_1 psk 4896 s22) ∧ (bnd (F_MH_expand_1 psk 4896 s22) fun s23 => bnd (F_MH_message_1 psk 4896 64 pb n 32 cl_ ed s23) fun s24 => bnd (F_MS_shake  s24) fun s25 => bnd (F_MS_puts psk 4896 32 32 s25) fun s26 => bnd (F_MS_puts pb n 0 32 s26) fun s27 => bnd (F_MS_puts 373 64 0 64 s27) fun s28 => bnd (F_MS_end  s28) fun s29 => bnd (F_MS_take 374 64 0 64 s29) fun s30 => E_MH_sign_1_L0 pt (201 - 1) 1 s30)
set_option maxHeartbeats 8000000 in
set_option maxRecDepth 100000 in
theorem N_MH_sign_1 (l : Launch) (g : Gd) (sz : Nat) (T : TyN) (s : Sto) (pl : va_W) (hO : okn g T s pl) (hU : inj T) (h0 sk b to : Nat) (psk : Nat) (pb : Nat) (n : Nat) (cl_ : Int32) (ed : Nat) (pt : Nat) (k_h0 : T h0 = some 225) (k_sk : T sk = some psk) (n_sk : nsp psk = (1, 4896, [])) (k_b : T b = some pb) (n_b : nsp pb = (1, n, [])) (k_to : T to = some pt) (n_to : nsp pt = (1, 8192, [])) (h1 : 32 ≤ ed) (h3 : ed ≤ n) (h2 : n < 65536) (hE : E_MH_sign_1 psk pb n cl_ ed pt s)  : Met l y_MH_sign w_MH_sign ({ frames := 5, cells := 0, slots := 0, locals := 116 } : Room) (va_Pc [.ref h0, .int (nI 1), .ref sk, .ref b, .int cl_, .int (nI ed), .ref to] (pr (en g) g.1 vcl sz ([] ++ pl))) (va_Qi (fun (r : Int32) (u : (Int32 × Sto) × va_W) => (u.1 = F_MH_sign_1 psk pb n cl_ ed pt s ∧ r = u.1.1 ∧ frm (M_MH_sign_1 pt) s u.1.2 ∧ True) ∧ okn g T u.1.2 u.2) (po g.1 vcl (va_A ([] ++ pl) sz) (fun (u : (Int32 × Sto) × va_W) => [] ++ u.2)) (va_A ([] ++ pl) sz)) 0 0 (va_A ([] ++ pl) sz) := by
  refine mc_entry (cc := c_MH_sign) (maxL := 9) (ret := (some .int)) (by decide) rfl (Nat.le_of_ble_eq_true rfl) ?_
  intro p e s0 m args below meth c ls F hr hlk hnm hsz hP hD hEn hA hl
  obtain ⟨hx, hb, hml, hown, hts⟩ := id F
  have hK := hEn.1
  generalize va_A ([] ++ pl) sz = A at hD hEn hA ⊢
  have hS : va_S A s0.heap s0.heap [] := va_S.rf
  have hl : lv_has ls 9 [(0, .ref h0), (1, .int (nI 1)), (2, .ref sk), (3, .ref b), (4, .int cl_), (5, .int (nI ed)), (6, .ref to)] := hl
  have hR : F_MH_sign_1 psk pb n cl_ ed pt s = F_MH_sign_1 psk pb n cl_ ed pt s := rfl
  have hF : frm (M_MH_sign_1 pt) s s := frm_rf
  have ne_172_psk : 172 ≠ psk := nsp_ne (p := 172) rfl n_sk (show (5 : Nat) ≠ 1 by decide)
  have ne_172_pb : 172 ≠ pb := nsp_ne (p := 172) rfl n_b (show (5 : Nat) ≠ 1 by decide)
  have ne_172_pt : 172 ≠ pt := nsp_ne (p := 172) rfl n_to (show (5 : Nat) ≠ 1 by decide)
  have ne_225_psk : 225 ≠ psk := nsp_ne (p := 225) rfl n_sk (show (5 : Nat) ≠ 1 by decide)
  have ne_225_pb : 225 ≠ pb := nsp_ne (p := 225) rfl n_b (show (5 : Nat) ≠ 1 by decide)
  have ne_225_pt : 225 ≠ pt := nsp_ne (p := 225) rfl n_to (show (5 : Nat) ≠ 1 by decide)
  refine lv_aload_n hx hb dMH_sign_0 rfl (lv_at hl 0 rfl) ?_
  refine lv_iload_n hx hb dMH_sign_1 rfl (lv_at hl 1 rfl) ?_
  refine mp_v (cx := []) (wr := []) hP hD hS hA [] [] rfl rfl rfl (by decide) (va_runV (As := [.int (nI 1)]) (rest := []) F (N_MH_as_1 l g _ T s pl hO hU h0 k_h0) (cwV 1 hts (wg_app (wg_c kw_1698 (wg_c kw_1700 (wg_c ks_60 (wg_c kw_13 wg_n)))) kw_1701) rfl rfl rfl (by decide +kernel) ⟨by decide, by decide⟩) (pn_V (en_ok g) (ci := 12) (kn := 225) (fl := [(3, 172), (3, 181), (3, 226), (3, 291), (3, 299), (3, 308), (3, 317), (3, 326), (3, 334), (3, 342), (3, 350), (3, 359), (3, 368), (3, 369), (3, 370), (3, 371), (3, 372), (3, 373), (3, 374), (3, 375), (3, 376), (3, 377), (3, 378), (0, 0), (0, 0), (0, 0), (0, 0), (0, 0), (0, 0), (0, 0), (0, 0)]) hK hO k_h0 rfl hP hD hS hA hEn [] rfl rfl rfl) rfl rfl hl.1 rfl (lv_room (Nat.le_of_ble_eq_true rfl)) dMH_sign_2 ⟨by omega, by omega⟩) (fun  u21 H locs hu21 hP hD hS => ?_)
  obtain ⟨s21, pl⟩ := u21
  obtain ⟨⟨eq21, hFc21, ⟨x21, hx_21, hb_21⟩, ⟨x22, hx_22, hb_22⟩, ⟨x23, hx_23, hb_23⟩, ⟨x24, hx_24, hb_24⟩, ⟨x25, hx_25, hb_25⟩, ⟨x26, hx_26, hb_26⟩, ⟨x27, hx_27, hb_27⟩, ⟨x28, hx_28, hb_28⟩, -⟩, hO⟩ := hu21
  have hO : okn g T s21 pl := hO
  have hP : va_P g.1 vcl ([] ++ pl) _ := hP
  have hD : va_D _ ([] ++ pl) := hD
  have hFc21 : frm (M_MH_as_1) s s21 := hFc21
  have hb_21 : x21 = 1 := hb_21
  have hb_22 : x22 = 6 := hb_22
  have hb_23 : x23 = 5 := hb_23
  have hb_24 : x24 = 4 := hb_24
  have hb_25 : x25 = 524288 := hb_25
  have hb_26 : x26 = 261888 := hb_26
  have hb_27 : x27 = 196 := hb_27
  have hb_28 : x28 = 48 := hb_28
  replace hR := bnd_step hR eq21
  replace hE := bndP_step hE eq21
  have hF := frm_tr hF hFc21 (fun k hk => by unfold M_MH_as_1 at hk; unfold M_MH_sign_1; omega)
  subst hb_21
  subst hb_22
  subst hb_23
  subst hb_24
  subst hb_25
  subst hb_26
  subst hb_27
  subst hb_28
  refine W.widen (k := 0) (n := 0) (by omega) (by omega) ?_
  refine lv_aload_n hx hb dMH_sign_5 rfl (lv_at hl 0 rfl) ?_
  refine lv_aload_n hx hb dMH_sign_6 rfl (lv_at hl 2 rfl) ?_
  refine mp_v (cx := []) (wr := []) hP hD hS hA [] [] rfl rfl rfl (by decide) (va_runV (As := [.ref sk]) (rest := []) F (N_MH_readHidden_1 l g _ T s21 pl hO hU h0 sk psk k_h0 k_sk n_sk hx_21 hx_22 hx_23 hx_24 hx_25 hx_26 hx_27 hx_28) (cwV 1 hts (wg_app (wg_c kw_1856 (wg_c kw_1858 (wg_c ks_70 (wg_c kw_13 wg_n)))) kw_1859) rfl rfl rfl (by decide +kernel) ⟨by decide, by decide⟩) (pn_V (en_ok g) (ci := 12) (kn := 225) (fl := [(3, 172), (3, 181), (3, 226), (3, 291), (3, 299), (3, 308), (3, 317), (3, 326), (3, 334), (3, 342), (3, 350), (3, 359), (3, 368), (3, 369), (3, 370), (3, 371), (3, 372), (3, 373), (3, 374), (3, 375), (3, 376), (3, 377), (3, 378), (0, 0), (0, 0), (0, 0), (0, 0), (0, 0), (0, 0), (0, 0), (0, 0)]) hK hO k_h0 rfl hP hD hS hA hEn [] rfl rfl rfl) rfl rfl hl.1 rfl (lv_room (Nat.le_of_ble_eq_true rfl)) dMH_sign_7 ⟨by omega, by omega⟩) (fun  u22 H locs hu22 hP hD hS => ?_)
  obtain ⟨s22, pl⟩ := u22
  obtain ⟨⟨eq22, hFc22, -⟩, hO⟩ := hu22
  have hO : okn g T s22 pl := hO
  have hP : va_P g.1 vcl ([] ++ pl) _ := hP
  have hD : va_D _ ([] ++ pl) := hD
  have hFc22 : frm (M_MH_readHidden_1) s21 s22 := hFc22
  replace hR := bnd_step hR eq22
  replace hE := bndP_step hE eq22
  have hF := frm_tr hF hFc22 (fun k hk => by unfold M_MH_readHidden_1 at hk; unfold M_MH_sign_1; omega)
  have hf21 : s22.1 225 23 = nI 1 := fc_F hx_21 hFc22 (by unfold M_MH_readHidden_1; omega)
  have hf22 : s22.1 225 24 = nI 6 := fc_F hx_22 hFc22 (by unfold M_MH_readHidden_1; omega)
  have hf23 : s22.1 225 25 = nI 5 := fc_F hx_23 hFc22 (by unfold M_MH_readHidden_1; omega)
  have hf24 : s22.1 225 26 = nI 4 := fc_F hx_24 hFc22 (by unfold M_MH_readHidden_1; omega)
  have hf25 : s22.1 225 27 = nI 524288 := fc_F hx_25 hFc22 (by unfold M_MH_readHidden_1; omega)
  have hf26 : s22.1 225 28 = nI 261888 := fc_F hx_26 hFc22 (by unfold M_MH_readHidden_1; omega)
  have hf27 : s22.1 225 29 = nI 196 := fc_F hx_27 hFc22 (by unfold M_MH_readHidden_1; omega)
  have hf28 : s22.1 225 30 = nI 48 := fc_F hx_28 hFc22 (by unfold M_MH_readHidden_1; omega)
  refine W.widen (k := 0) (n := 0) (by omega) (by omega) ?_
  refine lv_aload_n hx hb dMH_sign_10 rfl (lv_at hl 0 rfl) ?_
  refine lv_aload_n hx hb dMH_sign_11 rfl (lv_at hl 2 rfl) ?_
  refine mp_v (cx := []) (wr := []) hP hD hS hA [] [] rfl rfl rfl (by decide) (va_runV (As := [.ref sk]) (rest := []) F (N_MH_expand_1 l g _ T s22 pl hO hU h0 sk psk 4896 k_h0 k_sk n_sk hf21 hf22 hf23 hf24 hf25 hf26 hf27 hf28 (by omega) (by omega) hE.1) (cwV 1 hts (wg_app (wg_c kw_1719 (wg_c kw_1721 (wg_c ks_61 (wg_c kw_13 wg_n)))) kw_1722) rfl rfl rfl (by decide +kernel) ⟨by decide, by decide⟩) (pn_V (en_ok g) (ci := 12) (kn := 225) (fl := [(3, 172), (3, 181), (3, 226), (3, 291), (3, 299), (3, 308), (3, 317), (3, 326), (3, 334), (3, 342), (3, 350), (3, 359), (3, 368), (3, 369), (3, 370), (3, 371), (3, 372), (3, 373), (3, 374), (3, 375), (3, 376), (3, 377), (3, 378), (0, 0), (0, 0), (0, 0), (0, 0), (0, 0), (0, 0), (0, 0), (0, 0)]) hK hO k_h0 rfl hP hD hS hA hEn [] rfl rfl rfl) rfl rfl hl.1 rfl (lv_room (Nat.le_of_ble_eq_true rfl)) dMH_sign_12 ⟨by omega, by omega⟩) (fun  u23 H locs hu23 hP hD hS => ?_)
  obtain ⟨s23, pl⟩ := u23
  obtain ⟨⟨eq23, hFc23, -⟩, hO⟩ := hu23
  have hO : okn g T s23 pl := hO
  have hP : va_P g.1 vcl ([] ++ pl) _ := hP
  have hD : va_D _ ([] ++ pl) := hD
  have hFc23 : frm (M_MH_expand_1) s22 s23 := hFc23
  replace hE := hE.2
  replace hR := bnd_step hR eq23
  replace hE := bndP_step hE eq23
  have hF := frm_tr hF hFc23 (fun k hk => by unfold M_MH_expand_1 at hk; unfold M_MH_sign_1; omega)
  have hf29 : s23.1 225 23 = nI 1 := fc_F hf21 hFc23 (by unfold M_MH_expand_1; omega)
  have hf30 : s23.1 225 24 = nI 6 := fc_F hf22 hFc23 (by unfold M_MH_expand_1; omega)
  have hf31 : s23.1 225 25 = nI 5 := fc_F hf23 hFc23 (by unfold M_MH_expand_1; omega)
  have hf32 : s23.1 225 26 = nI 4 := fc_F hf24 hFc23 (by unfold M_MH_expand_1; omega)
  have hf33 : s23.1 225 27 = nI 524288 := fc_F hf25 hFc23 (by unfold M_MH_expand_1; omega)
  have hf34 : s23.1 225 28 = nI 261888 := fc_F hf26 hFc23 (by unfold M_MH_expand_1; omega)
  have hf35 : s23.1 225 29 = nI 196 := fc_F hf27 hFc23 (by unfold M_MH_expand_1; omega)
  have hf36 : s23.1 225 30 = nI 48 := fc_F hf28 hFc23 (by unfold M_MH_expand_1; omega)
  refine W.widen (k := 0) (n := 0) (by omega) (by omega) ?_
  refine lv_aload_n hx hb dMH_sign_15 rfl (lv_at hl 0 rfl) ?_
  refine lv_aload_n hx hb dMH_sign_16 rfl (lv_at hl 2 rfl) ?_
  refine lv_bipush (v := nI 64) hx hb dMH_sign_17 (by decide) ?_
  refine lv_aload_n hx hb dMH_sign_19 rfl (lv_at hl 3 rfl) ?_
  refine lv_bipush (v := nI 32) hx hb dMH_sign_20 (by decide) ?_
  refine lv_iload hx hb dMH_sign_22 (lv_at hl 4 rfl) ?_
  refine lv_iload hx hb dMH_sign_24 (lv_at hl 5 rfl) ?_
  refine mp_v (cx := []) (wr := []) hP hD hS hA [] [] rfl rfl rfl (by decide) (va_runV (As := [.ref sk, .int (nI 64), .ref b, .int (nI 32), .int cl_, .int (nI ed)]) (rest := []) F (N_MH_message_1 l g _ T s23 pl hO hU h0 sk b psk 4896 64 pb n 32 cl_ ed k_h0 k_sk n_sk k_b n_b hf29 hf30 hf31 hf32 hf33 hf34 hf35 hf36 (by omega) (by omega) (by omega) (by omega) (by omega)) (cwV 6 hts (wg_app (wg_c kw_1864 (wg_c kw_1866 (wg_c ks_71 (wg_c kw_13 wg_n)))) kw_1867) rfl rfl rfl (by decide +kernel) ⟨by decide, by decide⟩) (pn_V (en_ok g) (ci := 12) (kn := 225) (fl := [(3, 172), (3, 181), (3, 226), (3, 291), (3, 299), (3, 308), (3, 317), (3, 326), (3, 334), (3, 342), (3, 350), (3, 359), (3, 368), (3, 369), (3, 370), (3, 371), (3, 372), (3, 373), (3, 374), (3, 375), (3, 376), (3, 377), (3, 378), (0, 0), (0, 0), (0, 0), (0, 0), (0, 0), (0, 0), (0, 0), (0, 0)]) hK hO k_h0 rfl hP hD hS hA hEn [] rfl rfl rfl) rfl rfl hl.1 rfl (lv_room (Nat.le_of_ble_eq_true rfl)) dMH_sign_26 ⟨by omega, by omega⟩) (fun  u24 H locs hu24 hP hD hS => ?_)
  obtain ⟨s24, pl⟩ := u24
  obtain ⟨⟨eq24, hFc24, -⟩, hO⟩ := hu24
  have hO : okn g T s24 pl := hO
  have hP : va_P g.1 vcl ([] ++ pl) _ := hP
  have hD : va_D _ ([] ++ pl) := hD
  have hFc24 : frm (M_MH_message_1) s23 s24 := hFc24
  replace hR := bnd_step hR eq24
  replace hE := bndP_step hE eq24
  have hF := frm_tr hF hFc24 (fun k hk => by unfold M_MH_message_1 at hk; unfold M_MH_sign_1; omega)
  have hf37 : s24.1 225 23 = nI 1 := fc_F hf29 hFc24 (by unfold M_MH_message_1; omega)
  have hf38 : s24.1 225 24 = nI 6 := fc_F hf30 hFc24 (by unfold M_MH_message_1; omega)
  have hf39 : s24.1 225 25 = nI 5 := fc_F hf31 hFc24 (by unfold M_MH_message_1; omega)
  have hf40 : s24.1 225 26 = nI 4 := fc_F hf32 hFc24 (by unfold M_MH_message_1; omega)
  have hf41 : s24.1 225 27 = nI 524288 := fc_F hf33 hFc24 (by unfold M_MH_message_1; omega)
  have hf42 : s24.1 225 28 = nI 261888 := fc_F hf34 hFc24 (by unfold M_MH_message_1; omega)
  have hf43 : s24.1 225 29 = nI 196 := fc_F hf35 hFc24 (by unfold M_MH_message_1; omega)
  have hf44 : s24.1 225 30 = nI 48 := fc_F hf36 hFc24 (by unfold M_MH_message_1; omega)
  refine W.widen (k := 0) (n := 0) (by omega) (by omega) ?_
  refine lv_aload_n hx hb dMH_sign_29 rfl (lv_at hl 0 rfl) ?_
  refine nw_get (C := "LatticeKeysModel$Hands") (TT := T_MH) (N := 31) hx hb hts (wg_ft i_MH) hown hK hO k_h0 (kn := 225) (ci := 12) (fl := [(3, 172), (3, 181), (3, 226), (3, 291), (3, 299), (3, 308), (3, 317), (3, 326), (3, 334), (3, 342), (3, 350), (3, 359), (3, 368), (3, 369), (3, 370), (3, 371), (3, 372), (3, 373), (3, 374), (3, 375), (3, 376), (3, 377), (3, 378), (0, 0), (0, 0), (0, 0), (0, 0), (0, 0), (0, 0), (0, 0), (0, 0)]) rfl hP rfl 0 (by decide) (hts _ (wg_t kw_1432)) (fun _ h9 => h9) (cd := (3, 172)) rfl dMH_sign_30 (fun v21 hv21 => ?_)
  obtain ⟨r21, rfl, kr21⟩ := (show ∃ r : Nat, v21 = .ref r ∧ T r = some 172 from hv21)
  refine mp_v (cx := []) (wr := []) hP hD hS hA [] [] rfl rfl rfl (by decide) (va_runV (As := []) (rest := []) F (N_MS_shake l g _ T s24 pl hO hU r21 kr21) (cwV 0 hts (wg_app (wg_c kw_1714 (wg_c kw_1657 (wg_c kw_1658 (wg_c kw_10 wg_n)))) kw_1659) rfl rfl rfl (by decide +kernel) ⟨by decide, by decide⟩) (pn_V (en_ok g) (ci := 9) (kn := 172) (fl := [(3, 173), (3, 174), (3, 175), (3, 176), (3, 177), (0, 0), (0, 0), (0, 0)]) hK hO kr21 rfl hP hD hS hA hEn [] rfl rfl rfl) rfl rfl hl.1 rfl (lv_room (Nat.le_of_ble_eq_true rfl)) dMH_sign_33 ⟨by omega, by omega⟩) (fun  u25 H locs hu25 hP hD hS => ?_)
  obtain ⟨s25, pl⟩ := u25
  obtain ⟨⟨eq25, hFc25, ⟨x33, hx_33, hb_33⟩, ⟨x34, hx_34, hb_34⟩, -⟩, hO⟩ := hu25
  have hO : okn g T s25 pl := hO
  have hP : va_P g.1 vcl ([] ++ pl) _ := hP
  have hD : va_D _ ([] ++ pl) := hD
  have hFc25 : frm (M_MS_shake) s24 s25 := hFc25
  have hb_33 : x33 = 0 := hb_33
  have hb_34 : x34 = 136 := hb_34
  replace hR := bnd_step hR eq25
  replace hE := bndP_step hE eq25
  have hF := frm_tr hF hFc25 (fun k hk => by unfold M_MS_shake at hk; unfold M_MH_sign_1; omega)
  have hf45 : s25.1 225 23 = nI 1 := fc_F hf37 hFc25 (by unfold M_MS_shake; omega)
  have hf46 : s25.1 225 24 = nI 6 := fc_F hf38 hFc25 (by unfold M_MS_shake; omega)
  have hf47 : s25.1 225 25 = nI 5 := fc_F hf39 hFc25 (by unfold M_MS_shake; omega)
  have hf48 : s25.1 225 26 = nI 4 := fc_F hf40 hFc25 (by unfold M_MS_shake; omega)
  have hf49 : s25.1 225 27 = nI 524288 := fc_F hf41 hFc25 (by unfold M_MS_shake; omega)
  have hf50 : s25.1 225 28 = nI 261888 := fc_F hf42 hFc25 (by unfold M_MS_shake; omega)
  have hf51 : s25.1 225 29 = nI 196 := fc_F hf43 hFc25 (by unfold M_MS_shake; omega)
  have hf52 : s25.1 225 30 = nI 48 := fc_F hf44 hFc25 (by unfold M_MS_shake; omega)
  refine W.widen (k := 0) (n := 0) (by omega) (by omega) ?_
  refine lv_aload_n hx hb dMH_sign_36 rfl (lv_at hl 0 rfl) ?_
  refine nw_get (C := "LatticeKeysModel$Hands") (TT := T_MH) (N := 31) hx hb hts (wg_ft i_MH) hown hK hO k_h0 (kn := 225) (ci := 12) (fl := [(3, 172), (3, 181), (3, 226), (3, 291), (3, 299), (3, 308), (3, 317), (3, 326), (3, 334), (3, 342), (3, 350), (3, 359), (3, 368), (3, 369), (3, 370), (3, 371), (3, 372), (3, 373), (3, 374), (3, 375), (3, 376), (3, 377), (3, 378), (0, 0), (0, 0), (0, 0), (0, 0), (0, 0), (0, 0), (0, 0), (0, 0)]) rfl hP rfl 0 (by decide) (hts _ (wg_t kw_1432)) (fun _ h9 => h9) (cd := (3, 172)) rfl dMH_sign_37 (fun v22 hv22 => ?_)
  obtain ⟨r22, rfl, kr22⟩ := (show ∃ r : Nat, v22 = .ref r ∧ T r = some 172 from hv22)
  refine lv_aload_n hx hb dMH_sign_40 rfl (lv_at hl 2 rfl) ?_
  refine lv_bipush (v := nI 32) hx hb dMH_sign_41 (by decide) ?_
  refine lv_bipush (v := nI 32) hx hb dMH_sign_43 (by decide) ?_
  refine mp_v (cx := []) (wr := []) hP hD hS hA [] [] rfl rfl rfl (by decide) (va_runV (As := [.ref sk, .int (nI 32), .int (nI 32)]) (rest := []) F (N_MS_puts l g _ T s25 pl hO hU r22 sk psk 4896 32 32 x33 x34 kr22 k_sk n_sk hx_33 hx_34 (by omega) (by omega) (by omega) (by omega)) (cwV 3 hts (wg_app (wg_c kw_1715 (wg_c kw_1608 (wg_c kw_1609 (wg_c kw_10 wg_n)))) kw_1610) rfl rfl rfl (by decide +kernel) ⟨by decide, by decide⟩) (pn_V (en_ok g) (ci := 9) (kn := 172) (fl := [(3, 173), (3, 174), (3, 175), (3, 176), (3, 177), (0, 0), (0, 0), (0, 0)]) hK hO kr22 rfl hP hD hS hA hEn [] rfl rfl rfl) rfl rfl hl.1 rfl (lv_room (Nat.le_of_ble_eq_true rfl)) dMH_sign_45 ⟨by omega, by omega⟩) (fun  u26 H locs hu26 hP hD hS => ?_)
  obtain ⟨s26, pl⟩ := u26
  obtain ⟨⟨eq26, hFc26, ⟨x36, hx_36, hb_36⟩, ⟨x37, hx_37, hb_37⟩, -⟩, hO⟩ := hu26
  have hO : okn g T s26 pl := hO
  have hP : va_P g.1 vcl ([] ++ pl) _ := hP
  have hD : va_D _ ([] ++ pl) := hD
  have hFc26 : frm (M_MS_puts) s25 s26 := hFc26
  have hb_36 : x36 < x34 := hb_36
  have hb_37 : x37 = x34 := hb_37
  replace hR := bnd_step hR eq26
  replace hE := bndP_step hE eq26
  have hF := frm_tr hF hFc26 (fun k hk => by unfold M_MS_puts at hk; unfold M_MH_sign_1; omega)
  have hf53 : s26.1 225 23 = nI 1 := fc_F hf45 hFc26 (by unfold M_MS_puts; omega)
  have hf54 : s26.1 225 24 = nI 6 := fc_F hf46 hFc26 (by unfold M_MS_puts; omega)
  have hf55 : s26.1 225 25 = nI 5 := fc_F hf47 hFc26 (by unfold M_MS_puts; omega)
  have hf56 : s26.1 225 26 = nI 4 := fc_F hf48 hFc26 (by unfold M_MS_puts; omega)
  have hf57 : s26.1 225 27 = nI 524288 := fc_F hf49 hFc26 (by unfold M_MS_puts; omega)
  have hf58 : s26.1 225 28 = nI 261888 := fc_F hf50 hFc26 (by unfold M_MS_puts; omega)
  have hf59 : s26.1 225 29 = nI 196 := fc_F hf51 hFc26 (by unfold M_MS_puts; omega)
  have hf60 : s26.1 225 30 = nI 48 := fc_F hf52 hFc26 (by unfold M_MS_puts; omega)
  refine W.widen (k := 0) (n := 0) (by omega) (by omega) ?_
  refine lv_aload_n hx hb dMH_sign_48 rfl (lv_at hl 0 rfl) ?_
  refine nw_get (C := "LatticeKeysModel$Hands") (TT := T_MH) (N := 31) hx hb hts (wg_ft i_MH) hown hK hO k_h0 (kn := 225) (ci := 12) (fl := [(3, 172), (3, 181), (3, 226), (3, 291), (3, 299), (3, 308), (3, 317), (3, 326), (3, 334), (3, 342), (3, 350), (3, 359), (3, 368), (3, 369), (3, 370), (3, 371), (3, 372), (3, 373), (3, 374), (3, 375), (3, 376), (3, 377), (3, 378), (0, 0), (0, 0), (0, 0), (0, 0), (0, 0), (0, 0), (0, 0), (0, 0)]) rfl hP rfl 0 (by decide) (hts _ (wg_t kw_1432)) (fun _ h9 => h9) (cd := (3, 172)) rfl dMH_sign_49 (fun v23 hv23 => ?_)
  obtain ⟨r23, rfl, kr23⟩ := (show ∃ r : Nat, v23 = .ref r ∧ T r = some 172 from hv23)
  refine lv_aload_n hx hb dMH_sign_52 rfl (lv_at hl 3 rfl) ?_
  refine lv_iconst (v := nI 0) hx hb dMH_sign_53 (by decide) ?_
  refine lv_bipush (v := nI 32) hx hb dMH_sign_54 (by decide) ?_
  refine mp_v (cx := []) (wr := []) hP hD hS hA [] [] rfl rfl rfl (by decide) (va_runV (As := [.ref b, .int (nI 0), .int (nI 32)]) (rest := []) F (N_MS_puts l g _ T s26 pl hO hU r23 b pb n 0 32 x36 x37 kr23 k_b n_b hx_36 hx_37 (by omega) (by omega) (by omega) (by omega)) (cwV 3 hts (wg_app (wg_c kw_1715 (wg_c kw_1608 (wg_c kw_1609 (wg_c kw_10 wg_n)))) kw_1610) rfl rfl rfl (by decide +kernel) ⟨by decide, by decide⟩) (pn_V (en_ok g) (ci := 9) (kn := 172) (fl := [(3, 173), (3, 174), (3, 175), (3, 176), (3, 177), (0, 0), (0, 0), (0, 0)]) hK hO kr23 rfl hP hD hS hA hEn [] rfl rfl rfl) rfl rfl hl.1 rfl (lv_room (Nat.le_of_ble_eq_true rfl)) dMH_sign_56 ⟨by omega, by omega⟩) (fun  u27 H locs hu27 hP hD hS => ?_)
  obtain ⟨s27, pl⟩ := u27
  obtain ⟨⟨eq27, hFc27, ⟨x39, hx_39, hb_39⟩, ⟨x40, hx_40, hb_40⟩, -⟩, hO⟩ := hu27
  have hO : okn g T s27 pl := hO
  have hP : va_P g.1 vcl ([] ++ pl) _ := hP
  have hD : va_D _ ([] ++ pl) := hD
  have hFc27 : frm (M_MS_puts) s26 s27 := hFc27
  have hb_39 : x39 < x37 := hb_39
  have hb_40 : x40 = x37 := hb_40
  replace hR := bnd_step hR eq27
  replace hE := bndP_step hE eq27
  have hF := frm_tr hF hFc27 (fun k hk => by unfold M_MS_puts at hk; unfold M_MH_sign_1; omega)
  have hf61 : s27.1 225 23 = nI 1 := fc_F hf53 hFc27 (by unfold M_MS_puts; omega)
  have hf62 : s27.1 225 24 = nI 6 := fc_F hf54 hFc27 (by unfold M_MS_puts; omega)
  have hf63 : s27.1 225 25 = nI 5 := fc_F hf55 hFc27 (by unfold M_MS_puts; omega)
  have hf64 : s27.1 225 26 = nI 4 := fc_F hf56 hFc27 (by unfold M_MS_puts; omega)
  have hf65 : s27.1 225 27 = nI 524288 := fc_F hf57 hFc27 (by unfold M_MS_puts; omega)
  have hf66 : s27.1 225 28 = nI 261888 := fc_F hf58 hFc27 (by unfold M_MS_puts; omega)
  have hf67 : s27.1 225 29 = nI 196 := fc_F hf59 hFc27 (by unfold M_MS_puts; omega)
  have hf68 : s27.1 225 30 = nI 48 := fc_F hf60 hFc27 (by unfold M_MS_puts; omega)
  refine W.widen (k := 0) (n := 0) (by omega) (by omega) ?_
  refine lv_aload_n hx hb dMH_sign_59 rfl (lv_at hl 0 rfl) ?_
  refine nw_get (C := "LatticeKeysModel$Hands") (TT := T_MH) (N := 31) hx hb hts (wg_ft i_MH) hown hK hO k_h0 (kn := 225) (ci := 12) (fl := [(3, 172), (3, 181), (3, 226), (3, 291), (3, 299), (3, 308), (3, 317), (3, 326), (3, 334), (3, 342), (3, 350), (3, 359), (3, 368), (3, 369), (3, 370), (3, 371), (3, 372), (3, 373), (3, 374), (3, 375), (3, 376), (3, 377), (3, 378), (0, 0), (0, 0), (0, 0), (0, 0), (0, 0), (0, 0), (0, 0), (0, 0)]) rfl hP rfl 0 (by decide) (hts _ (wg_t kw_1432)) (fun _ h9 => h9) (cd := (3, 172)) rfl dMH_sign_60 (fun v24 hv24 => ?_)
  obtain ⟨r24, rfl, kr24⟩ := (show ∃ r : Nat, v24 = .ref r ∧ T r = some 172 from hv24)
  refine lv_aload_n hx hb dMH_sign_63 rfl (lv_at hl 0 rfl) ?_
  refine nw_get (C := "LatticeKeysModel$Hands") (TT := T_MH) (N := 31) hx hb hts (wg_ft i_MH) hown hK hO k_h0 (kn := 225) (ci := 12) (fl := [(3, 172), (3, 181), (3, 226), (3, 291), (3, 299), (3, 308), (3, 317), (3, 326), (3, 334), (3, 342), (3, 350), (3, 359), (3, 368), (3, 369), (3, 370), (3, 371), (3, 372), (3, 373), (3, 374), (3, 375), (3, 376), (3, 377), (3, 378), (0, 0), (0, 0), (0, 0), (0, 0), (0, 0), (0, 0), (0, 0), (0, 0)]) rfl hP rfl 17 (by decide) (hts _ (wg_t kw_1449)) (fun _ h9 => h9) (cd := (3, 373)) rfl dMH_sign_64 (fun v25 hv25 => ?_)
  obtain ⟨r25, rfl, kr25⟩ := (show ∃ r : Nat, v25 = .ref r ∧ T r = some 373 from hv25)
  refine lv_iconst (v := nI 0) hx hb dMH_sign_67 (by decide) ?_
  refine lv_bipush (v := nI 64) hx hb dMH_sign_68 (by decide) ?_
  refine mp_v (cx := []) (wr := []) hP hD hS hA [] [] rfl rfl rfl (by decide) (va_runV (As := [.ref r25, .int (nI 0), .int (nI 64)]) (rest := []) F (N_MS_puts l g _ T s27 pl hO hU r24 r25 373 64 0 64 x39 x40 kr24 kr25 rfl hx_39 hx_40 (by omega) (by omega) (by omega) (by omega)) (cwV 3 hts (wg_app (wg_c kw_1715 (wg_c kw_1608 (wg_c kw_1609 (wg_c kw_10 wg_n)))) kw_1610) rfl rfl rfl (by decide +kernel) ⟨by decide, by decide⟩) (pn_V (en_ok g) (ci := 9) (kn := 172) (fl := [(3, 173), (3, 174), (3, 175), (3, 176), (3, 177), (0, 0), (0, 0), (0, 0)]) hK hO kr24 rfl hP hD hS hA hEn [] rfl rfl rfl) rfl rfl hl.1 rfl (lv_room (Nat.le_of_ble_eq_true rfl)) dMH_sign_70 ⟨by omega, by omega⟩) (fun  u28 H locs hu28 hP hD hS => ?_)
  obtain ⟨s28, pl⟩ := u28
  obtain ⟨⟨eq28, hFc28, ⟨x42, hx_42, hb_42⟩, ⟨x43, hx_43, hb_43⟩, -⟩, hO⟩ := hu28
  have hO : okn g T s28 pl := hO
  have hP : va_P g.1 vcl ([] ++ pl) _ := hP
  have hD : va_D _ ([] ++ pl) := hD
  have hFc28 : frm (M_MS_puts) s27 s28 := hFc28
  have hb_42 : x42 < x40 := hb_42
  have hb_43 : x43 = x40 := hb_43
  replace hR := bnd_step hR eq28
  replace hE := bndP_step hE eq28
  have hF := frm_tr hF hFc28 (fun k hk => by unfold M_MS_puts at hk; unfold M_MH_sign_1; omega)
  have hf69 : s28.1 225 23 = nI 1 := fc_F hf61 hFc28 (by unfold M_MS_puts; omega)
  have hf70 : s28.1 225 24 = nI 6 := fc_F hf62 hFc28 (by unfold M_MS_puts; omega)
  have hf71 : s28.1 225 25 = nI 5 := fc_F hf63 hFc28 (by unfold M_MS_puts; omega)
  have hf72 : s28.1 225 26 = nI 4 := fc_F hf64 hFc28 (by unfold M_MS_puts; omega)
  have hf73 : s28.1 225 27 = nI 524288 := fc_F hf65 hFc28 (by unfold M_MS_puts; omega)
  have hf74 : s28.1 225 28 = nI 261888 := fc_F hf66 hFc28 (by unfold M_MS_puts; omega)
  have hf75 : s28.1 225 29 = nI 196 := fc_F hf67 hFc28 (by unfold M_MS_puts; omega)
  have hf76 : s28.1 225 30 = nI 48 := fc_F hf68 hFc28 (by unfold M_MS_puts; omega)
  refine W.widen (k := 0) (n := 0) (by omega) (by omega) ?_
  refine lv_aload_n hx hb dMH_sign_73 rfl (lv_at hl 0 rfl) ?_
  refine nw_get (C := "LatticeKeysModel$Hands") (TT := T_MH) (N := 31) hx hb hts (wg_ft i_MH) hown hK hO k_h0 (kn := 225) (ci := 12) (fl := [(3, 172), (3, 181), (3, 226), (3, 291), (3, 299), (3, 308), (3, 317), (3, 326), (3, 334), (3, 342), (3, 350), (3, 359), (3, 368), (3, 369), (3, 370), (3, 371), (3, 372), (3, 373), (3, 374), (3, 375), (3, 376), (3, 377), (3, 378), (0, 0), (0, 0), (0, 0), (0, 0), (0, 0), (0, 0), (0, 0), (0, 0)]) rfl hP rfl 0 (by decide) (hts _ (wg_t kw_1432)) (fun _ h9 => h9) (cd := (3, 172)) rfl dMH_sign_74 (fun v26 hv26 => ?_)
  obtain ⟨r26, rfl, kr26⟩ := (show ∃ r : Nat, v26 = .ref r ∧ T r = some 172 from hv26)
  refine mp_v (cx := []) (wr := []) hP hD hS hA [] [] rfl rfl rfl (by decide) (va_runV (As := []) (rest := []) F (N_MS_end l g _ T s28 pl hO hU r26 x42 x43 kr26 hx_42 hx_43 (by omega) (by omega)) (cwV 0 hts (wg_app (wg_c kw_1717 (wg_c kw_1630 (wg_c kw_1631 (wg_c kw_10 wg_n)))) kw_1632) rfl rfl rfl (by decide +kernel) ⟨by decide, by decide⟩) (pn_V (en_ok g) (ci := 9) (kn := 172) (fl := [(3, 173), (3, 174), (3, 175), (3, 176), (3, 177), (0, 0), (0, 0), (0, 0)]) hK hO kr26 rfl hP hD hS hA hEn [] rfl rfl rfl) rfl rfl hl.1 rfl (lv_room (Nat.le_of_ble_eq_true rfl)) dMH_sign_77 ⟨by omega, by omega⟩) (fun  u29 H locs hu29 hP hD hS => ?_)
  obtain ⟨s29, pl⟩ := u29
  obtain ⟨⟨eq29, hFc29, ⟨x45, hx_45, hb_45⟩, ⟨x46, hx_46, hb_46⟩, -⟩, hO⟩ := hu29
  have hO : okn g T s29 pl := hO
  have hP : va_P g.1 vcl ([] ++ pl) _ := hP
  have hD : va_D _ ([] ++ pl) := hD
  have hFc29 : frm (M_MS_end) s28 s29 := hFc29
  have hb_45 : x45 = 0 := hb_45
  have hb_46 : x46 = x43 := hb_46
  replace hR := bnd_step hR eq29
  replace hE := bndP_step hE eq29
  have hF := frm_tr hF hFc29 (fun k hk => by unfold M_MS_end at hk; unfold M_MH_sign_1; omega)
  have hf77 : s29.1 225 23 = nI 1 := fc_F hf69 hFc29 (by unfold M_MS_end; omega)
  have hf78 : s29.1 225 24 = nI 6 := fc_F hf70 hFc29 (by unfold M_MS_end; omega)
  have hf79 : s29.1 225 25 = nI 5 := fc_F hf71 hFc29 (by unfold M_MS_end; omega)
  have hf80 : s29.1 225 26 = nI 4 := fc_F hf72 hFc29 (by unfold M_MS_end; omega)
  have hf81 : s29.1 225 27 = nI 524288 := fc_F hf73 hFc29 (by unfold M_MS_end; omega)
  have hf82 : s29.1 225 28 = nI 261888 := fc_F hf74 hFc29 (by unfold M_MS_end; omega)
  have hf83 : s29.1 225 29 = nI 196 := fc_F hf75 hFc29 (by unfold M_MS_end; omega)
  have hf84 : s29.1 225 30 = nI 48 := fc_F hf76 hFc29 (by unfold M_MS_end; omega)
  refine W.widen (k := 0) (n := 0) (by omega) (by omega) ?_
  refine lv_aload_n hx hb dMH_sign_80 rfl (lv_at hl 0 rfl) ?_
  refine nw_get (C := "LatticeKeysModel$Hands") (TT := T_MH) (N := 31) hx hb hts (wg_ft i_MH) hown hK hO k_h0 (kn := 225) (ci := 12) (fl := [(3, 172), (3, 181), (3, 226), (3, 291), (3, 299), (3, 308), (3, 317), (3, 326), (3, 334), (3, 342), (3, 350), (3, 359), (3, 368), (3, 369), (3, 370), (3, 371), (3, 372), (3, 373), (3, 374), (3, 375), (3, 376), (3, 377), (3, 378), (0, 0), (0, 0), (0, 0), (0, 0), (0, 0), (0, 0), (0, 0), (0, 0)]) rfl hP rfl 0 (by decide) (hts _ (wg_t kw_1432)) (fun _ h9 => h9) (cd := (3, 172)) rfl dMH_sign_81 (fun v27 hv27 => ?_)
  obtain ⟨r27, rfl, kr27⟩ := (show ∃ r : Nat, v27 = .ref r ∧ T r = some 172 from hv27)
  refine lv_aload_n hx hb dMH_sign_84 rfl (lv_at hl 0 rfl) ?_
  refine nw_get (C := "LatticeKeysModel$Hands") (TT := T_MH) (N := 31) hx hb hts (wg_ft i_MH) hown hK hO k_h0 (kn := 225) (ci := 12) (fl := [(3, 172), (3, 181), (3, 226), (3, 291), (3, 299), (3, 308), (3, 317), (3, 326), (3, 334), (3, 342), (3, 350), (3, 359), (3, 368), (3, 369), (3, 370), (3, 371), (3, 372), (3, 373), (3, 374), (3, 375), (3, 376), (3, 377), (3, 378), (0, 0), (0, 0), (0, 0), (0, 0), (0, 0), (0, 0), (0, 0), (0, 0)]) rfl hP rfl 18 (by decide) (hts _ (wg_t kw_1450)) (fun _ h9 => h9) (cd := (3, 374)) rfl dMH_sign_85 (fun v28 hv28 => ?_)
  obtain ⟨r28, rfl, kr28⟩ := (show ∃ r : Nat, v28 = .ref r ∧ T r = some 374 from hv28)
  refine lv_iconst (v := nI 0) hx hb dMH_sign_88 (by decide) ?_
  refine lv_bipush (v := nI 64) hx hb dMH_sign_89 (by decide) ?_
  refine mp_v (cx := []) (wr := []) hP hD hS hA [] [] rfl rfl rfl (by decide) (va_runV (As := [.ref r28, .int (nI 0), .int (nI 64)]) (rest := []) F (N_MS_take l g _ T s29 pl hO hU r27 r28 374 64 0 64 x45 x46 kr27 kr28 rfl hx_45 hx_46 (by omega) (by omega) (by omega) (by omega)) (cwV 3 hts (wg_app (wg_c kw_1718 (wg_c kw_1634 (wg_c kw_1635 (wg_c kw_10 wg_n)))) kw_1636) rfl rfl rfl (by decide +kernel) ⟨by decide, by decide⟩) (pn_V (en_ok g) (ci := 9) (kn := 172) (fl := [(3, 173), (3, 174), (3, 175), (3, 176), (3, 177), (0, 0), (0, 0), (0, 0)]) hK hO kr27 rfl hP hD hS hA hEn [] rfl rfl rfl) rfl rfl hl.1 rfl (lv_room (Nat.le_of_ble_eq_true rfl)) dMH_sign_91 ⟨by omega, by omega⟩) (fun  u30 H locs hu30 hP hD hS => ?_)
  obtain ⟨s30, pl⟩ := u30
  obtain ⟨⟨eq30, hFc30, ⟨x48, hx_48, hb_48⟩, ⟨x49, hx_49, hb_49⟩, -⟩, hO⟩ := hu30
  have hO : okn g T s30 pl := hO
  have hP : va_P g.1 vcl ([] ++ pl) _ := hP
  have hD : va_D _ ([] ++ pl) := hD
  have hFc30 : frm (M_MS_take 374) s29 s30 := hFc30
  have hb_48 : x48 ≤ x46 := hb_48
  have hb_49 : x49 = x46 := hb_49
  replace hR := bnd_step hR eq30
  replace hE := bndP_step hE eq30
  have hF := frm_tr hF hFc30 (fun k hk => by unfold M_MS_take at hk; unfold M_MH_sign_1; omega)
  have hf85 : s30.1 225 23 = nI 1 := fc_F hf77 hFc30 (by unfold M_MS_take; omega)
  have hf86 : s30.1 225 24 = nI 6 := fc_F hf78 hFc30 (by unfold M_MS_take; omega)
  have hf87 : s30.1 225 25 = nI 5 := fc_F hf79 hFc30 (by unfold M_MS_take; omega)
  have hf88 : s30.1 225 26 = nI 4 := fc_F hf80 hFc30 (by unfold M_MS_take; omega)
  have hf89 : s30.1 225 27 = nI 524288 := fc_F hf81 hFc30 (by unfold M_MS_take; omega)
  have hf90 : s30.1 225 28 = nI 261888 := fc_F hf82 hFc30 (by unfold M_MS_take; omega)
  have hf91 : s30.1 225 29 = nI 196 := fc_F hf83 hFc30 (by unfold M_MS_take; omega)
  have hf92 : s30.1 225 30 = nI 48 := fc_F hf84 hFc30 (by unfold M_MS_take; omega)
  refine W.widen (k := 0) (n := 0) (by omega) (by omega) ?_
  refine lv_iconst (v := nI 1) hx hb dMH_sign_94 (by decide) ?_
  refine lv_istore (lv' := [(7, .int (nI 1)), (0, .ref h0), (1, .int (nI 1)), (2, .ref sk), (3, .ref b), (4, .int cl_), (5, .int (nI ed)), (6, .ref to)]) hx hb dMH_sign_95 hl (by decide) rfl (fun ls hl => ?_)
  have lp21 : ∀ (n21 : Nat) (i21 : Nat) (s31 : Sto) (pl : va_W) (ls : Array Slot) (H : Heap) (locs : List Loc), n21 + i21 = 201 → (1 ≤ i21) → frm (M_MH_sign_1 pt) s s31 → s31.1 225 23 = nI 1 → s31.1 225 24 = nI 6 → s31.1 225 25 = nI 5 → s31.1 225 26 = nI 4 → s31.1 225 27 = nI 524288 → s31.1 225 28 = nI 261888 → s31.1 225 29 = nI 196 → s31.1 225 30 = nI 48 → E_MH_sign_1_L0 pt n21 i21 s31 → F_MH_sign_1 psk pb n cl_ ed pt s = F_MH_sign_1_L0 pt n21 i21 s31 → lv_has ls 9 [(7, .int (nI i21)), (0, .ref h0), (6, .ref to)] → okn g T s31 pl → va_P g.1 vcl ([] ++ pl) H → va_D A ([] ++ pl) → va_S A s0.heap H locs → W p l e ({ frames := 5, cells := 0, slots := 0, locals := 116 } : Room) s0 m args below meth c H locs 0 0 (MQ below (va_Qi (fun (r : Int32) (u : (Int32 × Sto) × va_W) => (u.1 = F_MH_sign_1 psk pb n cl_ ed pt s ∧ r = u.1.1 ∧ frm (M_MH_sign_1 pt) s u.1.2 ∧ True) ∧ okn g T u.1.2 u.2) (po g.1 vcl A (fun (u : (Int32 × Sto) × va_W) => [] ++ u.2)) A) args s0 0 0 A) (F0 m 97 ls []) := by
    intro n21
    induction n21 with
    | zero =>
      intro i21 s31 pl ls H locs hm21 hi21 hF hf93 hf94 hf95 hf96 hf97 hf98 hf99 hf100 hE hR hl hO hP hD hS
      refine lv_iload hx hb dMH_sign_97 (lv_at hl 0 rfl) ?_
      refine lv_sipush (v := nI 200) hx hb dMH_sign_99 (by decide) ?_
      refine mi_gt (tgt := 232) hx hb dMH_sign_102 (by decide) (by omega) (by omega) (fun h21 => ?_) (fun h21 => absurd h21 (by omega))
      refine lv_iconst (v := nI 0) hx hb dMH_sign_232 (by decide) ?_
      exact mp_iret hx hb hr hlk hP hD hS ((nI 0, s31), pl) ⟨⟨hR.symm, rfl, hF, trivial⟩, hO⟩ [] rfl rfl rfl (by omega) (by omega) dMH_sign_233
    | succ n21 ih21 =>
      intro i21 s31 pl ls H locs hm21 hi21 hF hf101 hf102 hf103 hf104 hf105 hf106 hf107 hf108 hE hR hl hO hP hD hS
      refine lv_iload hx hb dMH_sign_97 (lv_at hl 0 rfl) ?_
      refine lv_sipush (v := nI 200) hx hb dMH_sign_99 (by decide) ?_
      refine mi_gt (tgt := 232) hx hb dMH_sign_102 (by decide) (by omega) (by omega) (fun h22 => absurd h22 (by omega)) (fun h22 => ?_)
      refine lv_aload_n hx hb dMH_sign_105 rfl (lv_at hl 1 rfl) ?_
      refine lv_iload hx hb dMH_sign_106 (lv_at hl 0 rfl) ?_
      refine lv_iconst (v := nI 1) hx hb dMH_sign_108 (by decide) ?_
      refine mi_isub hx hb dMH_sign_109 (by omega) ?_
      refine lv_aload_n hx hb dMH_sign_110 rfl (lv_at hl 1 rfl) ?_
      refine nw_get (C := "LatticeKeysModel$Hands") (TT := T_MH) (N := 31) hx hb hts (wg_ft i_MH) hown hK hO k_h0 (kn := 225) (ci := 12) (fl := [(3, 172), (3, 181), (3, 226), (3, 291), (3, 299), (3, 308), (3, 317), (3, 326), (3, 334), (3, 342), (3, 350), (3, 359), (3, 368), (3, 369), (3, 370), (3, 371), (3, 372), (3, 373), (3, 374), (3, 375), (3, 376), (3, 377), (3, 378), (0, 0), (0, 0), (0, 0), (0, 0), (0, 0), (0, 0), (0, 0), (0, 0)]) rfl hP rfl 25 (by decide) (hts _ (wg_t kw_1457)) (fun _ h9 => h9) (cd := (0, 0)) rfl dMH_sign_111 (fun v29 hv29 => ?_)
      obtain rfl := (show v29 = .int (s31.1 225 25) from hv29)
      obtain ⟨z21, ez21, hz21, hz22⟩ := cl_of (b := 2147483648) hf103 (by omega) (by decide)
      replace hR := bnd_step hR ez21
      replace hE := bndP_step hE ez21
      refine mi_as hz21 ?_
      subst hz22
      refine mi_imul hx hb dMH_sign_114 ?_
      refine mp_v (cx := []) (wr := []) hP hD hS hA [] [] rfl rfl rfl (by decide) (va_runV (As := [.int (nI ((i21 - 1) * 5))]) (rest := []) F (N_MH_mask_1 l g _ T s31 pl hO hU h0 (nI ((i21 - 1) * 5)) k_h0 hf101 hf102 hf103 hf104 hf105 hf106 hf107 hf108) (cwV 1 hts (wg_app (wg_c kw_1868 (wg_c kw_1870 (wg_c ks_72 (wg_c kw_13 wg_n)))) kw_1871) rfl rfl rfl (by decide +kernel) ⟨by decide, by decide⟩) (pn_V (en_ok g) (ci := 12) (kn := 225) (fl := [(3, 172), (3, 181), (3, 226), (3, 291), (3, 299), (3, 308), (3, 317), (3, 326), (3, 334), (3, 342), (3, 350), (3, 359), (3, 368), (3, 369), (3, 370), (3, 371), (3, 372), (3, 373), (3, 374), (3, 375), (3, 376), (3, 377), (3, 378), (0, 0), (0, 0), (0, 0), (0, 0), (0, 0), (0, 0), (0, 0), (0, 0)]) hK hO k_h0 rfl hP hD hS hA hEn [] rfl rfl rfl) rfl rfl hl.1 rfl (lv_room (Nat.le_of_ble_eq_true rfl)) dMH_sign_115 ⟨by omega, by omega⟩) (fun  u31 H locs hu31 hP hD hS => ?_)
      obtain ⟨s32, pl⟩ := u31
      obtain ⟨⟨eq31, hFc31, -⟩, hO⟩ := hu31
      have hO : okn g T s32 pl := hO
      have hP : va_P g.1 vcl ([] ++ pl) _ := hP
      have hD : va_D _ ([] ++ pl) := hD
      have hFc31 : frm (M_MH_mask_1) s31 s32 := hFc31
      replace hR := bnd_step hR eq31
      replace hE := bndP_step hE eq31
      have hF := frm_tr hF hFc31 (fun k hk => by unfold M_MH_mask_1 at hk; unfold M_MH_sign_1; omega)
      have hf109 : s32.1 225 23 = nI 1 := fc_F hf101 hFc31 (by unfold M_MH_mask_1; omega)
      have hf110 : s32.1 225 24 = nI 6 := fc_F hf102 hFc31 (by unfold M_MH_mask_1; omega)
      have hf111 : s32.1 225 25 = nI 5 := fc_F hf103 hFc31 (by unfold M_MH_mask_1; omega)
      have hf112 : s32.1 225 26 = nI 4 := fc_F hf104 hFc31 (by unfold M_MH_mask_1; omega)
      have hf113 : s32.1 225 27 = nI 524288 := fc_F hf105 hFc31 (by unfold M_MH_mask_1; omega)
      have hf114 : s32.1 225 28 = nI 261888 := fc_F hf106 hFc31 (by unfold M_MH_mask_1; omega)
      have hf115 : s32.1 225 29 = nI 196 := fc_F hf107 hFc31 (by unfold M_MH_mask_1; omega)
      have hf116 : s32.1 225 30 = nI 48 := fc_F hf108 hFc31 (by unfold M_MH_mask_1; omega)
      refine W.widen (k := 0) (n := 0) (by omega) (by omega) ?_
      refine lv_iconst (v := nI 0) hx hb dMH_sign_118 (by decide) ?_
      refine lv_istore (lv' := [(8, .int (nI 0)), (7, .int (nI i21)), (0, .ref h0), (6, .ref to)]) hx hb dMH_sign_119 hl (by decide) rfl (fun ls hl => ?_)
      have lp22 : ∀ (n22 : Nat) (i22 : Nat) (s33 : Sto) (pl : va_W) (ls : Array Slot) (H : Heap) (locs : List Loc), n22 + i22 = 5 → frm (M_MH_sign_1 pt) s s33 → s33.1 225 23 = nI 1 → s33.1 225 24 = nI 6 → s33.1 225 25 = nI 5 → s33.1 225 26 = nI 4 → s33.1 225 27 = nI 524288 → s33.1 225 28 = nI 261888 → s33.1 225 29 = nI 196 → s33.1 225 30 = nI 48 → E_MH_sign_1_L1 pt i21 (E_MH_sign_1_L0 pt n21) n22 i22 s33 → F_MH_sign_1 psk pb n cl_ ed pt s = F_MH_sign_1_L1 pt i21 (F_MH_sign_1_L0 pt n21) n22 i22 s33 → lv_has ls 9 [(8, .int (nI i22)), (7, .int (nI i21)), (0, .ref h0), (6, .ref to)] → okn g T s33 pl → va_P g.1 vcl ([] ++ pl) H → va_D A ([] ++ pl) → va_S A s0.heap H locs → W p l e ({ frames := 5, cells := 0, slots := 0, locals := 116 } : Room) s0 m args below meth c H locs 0 0 (MQ below (va_Qi (fun (r : Int32) (u : (Int32 × Sto) × va_W) => (u.1 = F_MH_sign_1 psk pb n cl_ ed pt s ∧ r = u.1.1 ∧ frm (M_MH_sign_1 pt) s u.1.2 ∧ True) ∧ okn g T u.1.2 u.2) (po g.1 vcl A (fun (u : (Int32 × Sto) × va_W) => [] ++ u.2)) A) args s0 0 0 A) (F0 m 121 ls []) := by
        intro n22
        induction n22 with
        | zero =>
          intro i22 s33 pl ls H locs hm22 hF hf117 hf118 hf119 hf120 hf121 hf122 hf123 hf124 hE hR hl hO hP hD hS
          refine lv_iload hx hb dMH_sign_121 (lv_at hl 0 rfl) ?_
          refine lv_aload_n hx hb dMH_sign_123 rfl (lv_at hl 2 rfl) ?_
          refine nw_get (C := "LatticeKeysModel$Hands") (TT := T_MH) (N := 31) hx hb hts (wg_ft i_MH) hown hK hO k_h0 (kn := 225) (ci := 12) (fl := [(3, 172), (3, 181), (3, 226), (3, 291), (3, 299), (3, 308), (3, 317), (3, 326), (3, 334), (3, 342), (3, 350), (3, 359), (3, 368), (3, 369), (3, 370), (3, 371), (3, 372), (3, 373), (3, 374), (3, 375), (3, 376), (3, 377), (3, 378), (0, 0), (0, 0), (0, 0), (0, 0), (0, 0), (0, 0), (0, 0), (0, 0)]) rfl hP rfl 25 (by decide) (hts _ (wg_t kw_1457)) (fun _ h9 => h9) (cd := (0, 0)) rfl dMH_sign_124 (fun v30 hv30 => ?_)
          obtain rfl := (show v30 = .int (s33.1 225 25) from hv30)
          obtain ⟨z22, ez22, hz23, hz24⟩ := cl_of (b := 2147483648) hf119 (by omega) (by decide)
          replace hR := bnd_step hR ez22
          replace hE := bndP_step hE ez22
          refine mi_as hz23 ?_
          subst hz24
          refine mi_ge (tgt := 159) hx hb dMH_sign_127 (by decide) (by omega) (by omega) (fun h23 => ?_) (fun h23 => absurd h23 (by omega))
          refine lv_iconst (v := nI 0) hx hb dMH_sign_159 (by decide) ?_
          refine lv_istore (lv' := [(8, .int (nI 0)), (7, .int (nI i21)), (0, .ref h0), (6, .ref to)]) hx hb dMH_sign_160 hl (by decide) rfl (fun ls hl => ?_)
          have lp23 : ∀ (n23 : Nat) (i23 : Nat) (s34 : Sto) (pl : va_W) (ls : Array Slot) (H : Heap) (locs : List Loc), n23 + i23 = 6 → frm (M_MH_sign_1 pt) s s34 → s34.1 225 23 = nI 1 → s34.1 225 24 = nI 6 → s34.1 225 25 = nI 5 → s34.1 225 26 = nI 4 → s34.1 225 27 = nI 524288 → s34.1 225 28 = nI 261888 → s34.1 225 29 = nI 196 → s34.1 225 30 = nI 48 → E_MH_sign_1_L2 pt i21 (E_MH_sign_1_L0 pt n21) n23 i23 s34 → F_MH_sign_1 psk pb n cl_ ed pt s = F_MH_sign_1_L2 pt i21 (F_MH_sign_1_L0 pt n21) n23 i23 s34 → lv_has ls 9 [(8, .int (nI i23)), (7, .int (nI i21)), (0, .ref h0), (6, .ref to)] → okn g T s34 pl → va_P g.1 vcl ([] ++ pl) H → va_D A ([] ++ pl) → va_S A s0.heap H locs → W p l e ({ frames := 5, cells := 0, slots := 0, locals := 116 } : Room) s0 m args below meth c H locs 0 0 (MQ below (va_Qi (fun (r : Int32) (u : (Int32 × Sto) × va_W) => (u.1 = F_MH_sign_1 psk pb n cl_ ed pt s ∧ r = u.1.1 ∧ frm (M_MH_sign_1 pt) s u.1.2 ∧ True) ∧ okn g T u.1.2 u.2) (po g.1 vcl A (fun (u : (Int32 × Sto) × va_W) => [] ++ u.2)) A) args s0 0 0 A) (F0 m 162 ls []) := by
            intro n23
            induction n23 with
            | zero =>
              intro i23 s34 pl ls H locs hm23 hF hf125 hf126 hf127 hf128 hf129 hf130 hf131 hf132 hE hR hl hO hP hD hS
              refine lv_iload hx hb dMH_sign_162 (lv_at hl 0 rfl) ?_
              refine lv_aload_n hx hb dMH_sign_164 rfl (lv_at hl 2 rfl) ?_
              refine nw_get (C := "LatticeKeysModel$Hands") (TT := T_MH) (N := 31) hx hb hts (wg_ft i_MH) hown hK hO k_h0 (kn := 225) (ci := 12) (fl := [(3, 172), (3, 181), (3, 226), (3, 291), (3, 299), (3, 308), (3, 317), (3, 326), (3, 334), (3, 342), (3, 350), (3, 359), (3, 368), (3, 369), (3, 370), (3, 371), (3, 372), (3, 373), (3, 374), (3, 375), (3, 376), (3, 377), (3, 378), (0, 0), (0, 0), (0, 0), (0, 0), (0, 0), (0, 0), (0, 0), (0, 0)]) rfl hP rfl 24 (by decide) (hts _ (wg_t kw_1456)) (fun _ h9 => h9) (cd := (0, 0)) rfl dMH_sign_165 (fun v31 hv31 => ?_)
              obtain rfl := (show v31 = .int (s34.1 225 24) from hv31)
              obtain ⟨z23, ez23, hz25, hz26⟩ := cl_of (b := 2147483648) hf126 (by omega) (by decide)
              replace hR := bnd_step hR ez23
              replace hE := bndP_step hE ez23
              refine mi_as hz25 ?_
              subst hz26
              refine mi_ge (tgt := 190) hx hb dMH_sign_168 (by decide) (by omega) (by omega) (fun h24 => ?_) (fun h24 => absurd h24 (by omega))
              refine lv_aload_n hx hb dMH_sign_190 rfl (lv_at hl 2 rfl) ?_
              refine lv_iconst (v := nI 0) hx hb dMH_sign_191 (by decide) ?_
              refine lv_aload_n hx hb dMH_sign_192 rfl (lv_at hl 2 rfl) ?_
              refine nw_get (C := "LatticeKeysModel$Hands") (TT := T_MH) (N := 31) hx hb hts (wg_ft i_MH) hown hK hO k_h0 (kn := 225) (ci := 12) (fl := [(3, 172), (3, 181), (3, 226), (3, 291), (3, 299), (3, 308), (3, 317), (3, 326), (3, 334), (3, 342), (3, 350), (3, 359), (3, 368), (3, 369), (3, 370), (3, 371), (3, 372), (3, 373), (3, 374), (3, 375), (3, 376), (3, 377), (3, 378), (0, 0), (0, 0), (0, 0), (0, 0), (0, 0), (0, 0), (0, 0), (0, 0)]) rfl hP rfl 20 (by decide) (hts _ (wg_t kw_1452)) (fun _ h9 => h9) (cd := (3, 376)) rfl dMH_sign_193 (fun v32 hv32 => ?_)
              obtain ⟨r29, rfl, kr29⟩ := (show ∃ r : Nat, v32 = .ref r ∧ T r = some 376 from hv32)
              refine mp_v (cx := []) (wr := []) hP hD hS hA [] [] rfl rfl rfl (by decide) (va_runV (As := [.int (nI 0), .ref r29]) (rest := []) F (N_MH_marked_1 l g _ T s34 pl hO hU h0 r29 (nI 0) 376 k_h0 kr29 rfl hf125 hf126 hf127 hf128 hf129 hf130 hf131 hf132) (cwV 2 hts (wg_app (wg_c kw_1872 (wg_c kw_1874 (wg_c ks_73 (wg_c kw_13 wg_n)))) kw_1875) rfl rfl rfl (by decide +kernel) ⟨by decide, by decide⟩) (pn_V (en_ok g) (ci := 12) (kn := 225) (fl := [(3, 172), (3, 181), (3, 226), (3, 291), (3, 299), (3, 308), (3, 317), (3, 326), (3, 334), (3, 342), (3, 350), (3, 359), (3, 368), (3, 369), (3, 370), (3, 371), (3, 372), (3, 373), (3, 374), (3, 375), (3, 376), (3, 377), (3, 378), (0, 0), (0, 0), (0, 0), (0, 0), (0, 0), (0, 0), (0, 0), (0, 0)]) hK hO k_h0 rfl hP hD hS hA hEn [] rfl rfl rfl) rfl rfl hl.1 rfl (lv_room (Nat.le_of_ble_eq_true rfl)) dMH_sign_196 ⟨by omega, by omega⟩) (fun  u32 H locs hu32 hP hD hS => ?_)
              obtain ⟨s35, pl⟩ := u32
              obtain ⟨⟨eq32, hFc32, -⟩, hO⟩ := hu32
              have hO : okn g T s35 pl := hO
              have hP : va_P g.1 vcl ([] ++ pl) _ := hP
              have hD : va_D _ ([] ++ pl) := hD
              have hFc32 : frm (M_MH_marked_1 376) s34 s35 := hFc32
              replace hR := bnd_step hR eq32
              replace hE := bndP_step hE eq32
              have hF := frm_tr hF hFc32 (fun k hk => by unfold M_MH_marked_1 at hk; unfold M_MH_sign_1; omega)
              have hf133 : s35.1 225 23 = nI 1 := fc_F hf125 hFc32 (by unfold M_MH_marked_1; omega)
              have hf134 : s35.1 225 24 = nI 6 := fc_F hf126 hFc32 (by unfold M_MH_marked_1; omega)
              have hf135 : s35.1 225 25 = nI 5 := fc_F hf127 hFc32 (by unfold M_MH_marked_1; omega)
              have hf136 : s35.1 225 26 = nI 4 := fc_F hf128 hFc32 (by unfold M_MH_marked_1; omega)
              have hf137 : s35.1 225 27 = nI 524288 := fc_F hf129 hFc32 (by unfold M_MH_marked_1; omega)
              have hf138 : s35.1 225 28 = nI 261888 := fc_F hf130 hFc32 (by unfold M_MH_marked_1; omega)
              have hf139 : s35.1 225 29 = nI 196 := fc_F hf131 hFc32 (by unfold M_MH_marked_1; omega)
              have hf140 : s35.1 225 30 = nI 48 := fc_F hf132 hFc32 (by unfold M_MH_marked_1; omega)
              refine W.widen (k := 0) (n := 0) (by omega) (by omega) ?_
              refine lv_aload_n hx hb dMH_sign_199 rfl (lv_at hl 2 rfl) ?_
              refine lv_aload_n hx hb dMH_sign_200 rfl (lv_at hl 2 rfl) ?_
              refine nw_get (C := "LatticeKeysModel$Hands") (TT := T_MH) (N := 31) hx hb hts (wg_ft i_MH) hown hK hO k_h0 (kn := 225) (ci := 12) (fl := [(3, 172), (3, 181), (3, 226), (3, 291), (3, 299), (3, 308), (3, 317), (3, 326), (3, 334), (3, 342), (3, 350), (3, 359), (3, 368), (3, 369), (3, 370), (3, 371), (3, 372), (3, 373), (3, 374), (3, 375), (3, 376), (3, 377), (3, 378), (0, 0), (0, 0), (0, 0), (0, 0), (0, 0), (0, 0), (0, 0), (0, 0)]) rfl hP rfl 20 (by decide) (hts _ (wg_t kw_1452)) (fun _ h9 => h9) (cd := (3, 376)) rfl dMH_sign_201 (fun v33 hv33 => ?_)
              obtain ⟨r30, rfl, kr30⟩ := (show ∃ r : Nat, v33 = .ref r ∧ T r = some 376 from hv33)
              refine mp_v (cx := []) (wr := []) hP hD hS hA [] [] rfl rfl rfl (by decide) (va_runV (As := [.ref r30]) (rest := []) F (N_MH_ball_1 l g _ T s35 pl hO hU h0 r30 376 k_h0 kr30 rfl hf133 hf134 hf135 hf136 hf137 hf138 hf139 hf140 hE.1) (cwV 1 hts (wg_app (wg_c kw_1889 (wg_c kw_1891 (wg_c ks_77 (wg_c kw_13 wg_n)))) kw_1892) rfl rfl rfl (by decide +kernel) ⟨by decide, by decide⟩) (pn_V (en_ok g) (ci := 12) (kn := 225) (fl := [(3, 172), (3, 181), (3, 226), (3, 291), (3, 299), (3, 308), (3, 317), (3, 326), (3, 334), (3, 342), (3, 350), (3, 359), (3, 368), (3, 369), (3, 370), (3, 371), (3, 372), (3, 373), (3, 374), (3, 375), (3, 376), (3, 377), (3, 378), (0, 0), (0, 0), (0, 0), (0, 0), (0, 0), (0, 0), (0, 0), (0, 0)]) hK hO k_h0 rfl hP hD hS hA hEn [] rfl rfl rfl) rfl rfl hl.1 rfl (lv_room (Nat.le_of_ble_eq_true rfl)) dMH_sign_204 ⟨by omega, by omega⟩) (fun  u33 H locs hu33 hP hD hS => ?_)
              obtain ⟨s36, pl⟩ := u33
              obtain ⟨⟨eq33, hFc33, -⟩, hO⟩ := hu33
              have hO : okn g T s36 pl := hO
              have hP : va_P g.1 vcl ([] ++ pl) _ := hP
              have hD : va_D _ ([] ++ pl) := hD
              have hFc33 : frm (M_MH_ball_1) s35 s36 := hFc33
              replace hE := hE.2
              replace hR := bnd_step hR eq33
              replace hE := bndP_step hE eq33
              have hF := frm_tr hF hFc33 (fun k hk => by unfold M_MH_ball_1 at hk; unfold M_MH_sign_1; omega)
              have hf141 : s36.1 225 23 = nI 1 := fc_F hf133 hFc33 (by unfold M_MH_ball_1; omega)
              have hf142 : s36.1 225 24 = nI 6 := fc_F hf134 hFc33 (by unfold M_MH_ball_1; omega)
              have hf143 : s36.1 225 25 = nI 5 := fc_F hf135 hFc33 (by unfold M_MH_ball_1; omega)
              have hf144 : s36.1 225 26 = nI 4 := fc_F hf136 hFc33 (by unfold M_MH_ball_1; omega)
              have hf145 : s36.1 225 27 = nI 524288 := fc_F hf137 hFc33 (by unfold M_MH_ball_1; omega)
              have hf146 : s36.1 225 28 = nI 261888 := fc_F hf138 hFc33 (by unfold M_MH_ball_1; omega)
              have hf147 : s36.1 225 29 = nI 196 := fc_F hf139 hFc33 (by unfold M_MH_ball_1; omega)
              have hf148 : s36.1 225 30 = nI 48 := fc_F hf140 hFc33 (by unfold M_MH_ball_1; omega)
              refine W.widen (k := 0) (n := 0) (by omega) (by omega) ?_
              refine lv_aload_n hx hb dMH_sign_207 rfl (lv_at hl 2 rfl) ?_
              refine mp_i (cx := []) (wr := []) hP hD hS hA [] [] rfl rfl rfl (by decide) (va_runV (As := []) (rest := []) F (N_MH_fits_1 l g _ T s36 pl hO hU h0 k_h0 hf141 hf142 hf143 hf144 hf145 hf146 hf147 hf148) (cwV 0 hts (wg_app (wg_c kw_1893 (wg_c kw_1895 (wg_c ks_78 (wg_c kw_13 wg_n)))) kw_1896) rfl rfl rfl (by decide +kernel) ⟨by decide, by decide⟩) (pn_V (en_ok g) (ci := 12) (kn := 225) (fl := [(3, 172), (3, 181), (3, 226), (3, 291), (3, 299), (3, 308), (3, 317), (3, 326), (3, 334), (3, 342), (3, 350), (3, 359), (3, 368), (3, 369), (3, 370), (3, 371), (3, 372), (3, 373), (3, 374), (3, 375), (3, 376), (3, 377), (3, 378), (0, 0), (0, 0), (0, 0), (0, 0), (0, 0), (0, 0), (0, 0), (0, 0)]) hK hO k_h0 rfl hP hD hS hA hEn [] rfl rfl rfl) rfl rfl hl.1 rfl (lv_room (Nat.le_of_ble_eq_true rfl)) dMH_sign_208 ⟨by omega, by omega⟩) (fun r31 u34 H locs hu34 hP hD hS => ?_)
              obtain ⟨q21, pl⟩ := u34
              obtain ⟨⟨eq34, rfl, hFc34, -⟩, hO⟩ := hu34
              have hO : okn g T q21.2 pl := hO
              have hP : va_P g.1 vcl ([] ++ pl) _ := hP
              have hD : va_D _ ([] ++ pl) := hD
              have hFc34 : frm (M_MH_fits_1) s36 q21.2 := hFc34
              replace hR := bnd_step hR eq34
              replace hE := bndP_step hE eq34
              have hF := frm_tr hF hFc34 (fun k hk => by unfold M_MH_fits_1 at hk; unfold M_MH_sign_1; omega)
              have hf149 : q21.2.1 225 23 = nI 1 := fc_F hf141 hFc34 (by unfold M_MH_fits_1; omega)
              have hf150 : q21.2.1 225 24 = nI 6 := fc_F hf142 hFc34 (by unfold M_MH_fits_1; omega)
              have hf151 : q21.2.1 225 25 = nI 5 := fc_F hf143 hFc34 (by unfold M_MH_fits_1; omega)
              have hf152 : q21.2.1 225 26 = nI 4 := fc_F hf144 hFc34 (by unfold M_MH_fits_1; omega)
              have hf153 : q21.2.1 225 27 = nI 524288 := fc_F hf145 hFc34 (by unfold M_MH_fits_1; omega)
              have hf154 : q21.2.1 225 28 = nI 261888 := fc_F hf146 hFc34 (by unfold M_MH_fits_1; omega)
              have hf155 : q21.2.1 225 29 = nI 196 := fc_F hf147 hFc34 (by unfold M_MH_fits_1; omega)
              have hf156 : q21.2.1 225 30 = nI 48 := fc_F hf148 hFc34 (by unfold M_MH_fits_1; omega)
              refine W.widen (k := 0) (n := 0) (by omega) (by omega) ?_
              refine lv_if_ne (tgt := 217) hx hb dMH_sign_211 (by decide) (fun h25 => ?_) (fun h25 => ?_)
              · replace hR := hR.trans (if_neg h25)
                replace hE := iteP_neg h25 hE
                refine lv_aload_n hx hb dMH_sign_217 rfl (lv_at hl 2 rfl) ?_
                refine lv_aload hx hb dMH_sign_218 (lv_at hl 3 rfl) ?_
                refine mp_v (cx := []) (wr := []) hP hD hS hA [] [] rfl rfl rfl (by decide) (va_runV (As := [.ref to]) (rest := []) F (N_MH_written_1 l g _ T q21.2 pl hO hU h0 to pt k_h0 k_to n_to hf149 hf150 hf151 hf152 hf153 hf154 hf155 hf156) (cwV 1 hts (wg_app (wg_c kw_1910 (wg_c kw_1912 (wg_c ks_80 (wg_c kw_13 wg_n)))) kw_1913) rfl rfl rfl (by decide +kernel) ⟨by decide, by decide⟩) (pn_V (en_ok g) (ci := 12) (kn := 225) (fl := [(3, 172), (3, 181), (3, 226), (3, 291), (3, 299), (3, 308), (3, 317), (3, 326), (3, 334), (3, 342), (3, 350), (3, 359), (3, 368), (3, 369), (3, 370), (3, 371), (3, 372), (3, 373), (3, 374), (3, 375), (3, 376), (3, 377), (3, 378), (0, 0), (0, 0), (0, 0), (0, 0), (0, 0), (0, 0), (0, 0), (0, 0)]) hK hO k_h0 rfl hP hD hS hA hEn [] rfl rfl rfl) rfl rfl hl.1 rfl (lv_room (Nat.le_of_ble_eq_true rfl)) dMH_sign_220 ⟨by omega, by omega⟩) (fun  u35 H locs hu35 hP hD hS => ?_)
                obtain ⟨s37, pl⟩ := u35
                obtain ⟨⟨eq35, hFc35, -⟩, hO⟩ := hu35
                have hO : okn g T s37 pl := hO
                have hP : va_P g.1 vcl ([] ++ pl) _ := hP
                have hD : va_D _ ([] ++ pl) := hD
                have hFc35 : frm (M_MH_written_1 pt) q21.2 s37 := hFc35
                replace hR := bnd_step hR eq35
                replace hE := bndP_step hE eq35
                have hF := frm_tr hF hFc35 (fun k hk => by unfold M_MH_written_1 at hk; unfold M_MH_sign_1; omega)
                have hf157 : s37.1 225 23 = nI 1 := fc_F hf149 hFc35 (by unfold M_MH_written_1; omega)
                have hf158 : s37.1 225 24 = nI 6 := fc_F hf150 hFc35 (by unfold M_MH_written_1; omega)
                have hf159 : s37.1 225 25 = nI 5 := fc_F hf151 hFc35 (by unfold M_MH_written_1; omega)
                have hf160 : s37.1 225 26 = nI 4 := fc_F hf152 hFc35 (by unfold M_MH_written_1; omega)
                have hf161 : s37.1 225 27 = nI 524288 := fc_F hf153 hFc35 (by unfold M_MH_written_1; omega)
                have hf162 : s37.1 225 28 = nI 261888 := fc_F hf154 hFc35 (by unfold M_MH_written_1; omega)
                have hf163 : s37.1 225 29 = nI 196 := fc_F hf155 hFc35 (by unfold M_MH_written_1; omega)
                have hf164 : s37.1 225 30 = nI 48 := fc_F hf156 hFc35 (by unfold M_MH_written_1; omega)
                refine W.widen (k := 0) (n := 0) (by omega) (by omega) ?_
                refine lv_iload hx hb dMH_sign_223 (lv_at hl 1 rfl) ?_
                exact mp_iret hx hb hr hlk hP hD hS ((nI i21, s37), pl) ⟨⟨hR.symm, rfl, hF, trivial⟩, hO⟩ [] rfl rfl rfl (by omega) (by omega) dMH_sign_225
              · replace hR := hR.trans (if_pos h25)
                replace hE := iteP_pos h25 hE
                refine lv_goto (tgt := 226) hx hb dMH_sign_214 (by decide) ?_
                refine mi_iinc (k := 1) (x := i21) (d := 1) (y := i21 + 1) (lv' := [(7, .int (nI (i21 + 1))), (8, .int (nI i23)), (0, .ref h0), (6, .ref to)]) hx hb dMH_sign_226 hl rfl (by decide) rfl (by decide) rfl (fun ls hl => ?_)
                refine lv_goto (tgt := 97) hx hb dMH_sign_229 (by decide) ?_
                exact ih21 (i21 + 1) q21.2 pl ls H locs (by omega) (by omega) hF hf149 hf150 hf151 hf152 hf153 hf154 hf155 hf156 hE hR (lv_sub hl [0, 2, 3] rfl) hO hP hD hS
            | succ n23 ih23 =>
              intro i23 s34 pl ls H locs hm23 hF hf165 hf166 hf167 hf168 hf169 hf170 hf171 hf172 hE hR hl hO hP hD hS
              refine lv_iload hx hb dMH_sign_162 (lv_at hl 0 rfl) ?_
              refine lv_aload_n hx hb dMH_sign_164 rfl (lv_at hl 2 rfl) ?_
              refine nw_get (C := "LatticeKeysModel$Hands") (TT := T_MH) (N := 31) hx hb hts (wg_ft i_MH) hown hK hO k_h0 (kn := 225) (ci := 12) (fl := [(3, 172), (3, 181), (3, 226), (3, 291), (3, 299), (3, 308), (3, 317), (3, 326), (3, 334), (3, 342), (3, 350), (3, 359), (3, 368), (3, 369), (3, 370), (3, 371), (3, 372), (3, 373), (3, 374), (3, 375), (3, 376), (3, 377), (3, 378), (0, 0), (0, 0), (0, 0), (0, 0), (0, 0), (0, 0), (0, 0), (0, 0)]) rfl hP rfl 24 (by decide) (hts _ (wg_t kw_1456)) (fun _ h9 => h9) (cd := (0, 0)) rfl dMH_sign_165 (fun v34 hv34 => ?_)
              obtain rfl := (show v34 = .int (s34.1 225 24) from hv34)
              obtain ⟨z24, ez24, hz27, hz28⟩ := cl_of (b := 2147483648) hf166 (by omega) (by decide)
              replace hR := bnd_step hR ez24
              replace hE := bndP_step hE ez24
              refine mi_as hz27 ?_
              subst hz28
              refine mi_ge (tgt := 190) hx hb dMH_sign_168 (by decide) (by omega) (by omega) (fun h26 => absurd h26 (by omega)) (fun h26 => ?_)
              refine lv_aload_n hx hb dMH_sign_171 rfl (lv_at hl 2 rfl) ?_
              refine lv_iload hx hb dMH_sign_172 (lv_at hl 0 rfl) ?_
              refine lv_aload_n hx hb dMH_sign_174 rfl (lv_at hl 2 rfl) ?_
              refine nw_get (C := "LatticeKeysModel$Hands") (TT := T_MH) (N := 31) hx hb hts (wg_ft i_MH) hown hK hO k_h0 (kn := 225) (ci := 12) (fl := [(3, 172), (3, 181), (3, 226), (3, 291), (3, 299), (3, 308), (3, 317), (3, 326), (3, 334), (3, 342), (3, 350), (3, 359), (3, 368), (3, 369), (3, 370), (3, 371), (3, 372), (3, 373), (3, 374), (3, 375), (3, 376), (3, 377), (3, 378), (0, 0), (0, 0), (0, 0), (0, 0), (0, 0), (0, 0), (0, 0), (0, 0)]) rfl hP rfl 10 (by decide) (hts _ (wg_t kw_1442)) (fun _ h9 => h9) (cd := (3, 350)) rfl dMH_sign_175 (fun v35 hv35 => ?_)
              obtain ⟨r32, rfl, kr31⟩ := (show ∃ r : Nat, v35 = .ref r ∧ T r = some 350 from hv35)
              refine lv_iload hx hb dMH_sign_178 (lv_at hl 0 rfl) ?_
              refine nw_aald3 hx hb hK hO kr31 (k := 350) (b := 351) rfl hP (by omega) (by omega) dMH_sign_180 (fun r33 kr32 => ?_)
              have hn21 : nsp (351 + i23) = (0, 256, []) := rows_ok 351 8 (by decide) _ (by omega)
              refine mp_v (cx := []) (wr := []) hP hD hS hA [] [] rfl rfl rfl (by decide) (va_runV (As := [.int (nI i23), .ref r33]) (rest := []) F (N_MH_rowBy_1 l g _ T s34 pl hO hU h0 r33 i23 (351 + i23) k_h0 kr32 hn21 hf165 hf166 hf167 hf168 hf169 hf170 hf171 hf172 (by omega)) (cwV 2 hts (wg_app (wg_c kw_1730 (wg_c kw_1732 (wg_c ks_63 (wg_c kw_13 wg_n)))) kw_1733) rfl rfl rfl (by decide +kernel) ⟨by decide, by decide⟩) (pn_V (en_ok g) (ci := 12) (kn := 225) (fl := [(3, 172), (3, 181), (3, 226), (3, 291), (3, 299), (3, 308), (3, 317), (3, 326), (3, 334), (3, 342), (3, 350), (3, 359), (3, 368), (3, 369), (3, 370), (3, 371), (3, 372), (3, 373), (3, 374), (3, 375), (3, 376), (3, 377), (3, 378), (0, 0), (0, 0), (0, 0), (0, 0), (0, 0), (0, 0), (0, 0), (0, 0)]) hK hO k_h0 rfl hP hD hS hA hEn [] rfl rfl rfl) rfl rfl hl.1 rfl (lv_room (Nat.le_of_ble_eq_true rfl)) dMH_sign_181 ⟨by omega, by omega⟩) (fun  u36 H locs hu36 hP hD hS => ?_)
              obtain ⟨s38, pl⟩ := u36
              obtain ⟨⟨eq36, hFc36, -⟩, hO⟩ := hu36
              have hO : okn g T s38 pl := hO
              have hP : va_P g.1 vcl ([] ++ pl) _ := hP
              have hD : va_D _ ([] ++ pl) := hD
              have hFc36 : frm (M_MH_rowBy_1 (351 + i23)) s34 s38 := hFc36
              replace hR := bnd_step hR eq36
              replace hE := bndP_step hE eq36
              have hF := frm_tr hF hFc36 (fun k hk => by unfold M_MH_rowBy_1 at hk; unfold M_MH_sign_1; omega)
              have hf173 : s38.1 225 23 = nI 1 := fc_F hf165 hFc36 (by unfold M_MH_rowBy_1; omega)
              have hf174 : s38.1 225 24 = nI 6 := fc_F hf166 hFc36 (by unfold M_MH_rowBy_1; omega)
              have hf175 : s38.1 225 25 = nI 5 := fc_F hf167 hFc36 (by unfold M_MH_rowBy_1; omega)
              have hf176 : s38.1 225 26 = nI 4 := fc_F hf168 hFc36 (by unfold M_MH_rowBy_1; omega)
              have hf177 : s38.1 225 27 = nI 524288 := fc_F hf169 hFc36 (by unfold M_MH_rowBy_1; omega)
              have hf178 : s38.1 225 28 = nI 261888 := fc_F hf170 hFc36 (by unfold M_MH_rowBy_1; omega)
              have hf179 : s38.1 225 29 = nI 196 := fc_F hf171 hFc36 (by unfold M_MH_rowBy_1; omega)
              have hf180 : s38.1 225 30 = nI 48 := fc_F hf172 hFc36 (by unfold M_MH_rowBy_1; omega)
              refine W.widen (k := 0) (n := 0) (by omega) (by omega) ?_
              refine mi_iinc (k := 0) (x := i23) (d := 1) (y := i23 + 1) (lv' := [(8, .int (nI (i23 + 1))), (7, .int (nI i21)), (0, .ref h0), (6, .ref to)]) hx hb dMH_sign_184 hl rfl (by decide) rfl (by decide) rfl (fun ls hl => ?_)
              refine lv_goto (tgt := 162) hx hb dMH_sign_187 (by decide) ?_
              exact ih23 (i23 + 1) s38 pl ls H locs (by omega) hF hf173 hf174 hf175 hf176 hf177 hf178 hf179 hf180 hE hR (lv_sub hl [0, 1, 2, 3] rfl) hO hP hD hS
          exact lp23 6 0 s33 pl ls _ _ (by omega) hF hf117 hf118 hf119 hf120 hf121 hf122 hf123 hf124 hE hR (lv_sub hl [0, 1, 2, 3] rfl) hO hP hD hS
        | succ n22 ih22 =>
          intro i22 s33 pl ls H locs hm22 hF hf181 hf182 hf183 hf184 hf185 hf186 hf187 hf188 hE hR hl hO hP hD hS
          refine lv_iload hx hb dMH_sign_121 (lv_at hl 0 rfl) ?_
          refine lv_aload_n hx hb dMH_sign_123 rfl (lv_at hl 2 rfl) ?_
          refine nw_get (C := "LatticeKeysModel$Hands") (TT := T_MH) (N := 31) hx hb hts (wg_ft i_MH) hown hK hO k_h0 (kn := 225) (ci := 12) (fl := [(3, 172), (3, 181), (3, 226), (3, 291), (3, 299), (3, 308), (3, 317), (3, 326), (3, 334), (3, 342), (3, 350), (3, 359), (3, 368), (3, 369), (3, 370), (3, 371), (3, 372), (3, 373), (3, 374), (3, 375), (3, 376), (3, 377), (3, 378), (0, 0), (0, 0), (0, 0), (0, 0), (0, 0), (0, 0), (0, 0), (0, 0)]) rfl hP rfl 25 (by decide) (hts _ (wg_t kw_1457)) (fun _ h9 => h9) (cd := (0, 0)) rfl dMH_sign_124 (fun v36 hv36 => ?_)
          obtain rfl := (show v36 = .int (s33.1 225 25) from hv36)
          obtain ⟨z25, ez25, hz29, hz30⟩ := cl_of (b := 2147483648) hf183 (by omega) (by decide)
          replace hR := bnd_step hR ez25
          replace hE := bndP_step hE ez25
          refine mi_as hz29 ?_
          subst hz30
          refine mi_ge (tgt := 159) hx hb dMH_sign_127 (by decide) (by omega) (by omega) (fun h27 => absurd h27 (by omega)) (fun h27 => ?_)
          refine lv_aload_n hx hb dMH_sign_130 rfl (lv_at hl 2 rfl) ?_
          refine nw_get (C := "LatticeKeysModel$Hands") (TT := T_MH) (N := 31) hx hb hts (wg_ft i_MH) hown hK hO k_h0 (kn := 225) (ci := 12) (fl := [(3, 172), (3, 181), (3, 226), (3, 291), (3, 299), (3, 308), (3, 317), (3, 326), (3, 334), (3, 342), (3, 350), (3, 359), (3, 368), (3, 369), (3, 370), (3, 371), (3, 372), (3, 373), (3, 374), (3, 375), (3, 376), (3, 377), (3, 378), (0, 0), (0, 0), (0, 0), (0, 0), (0, 0), (0, 0), (0, 0), (0, 0)]) rfl hP rfl 1 (by decide) (hts _ (wg_t kw_1433)) (fun _ h9 => h9) (cd := (3, 181)) rfl dMH_sign_131 (fun v37 hv37 => ?_)
          obtain ⟨r34, rfl, kr33⟩ := (show ∃ r : Nat, v37 = .ref r ∧ T r = some 181 from hv37)
          refine lv_aload_n hx hb dMH_sign_134 rfl (lv_at hl 2 rfl) ?_
          refine nw_get (C := "LatticeKeysModel$Hands") (TT := T_MH) (N := 31) hx hb hts (wg_ft i_MH) hown hK hO k_h0 (kn := 225) (ci := 12) (fl := [(3, 172), (3, 181), (3, 226), (3, 291), (3, 299), (3, 308), (3, 317), (3, 326), (3, 334), (3, 342), (3, 350), (3, 359), (3, 368), (3, 369), (3, 370), (3, 371), (3, 372), (3, 373), (3, 374), (3, 375), (3, 376), (3, 377), (3, 378), (0, 0), (0, 0), (0, 0), (0, 0), (0, 0), (0, 0), (0, 0), (0, 0)]) rfl hP rfl 7 (by decide) (hts _ (wg_t kw_1439)) (fun _ h9 => h9) (cd := (3, 326)) rfl dMH_sign_135 (fun v38 hv38 => ?_)
          obtain ⟨r35, rfl, kr34⟩ := (show ∃ r : Nat, v38 = .ref r ∧ T r = some 326 from hv38)
          refine lv_iload hx hb dMH_sign_138 (lv_at hl 0 rfl) ?_
          refine nw_aald3 hx hb hK hO kr34 (k := 326) (b := 327) rfl hP (by omega) (by omega) dMH_sign_140 (fun r36 kr35 => ?_)
          have hn22 : nsp (327 + i22) = (0, 256, []) := rows_ok 327 7 (by decide) _ (by omega)
          refine lv_aload_n hx hb dMH_sign_141 rfl (lv_at hl 2 rfl) ?_
          refine nw_get (C := "LatticeKeysModel$Hands") (TT := T_MH) (N := 31) hx hb hts (wg_ft i_MH) hown hK hO k_h0 (kn := 225) (ci := 12) (fl := [(3, 172), (3, 181), (3, 226), (3, 291), (3, 299), (3, 308), (3, 317), (3, 326), (3, 334), (3, 342), (3, 350), (3, 359), (3, 368), (3, 369), (3, 370), (3, 371), (3, 372), (3, 373), (3, 374), (3, 375), (3, 376), (3, 377), (3, 378), (0, 0), (0, 0), (0, 0), (0, 0), (0, 0), (0, 0), (0, 0), (0, 0)]) rfl hP rfl 9 (by decide) (hts _ (wg_t kw_1441)) (fun _ h9 => h9) (cd := (3, 342)) rfl dMH_sign_142 (fun v39 hv39 => ?_)
          obtain ⟨r37, rfl, kr36⟩ := (show ∃ r : Nat, v39 = .ref r ∧ T r = some 342 from hv39)
          refine lv_iload hx hb dMH_sign_145 (lv_at hl 0 rfl) ?_
          refine nw_aald3 hx hb hK hO kr36 (k := 342) (b := 343) rfl hP (by omega) (by omega) dMH_sign_147 (fun r38 kr37 => ?_)
          have hn23 : nsp (343 + i22) = (0, 256, []) := rows_ok 343 7 (by decide) _ (by omega)
          refine lv_iconst (v := nI 1) hx hb dMH_sign_148 (by decide) ?_
          refine lv_iconst (v := nI 0) hx hb dMH_sign_149 (by decide) ?_
          refine mp_v (cx := []) (wr := []) hP hD hS hA [] [] rfl rfl rfl (by decide) (va_runV (As := [.ref r36, .ref r38, .int (nI 1), .int (nI 0)]) (rest := []) F (N_MR_forth_8_0 l g _ T s33 pl hO hU r34 r36 r38 (327 + i22) (343 + i22) kr33 kr35 hn22 kr37 hn23) (cwV 4 hts (wg_app (wg_c kw_1729 (wg_c kw_1669 (wg_c kw_1670 (wg_c kw_12 wg_n)))) kw_1671) rfl rfl rfl (by decide +kernel) ⟨by decide, by decide⟩) (pn_V (en_ok g) (ci := 10) (kn := 181) (fl := [(1, 8380417), (1, 256), (3, 182), (3, 183), (4, 8347681)]) hK hO kr33 rfl hP hD hS hA hEn [] rfl rfl rfl) rfl rfl hl.1 rfl (lv_room (Nat.le_of_ble_eq_true rfl)) dMH_sign_150 ⟨by omega, by omega⟩) (fun  u37 H locs hu37 hP hD hS => ?_)
          obtain ⟨s39, pl⟩ := u37
          obtain ⟨⟨eq37, hFc37, -⟩, hO⟩ := hu37
          have hO : okn g T s39 pl := hO
          have hP : va_P g.1 vcl ([] ++ pl) _ := hP
          have hD : va_D _ ([] ++ pl) := hD
          have hFc37 : frm (M_MR_forth_8_0 (343 + i22)) s33 s39 := hFc37
          replace hR := bnd_step hR eq37
          replace hE := bndP_step hE eq37
          have hF := frm_tr hF hFc37 (fun k hk => by unfold M_MR_forth_8_0 at hk; unfold M_MH_sign_1; omega)
          have hf189 : s39.1 225 23 = nI 1 := fc_F hf181 hFc37 (by unfold M_MR_forth_8_0; omega)
          have hf190 : s39.1 225 24 = nI 6 := fc_F hf182 hFc37 (by unfold M_MR_forth_8_0; omega)
          have hf191 : s39.1 225 25 = nI 5 := fc_F hf183 hFc37 (by unfold M_MR_forth_8_0; omega)
          have hf192 : s39.1 225 26 = nI 4 := fc_F hf184 hFc37 (by unfold M_MR_forth_8_0; omega)
          have hf193 : s39.1 225 27 = nI 524288 := fc_F hf185 hFc37 (by unfold M_MR_forth_8_0; omega)
          have hf194 : s39.1 225 28 = nI 261888 := fc_F hf186 hFc37 (by unfold M_MR_forth_8_0; omega)
          have hf195 : s39.1 225 29 = nI 196 := fc_F hf187 hFc37 (by unfold M_MR_forth_8_0; omega)
          have hf196 : s39.1 225 30 = nI 48 := fc_F hf188 hFc37 (by unfold M_MR_forth_8_0; omega)
          refine W.widen (k := 0) (n := 0) (by omega) (by omega) ?_
          refine mi_iinc (k := 0) (x := i22) (d := 1) (y := i22 + 1) (lv' := [(8, .int (nI (i22 + 1))), (7, .int (nI i21)), (0, .ref h0), (6, .ref to)]) hx hb dMH_sign_153 hl rfl (by decide) rfl (by decide) rfl (fun ls hl => ?_)
          refine lv_goto (tgt := 121) hx hb dMH_sign_156 (by decide) ?_
          exact ih22 (i22 + 1) s39 pl ls H locs (by omega) hF hf189 hf190 hf191 hf192 hf193 hf194 hf195 hf196 hE hR (lv_sub hl [0, 1, 2, 3] rfl) hO hP hD hS
      exact lp22 5 0 s32 pl ls _ _ (by omega) hF hf109 hf110 hf111 hf112 hf113 hf114 hf115 hf116 hE hR (lv_sub hl [0, 1, 2, 3] rfl) hO hP hD hS
  exact lp21 (201 - 1) 1 s30 pl ls _ _ (by omega) (by omega) hF hf85 hf86 hf87 hf88 hf89 hf90 hf91 hf92 hE hR (lv_sub hl [0, 1, 7] rfl) hO hP hD hS
def M_MH_sign_2 (pt : Nat) (k : Nat) : Prop := (227 ≤ k ∧ k < 291) ∨ (292 ≤ k ∧ k < 299) ∨ (300 ≤ k ∧ k < 308) ∨ (309 ≤ k ∧ k < 317) ∨ (327 ≤ k ∧ k < 334) ∨ (335 ≤ k ∧ k < 342) ∨ (343 ≤ k ∧ k < 350) ∨ (351 ≤ k ∧ k < 359) ∨ (360 ≤ k ∧ k < 368) ∨ k = 172 ∨ k = 225 ∨ k = 368 ∨ k = 369 ∨ k = 370 ∨ k = 373 ∨ k = 374 ∨ k = 375 ∨ k = 376 ∨ k = pt ∨ (0 : Nat) = 1
noncomputable def F_MH_sign_2_L2 (pt : Nat) (i21 : Nat) (kk : Nat → Sto → Int32 × Sto) : Nat → Nat → Sto → Int32 × Sto
  | 0, i23, s34 => bnd ((s34.1 225 24).toNatClampNeg) fun z23 => bnd (F_MH_marked_2 (nI 0) 376 s34) fun s35 => bnd (F_MH_ball_2 376 s35) fun s36 => bnd (F_MH_fits_2  s36) fun q21 => if (q21.1) = 0 then kk (i21 + 1) q21.2 else bnd (F_MH_written_2 pt q21.2) fun s37 => (nI i21, s37)
  | n23 + 1, i23, s34 => bnd ((s34.1 225 24).toNatClampNeg) fun z24 => bnd (F_MH_rowBy_2 i23 (351 + i23) s34) fun s38 => F_MH_sign_2_L2 pt i21 kk n23 (i23 + 1) s38
noncomputable def E_MH_sign_2_L2 (pt : Nat) (i21 : Nat) (ke : Nat → Sto → Prop) : Nat → Nat → Sto → Prop
  | 0, i23, s34 => bnd ((s34.1 225 24).toNatClampNeg) fun z23 => bnd (F_MH_marked_2 (nI 0) 376 s34) fun s35 => (E_MH_ball_2 376 s35) ∧ (bnd (F_MH_ball_2 376 s35) fun s36 => bnd (F_MH_fits_2  s36) fun q21 => if (q21.1) = 0 then ke (i21 + 1) q21.2 else bnd (F_MH_written_2 pt q21.2) fun s37 => True)
  | n23 + 1, i23, s34 => bnd ((s34.1 225 24).toNatClampNeg) fun z24 => bnd (F_MH_rowBy_2 i23 (351 + i23) s34) fun s38 => E_MH_sign_2_L2 pt i21 ke n23 (i23 + 1) s38
noncomputable def F_MH_sign_2_L1 (pt : Nat) (i21 : Nat) (kk : Nat → Sto → Int32 × Sto) : Nat → Nat → Sto → Int32 × Sto
  | 0, i22, s33 => bnd ((s33.1 225 25).toNatClampNeg) fun z22 => F_MH_sign_2_L2 pt i21 (kk) 8 0 s33
  | n22 + 1, i22, s33 => bnd ((s33.1 225 25).toNatClampNeg) fun z25 => bnd (F_MR_forth_8_0 (327 + i22) (343 + i22) s33) fun s39 => F_MH_sign_2_L1 pt i21 kk n22 (i22 + 1) s39
noncomputable def E_MH_sign_2_L1 (pt : Nat) (i21 : Nat) (ke : Nat → Sto → Prop) : Nat → Nat → Sto → Prop
  | 0, i22, s33 => bnd ((s33.1 225 25).toNatClampNeg) fun z22 => E_MH_sign_2_L2 pt i21 (ke) 8 0 s33
  | n22 + 1, i22, s33 => bnd ((s33.1 225 25).toNatClampNeg) fun z25 => bnd (F_MR_forth_8_0 (327 + i22) (343 + i22) s33) fun s39 => E_MH_sign_2_L1 pt i21 ke n22 (i22 + 1) s39
noncomputable def F_MH_sign_2_L0 (pt : Nat) : Nat → Nat → Sto → Int32 × Sto
  | 0, i21, s31 => (nI 0, s31)
  | n21 + 1, i21, s31 => bnd ((s31.1 225 25).toNatClampNeg) fun z21 => bnd (F_MH_mask_2 (nI ((i21 - 1) * 7)) s31) fun s32 => F_MH_sign_2_L1 pt i21 (F_MH_sign_2_L0 pt n21) 7 0 s32
noncomputable def E_MH_sign_2_L0 (pt : Nat) : Nat → Nat → Sto → Prop
  | 0, i21, s31 => True
  | n21 + 1, i21, s31 => bnd ((s31.1 225 25).toNatClampNeg) fun z21 => bnd (F_MH_mask_2 (nI ((i21 - 1) * 7)) s31) fun s32 => E_MH_sign_2_L1 pt i21 (E_MH_sign_2_L0 pt n21) 7 0 s32
noncomputable def F_MH_sign_2 (psk : Nat) (pb : Nat) (n : Nat) (cl_ : Int32) (ed : Nat) (pt : Nat) (s : Sto) : Int32 × Sto := bnd (F_MH_as_2  s) fun s21 => bnd (F_MH_readHidden_2 psk s21) fun s22 => bnd (F_MH_expand_2 psk 4896 s22) fun s23 => bnd (F_MH_message_2 psk 4896 64 pb n 32 cl_ ed s23) fun s24 => bnd (F_MS_shake  s24) fun s25 => bnd (F_MS_puts psk 4896 32 32 s25) fun s26 => bnd (F_MS_puts pb n 0 32 s26) fun s27 => bnd (F_MS_puts 373 64 0 64 s27) fun s28 => bnd (F_MS_end  s28) fun s29 => bnd (F_MS_take 374 64 0 64 s29) fun s30 => F_MH_sign_2_L0 pt (201 - 1) 1 s30
noncomputable def E_MH_sign_2 (psk : Nat) (pb : Nat) (n : Nat) (cl_ : Int32) (ed : Nat) (pt : Nat) (s : Sto) : Prop := bnd (F_MH_as_2  s) fun s21 => bnd (F_MH_readHidden_2 psk s21) fun s22 => (E_MH_expand_2 psk 4896 s22) ∧ (bnd (F_MH_expand_2 psk 4896 s22) fun s23 => bnd (F_MH_message_2 psk 4896 64 pb n 32 cl_ ed s23) fun s24 => bnd (F_MS_shake  s24) fun s25 => bnd (F_MS_puts psk 4896 32 32 s25) fun s26 => bnd (F_MS_puts pb n 0 32 s26) fun s27 => bnd (F_MS_puts 373 64 0 64 s27) fun s28 => bnd (F_MS_end  s28) fun s29 => bnd (F_MS_take 374 64 0 64 s29) fun s30 => E_MH_sign_2_L0 pt (201 - 1) 1 s30)
set_option maxHeartbeats 8000000 in
set_option maxRecDepth 100000 in
theorem N_MH_sign_2 (l : Launch) (g : Gd) (sz : Nat) (T : TyN) (s : Sto) (pl : va_W) (hO : okn g T s pl) (hU : inj T) (h0 sk b to : Nat) (psk : Nat) (pb : Nat) (n : Nat) (cl_ : Int32) (ed : Nat) (pt : Nat) (k_h0 : T h0 = some 225) (k_sk : T sk = some psk) (n_sk : nsp psk = (1, 4896, [])) (k_b : T b = some pb) (n_b : nsp pb = (1, n, [])) (k_to : T to = some pt) (n_to : nsp pt = (1, 8192, [])) (h1 : 32 ≤ ed) (h3 : ed ≤ n) (h2 : n < 65536) (hE : E_MH_sign_2 psk pb n cl_ ed pt s)  : Met l y_MH_sign w_MH_sign ({ frames := 5, cells := 0, slots := 0, locals := 116 } : Room) (va_Pc [.ref h0, .int (nI 2), .ref sk, .ref b, .int cl_, .int (nI ed), .ref to] (pr (en g) g.1 vcl sz ([] ++ pl))) (va_Qi (fun (r : Int32) (u : (Int32 × Sto) × va_W) => (u.1 = F_MH_sign_2 psk pb n cl_ ed pt s ∧ r = u.1.1 ∧ frm (M_MH_sign_2 pt) s u.1.2 ∧ True) ∧ okn g T u.1.2 u.2) (po g.1 vcl (va_A ([] ++ pl) sz) (fun (u : (Int32 × Sto) × va_W) => [] ++ u.2)) (va_A ([] ++ pl) sz)) 0 0 (va_A ([] ++ pl) sz) := by
  refine mc_entry (cc := c_MH_sign) (maxL := 9) (ret := (some .int)) (by decide) rfl (Nat.le_of_ble_eq_true rfl) ?_
  intro p e s0 m args below meth c ls F hr hlk hnm hsz hP hD hEn hA hl
  obtain ⟨hx, hb, hml, hown, hts⟩ := id F
  have hK := hEn.1
  generalize va_A ([] ++ pl) sz = A at hD hEn hA ⊢
  have hS : va_S A s0.heap s0.heap [] := va_S.rf
  have hl : lv_has ls 9 [(0, .ref h0), (1, .int (nI 2)), (2, .ref sk), (3, .ref b), (4, .int cl_), (5, .int (nI ed)), (6, .ref to)] := hl
  have hR : F_MH_sign_2 psk pb n cl_ ed pt s = F_MH_sign_2 psk pb n cl_ ed pt s := rfl
  have hF : frm (M_MH_sign_2 pt) s s := frm_rf
  have ne_172_psk : 172 ≠ psk := nsp_ne (p := 172) rfl n_sk (show (5 : Nat) ≠ 1 by decide)
  have ne_172_pb : 172 ≠ pb := nsp_ne (p := 172) rfl n_b (show (5 : Nat) ≠ 1 by decide)
  have ne_172_pt : 172 ≠ pt := nsp_ne (p := 172) rfl n_to (show (5 : Nat) ≠ 1 by decide)
  have ne_225_psk : 225 ≠ psk := nsp_ne (p := 225) rfl n_sk (show (5 : Nat) ≠ 1 by decide)
  have ne_225_pb : 225 ≠ pb := nsp_ne (p := 225) rfl n_b (show (5 : Nat) ≠ 1 by decide)
  have ne_225_pt : 225 ≠ pt := nsp_ne (p := 225) rfl n_to (show (5 : Nat) ≠ 1 by decide)
  refine lv_aload_n hx hb dMH_sign_0 rfl (lv_at hl 0 rfl) ?_
  refine lv_iload_n hx hb dMH_sign_1 rfl (lv_at hl 1 rfl) ?_
  refine mp_v (cx := []) (wr := []) hP hD hS hA [] [] rfl rfl rfl (by decide) (va_runV (As := [.int (nI 2)]) (rest := []) F (N_MH_as_2 l g _ T s pl hO hU h0 k_h0) (cwV 1 hts (wg_app (wg_c kw_1698 (wg_c kw_1700 (wg_c ks_60 (wg_c kw_13 wg_n)))) kw_1701) rfl rfl rfl (by decide +kernel) ⟨by decide, by decide⟩) (pn_V (en_ok g) (ci := 12) (kn := 225) (fl := [(3, 172), (3, 181), (3, 226), (3, 291), (3, 299), (3, 308), (3, 317), (3, 326), (3, 334), (3, 342), (3, 350), (3, 359), (3, 368), (3, 369), (3, 370), (3, 371), (3, 372), (3, 373), (3, 374), (3, 375), (3, 376), (3, 377), (3, 378), (0, 0), (0, 0), (0, 0), (0, 0), (0, 0), (0, 0), (0, 0), (0, 0)]) hK hO k_h0 rfl hP hD hS hA hEn [] rfl rfl rfl) rfl rfl hl.1 rfl (lv_room (Nat.le_of_ble_eq_true rfl)) dMH_sign_2 ⟨by omega, by omega⟩) (fun  u21 H locs hu21 hP hD hS => ?_)
  obtain ⟨s21, pl⟩ := u21
  obtain ⟨⟨eq21, hFc21, ⟨x21, hx_21, hb_21⟩, ⟨x22, hx_22, hb_22⟩, ⟨x23, hx_23, hb_23⟩, ⟨x24, hx_24, hb_24⟩, ⟨x25, hx_25, hb_25⟩, ⟨x26, hx_26, hb_26⟩, ⟨x27, hx_27, hb_27⟩, ⟨x28, hx_28, hb_28⟩, -⟩, hO⟩ := hu21
  have hO : okn g T s21 pl := hO
  have hP : va_P g.1 vcl ([] ++ pl) _ := hP
  have hD : va_D _ ([] ++ pl) := hD
  have hFc21 : frm (M_MH_as_2) s s21 := hFc21
  have hb_21 : x21 = 2 := hb_21
  have hb_22 : x22 = 8 := hb_22
  have hb_23 : x23 = 7 := hb_23
  have hb_24 : x24 = 2 := hb_24
  have hb_25 : x25 = 524288 := hb_25
  have hb_26 : x26 = 261888 := hb_26
  have hb_27 : x27 = 120 := hb_27
  have hb_28 : x28 = 64 := hb_28
  replace hR := bnd_step hR eq21
  replace hE := bndP_step hE eq21
  have hF := frm_tr hF hFc21 (fun k hk => by unfold M_MH_as_2 at hk; unfold M_MH_sign_2; omega)
  subst hb_21
  subst hb_22
  subst hb_23
  subst hb_24
  subst hb_25
  subst hb_26
  subst hb_27
  subst hb_28
  refine W.widen (k := 0) (n := 0) (by omega) (by omega) ?_
  refine lv_aload_n hx hb dMH_sign_5 rfl (lv_at hl 0 rfl) ?_
  refine lv_aload_n hx hb dMH_sign_6 rfl (lv_at hl 2 rfl) ?_
  refine mp_v (cx := []) (wr := []) hP hD hS hA [] [] rfl rfl rfl (by decide) (va_runV (As := [.ref sk]) (rest := []) F (N_MH_readHidden_2 l g _ T s21 pl hO hU h0 sk psk k_h0 k_sk n_sk hx_21 hx_22 hx_23 hx_24 hx_25 hx_26 hx_27 hx_28) (cwV 1 hts (wg_app (wg_c kw_1856 (wg_c kw_1858 (wg_c ks_70 (wg_c kw_13 wg_n)))) kw_1859) rfl rfl rfl (by decide +kernel) ⟨by decide, by decide⟩) (pn_V (en_ok g) (ci := 12) (kn := 225) (fl := [(3, 172), (3, 181), (3, 226), (3, 291), (3, 299), (3, 308), (3, 317), (3, 326), (3, 334), (3, 342), (3, 350), (3, 359), (3, 368), (3, 369), (3, 370), (3, 371), (3, 372), (3, 373), (3, 374), (3, 375), (3, 376), (3, 377), (3, 378), (0, 0), (0, 0), (0, 0), (0, 0), (0, 0), (0, 0), (0, 0), (0, 0)]) hK hO k_h0 rfl hP hD hS hA hEn [] rfl rfl rfl) rfl rfl hl.1 rfl (lv_room (Nat.le_of_ble_eq_true rfl)) dMH_sign_7 ⟨by omega, by omega⟩) (fun  u22 H locs hu22 hP hD hS => ?_)
  obtain ⟨s22, pl⟩ := u22
  obtain ⟨⟨eq22, hFc22, -⟩, hO⟩ := hu22
  have hO : okn g T s22 pl := hO
  have hP : va_P g.1 vcl ([] ++ pl) _ := hP
  have hD : va_D _ ([] ++ pl) := hD
  have hFc22 : frm (M_MH_readHidden_2) s21 s22 := hFc22
  replace hR := bnd_step hR eq22
  replace hE := bndP_step hE eq22
  have hF := frm_tr hF hFc22 (fun k hk => by unfold M_MH_readHidden_2 at hk; unfold M_MH_sign_2; omega)
  have hf21 : s22.1 225 23 = nI 2 := fc_F hx_21 hFc22 (by unfold M_MH_readHidden_2; omega)
  have hf22 : s22.1 225 24 = nI 8 := fc_F hx_22 hFc22 (by unfold M_MH_readHidden_2; omega)
  have hf23 : s22.1 225 25 = nI 7 := fc_F hx_23 hFc22 (by unfold M_MH_readHidden_2; omega)
  have hf24 : s22.1 225 26 = nI 2 := fc_F hx_24 hFc22 (by unfold M_MH_readHidden_2; omega)
  have hf25 : s22.1 225 27 = nI 524288 := fc_F hx_25 hFc22 (by unfold M_MH_readHidden_2; omega)
  have hf26 : s22.1 225 28 = nI 261888 := fc_F hx_26 hFc22 (by unfold M_MH_readHidden_2; omega)
  have hf27 : s22.1 225 29 = nI 120 := fc_F hx_27 hFc22 (by unfold M_MH_readHidden_2; omega)
  have hf28 : s22.1 225 30 = nI 64 := fc_F hx_28 hFc22 (by unfold M_MH_readHidden_2; omega)
  refine W.widen (k := 0) (n := 0) (by omega) (by omega) ?_
  refine lv_aload_n hx hb dMH_sign_10 rfl (lv_at hl 0 rfl) ?_
  refine lv_aload_n hx hb dMH_sign_11 rfl (lv_at hl 2 rfl) ?_
  refine mp_v (cx := []) (wr := []) hP hD hS hA [] [] rfl rfl rfl (by decide) (va_runV (As := [.ref sk]) (rest := []) F (N_MH_expand_2 l g _ T s22 pl hO hU h0 sk psk 4896 k_h0 k_sk n_sk hf21 hf22 hf23 hf24 hf25 hf26 hf27 hf28 (by omega) (by omega) hE.1) (cwV 1 hts (wg_app (wg_c kw_1719 (wg_c kw_1721 (wg_c ks_61 (wg_c kw_13 wg_n)))) kw_1722) rfl rfl rfl (by decide +kernel) ⟨by decide, by decide⟩) (pn_V (en_ok g) (ci := 12) (kn := 225) (fl := [(3, 172), (3, 181), (3, 226), (3, 291), (3, 299), (3, 308), (3, 317), (3, 326), (3, 334), (3, 342), (3, 350), (3, 359), (3, 368), (3, 369), (3, 370), (3, 371), (3, 372), (3, 373), (3, 374), (3, 375), (3, 376), (3, 377), (3, 378), (0, 0), (0, 0), (0, 0), (0, 0), (0, 0), (0, 0), (0, 0), (0, 0)]) hK hO k_h0 rfl hP hD hS hA hEn [] rfl rfl rfl) rfl rfl hl.1 rfl (lv_room (Nat.le_of_ble_eq_true rfl)) dMH_sign_12 ⟨by omega, by omega⟩) (fun  u23 H locs hu23 hP hD hS => ?_)
  obtain ⟨s23, pl⟩ := u23
  obtain ⟨⟨eq23, hFc23, -⟩, hO⟩ := hu23
  have hO : okn g T s23 pl := hO
  have hP : va_P g.1 vcl ([] ++ pl) _ := hP
  have hD : va_D _ ([] ++ pl) := hD
  have hFc23 : frm (M_MH_expand_2) s22 s23 := hFc23
  replace hE := hE.2
  replace hR := bnd_step hR eq23
  replace hE := bndP_step hE eq23
  have hF := frm_tr hF hFc23 (fun k hk => by unfold M_MH_expand_2 at hk; unfold M_MH_sign_2; omega)
  have hf29 : s23.1 225 23 = nI 2 := fc_F hf21 hFc23 (by unfold M_MH_expand_2; omega)
  have hf30 : s23.1 225 24 = nI 8 := fc_F hf22 hFc23 (by unfold M_MH_expand_2; omega)
  have hf31 : s23.1 225 25 = nI 7 := fc_F hf23 hFc23 (by unfold M_MH_expand_2; omega)
  have hf32 : s23.1 225 26 = nI 2 := fc_F hf24 hFc23 (by unfold M_MH_expand_2; omega)
  have hf33 : s23.1 225 27 = nI 524288 := fc_F hf25 hFc23 (by unfold M_MH_expand_2; omega)
  have hf34 : s23.1 225 28 = nI 261888 := fc_F hf26 hFc23 (by unfold M_MH_expand_2; omega)
  have hf35 : s23.1 225 29 = nI 120 := fc_F hf27 hFc23 (by unfold M_MH_expand_2; omega)
  have hf36 : s23.1 225 30 = nI 64 := fc_F hf28 hFc23 (by unfold M_MH_expand_2; omega)
  refine W.widen (k := 0) (n := 0) (by omega) (by omega) ?_
  refine lv_aload_n hx hb dMH_sign_15 rfl (lv_at hl 0 rfl) ?_
  refine lv_aload_n hx hb dMH_sign_16 rfl (lv_at hl 2 rfl) ?_
  refine lv_bipush (v := nI 64) hx hb dMH_sign_17 (by decide) ?_
  refine lv_aload_n hx hb dMH_sign_19 rfl (lv_at hl 3 rfl) ?_
  refine lv_bipush (v := nI 32) hx hb dMH_sign_20 (by decide) ?_
  refine lv_iload hx hb dMH_sign_22 (lv_at hl 4 rfl) ?_
  refine lv_iload hx hb dMH_sign_24 (lv_at hl 5 rfl) ?_
  refine mp_v (cx := []) (wr := []) hP hD hS hA [] [] rfl rfl rfl (by decide) (va_runV (As := [.ref sk, .int (nI 64), .ref b, .int (nI 32), .int cl_, .int (nI ed)]) (rest := []) F (N_MH_message_2 l g _ T s23 pl hO hU h0 sk b psk 4896 64 pb n 32 cl_ ed k_h0 k_sk n_sk k_b n_b hf29 hf30 hf31 hf32 hf33 hf34 hf35 hf36 (by omega) (by omega) (by omega) (by omega) (by omega)) (cwV 6 hts (wg_app (wg_c kw_1864 (wg_c kw_1866 (wg_c ks_71 (wg_c kw_13 wg_n)))) kw_1867) rfl rfl rfl (by decide +kernel) ⟨by decide, by decide⟩) (pn_V (en_ok g) (ci := 12) (kn := 225) (fl := [(3, 172), (3, 181), (3, 226), (3, 291), (3, 299), (3, 308), (3, 317), (3, 326), (3, 334), (3, 342), (3, 350), (3, 359), (3, 368), (3, 369), (3, 370), (3, 371), (3, 372), (3, 373), (3, 374), (3, 375), (3, 376), (3, 377), (3, 378), (0, 0), (0, 0), (0, 0), (0, 0), (0, 0), (0, 0), (0, 0), (0, 0)]) hK hO k_h0 rfl hP hD hS hA hEn [] rfl rfl rfl) rfl rfl hl.1 rfl (lv_room (Nat.le_of_ble_eq_true rfl)) dMH_sign_26 ⟨by omega, by omega⟩) (fun  u24 H locs hu24 hP hD hS => ?_)
  obtain ⟨s24, pl⟩ := u24
  obtain ⟨⟨eq24, hFc24, -⟩, hO⟩ := hu24
  have hO : okn g T s24 pl := hO
  have hP : va_P g.1 vcl ([] ++ pl) _ := hP
  have hD : va_D _ ([] ++ pl) := hD
  have hFc24 : frm (M_MH_message_2) s23 s24 := hFc24
  replace hR := bnd_step hR eq24
  replace hE := bndP_step hE eq24
  have hF := frm_tr hF hFc24 (fun k hk => by unfold M_MH_message_2 at hk; unfold M_MH_sign_2; omega)
  have hf37 : s24.1 225 23 = nI 2 := fc_F hf29 hFc24 (by unfold M_MH_message_2; omega)
  have hf38 : s24.1 225 24 = nI 8 := fc_F hf30 hFc24 (by unfold M_MH_message_2; omega)
  have hf39 : s24.1 225 25 = nI 7 := fc_F hf31 hFc24 (by unfold M_MH_message_2; omega)
  have hf40 : s24.1 225 26 = nI 2 := fc_F hf32 hFc24 (by unfold M_MH_message_2; omega)
  have hf41 : s24.1 225 27 = nI 524288 := fc_F hf33 hFc24 (by unfold M_MH_message_2; omega)
  have hf42 : s24.1 225 28 = nI 261888 := fc_F hf34 hFc24 (by unfold M_MH_message_2; omega)
  have hf43 : s24.1 225 29 = nI 120 := fc_F hf35 hFc24 (by unfold M_MH_message_2; omega)
  have hf44 : s24.1 225 30 = nI 64 := fc_F hf36 hFc24 (by unfold M_MH_message_2; omega)
  refine W.widen (k := 0) (n := 0) (by omega) (by omega) ?_
  refine lv_aload_n hx hb dMH_sign_29 rfl (lv_at hl 0 rfl) ?_
  refine nw_get (C := "LatticeKeysModel$Hands") (TT := T_MH) (N := 31) hx hb hts (wg_ft i_MH) hown hK hO k_h0 (kn := 225) (ci := 12) (fl := [(3, 172), (3, 181), (3, 226), (3, 291), (3, 299), (3, 308), (3, 317), (3, 326), (3, 334), (3, 342), (3, 350), (3, 359), (3, 368), (3, 369), (3, 370), (3, 371), (3, 372), (3, 373), (3, 374), (3, 375), (3, 376), (3, 377), (3, 378), (0, 0), (0, 0), (0, 0), (0, 0), (0, 0), (0, 0), (0, 0), (0, 0)]) rfl hP rfl 0 (by decide) (hts _ (wg_t kw_1432)) (fun _ h9 => h9) (cd := (3, 172)) rfl dMH_sign_30 (fun v21 hv21 => ?_)
  obtain ⟨r21, rfl, kr21⟩ := (show ∃ r : Nat, v21 = .ref r ∧ T r = some 172 from hv21)
  refine mp_v (cx := []) (wr := []) hP hD hS hA [] [] rfl rfl rfl (by decide) (va_runV (As := []) (rest := []) F (N_MS_shake l g _ T s24 pl hO hU r21 kr21) (cwV 0 hts (wg_app (wg_c kw_1714 (wg_c kw_1657 (wg_c kw_1658 (wg_c kw_10 wg_n)))) kw_1659) rfl rfl rfl (by decide +kernel) ⟨by decide, by decide⟩) (pn_V (en_ok g) (ci := 9) (kn := 172) (fl := [(3, 173), (3, 174), (3, 175), (3, 176), (3, 177), (0, 0), (0, 0), (0, 0)]) hK hO kr21 rfl hP hD hS hA hEn [] rfl rfl rfl) rfl rfl hl.1 rfl (lv_room (Nat.le_of_ble_eq_true rfl)) dMH_sign_33 ⟨by omega, by omega⟩) (fun  u25 H locs hu25 hP hD hS => ?_)
  obtain ⟨s25, pl⟩ := u25
  obtain ⟨⟨eq25, hFc25, ⟨x33, hx_33, hb_33⟩, ⟨x34, hx_34, hb_34⟩, -⟩, hO⟩ := hu25
  have hO : okn g T s25 pl := hO
  have hP : va_P g.1 vcl ([] ++ pl) _ := hP
  have hD : va_D _ ([] ++ pl) := hD
  have hFc25 : frm (M_MS_shake) s24 s25 := hFc25
  have hb_33 : x33 = 0 := hb_33
  have hb_34 : x34 = 136 := hb_34
  replace hR := bnd_step hR eq25
  replace hE := bndP_step hE eq25
  have hF := frm_tr hF hFc25 (fun k hk => by unfold M_MS_shake at hk; unfold M_MH_sign_2; omega)
  have hf45 : s25.1 225 23 = nI 2 := fc_F hf37 hFc25 (by unfold M_MS_shake; omega)
  have hf46 : s25.1 225 24 = nI 8 := fc_F hf38 hFc25 (by unfold M_MS_shake; omega)
  have hf47 : s25.1 225 25 = nI 7 := fc_F hf39 hFc25 (by unfold M_MS_shake; omega)
  have hf48 : s25.1 225 26 = nI 2 := fc_F hf40 hFc25 (by unfold M_MS_shake; omega)
  have hf49 : s25.1 225 27 = nI 524288 := fc_F hf41 hFc25 (by unfold M_MS_shake; omega)
  have hf50 : s25.1 225 28 = nI 261888 := fc_F hf42 hFc25 (by unfold M_MS_shake; omega)
  have hf51 : s25.1 225 29 = nI 120 := fc_F hf43 hFc25 (by unfold M_MS_shake; omega)
  have hf52 : s25.1 225 30 = nI 64 := fc_F hf44 hFc25 (by unfold M_MS_shake; omega)
  refine W.widen (k := 0) (n := 0) (by omega) (by omega) ?_
  refine lv_aload_n hx hb dMH_sign_36 rfl (lv_at hl 0 rfl) ?_
  refine nw_get (C := "LatticeKeysModel$Hands") (TT := T_MH) (N := 31) hx hb hts (wg_ft i_MH) hown hK hO k_h0 (kn := 225) (ci := 12) (fl := [(3, 172), (3, 181), (3, 226), (3, 291), (3, 299), (3, 308), (3, 317), (3, 326), (3, 334), (3, 342), (3, 350), (3, 359), (3, 368), (3, 369), (3, 370), (3, 371), (3, 372), (3, 373), (3, 374), (3, 375), (3, 376), (3, 377), (3, 378), (0, 0), (0, 0), (0, 0), (0, 0), (0, 0), (0, 0), (0, 0), (0, 0)]) rfl hP rfl 0 (by decide) (hts _ (wg_t kw_1432)) (fun _ h9 => h9) (cd := (3, 172)) rfl dMH_sign_37 (fun v22 hv22 => ?_)
  obtain ⟨r22, rfl, kr22⟩ := (show ∃ r : Nat, v22 = .ref r ∧ T r = some 172 from hv22)
  refine lv_aload_n hx hb dMH_sign_40 rfl (lv_at hl 2 rfl) ?_
  refine lv_bipush (v := nI 32) hx hb dMH_sign_41 (by decide) ?_
  refine lv_bipush (v := nI 32) hx hb dMH_sign_43 (by decide) ?_
  refine mp_v (cx := []) (wr := []) hP hD hS hA [] [] rfl rfl rfl (by decide) (va_runV (As := [.ref sk, .int (nI 32), .int (nI 32)]) (rest := []) F (N_MS_puts l g _ T s25 pl hO hU r22 sk psk 4896 32 32 x33 x34 kr22 k_sk n_sk hx_33 hx_34 (by omega) (by omega) (by omega) (by omega)) (cwV 3 hts (wg_app (wg_c kw_1715 (wg_c kw_1608 (wg_c kw_1609 (wg_c kw_10 wg_n)))) kw_1610) rfl rfl rfl (by decide +kernel) ⟨by decide, by decide⟩) (pn_V (en_ok g) (ci := 9) (kn := 172) (fl := [(3, 173), (3, 174), (3, 175), (3, 176), (3, 177), (0, 0), (0, 0), (0, 0)]) hK hO kr22 rfl hP hD hS hA hEn [] rfl rfl rfl) rfl rfl hl.1 rfl (lv_room (Nat.le_of_ble_eq_true rfl)) dMH_sign_45 ⟨by omega, by omega⟩) (fun  u26 H locs hu26 hP hD hS => ?_)
  obtain ⟨s26, pl⟩ := u26
  obtain ⟨⟨eq26, hFc26, ⟨x36, hx_36, hb_36⟩, ⟨x37, hx_37, hb_37⟩, -⟩, hO⟩ := hu26
  have hO : okn g T s26 pl := hO
  have hP : va_P g.1 vcl ([] ++ pl) _ := hP
  have hD : va_D _ ([] ++ pl) := hD
  have hFc26 : frm (M_MS_puts) s25 s26 := hFc26
  have hb_36 : x36 < x34 := hb_36
  have hb_37 : x37 = x34 := hb_37
  replace hR := bnd_step hR eq26
  replace hE := bndP_step hE eq26
  have hF := frm_tr hF hFc26 (fun k hk => by unfold M_MS_puts at hk; unfold M_MH_sign_2; omega)
  have hf53 : s26.1 225 23 = nI 2 := fc_F hf45 hFc26 (by unfold M_MS_puts; omega)
  have hf54 : s26.1 225 24 = nI 8 := fc_F hf46 hFc26 (by unfold M_MS_puts; omega)
  have hf55 : s26.1 225 25 = nI 7 := fc_F hf47 hFc26 (by unfold M_MS_puts; omega)
  have hf56 : s26.1 225 26 = nI 2 := fc_F hf48 hFc26 (by unfold M_MS_puts; omega)
  have hf57 : s26.1 225 27 = nI 524288 := fc_F hf49 hFc26 (by unfold M_MS_puts; omega)
  have hf58 : s26.1 225 28 = nI 261888 := fc_F hf50 hFc26 (by unfold M_MS_puts; omega)
  have hf59 : s26.1 225 29 = nI 120 := fc_F hf51 hFc26 (by unfold M_MS_puts; omega)
  have hf60 : s26.1 225 30 = nI 64 := fc_F hf52 hFc26 (by unfold M_MS_puts; omega)
  refine W.widen (k := 0) (n := 0) (by omega) (by omega) ?_
  refine lv_aload_n hx hb dMH_sign_48 rfl (lv_at hl 0 rfl) ?_
  refine nw_get (C := "LatticeKeysModel$Hands") (TT := T_MH) (N := 31) hx hb hts (wg_ft i_MH) hown hK hO k_h0 (kn := 225) (ci := 12) (fl := [(3, 172), (3, 181), (3, 226), (3, 291), (3, 299), (3, 308), (3, 317), (3, 326), (3, 334), (3, 342), (3, 350), (3, 359), (3, 368), (3, 369), (3, 370), (3, 371), (3, 372), (3, 373), (3, 374), (3, 375), (3, 376), (3, 377), (3, 378), (0, 0), (0, 0), (0, 0), (0, 0), (0, 0), (0, 0), (0, 0), (0, 0)]) rfl hP rfl 0 (by decide) (hts _ (wg_t kw_1432)) (fun _ h9 => h9) (cd := (3, 172)) rfl dMH_sign_49 (fun v23 hv23 => ?_)
  obtain ⟨r23, rfl, kr23⟩ := (show ∃ r : Nat, v23 = .ref r ∧ T r = some 172 from hv23)
  refine lv_aload_n hx hb dMH_sign_52 rfl (lv_at hl 3 rfl) ?_
  refine lv_iconst (v := nI 0) hx hb dMH_sign_53 (by decide) ?_
  refine lv_bipush (v := nI 32) hx hb dMH_sign_54 (by decide) ?_
  refine mp_v (cx := []) (wr := []) hP hD hS hA [] [] rfl rfl rfl (by decide) (va_runV (As := [.ref b, .int (nI 0), .int (nI 32)]) (rest := []) F (N_MS_puts l g _ T s26 pl hO hU r23 b pb n 0 32 x36 x37 kr23 k_b n_b hx_36 hx_37 (by omega) (by omega) (by omega) (by omega)) (cwV 3 hts (wg_app (wg_c kw_1715 (wg_c kw_1608 (wg_c kw_1609 (wg_c kw_10 wg_n)))) kw_1610) rfl rfl rfl (by decide +kernel) ⟨by decide, by decide⟩) (pn_V (en_ok g) (ci := 9) (kn := 172) (fl := [(3, 173), (3, 174), (3, 175), (3, 176), (3, 177), (0, 0), (0, 0), (0, 0)]) hK hO kr23 rfl hP hD hS hA hEn [] rfl rfl rfl) rfl rfl hl.1 rfl (lv_room (Nat.le_of_ble_eq_true rfl)) dMH_sign_56 ⟨by omega, by omega⟩) (fun  u27 H locs hu27 hP hD hS => ?_)
  obtain ⟨s27, pl⟩ := u27
  obtain ⟨⟨eq27, hFc27, ⟨x39, hx_39, hb_39⟩, ⟨x40, hx_40, hb_40⟩, -⟩, hO⟩ := hu27
  have hO : okn g T s27 pl := hO
  have hP : va_P g.1 vcl ([] ++ pl) _ := hP
  have hD : va_D _ ([] ++ pl) := hD
  have hFc27 : frm (M_MS_puts) s26 s27 := hFc27
  have hb_39 : x39 < x37 := hb_39
  have hb_40 : x40 = x37 := hb_40
  replace hR := bnd_step hR eq27
  replace hE := bndP_step hE eq27
  have hF := frm_tr hF hFc27 (fun k hk => by unfold M_MS_puts at hk; unfold M_MH_sign_2; omega)
  have hf61 : s27.1 225 23 = nI 2 := fc_F hf53 hFc27 (by unfold M_MS_puts; omega)
  have hf62 : s27.1 225 24 = nI 8 := fc_F hf54 hFc27 (by unfold M_MS_puts; omega)
  have hf63 : s27.1 225 25 = nI 7 := fc_F hf55 hFc27 (by unfold M_MS_puts; omega)
  have hf64 : s27.1 225 26 = nI 2 := fc_F hf56 hFc27 (by unfold M_MS_puts; omega)
  have hf65 : s27.1 225 27 = nI 524288 := fc_F hf57 hFc27 (by unfold M_MS_puts; omega)
  have hf66 : s27.1 225 28 = nI 261888 := fc_F hf58 hFc27 (by unfold M_MS_puts; omega)
  have hf67 : s27.1 225 29 = nI 120 := fc_F hf59 hFc27 (by unfold M_MS_puts; omega)
  have hf68 : s27.1 225 30 = nI 64 := fc_F hf60 hFc27 (by unfold M_MS_puts; omega)
  refine W.widen (k := 0) (n := 0) (by omega) (by omega) ?_
  refine lv_aload_n hx hb dMH_sign_59 rfl (lv_at hl 0 rfl) ?_
  refine nw_get (C := "LatticeKeysModel$Hands") (TT := T_MH) (N := 31) hx hb hts (wg_ft i_MH) hown hK hO k_h0 (kn := 225) (ci := 12) (fl := [(3, 172), (3, 181), (3, 226), (3, 291), (3, 299), (3, 308), (3, 317), (3, 326), (3, 334), (3, 342), (3, 350), (3, 359), (3, 368), (3, 369), (3, 370), (3, 371), (3, 372), (3, 373), (3, 374), (3, 375), (3, 376), (3, 377), (3, 378), (0, 0), (0, 0), (0, 0), (0, 0), (0, 0), (0, 0), (0, 0), (0, 0)]) rfl hP rfl 0 (by decide) (hts _ (wg_t kw_1432)) (fun _ h9 => h9) (cd := (3, 172)) rfl dMH_sign_60 (fun v24 hv24 => ?_)
  obtain ⟨r24, rfl, kr24⟩ := (show ∃ r : Nat, v24 = .ref r ∧ T r = some 172 from hv24)
  refine lv_aload_n hx hb dMH_sign_63 rfl (lv_at hl 0 rfl) ?_
  refine nw_get (C := "LatticeKeysModel$Hands") (TT := T_MH) (N := 31) hx hb hts (wg_ft i_MH) hown hK hO k_h0 (kn := 225) (ci := 12) (fl := [(3, 172), (3, 181), (3, 226), (3, 291), (3, 299), (3, 308), (3, 317), (3, 326), (3, 334), (3, 342), (3, 350), (3, 359), (3, 368), (3, 369), (3, 370), (3, 371), (3, 372), (3, 373), (3, 374), (3, 375), (3, 376), (3, 377), (3, 378), (0, 0), (0, 0), (0, 0), (0, 0), (0, 0), (0, 0), (0, 0), (0, 0)]) rfl hP rfl 17 (by decide) (hts _ (wg_t kw_1449)) (fun _ h9 => h9) (cd := (3, 373)) rfl dMH_sign_64 (fun v25 hv25 => ?_)
  obtain ⟨r25, rfl, kr25⟩ := (show ∃ r : Nat, v25 = .ref r ∧ T r = some 373 from hv25)
  refine lv_iconst (v := nI 0) hx hb dMH_sign_67 (by decide) ?_
  refine lv_bipush (v := nI 64) hx hb dMH_sign_68 (by decide) ?_
  refine mp_v (cx := []) (wr := []) hP hD hS hA [] [] rfl rfl rfl (by decide) (va_runV (As := [.ref r25, .int (nI 0), .int (nI 64)]) (rest := []) F (N_MS_puts l g _ T s27 pl hO hU r24 r25 373 64 0 64 x39 x40 kr24 kr25 rfl hx_39 hx_40 (by omega) (by omega) (by omega) (by omega)) (cwV 3 hts (wg_app (wg_c kw_1715 (wg_c kw_1608 (wg_c kw_1609 (wg_c kw_10 wg_n)))) kw_1610) rfl rfl rfl (by decide +kernel) ⟨by decide, by decide⟩) (pn_V (en_ok g) (ci := 9) (kn := 172) (fl := [(3, 173), (3, 174), (3, 175), (3, 176), (3, 177), (0, 0), (0, 0), (0, 0)]) hK hO kr24 rfl hP hD hS hA hEn [] rfl rfl rfl) rfl rfl hl.1 rfl (lv_room (Nat.le_of_ble_eq_true rfl)) dMH_sign_70 ⟨by omega, by omega⟩) (fun  u28 H locs hu28 hP hD hS => ?_)
  obtain ⟨s28, pl⟩ := u28
  obtain ⟨⟨eq28, hFc28, ⟨x42, hx_42, hb_42⟩, ⟨x43, hx_43, hb_43⟩, -⟩, hO⟩ := hu28
  have hO : okn g T s28 pl := hO
  have hP : va_P g.1 vcl ([] ++ pl) _ := hP
  have hD : va_D _ ([] ++ pl) := hD
  have hFc28 : frm (M_MS_puts) s27 s28 := hFc28
  have hb_42 : x42 < x40 := hb_42
  have hb_43 : x43 = x40 := hb_43
  replace hR := bnd_step hR eq28
  replace hE := bndP_step hE eq28
  have hF := frm_tr hF hFc28 (fun k hk => by unfold M_MS_puts at hk; unfold M_MH_sign_2; omega)
  have hf69 : s28.1 225 23 = nI 2 := fc_F hf61 hFc28 (by unfold M_MS_puts; omega)
  have hf70 : s28.1 225 24 = nI 8 := fc_F hf62 hFc28 (by unfold M_MS_puts; omega)
  have hf71 : s28.1 225 25 = nI 7 := fc_F hf63 hFc28 (by unfold M_MS_puts; omega)
  have hf72 : s28.1 225 26 = nI 2 := fc_F hf64 hFc28 (by unfold M_MS_puts; omega)
  have hf73 : s28.1 225 27 = nI 524288 := fc_F hf65 hFc28 (by unfold M_MS_puts; omega)
  have hf74 : s28.1 225 28 = nI 261888 := fc_F hf66 hFc28 (by unfold M_MS_puts; omega)
  have hf75 : s28.1 225 29 = nI 120 := fc_F hf67 hFc28 (by unfold M_MS_puts; omega)
  have hf76 : s28.1 225 30 = nI 64 := fc_F hf68 hFc28 (by unfold M_MS_puts; omega)
  refine W.widen (k := 0) (n := 0) (by omega) (by omega) ?_
  refine lv_aload_n hx hb dMH_sign_73 rfl (lv_at hl 0 rfl) ?_
  refine nw_get (C := "LatticeKeysModel$Hands") (TT := T_MH) (N := 31) hx hb hts (wg_ft i_MH) hown hK hO k_h0 (kn := 225) (ci := 12) (fl := [(3, 172), (3, 181), (3, 226), (3, 291), (3, 299), (3, 308), (3, 317), (3, 326), (3, 334), (3, 342), (3, 350), (3, 359), (3, 368), (3, 369), (3, 370), (3, 371), (3, 372), (3, 373), (3, 374), (3, 375), (3, 376), (3, 377), (3, 378), (0, 0), (0, 0), (0, 0), (0, 0), (0, 0), (0, 0), (0, 0), (0, 0)]) rfl hP rfl 0 (by decide) (hts _ (wg_t kw_1432)) (fun _ h9 => h9) (cd := (3, 172)) rfl dMH_sign_74 (fun v26 hv26 => ?_)
  obtain ⟨r26, rfl, kr26⟩ := (show ∃ r : Nat, v26 = .ref r ∧ T r = some 172 from hv26)
  refine mp_v (cx := []) (wr := []) hP hD hS hA [] [] rfl rfl rfl (by decide) (va_runV (As := []) (rest := []) F (N_MS_end l g _ T s28 pl hO hU r26 x42 x43 kr26 hx_42 hx_43 (by omega) (by omega)) (cwV 0 hts (wg_app (wg_c kw_1717 (wg_c kw_1630 (wg_c kw_1631 (wg_c kw_10 wg_n)))) kw_1632) rfl rfl rfl (by decide +kernel) ⟨by decide, by decide⟩) (pn_V (en_ok g) (ci := 9) (kn := 172) (fl := [(3, 173), (3, 174), (3, 175), (3, 176), (3, 177), (0, 0), (0, 0), (0, 0)]) hK hO kr26 rfl hP hD hS hA hEn [] rfl rfl rfl) rfl rfl hl.1 rfl (lv_room (Nat.le_of_ble_eq_true rfl)) dMH_sign_77 ⟨by omega, by omega⟩) (fun  u29 H locs hu29 hP hD hS => ?_)
  obtain ⟨s29, pl⟩ := u29
  obtain ⟨⟨eq29, hFc29, ⟨x45, hx_45, hb_45⟩, ⟨x46, hx_46, hb_46⟩, -⟩, hO⟩ := hu29
  have hO : okn g T s29 pl := hO
  have hP : va_P g.1 vcl ([] ++ pl) _ := hP
  have hD : va_D _ ([] ++ pl) := hD
  have hFc29 : frm (M_MS_end) s28 s29 := hFc29
  have hb_45 : x45 = 0 := hb_45
  have hb_46 : x46 = x43 := hb_46
  replace hR := bnd_step hR eq29
  replace hE := bndP_step hE eq29
  have hF := frm_tr hF hFc29 (fun k hk => by unfold M_MS_end at hk; unfold M_MH_sign_2; omega)
  have hf77 : s29.1 225 23 = nI 2 := fc_F hf69 hFc29 (by unfold M_MS_end; omega)
  have hf78 : s29.1 225 24 = nI 8 := fc_F hf70 hFc29 (by unfold M_MS_end; omega)
  have hf79 : s29.1 225 25 = nI 7 := fc_F hf71 hFc29 (by unfold M_MS_end; omega)
  have hf80 : s29.1 225 26 = nI 2 := fc_F hf72 hFc29 (by unfold M_MS_end; omega)
  have hf81 : s29.1 225 27 = nI 524288 := fc_F hf73 hFc29 (by unfold M_MS_end; omega)
  have hf82 : s29.1 225 28 = nI 261888 := fc_F hf74 hFc29 (by unfold M_MS_end; omega)
  have hf83 : s29.1 225 29 = nI 120 := fc_F hf75 hFc29 (by unfold M_MS_end; omega)
  have hf84 : s29.1 225 30 = nI 64 := fc_F hf76 hFc29 (by unfold M_MS_end; omega)
  refine W.widen (k := 0) (n := 0) (by omega) (by omega) ?_
  refine lv_aload_n hx hb dMH_sign_80 rfl (lv_at hl 0 rfl) ?_
  refine nw_get (C := "LatticeKeysModel$Hands") (TT := T_MH) (N := 31) hx hb hts (wg_ft i_MH) hown hK hO k_h0 (kn := 225) (ci := 12) (fl := [(3, 172), (3, 181), (3, 226), (3, 291), (3, 299), (3, 308), (3, 317), (3, 326), (3, 334), (3, 342), (3, 350), (3, 359), (3, 368), (3, 369), (3, 370), (3, 371), (3, 372), (3, 373), (3, 374), (3, 375), (3, 376), (3, 377), (3, 378), (0, 0), (0, 0), (0, 0), (0, 0), (0, 0), (0, 0), (0, 0), (0, 0)]) rfl hP rfl 0 (by decide) (hts _ (wg_t kw_1432)) (fun _ h9 => h9) (cd := (3, 172)) rfl dMH_sign_81 (fun v27 hv27 => ?_)
  obtain ⟨r27, rfl, kr27⟩ := (show ∃ r : Nat, v27 = .ref r ∧ T r = some 172 from hv27)
  refine lv_aload_n hx hb dMH_sign_84 rfl (lv_at hl 0 rfl) ?_
  refine nw_get (C := "LatticeKeysModel$Hands") (TT := T_MH) (N := 31) hx hb hts (wg_ft i_MH) hown hK hO k_h0 (kn := 225) (ci := 12) (fl := [(3, 172), (3, 181), (3, 226), (3, 291), (3, 299), (3, 308), (3, 317), (3, 326), (3, 334), (3, 342), (3, 350), (3, 359), (3, 368), (3, 369), (3, 370), (3, 371), (3, 372), (3, 373), (3, 374), (3, 375), (3, 376), (3, 377), (3, 378), (0, 0), (0, 0), (0, 0), (0, 0), (0, 0), (0, 0), (0, 0), (0, 0)]) rfl hP rfl 18 (by decide) (hts _ (wg_t kw_1450)) (fun _ h9 => h9) (cd := (3, 374)) rfl dMH_sign_85 (fun v28 hv28 => ?_)
  obtain ⟨r28, rfl, kr28⟩ := (show ∃ r : Nat, v28 = .ref r ∧ T r = some 374 from hv28)
  refine lv_iconst (v := nI 0) hx hb dMH_sign_88 (by decide) ?_
  refine lv_bipush (v := nI 64) hx hb dMH_sign_89 (by decide) ?_
  refine mp_v (cx := []) (wr := []) hP hD hS hA [] [] rfl rfl rfl (by decide) (va_runV (As := [.ref r28, .int (nI 0), .int (nI 64)]) (rest := []) F (N_MS_take l g _ T s29 pl hO hU r27 r28 374 64 0 64 x45 x46 kr27 kr28 rfl hx_45 hx_46 (by omega) (by omega) (by omega) (by omega)) (cwV 3 hts (wg_app (wg_c kw_1718 (wg_c kw_1634 (wg_c kw_1635 (wg_c kw_10 wg_n)))) kw_1636) rfl rfl rfl (by decide +kernel) ⟨by decide, by decide⟩) (pn_V (en_ok g) (ci := 9) (kn := 172) (fl := [(3, 173), (3, 174), (3, 175), (3, 176), (3, 177), (0, 0), (0, 0), (0, 0)]) hK hO kr27 rfl hP hD hS hA hEn [] rfl rfl rfl) rfl rfl hl.1 rfl (lv_room (Nat.le_of_ble_eq_true rfl)) dMH_sign_91 ⟨by omega, by omega⟩) (fun  u30 H locs hu30 hP hD hS => ?_)
  obtain ⟨s30, pl⟩ := u30
  obtain ⟨⟨eq30, hFc30, ⟨x48, hx_48, hb_48⟩, ⟨x49, hx_49, hb_49⟩, -⟩, hO⟩ := hu30
  have hO : okn g T s30 pl := hO
  have hP : va_P g.1 vcl ([] ++ pl) _ := hP
  have hD : va_D _ ([] ++ pl) := hD
  have hFc30 : frm (M_MS_take 374) s29 s30 := hFc30
  have hb_48 : x48 ≤ x46 := hb_48
  have hb_49 : x49 = x46 := hb_49
  replace hR := bnd_step hR eq30
  replace hE := bndP_step hE eq30
  have hF := frm_tr hF hFc30 (fun k hk => by unfold M_MS_take at hk; unfold M_MH_sign_2; omega)
  have hf85 : s30.1 225 23 = nI 2 := fc_F hf77 hFc30 (by unfold M_MS_take; omega)
  have hf86 : s30.1 225 24 = nI 8 := fc_F hf78 hFc30 (by unfold M_MS_take; omega)
  have hf87 : s30.1 225 25 = nI 7 := fc_F hf79 hFc30 (by unfold M_MS_take; omega)
  have hf88 : s30.1 225 26 = nI 2 := fc_F hf80 hFc30 (by unfold M_MS_take; omega)
  have hf89 : s30.1 225 27 = nI 524288 := fc_F hf81 hFc30 (by unfold M_MS_take; omega)
  have hf90 : s30.1 225 28 = nI 261888 := fc_F hf82 hFc30 (by unfold M_MS_take; omega)
  have hf91 : s30.1 225 29 = nI 120 := fc_F hf83 hFc30 (by unfold M_MS_take; omega)
  have hf92 : s30.1 225 30 = nI 64 := fc_F hf84 hFc30 (by unfold M_MS_take; omega)
  refine W.widen (k := 0) (n := 0) (by omega) (by omega) ?_
  refine lv_iconst (v := nI 1) hx hb dMH_sign_94 (by decide) ?_
  refine lv_istore (lv' := [(7, .int (nI 1)), (0, .ref h0), (1, .int (nI 2)), (2, .ref sk), (3, .ref b), (4, .int cl_), (5, .int (nI ed)), (6, .ref to)]) hx hb dMH_sign_95 hl (by decide) rfl (fun ls hl => ?_)
  have lp21 : ∀ (n21 : Nat) (i21 : Nat) (s31 : Sto) (pl : va_W) (ls : Array Slot) (H : Heap) (locs : List Loc), n21 + i21 = 201 → (1 ≤ i21) → frm (M_MH_sign_2 pt) s s31 → s31.1 225 23 = nI 2 → s31.1 225 24 = nI 8 → s31.1 225 25 = nI 7 → s31.1 225 26 = nI 2 → s31.1 225 27 = nI 524288 → s31.1 225 28 = nI 261888 → s31.1 225 29 = nI 120 → s31.1 225 30 = nI 64 → E_MH_sign_2_L0 pt n21 i21 s31 → F_MH_sign_2 psk pb n cl_ ed pt s = F_MH_sign_2_L0 pt n21 i21 s31 → lv_has ls 9 [(7, .int (nI i21)), (0, .ref h0), (6, .ref to)] → okn g T s31 pl → va_P g.1 vcl ([] ++ pl) H → va_D A ([] ++ pl) → va_S A s0.heap H locs → W p l e ({ frames := 5, cells := 0, slots := 0, locals := 116 } : Room) s0 m args below meth c H locs 0 0 (MQ below (va_Qi (fun (r : Int32) (u : (Int32 × Sto) × va_W) => (u.1 = F_MH_sign_2 psk pb n cl_ ed pt s ∧ r = u.1.1 ∧ frm (M_MH_sign_2 pt) s u.1.2 ∧ True) ∧ okn g T u.1.2 u.2) (po g.1 vcl A (fun (u : (Int32 × Sto) × va_W) => [] ++ u.2)) A) args s0 0 0 A) (F0 m 97 ls []) := by
    intro n21
    induction n21 with
    | zero =>
      intro i21 s31 pl ls H locs hm21 hi21 hF hf93 hf94 hf95 hf96 hf97 hf98 hf99 hf100 hE hR hl hO hP hD hS
      refine lv_iload hx hb dMH_sign_97 (lv_at hl 0 rfl) ?_
      refine lv_sipush (v := nI 200) hx hb dMH_sign_99 (by decide) ?_
      refine mi_gt (tgt := 232) hx hb dMH_sign_102 (by decide) (by omega) (by omega) (fun h21 => ?_) (fun h21 => absurd h21 (by omega))
      refine lv_iconst (v := nI 0) hx hb dMH_sign_232 (by decide) ?_
      exact mp_iret hx hb hr hlk hP hD hS ((nI 0, s31), pl) ⟨⟨hR.symm, rfl, hF, trivial⟩, hO⟩ [] rfl rfl rfl (by omega) (by omega) dMH_sign_233
    | succ n21 ih21 =>
      intro i21 s31 pl ls H locs hm21 hi21 hF hf101 hf102 hf103 hf104 hf105 hf106 hf107 hf108 hE hR hl hO hP hD hS
      refine lv_iload hx hb dMH_sign_97 (lv_at hl 0 rfl) ?_
      refine lv_sipush (v := nI 200) hx hb dMH_sign_99 (by decide) ?_
      refine mi_gt (tgt := 232) hx hb dMH_sign_102 (by decide) (by omega) (by omega) (fun h22 => absurd h22 (by omega)) (fun h22 => ?_)
      refine lv_aload_n hx hb dMH_sign_105 rfl (lv_at hl 1 rfl) ?_
      refine lv_iload hx hb dMH_sign_106 (lv_at hl 0 rfl) ?_
      refine lv_iconst (v := nI 1) hx hb dMH_sign_108 (by decide) ?_
      refine mi_isub hx hb dMH_sign_109 (by omega) ?_
      refine lv_aload_n hx hb dMH_sign_110 rfl (lv_at hl 1 rfl) ?_
      refine nw_get (C := "LatticeKeysModel$Hands") (TT := T_MH) (N := 31) hx hb hts (wg_ft i_MH) hown hK hO k_h0 (kn := 225) (ci := 12) (fl := [(3, 172), (3, 181), (3, 226), (3, 291), (3, 299), (3, 308), (3, 317), (3, 326), (3, 334), (3, 342), (3, 350), (3, 359), (3, 368), (3, 369), (3, 370), (3, 371), (3, 372), (3, 373), (3, 374), (3, 375), (3, 376), (3, 377), (3, 378), (0, 0), (0, 0), (0, 0), (0, 0), (0, 0), (0, 0), (0, 0), (0, 0)]) rfl hP rfl 25 (by decide) (hts _ (wg_t kw_1457)) (fun _ h9 => h9) (cd := (0, 0)) rfl dMH_sign_111 (fun v29 hv29 => ?_)
      obtain rfl := (show v29 = .int (s31.1 225 25) from hv29)
      obtain ⟨z21, ez21, hz21, hz22⟩ := cl_of (b := 2147483648) hf103 (by omega) (by decide)
      replace hR := bnd_step hR ez21
      replace hE := bndP_step hE ez21
      refine mi_as hz21 ?_
      subst hz22
      refine mi_imul hx hb dMH_sign_114 ?_
      refine mp_v (cx := []) (wr := []) hP hD hS hA [] [] rfl rfl rfl (by decide) (va_runV (As := [.int (nI ((i21 - 1) * 7))]) (rest := []) F (N_MH_mask_2 l g _ T s31 pl hO hU h0 (nI ((i21 - 1) * 7)) k_h0 hf101 hf102 hf103 hf104 hf105 hf106 hf107 hf108) (cwV 1 hts (wg_app (wg_c kw_1868 (wg_c kw_1870 (wg_c ks_72 (wg_c kw_13 wg_n)))) kw_1871) rfl rfl rfl (by decide +kernel) ⟨by decide, by decide⟩) (pn_V (en_ok g) (ci := 12) (kn := 225) (fl := [(3, 172), (3, 181), (3, 226), (3, 291), (3, 299), (3, 308), (3, 317), (3, 326), (3, 334), (3, 342), (3, 350), (3, 359), (3, 368), (3, 369), (3, 370), (3, 371), (3, 372), (3, 373), (3, 374), (3, 375), (3, 376), (3, 377), (3, 378), (0, 0), (0, 0), (0, 0), (0, 0), (0, 0), (0, 0), (0, 0), (0, 0)]) hK hO k_h0 rfl hP hD hS hA hEn [] rfl rfl rfl) rfl rfl hl.1 rfl (lv_room (Nat.le_of_ble_eq_true rfl)) dMH_sign_115 ⟨by omega, by omega⟩) (fun  u31 H locs hu31 hP hD hS => ?_)
      obtain ⟨s32, pl⟩ := u31
      obtain ⟨⟨eq31, hFc31, -⟩, hO⟩ := hu31
      have hO : okn g T s32 pl := hO
      have hP : va_P g.1 vcl ([] ++ pl) _ := hP
      have hD : va_D _ ([] ++ pl) := hD
      have hFc31 : frm (M_MH_mask_2) s31 s32 := hFc31
      replace hR := bnd_step hR eq31
      replace hE := bndP_step hE eq31
      have hF := frm_tr hF hFc31 (fun k hk => by unfold M_MH_mask_2 at hk; unfold M_MH_sign_2; omega)
      have hf109 : s32.1 225 23 = nI 2 := fc_F hf101 hFc31 (by unfold M_MH_mask_2; omega)
      have hf110 : s32.1 225 24 = nI 8 := fc_F hf102 hFc31 (by unfold M_MH_mask_2; omega)
      have hf111 : s32.1 225 25 = nI 7 := fc_F hf103 hFc31 (by unfold M_MH_mask_2; omega)
      have hf112 : s32.1 225 26 = nI 2 := fc_F hf104 hFc31 (by unfold M_MH_mask_2; omega)
      have hf113 : s32.1 225 27 = nI 524288 := fc_F hf105 hFc31 (by unfold M_MH_mask_2; omega)
      have hf114 : s32.1 225 28 = nI 261888 := fc_F hf106 hFc31 (by unfold M_MH_mask_2; omega)
      have hf115 : s32.1 225 29 = nI 120 := fc_F hf107 hFc31 (by unfold M_MH_mask_2; omega)
      have hf116 : s32.1 225 30 = nI 64 := fc_F hf108 hFc31 (by unfold M_MH_mask_2; omega)
      refine W.widen (k := 0) (n := 0) (by omega) (by omega) ?_
      refine lv_iconst (v := nI 0) hx hb dMH_sign_118 (by decide) ?_
      refine lv_istore (lv' := [(8, .int (nI 0)), (7, .int (nI i21)), (0, .ref h0), (6, .ref to)]) hx hb dMH_sign_119 hl (by decide) rfl (fun ls hl => ?_)
      have lp22 : ∀ (n22 : Nat) (i22 : Nat) (s33 : Sto) (pl : va_W) (ls : Array Slot) (H : Heap) (locs : List Loc), n22 + i22 = 7 → frm (M_MH_sign_2 pt) s s33 → s33.1 225 23 = nI 2 → s33.1 225 24 = nI 8 → s33.1 225 25 = nI 7 → s33.1 225 26 = nI 2 → s33.1 225 27 = nI 524288 → s33.1 225 28 = nI 261888 → s33.1 225 29 = nI 120 → s33.1 225 30 = nI 64 → E_MH_sign_2_L1 pt i21 (E_MH_sign_2_L0 pt n21) n22 i22 s33 → F_MH_sign_2 psk pb n cl_ ed pt s = F_MH_sign_2_L1 pt i21 (F_MH_sign_2_L0 pt n21) n22 i22 s33 → lv_has ls 9 [(8, .int (nI i22)), (7, .int (nI i21)), (0, .ref h0), (6, .ref to)] → okn g T s33 pl → va_P g.1 vcl ([] ++ pl) H → va_D A ([] ++ pl) → va_S A s0.heap H locs → W p l e ({ frames := 5, cells := 0, slots := 0, locals := 116 } : Room) s0 m args below meth c H locs 0 0 (MQ below (va_Qi (fun (r : Int32) (u : (Int32 × Sto) × va_W) => (u.1 = F_MH_sign_2 psk pb n cl_ ed pt s ∧ r = u.1.1 ∧ frm (M_MH_sign_2 pt) s u.1.2 ∧ True) ∧ okn g T u.1.2 u.2) (po g.1 vcl A (fun (u : (Int32 × Sto) × va_W) => [] ++ u.2)) A) args s0 0 0 A) (F0 m 121 ls []) := by
        intro n22
        induction n22 with
        | zero =>
          intro i22 s33 pl ls H locs hm22 hF hf117 hf118 hf119 hf120 hf121 hf122 hf123 hf124 hE hR hl hO hP hD hS
          refine lv_iload hx hb dMH_sign_121 (lv_at hl 0 rfl) ?_
          refine lv_aload_n hx hb dMH_sign_123 rfl (lv_at hl 2 rfl) ?_
          refine nw_get (C := "LatticeKeysModel$Hands") (TT := T_MH) (N := 31) hx hb hts (wg_ft i_MH) hown hK hO k_h0 (kn := 225) (ci := 12) (fl := [(3, 172), (3, 181), (3, 226), (3, 291), (3, 299), (3, 308), (3, 317), (3, 326), (3, 334), (3, 342), (3, 350), (3, 359), (3, 368), (3, 369), (3, 370), (3, 371), (3, 372), (3, 373), (3, 374), (3, 375), (3, 376), (3, 377), (3, 378), (0, 0), (0, 0), (0, 0), (0, 0), (0, 0), (0, 0), (0, 0), (0, 0)]) rfl hP rfl 25 (by decide) (hts _ (wg_t kw_1457)) (fun _ h9 => h9) (cd := (0, 0)) rfl dMH_sign_124 (fun v30 hv30 => ?_)
          obtain rfl := (show v30 = .int (s33.1 225 25) from hv30)
          obtain ⟨z22, ez22, hz23, hz24⟩ := cl_of (b := 2147483648) hf119 (by omega) (by decide)
          replace hR := bnd_step hR ez22
          replace hE := bndP_step hE ez22
          refine mi_as hz23 ?_
          subst hz24
          refine mi_ge (tgt := 159) hx hb dMH_sign_127 (by decide) (by omega) (by omega) (fun h23 => ?_) (fun h23 => absurd h23 (by omega))
          refine lv_iconst (v := nI 0) hx hb dMH_sign_159 (by decide) ?_
          refine lv_istore (lv' := [(8, .int (nI 0)), (7, .int (nI i21)), (0, .ref h0), (6, .ref to)]) hx hb dMH_sign_160 hl (by decide) rfl (fun ls hl => ?_)
          have lp23 : ∀ (n23 : Nat) (i23 : Nat) (s34 : Sto) (pl : va_W) (ls : Array Slot) (H : Heap) (locs : List Loc), n23 + i23 = 8 → frm (M_MH_sign_2 pt) s s34 → s34.1 225 23 = nI 2 → s34.1 225 24 = nI 8 → s34.1 225 25 = nI 7 → s34.1 225 26 = nI 2 → s34.1 225 27 = nI 524288 → s34.1 225 28 = nI 261888 → s34.1 225 29 = nI 120 → s34.1 225 30 = nI 64 → E_MH_sign_2_L2 pt i21 (E_MH_sign_2_L0 pt n21) n23 i23 s34 → F_MH_sign_2 psk pb n cl_ ed pt s = F_MH_sign_2_L2 pt i21 (F_MH_sign_2_L0 pt n21) n23 i23 s34 → lv_has ls 9 [(8, .int (nI i23)), (7, .int (nI i21)), (0, .ref h0), (6, .ref to)] → okn g T s34 pl → va_P g.1 vcl ([] ++ pl) H → va_D A ([] ++ pl) → va_S A s0.heap H locs → W p l e ({ frames := 5, cells := 0, slots := 0, locals := 116 } : Room) s0 m args below meth c H locs 0 0 (MQ below (va_Qi (fun (r : Int32) (u : (Int32 × Sto) × va_W) => (u.1 = F_MH_sign_2 psk pb n cl_ ed pt s ∧ r = u.1.1 ∧ frm (M_MH_sign_2 pt) s u.1.2 ∧ True) ∧ okn g T u.1.2 u.2) (po g.1 vcl A (fun (u : (Int32 × Sto) × va_W) => [] ++ u.2)) A) args s0 0 0 A) (F0 m 162 ls []) := by
            intro n23
            induction n23 with
            | zero =>
              intro i23 s34 pl ls H locs hm23 hF hf125 hf126 hf127 hf128 hf129 hf130 hf131 hf132 hE hR hl hO hP hD hS
              refine lv_iload hx hb dMH_sign_162 (lv_at hl 0 rfl) ?_
              refine lv_aload_n hx hb dMH_sign_164 rfl (lv_at hl 2 rfl) ?_
              refine nw_get (C := "LatticeKeysModel$Hands") (TT := T_MH) (N := 31) hx hb hts (wg_ft i_MH) hown hK hO k_h0 (kn := 225) (ci := 12) (fl := [(3, 172), (3, 181), (3, 226), (3, 291), (3, 299), (3, 308), (3, 317), (3, 326), (3, 334), (3, 342), (3, 350), (3, 359), (3, 368), (3, 369), (3, 370), (3, 371), (3, 372), (3, 373), (3, 374), (3, 375), (3, 376), (3, 377), (3, 378), (0, 0), (0, 0), (0, 0), (0, 0), (0, 0), (0, 0), (0, 0), (0, 0)]) rfl hP rfl 24 (by decide) (hts _ (wg_t kw_1456)) (fun _ h9 => h9) (cd := (0, 0)) rfl dMH_sign_165 (fun v31 hv31 => ?_)
              obtain rfl := (show v31 = .int (s34.1 225 24) from hv31)
              obtain ⟨z23, ez23, hz25, hz26⟩ := cl_of (b := 2147483648) hf126 (by omega) (by decide)
              replace hR := bnd_step hR ez23
              replace hE := bndP_step hE ez23
              refine mi_as hz25 ?_
              subst hz26
              refine mi_ge (tgt := 190) hx hb dMH_sign_168 (by decide) (by omega) (by omega) (fun h24 => ?_) (fun h24 => absurd h24 (by omega))
              refine lv_aload_n hx hb dMH_sign_190 rfl (lv_at hl 2 rfl) ?_
              refine lv_iconst (v := nI 0) hx hb dMH_sign_191 (by decide) ?_
              refine lv_aload_n hx hb dMH_sign_192 rfl (lv_at hl 2 rfl) ?_
              refine nw_get (C := "LatticeKeysModel$Hands") (TT := T_MH) (N := 31) hx hb hts (wg_ft i_MH) hown hK hO k_h0 (kn := 225) (ci := 12) (fl := [(3, 172), (3, 181), (3, 226), (3, 291), (3, 299), (3, 308), (3, 317), (3, 326), (3, 334), (3, 342), (3, 350), (3, 359), (3, 368), (3, 369), (3, 370), (3, 371), (3, 372), (3, 373), (3, 374), (3, 375), (3, 376), (3, 377), (3, 378), (0, 0), (0, 0), (0, 0), (0, 0), (0, 0), (0, 0), (0, 0), (0, 0)]) rfl hP rfl 20 (by decide) (hts _ (wg_t kw_1452)) (fun _ h9 => h9) (cd := (3, 376)) rfl dMH_sign_193 (fun v32 hv32 => ?_)
              obtain ⟨r29, rfl, kr29⟩ := (show ∃ r : Nat, v32 = .ref r ∧ T r = some 376 from hv32)
              refine mp_v (cx := []) (wr := []) hP hD hS hA [] [] rfl rfl rfl (by decide) (va_runV (As := [.int (nI 0), .ref r29]) (rest := []) F (N_MH_marked_2 l g _ T s34 pl hO hU h0 r29 (nI 0) 376 k_h0 kr29 rfl hf125 hf126 hf127 hf128 hf129 hf130 hf131 hf132) (cwV 2 hts (wg_app (wg_c kw_1872 (wg_c kw_1874 (wg_c ks_73 (wg_c kw_13 wg_n)))) kw_1875) rfl rfl rfl (by decide +kernel) ⟨by decide, by decide⟩) (pn_V (en_ok g) (ci := 12) (kn := 225) (fl := [(3, 172), (3, 181), (3, 226), (3, 291), (3, 299), (3, 308), (3, 317), (3, 326), (3, 334), (3, 342), (3, 350), (3, 359), (3, 368), (3, 369), (3, 370), (3, 371), (3, 372), (3, 373), (3, 374), (3, 375), (3, 376), (3, 377), (3, 378), (0, 0), (0, 0), (0, 0), (0, 0), (0, 0), (0, 0), (0, 0), (0, 0)]) hK hO k_h0 rfl hP hD hS hA hEn [] rfl rfl rfl) rfl rfl hl.1 rfl (lv_room (Nat.le_of_ble_eq_true rfl)) dMH_sign_196 ⟨by omega, by omega⟩) (fun  u32 H locs hu32 hP hD hS => ?_)
              obtain ⟨s35, pl⟩ := u32
              obtain ⟨⟨eq32, hFc32, -⟩, hO⟩ := hu32
              have hO : okn g T s35 pl := hO
              have hP : va_P g.1 vcl ([] ++ pl) _ := hP
              have hD : va_D _ ([] ++ pl) := hD
              have hFc32 : frm (M_MH_marked_2 376) s34 s35 := hFc32
              replace hR := bnd_step hR eq32
              replace hE := bndP_step hE eq32
              have hF := frm_tr hF hFc32 (fun k hk => by unfold M_MH_marked_2 at hk; unfold M_MH_sign_2; omega)
              have hf133 : s35.1 225 23 = nI 2 := fc_F hf125 hFc32 (by unfold M_MH_marked_2; omega)
              have hf134 : s35.1 225 24 = nI 8 := fc_F hf126 hFc32 (by unfold M_MH_marked_2; omega)
              have hf135 : s35.1 225 25 = nI 7 := fc_F hf127 hFc32 (by unfold M_MH_marked_2; omega)
              have hf136 : s35.1 225 26 = nI 2 := fc_F hf128 hFc32 (by unfold M_MH_marked_2; omega)
              have hf137 : s35.1 225 27 = nI 524288 := fc_F hf129 hFc32 (by unfold M_MH_marked_2; omega)
              have hf138 : s35.1 225 28 = nI 261888 := fc_F hf130 hFc32 (by unfold M_MH_marked_2; omega)
              have hf139 : s35.1 225 29 = nI 120 := fc_F hf131 hFc32 (by unfold M_MH_marked_2; omega)
              have hf140 : s35.1 225 30 = nI 64 := fc_F hf132 hFc32 (by unfold M_MH_marked_2; omega)
              refine W.widen (k := 0) (n := 0) (by omega) (by omega) ?_
              refine lv_aload_n hx hb dMH_sign_199 rfl (lv_at hl 2 rfl) ?_
              refine lv_aload_n hx hb dMH_sign_200 rfl (lv_at hl 2 rfl) ?_
              refine nw_get (C := "LatticeKeysModel$Hands") (TT := T_MH) (N := 31) hx hb hts (wg_ft i_MH) hown hK hO k_h0 (kn := 225) (ci := 12) (fl := [(3, 172), (3, 181), (3, 226), (3, 291), (3, 299), (3, 308), (3, 317), (3, 326), (3, 334), (3, 342), (3, 350), (3, 359), (3, 368), (3, 369), (3, 370), (3, 371), (3, 372), (3, 373), (3, 374), (3, 375), (3, 376), (3, 377), (3, 378), (0, 0), (0, 0), (0, 0), (0, 0), (0, 0), (0, 0), (0, 0), (0, 0)]) rfl hP rfl 20 (by decide) (hts _ (wg_t kw_1452)) (fun _ h9 => h9) (cd := (3, 376)) rfl dMH_sign_201 (fun v33 hv33 => ?_)
              obtain ⟨r30, rfl, kr30⟩ := (show ∃ r : Nat, v33 = .ref r ∧ T r = some 376 from hv33)
              refine mp_v (cx := []) (wr := []) hP hD hS hA [] [] rfl rfl rfl (by decide) (va_runV (As := [.ref r30]) (rest := []) F (N_MH_ball_2 l g _ T s35 pl hO hU h0 r30 376 k_h0 kr30 rfl hf133 hf134 hf135 hf136 hf137 hf138 hf139 hf140 hE.1) (cwV 1 hts (wg_app (wg_c kw_1889 (wg_c kw_1891 (wg_c ks_77 (wg_c kw_13 wg_n)))) kw_1892) rfl rfl rfl (by decide +kernel) ⟨by decide, by decide⟩) (pn_V (en_ok g) (ci := 12) (kn := 225) (fl := [(3, 172), (3, 181), (3, 226), (3, 291), (3, 299), (3, 308), (3, 317), (3, 326), (3, 334), (3, 342), (3, 350), (3, 359), (3, 368), (3, 369), (3, 370), (3, 371), (3, 372), (3, 373), (3, 374), (3, 375), (3, 376), (3, 377), (3, 378), (0, 0), (0, 0), (0, 0), (0, 0), (0, 0), (0, 0), (0, 0), (0, 0)]) hK hO k_h0 rfl hP hD hS hA hEn [] rfl rfl rfl) rfl rfl hl.1 rfl (lv_room (Nat.le_of_ble_eq_true rfl)) dMH_sign_204 ⟨by omega, by omega⟩) (fun  u33 H locs hu33 hP hD hS => ?_)
              obtain ⟨s36, pl⟩ := u33
              obtain ⟨⟨eq33, hFc33, -⟩, hO⟩ := hu33
              have hO : okn g T s36 pl := hO
              have hP : va_P g.1 vcl ([] ++ pl) _ := hP
              have hD : va_D _ ([] ++ pl) := hD
              have hFc33 : frm (M_MH_ball_2) s35 s36 := hFc33
              replace hE := hE.2
              replace hR := bnd_step hR eq33
              replace hE := bndP_step hE eq33
              have hF := frm_tr hF hFc33 (fun k hk => by unfold M_MH_ball_2 at hk; unfold M_MH_sign_2; omega)
              have hf141 : s36.1 225 23 = nI 2 := fc_F hf133 hFc33 (by unfold M_MH_ball_2; omega)
              have hf142 : s36.1 225 24 = nI 8 := fc_F hf134 hFc33 (by unfold M_MH_ball_2; omega)
              have hf143 : s36.1 225 25 = nI 7 := fc_F hf135 hFc33 (by unfold M_MH_ball_2; omega)
              have hf144 : s36.1 225 26 = nI 2 := fc_F hf136 hFc33 (by unfold M_MH_ball_2; omega)
              have hf145 : s36.1 225 27 = nI 524288 := fc_F hf137 hFc33 (by unfold M_MH_ball_2; omega)
              have hf146 : s36.1 225 28 = nI 261888 := fc_F hf138 hFc33 (by unfold M_MH_ball_2; omega)
              have hf147 : s36.1 225 29 = nI 120 := fc_F hf139 hFc33 (by unfold M_MH_ball_2; omega)
              have hf148 : s36.1 225 30 = nI 64 := fc_F hf140 hFc33 (by unfold M_MH_ball_2; omega)
              refine W.widen (k := 0) (n := 0) (by omega) (by omega) ?_
              refine lv_aload_n hx hb dMH_sign_207 rfl (lv_at hl 2 rfl) ?_
              refine mp_i (cx := []) (wr := []) hP hD hS hA [] [] rfl rfl rfl (by decide) (va_runV (As := []) (rest := []) F (N_MH_fits_2 l g _ T s36 pl hO hU h0 k_h0 hf141 hf142 hf143 hf144 hf145 hf146 hf147 hf148) (cwV 0 hts (wg_app (wg_c kw_1893 (wg_c kw_1895 (wg_c ks_78 (wg_c kw_13 wg_n)))) kw_1896) rfl rfl rfl (by decide +kernel) ⟨by decide, by decide⟩) (pn_V (en_ok g) (ci := 12) (kn := 225) (fl := [(3, 172), (3, 181), (3, 226), (3, 291), (3, 299), (3, 308), (3, 317), (3, 326), (3, 334), (3, 342), (3, 350), (3, 359), (3, 368), (3, 369), (3, 370), (3, 371), (3, 372), (3, 373), (3, 374), (3, 375), (3, 376), (3, 377), (3, 378), (0, 0), (0, 0), (0, 0), (0, 0), (0, 0), (0, 0), (0, 0), (0, 0)]) hK hO k_h0 rfl hP hD hS hA hEn [] rfl rfl rfl) rfl rfl hl.1 rfl (lv_room (Nat.le_of_ble_eq_true rfl)) dMH_sign_208 ⟨by omega, by omega⟩) (fun r31 u34 H locs hu34 hP hD hS => ?_)
              obtain ⟨q21, pl⟩ := u34
              obtain ⟨⟨eq34, rfl, hFc34, -⟩, hO⟩ := hu34
              have hO : okn g T q21.2 pl := hO
              have hP : va_P g.1 vcl ([] ++ pl) _ := hP
              have hD : va_D _ ([] ++ pl) := hD
              have hFc34 : frm (M_MH_fits_2) s36 q21.2 := hFc34
              replace hR := bnd_step hR eq34
              replace hE := bndP_step hE eq34
              have hF := frm_tr hF hFc34 (fun k hk => by unfold M_MH_fits_2 at hk; unfold M_MH_sign_2; omega)
              have hf149 : q21.2.1 225 23 = nI 2 := fc_F hf141 hFc34 (by unfold M_MH_fits_2; omega)
              have hf150 : q21.2.1 225 24 = nI 8 := fc_F hf142 hFc34 (by unfold M_MH_fits_2; omega)
              have hf151 : q21.2.1 225 25 = nI 7 := fc_F hf143 hFc34 (by unfold M_MH_fits_2; omega)
              have hf152 : q21.2.1 225 26 = nI 2 := fc_F hf144 hFc34 (by unfold M_MH_fits_2; omega)
              have hf153 : q21.2.1 225 27 = nI 524288 := fc_F hf145 hFc34 (by unfold M_MH_fits_2; omega)
              have hf154 : q21.2.1 225 28 = nI 261888 := fc_F hf146 hFc34 (by unfold M_MH_fits_2; omega)
              have hf155 : q21.2.1 225 29 = nI 120 := fc_F hf147 hFc34 (by unfold M_MH_fits_2; omega)
              have hf156 : q21.2.1 225 30 = nI 64 := fc_F hf148 hFc34 (by unfold M_MH_fits_2; omega)
              refine W.widen (k := 0) (n := 0) (by omega) (by omega) ?_
              refine lv_if_ne (tgt := 217) hx hb dMH_sign_211 (by decide) (fun h25 => ?_) (fun h25 => ?_)
              · replace hR := hR.trans (if_neg h25)
                replace hE := iteP_neg h25 hE
                refine lv_aload_n hx hb dMH_sign_217 rfl (lv_at hl 2 rfl) ?_
                refine lv_aload hx hb dMH_sign_218 (lv_at hl 3 rfl) ?_
                refine mp_v (cx := []) (wr := []) hP hD hS hA [] [] rfl rfl rfl (by decide) (va_runV (As := [.ref to]) (rest := []) F (N_MH_written_2 l g _ T q21.2 pl hO hU h0 to pt k_h0 k_to n_to hf149 hf150 hf151 hf152 hf153 hf154 hf155 hf156) (cwV 1 hts (wg_app (wg_c kw_1910 (wg_c kw_1912 (wg_c ks_80 (wg_c kw_13 wg_n)))) kw_1913) rfl rfl rfl (by decide +kernel) ⟨by decide, by decide⟩) (pn_V (en_ok g) (ci := 12) (kn := 225) (fl := [(3, 172), (3, 181), (3, 226), (3, 291), (3, 299), (3, 308), (3, 317), (3, 326), (3, 334), (3, 342), (3, 350), (3, 359), (3, 368), (3, 369), (3, 370), (3, 371), (3, 372), (3, 373), (3, 374), (3, 375), (3, 376), (3, 377), (3, 378), (0, 0), (0, 0), (0, 0), (0, 0), (0, 0), (0, 0), (0, 0), (0, 0)]) hK hO k_h0 rfl hP hD hS hA hEn [] rfl rfl rfl) rfl rfl hl.1 rfl (lv_room (Nat.le_of_ble_eq_true rfl)) dMH_sign_220 ⟨by omega, by omega⟩) (fun  u35 H locs hu35 hP hD hS => ?_)
                obtain ⟨s37, pl⟩ := u35
                obtain ⟨⟨eq35, hFc35, -⟩, hO⟩ := hu35
                have hO : okn g T s37 pl := hO
                have hP : va_P g.1 vcl ([] ++ pl) _ := hP
                have hD : va_D _ ([] ++ pl) := hD
                have hFc35 : frm (M_MH_written_2 pt) q21.2 s37 := hFc35
                replace hR := bnd_step hR eq35
                replace hE := bndP_step hE eq35
                have hF := frm_tr hF hFc35 (fun k hk => by unfold M_MH_written_2 at hk; unfold M_MH_sign_2; omega)
                have hf157 : s37.1 225 23 = nI 2 := fc_F hf149 hFc35 (by unfold M_MH_written_2; omega)
                have hf158 : s37.1 225 24 = nI 8 := fc_F hf150 hFc35 (by unfold M_MH_written_2; omega)
                have hf159 : s37.1 225 25 = nI 7 := fc_F hf151 hFc35 (by unfold M_MH_written_2; omega)
                have hf160 : s37.1 225 26 = nI 2 := fc_F hf152 hFc35 (by unfold M_MH_written_2; omega)
                have hf161 : s37.1 225 27 = nI 524288 := fc_F hf153 hFc35 (by unfold M_MH_written_2; omega)
                have hf162 : s37.1 225 28 = nI 261888 := fc_F hf154 hFc35 (by unfold M_MH_written_2; omega)
                have hf163 : s37.1 225 29 = nI 120 := fc_F hf155 hFc35 (by unfold M_MH_written_2; omega)
                have hf164 : s37.1 225 30 = nI 64 := fc_F hf156 hFc35 (by unfold M_MH_written_2; omega)
                refine W.widen (k := 0) (n := 0) (by omega) (by omega) ?_
                refine lv_iload hx hb dMH_sign_223 (lv_at hl 1 rfl) ?_
                exact mp_iret hx hb hr hlk hP hD hS ((nI i21, s37), pl) ⟨⟨hR.symm, rfl, hF, trivial⟩, hO⟩ [] rfl rfl rfl (by omega) (by omega) dMH_sign_225
              · replace hR := hR.trans (if_pos h25)
                replace hE := iteP_pos h25 hE
                refine lv_goto (tgt := 226) hx hb dMH_sign_214 (by decide) ?_
                refine mi_iinc (k := 1) (x := i21) (d := 1) (y := i21 + 1) (lv' := [(7, .int (nI (i21 + 1))), (8, .int (nI i23)), (0, .ref h0), (6, .ref to)]) hx hb dMH_sign_226 hl rfl (by decide) rfl (by decide) rfl (fun ls hl => ?_)
                refine lv_goto (tgt := 97) hx hb dMH_sign_229 (by decide) ?_
                exact ih21 (i21 + 1) q21.2 pl ls H locs (by omega) (by omega) hF hf149 hf150 hf151 hf152 hf153 hf154 hf155 hf156 hE hR (lv_sub hl [0, 2, 3] rfl) hO hP hD hS
            | succ n23 ih23 =>
              intro i23 s34 pl ls H locs hm23 hF hf165 hf166 hf167 hf168 hf169 hf170 hf171 hf172 hE hR hl hO hP hD hS
              refine lv_iload hx hb dMH_sign_162 (lv_at hl 0 rfl) ?_
              refine lv_aload_n hx hb dMH_sign_164 rfl (lv_at hl 2 rfl) ?_
              refine nw_get (C := "LatticeKeysModel$Hands") (TT := T_MH) (N := 31) hx hb hts (wg_ft i_MH) hown hK hO k_h0 (kn := 225) (ci := 12) (fl := [(3, 172), (3, 181), (3, 226), (3, 291), (3, 299), (3, 308), (3, 317), (3, 326), (3, 334), (3, 342), (3, 350), (3, 359), (3, 368), (3, 369), (3, 370), (3, 371), (3, 372), (3, 373), (3, 374), (3, 375), (3, 376), (3, 377), (3, 378), (0, 0), (0, 0), (0, 0), (0, 0), (0, 0), (0, 0), (0, 0), (0, 0)]) rfl hP rfl 24 (by decide) (hts _ (wg_t kw_1456)) (fun _ h9 => h9) (cd := (0, 0)) rfl dMH_sign_165 (fun v34 hv34 => ?_)
              obtain rfl := (show v34 = .int (s34.1 225 24) from hv34)
              obtain ⟨z24, ez24, hz27, hz28⟩ := cl_of (b := 2147483648) hf166 (by omega) (by decide)
              replace hR := bnd_step hR ez24
              replace hE := bndP_step hE ez24
              refine mi_as hz27 ?_
              subst hz28
              refine mi_ge (tgt := 190) hx hb dMH_sign_168 (by decide) (by omega) (by omega) (fun h26 => absurd h26 (by omega)) (fun h26 => ?_)
              refine lv_aload_n hx hb dMH_sign_171 rfl (lv_at hl 2 rfl) ?_
              refine lv_iload hx hb dMH_sign_172 (lv_at hl 0 rfl) ?_
              refine lv_aload_n hx hb dMH_sign_174 rfl (lv_at hl 2 rfl) ?_
              refine nw_get (C := "LatticeKeysModel$Hands") (TT := T_MH) (N := 31) hx hb hts (wg_ft i_MH) hown hK hO k_h0 (kn := 225) (ci := 12) (fl := [(3, 172), (3, 181), (3, 226), (3, 291), (3, 299), (3, 308), (3, 317), (3, 326), (3, 334), (3, 342), (3, 350), (3, 359), (3, 368), (3, 369), (3, 370), (3, 371), (3, 372), (3, 373), (3, 374), (3, 375), (3, 376), (3, 377), (3, 378), (0, 0), (0, 0), (0, 0), (0, 0), (0, 0), (0, 0), (0, 0), (0, 0)]) rfl hP rfl 10 (by decide) (hts _ (wg_t kw_1442)) (fun _ h9 => h9) (cd := (3, 350)) rfl dMH_sign_175 (fun v35 hv35 => ?_)
              obtain ⟨r32, rfl, kr31⟩ := (show ∃ r : Nat, v35 = .ref r ∧ T r = some 350 from hv35)
              refine lv_iload hx hb dMH_sign_178 (lv_at hl 0 rfl) ?_
              refine nw_aald3 hx hb hK hO kr31 (k := 350) (b := 351) rfl hP (by omega) (by omega) dMH_sign_180 (fun r33 kr32 => ?_)
              have hn21 : nsp (351 + i23) = (0, 256, []) := rows_ok 351 8 (by decide) _ (by omega)
              refine mp_v (cx := []) (wr := []) hP hD hS hA [] [] rfl rfl rfl (by decide) (va_runV (As := [.int (nI i23), .ref r33]) (rest := []) F (N_MH_rowBy_2 l g _ T s34 pl hO hU h0 r33 i23 (351 + i23) k_h0 kr32 hn21 hf165 hf166 hf167 hf168 hf169 hf170 hf171 hf172 (by omega)) (cwV 2 hts (wg_app (wg_c kw_1730 (wg_c kw_1732 (wg_c ks_63 (wg_c kw_13 wg_n)))) kw_1733) rfl rfl rfl (by decide +kernel) ⟨by decide, by decide⟩) (pn_V (en_ok g) (ci := 12) (kn := 225) (fl := [(3, 172), (3, 181), (3, 226), (3, 291), (3, 299), (3, 308), (3, 317), (3, 326), (3, 334), (3, 342), (3, 350), (3, 359), (3, 368), (3, 369), (3, 370), (3, 371), (3, 372), (3, 373), (3, 374), (3, 375), (3, 376), (3, 377), (3, 378), (0, 0), (0, 0), (0, 0), (0, 0), (0, 0), (0, 0), (0, 0), (0, 0)]) hK hO k_h0 rfl hP hD hS hA hEn [] rfl rfl rfl) rfl rfl hl.1 rfl (lv_room (Nat.le_of_ble_eq_true rfl)) dMH_sign_181 ⟨by omega, by omega⟩) (fun  u36 H locs hu36 hP hD hS => ?_)
              obtain ⟨s38, pl⟩ := u36
              obtain ⟨⟨eq36, hFc36, -⟩, hO⟩ := hu36
              have hO : okn g T s38 pl := hO
              have hP : va_P g.1 vcl ([] ++ pl) _ := hP
              have hD : va_D _ ([] ++ pl) := hD
              have hFc36 : frm (M_MH_rowBy_2 (351 + i23)) s34 s38 := hFc36
              replace hR := bnd_step hR eq36
              replace hE := bndP_step hE eq36
              have hF := frm_tr hF hFc36 (fun k hk => by unfold M_MH_rowBy_2 at hk; unfold M_MH_sign_2; omega)
              have hf173 : s38.1 225 23 = nI 2 := fc_F hf165 hFc36 (by unfold M_MH_rowBy_2; omega)
              have hf174 : s38.1 225 24 = nI 8 := fc_F hf166 hFc36 (by unfold M_MH_rowBy_2; omega)
              have hf175 : s38.1 225 25 = nI 7 := fc_F hf167 hFc36 (by unfold M_MH_rowBy_2; omega)
              have hf176 : s38.1 225 26 = nI 2 := fc_F hf168 hFc36 (by unfold M_MH_rowBy_2; omega)
              have hf177 : s38.1 225 27 = nI 524288 := fc_F hf169 hFc36 (by unfold M_MH_rowBy_2; omega)
              have hf178 : s38.1 225 28 = nI 261888 := fc_F hf170 hFc36 (by unfold M_MH_rowBy_2; omega)
              have hf179 : s38.1 225 29 = nI 120 := fc_F hf171 hFc36 (by unfold M_MH_rowBy_2; omega)
              have hf180 : s38.1 225 30 = nI 64 := fc_F hf172 hFc36 (by unfold M_MH_rowBy_2; omega)
              refine W.widen (k := 0) (n := 0) (by omega) (by omega) ?_
              refine mi_iinc (k := 0) (x := i23) (d := 1) (y := i23 + 1) (lv' := [(8, .int (nI (i23 + 1))), (7, .int (nI i21)), (0, .ref h0), (6, .ref to)]) hx hb dMH_sign_184 hl rfl (by decide) rfl (by decide) rfl (fun ls hl => ?_)
              refine lv_goto (tgt := 162) hx hb dMH_sign_187 (by decide) ?_
              exact ih23 (i23 + 1) s38 pl ls H locs (by omega) hF hf173 hf174 hf175 hf176 hf177 hf178 hf179 hf180 hE hR (lv_sub hl [0, 1, 2, 3] rfl) hO hP hD hS
          exact lp23 8 0 s33 pl ls _ _ (by omega) hF hf117 hf118 hf119 hf120 hf121 hf122 hf123 hf124 hE hR (lv_sub hl [0, 1, 2, 3] rfl) hO hP hD hS
        | succ n22 ih22 =>
          intro i22 s33 pl ls H locs hm22 hF hf181 hf182 hf183 hf184 hf185 hf186 hf187 hf188 hE hR hl hO hP hD hS
          refine lv_iload hx hb dMH_sign_121 (lv_at hl 0 rfl) ?_
          refine lv_aload_n hx hb dMH_sign_123 rfl (lv_at hl 2 rfl) ?_
          refine nw_get (C := "LatticeKeysModel$Hands") (TT := T_MH) (N := 31) hx hb hts (wg_ft i_MH) hown hK hO k_h0 (kn := 225) (ci := 12) (fl := [(3, 172), (3, 181), (3, 226), (3, 291), (3, 299), (3, 308), (3, 317), (3, 326), (3, 334), (3, 342), (3, 350), (3, 359), (3, 368), (3, 369), (3, 370), (3, 371), (3, 372), (3, 373), (3, 374), (3, 375), (3, 376), (3, 377), (3, 378), (0, 0), (0, 0), (0, 0), (0, 0), (0, 0), (0, 0), (0, 0), (0, 0)]) rfl hP rfl 25 (by decide) (hts _ (wg_t kw_1457)) (fun _ h9 => h9) (cd := (0, 0)) rfl dMH_sign_124 (fun v36 hv36 => ?_)
          obtain rfl := (show v36 = .int (s33.1 225 25) from hv36)
          obtain ⟨z25, ez25, hz29, hz30⟩ := cl_of (b := 2147483648) hf183 (by omega) (by decide)
          replace hR := bnd_step hR ez25
          replace hE := bndP_step hE ez25
          refine mi_as hz29 ?_
          subst hz30
          refine mi_ge (tgt := 159) hx hb dMH_sign_127 (by decide) (by omega) (by omega) (fun h27 => absurd h27 (by omega)) (fun h27 => ?_)
          refine lv_aload_n hx hb dMH_sign_130 rfl (lv_at hl 2 rfl) ?_
          refine nw_get (C := "LatticeKeysModel$Hands") (TT := T_MH) (N := 31) hx hb hts (wg_ft i_MH) hown hK hO k_h0 (kn := 225) (ci := 12) (fl := [(3, 172), (3, 181), (3, 226), (3, 291), (3, 299), (3, 308), (3, 317), (3, 326), (3, 334), (3, 342), (3, 350), (3, 359), (3, 368), (3, 369), (3, 370), (3, 371), (3, 372), (3, 373), (3, 374), (3, 375), (3, 376), (3, 377), (3, 378), (0, 0), (0, 0), (0, 0), (0, 0), (0, 0), (0, 0), (0, 0), (0, 0)]) rfl hP rfl 1 (by decide) (hts _ (wg_t kw_1433)) (fun _ h9 => h9) (cd := (3, 181)) rfl dMH_sign_131 (fun v37 hv37 => ?_)
          obtain ⟨r34, rfl, kr33⟩ := (show ∃ r : Nat, v37 = .ref r ∧ T r = some 181 from hv37)
          refine lv_aload_n hx hb dMH_sign_134 rfl (lv_at hl 2 rfl) ?_
          refine nw_get (C := "LatticeKeysModel$Hands") (TT := T_MH) (N := 31) hx hb hts (wg_ft i_MH) hown hK hO k_h0 (kn := 225) (ci := 12) (fl := [(3, 172), (3, 181), (3, 226), (3, 291), (3, 299), (3, 308), (3, 317), (3, 326), (3, 334), (3, 342), (3, 350), (3, 359), (3, 368), (3, 369), (3, 370), (3, 371), (3, 372), (3, 373), (3, 374), (3, 375), (3, 376), (3, 377), (3, 378), (0, 0), (0, 0), (0, 0), (0, 0), (0, 0), (0, 0), (0, 0), (0, 0)]) rfl hP rfl 7 (by decide) (hts _ (wg_t kw_1439)) (fun _ h9 => h9) (cd := (3, 326)) rfl dMH_sign_135 (fun v38 hv38 => ?_)
          obtain ⟨r35, rfl, kr34⟩ := (show ∃ r : Nat, v38 = .ref r ∧ T r = some 326 from hv38)
          refine lv_iload hx hb dMH_sign_138 (lv_at hl 0 rfl) ?_
          refine nw_aald3 hx hb hK hO kr34 (k := 326) (b := 327) rfl hP (by omega) (by omega) dMH_sign_140 (fun r36 kr35 => ?_)
          have hn22 : nsp (327 + i22) = (0, 256, []) := rows_ok 327 7 (by decide) _ (by omega)
          refine lv_aload_n hx hb dMH_sign_141 rfl (lv_at hl 2 rfl) ?_
          refine nw_get (C := "LatticeKeysModel$Hands") (TT := T_MH) (N := 31) hx hb hts (wg_ft i_MH) hown hK hO k_h0 (kn := 225) (ci := 12) (fl := [(3, 172), (3, 181), (3, 226), (3, 291), (3, 299), (3, 308), (3, 317), (3, 326), (3, 334), (3, 342), (3, 350), (3, 359), (3, 368), (3, 369), (3, 370), (3, 371), (3, 372), (3, 373), (3, 374), (3, 375), (3, 376), (3, 377), (3, 378), (0, 0), (0, 0), (0, 0), (0, 0), (0, 0), (0, 0), (0, 0), (0, 0)]) rfl hP rfl 9 (by decide) (hts _ (wg_t kw_1441)) (fun _ h9 => h9) (cd := (3, 342)) rfl dMH_sign_142 (fun v39 hv39 => ?_)
          obtain ⟨r37, rfl, kr36⟩ := (show ∃ r : Nat, v39 = .ref r ∧ T r = some 342 from hv39)
          refine lv_iload hx hb dMH_sign_145 (lv_at hl 0 rfl) ?_
          refine nw_aald3 hx hb hK hO kr36 (k := 342) (b := 343) rfl hP (by omega) (by omega) dMH_sign_147 (fun r38 kr37 => ?_)
          have hn23 : nsp (343 + i22) = (0, 256, []) := rows_ok 343 7 (by decide) _ (by omega)
          refine lv_iconst (v := nI 1) hx hb dMH_sign_148 (by decide) ?_
          refine lv_iconst (v := nI 0) hx hb dMH_sign_149 (by decide) ?_
          refine mp_v (cx := []) (wr := []) hP hD hS hA [] [] rfl rfl rfl (by decide) (va_runV (As := [.ref r36, .ref r38, .int (nI 1), .int (nI 0)]) (rest := []) F (N_MR_forth_8_0 l g _ T s33 pl hO hU r34 r36 r38 (327 + i22) (343 + i22) kr33 kr35 hn22 kr37 hn23) (cwV 4 hts (wg_app (wg_c kw_1729 (wg_c kw_1669 (wg_c kw_1670 (wg_c kw_12 wg_n)))) kw_1671) rfl rfl rfl (by decide +kernel) ⟨by decide, by decide⟩) (pn_V (en_ok g) (ci := 10) (kn := 181) (fl := [(1, 8380417), (1, 256), (3, 182), (3, 183), (4, 8347681)]) hK hO kr33 rfl hP hD hS hA hEn [] rfl rfl rfl) rfl rfl hl.1 rfl (lv_room (Nat.le_of_ble_eq_true rfl)) dMH_sign_150 ⟨by omega, by omega⟩) (fun  u37 H locs hu37 hP hD hS => ?_)
          obtain ⟨s39, pl⟩ := u37
          obtain ⟨⟨eq37, hFc37, -⟩, hO⟩ := hu37
          have hO : okn g T s39 pl := hO
          have hP : va_P g.1 vcl ([] ++ pl) _ := hP
          have hD : va_D _ ([] ++ pl) := hD
          have hFc37 : frm (M_MR_forth_8_0 (343 + i22)) s33 s39 := hFc37
          replace hR := bnd_step hR eq37
          replace hE := bndP_step hE eq37
          have hF := frm_tr hF hFc37 (fun k hk => by unfold M_MR_forth_8_0 at hk; unfold M_MH_sign_2; omega)
          have hf189 : s39.1 225 23 = nI 2 := fc_F hf181 hFc37 (by unfold M_MR_forth_8_0; omega)
          have hf190 : s39.1 225 24 = nI 8 := fc_F hf182 hFc37 (by unfold M_MR_forth_8_0; omega)
          have hf191 : s39.1 225 25 = nI 7 := fc_F hf183 hFc37 (by unfold M_MR_forth_8_0; omega)
          have hf192 : s39.1 225 26 = nI 2 := fc_F hf184 hFc37 (by unfold M_MR_forth_8_0; omega)
          have hf193 : s39.1 225 27 = nI 524288 := fc_F hf185 hFc37 (by unfold M_MR_forth_8_0; omega)
          have hf194 : s39.1 225 28 = nI 261888 := fc_F hf186 hFc37 (by unfold M_MR_forth_8_0; omega)
          have hf195 : s39.1 225 29 = nI 120 := fc_F hf187 hFc37 (by unfold M_MR_forth_8_0; omega)
          have hf196 : s39.1 225 30 = nI 64 := fc_F hf188 hFc37 (by unfold M_MR_forth_8_0; omega)
          refine W.widen (k := 0) (n := 0) (by omega) (by omega) ?_
          refine mi_iinc (k := 0) (x := i22) (d := 1) (y := i22 + 1) (lv' := [(8, .int (nI (i22 + 1))), (7, .int (nI i21)), (0, .ref h0), (6, .ref to)]) hx hb dMH_sign_153 hl rfl (by decide) rfl (by decide) rfl (fun ls hl => ?_)
          refine lv_goto (tgt := 121) hx hb dMH_sign_156 (by decide) ?_
          exact ih22 (i22 + 1) s39 pl ls H locs (by omega) hF hf189 hf190 hf191 hf192 hf193 hf194 hf195 hf196 hE hR (lv_sub hl [0, 1, 2, 3] rfl) hO hP hD hS
      exact lp22 7 0 s32 pl ls _ _ (by omega) hF hf109 hf110 hf111 hf112 hf113 hf114 hf115 hf116 hE hR (lv_sub hl [0, 1, 2, 3] rfl) hO hP hD hS
  exact lp21 (201 - 1) 1 s30 pl ls _ _ (by omega) (by omega) hF hf85 hf86 hf87 hf88 hf89 hf90 hf91 hf92 hE hR (lv_sub hl [0, 1, 7] rfl) hO hP hD hS
def M_MH_verify_0 (k : Nat) : Prop := (227 ≤ k ∧ k < 291) ∨ (318 ≤ k ∧ k < 326) ∨ (335 ≤ k ∧ k < 342) ∨ (343 ≤ k ∧ k < 350) ∨ (351 ≤ k ∧ k < 359) ∨ (360 ≤ k ∧ k < 368) ∨ k = 172 ∨ k = 225 ∨ k = 368 ∨ k = 369 ∨ k = 370 ∨ k = 373 ∨ k = 375 ∨ k = 376 ∨ k = 377 ∨ k = 378 ∨ (0 : Nat) = 1
noncomputable def F_MH_verify_0_L7 (pb : Nat) (i22 : Nat) (kk : Nat → Int32 → Nat → Sto → Int32 × Sto) : Nat → Nat → Int32 → Nat → Sto → Int32 × Sto
  | 0, i28, z37, az22, s42 => kk (i22 + 1) z37 az22 s42
  | n28 + 1, i28, z37, az22, s42 => bnd ((s42.1 225 27).toNatClampNeg) fun z38 => bnd (F_M_unpack pb 16384 az22 18 s42) fun q26 => bnd (F_MH_minus (nI 131072) (q26.1) q26.2) fun q27 => bnd (sI q27.2 ((335 + i22)) i28 (q27.1)) fun s43 => bnd (F_MH_norm (s43.1 ((335 + i22)) i28) s43) fun q28 => bnd ((q28.2.1 225 27).toNatClampNeg) fun z39 => bnd ((q28.2.1 225 29).toNatClampNeg) fun z40 => if (nI 130994) ≤ (q28.1) then bnd ((z37 &&& (nI 0))) fun z41 => F_MH_verify_0_L7 pb i22 kk n28 (i28 + 1) z41 (az22 + 18) q28.2 else bnd ((z37 &&& (nI 1))) fun z42 => F_MH_verify_0_L7 pb i22 kk n28 (i28 + 1) z42 (az22 + 18) q28.2
noncomputable def E_MH_verify_0_L7 (pb : Nat) (i22 : Nat) (ke : Nat → Int32 → Nat → Sto → Prop) : Nat → Nat → Int32 → Nat → Sto → Prop
  | 0, i28, z37, az22, s42 => ke (i22 + 1) z37 az22 s42
  | n28 + 1, i28, z37, az22, s42 => bnd ((s42.1 225 27).toNatClampNeg) fun z38 => bnd (F_M_unpack pb 16384 az22 18 s42) fun q26 => bnd (F_MH_minus (nI 131072) (q26.1) q26.2) fun q27 => bnd (sI q27.2 ((335 + i22)) i28 (q27.1)) fun s43 => bnd (F_MH_norm (s43.1 ((335 + i22)) i28) s43) fun q28 => bnd ((q28.2.1 225 27).toNatClampNeg) fun z39 => bnd ((q28.2.1 225 29).toNatClampNeg) fun z40 => if (nI 130994) ≤ (q28.1) then bnd ((z37 &&& (nI 0))) fun z41 => E_MH_verify_0_L7 pb i22 ke n28 (i28 + 1) z41 (az22 + 18) q28.2 else bnd ((z37 &&& (nI 1))) fun z42 => E_MH_verify_0_L7 pb i22 ke n28 (i28 + 1) z42 (az22 + 18) q28.2
noncomputable def F_MH_verify_0_L6 (i24 : Nat) (kk : Nat → Sto → Int32 × Sto) : Nat → Nat → Sto → Int32 × Sto
  | 0, i27, s38 => kk (i24 + 1) s38
  | n27 + 1, i27, s38 => bnd (F_MH_minus (s38.1 ((351 + i24)) i27) (s38.1 369 i27) s38) fun q24 => bnd (sI q24.2 ((351 + i24)) i27 (q24.1)) fun s39 => F_MH_verify_0_L6 i24 kk n27 (i27 + 1) s39
noncomputable def E_MH_verify_0_L6 (i24 : Nat) (ke : Nat → Sto → Prop) : Nat → Nat → Sto → Prop
  | 0, i27, s38 => ke (i24 + 1) s38
  | n27 + 1, i27, s38 => bnd (F_MH_minus (s38.1 ((351 + i24)) i27) (s38.1 369 i27) s38) fun q24 => bnd (sI q24.2 ((351 + i24)) i27 (q24.1)) fun s39 => E_MH_verify_0_L6 i24 ke n27 (i27 + 1) s39
noncomputable def F_MH_verify_0_L5 (pp : Nat) (i24 : Nat) (kk : Nat → Sto → Int32 × Sto) : Nat → Nat → Sto → Int32 × Sto
  | 0, i26, s36 => bnd (F_MH_turned_0 (318 + i24) 369 s36) fun s37 => F_MH_verify_0_L6 i24 (kk) 256 0 s37
  | n26 + 1, i26, s36 => bnd (F_M_unpack pp 2592 ((256 + (2560 * i24)) + (10 * i26)) 10 s36) fun q25 => bnd (sI q25.2 ((318 + i24)) i26 ((q25.1) <<< ((nI 13) &&& 31))) fun s40 => F_MH_verify_0_L5 pp i24 kk n26 (i26 + 1) s40
noncomputable def E_MH_verify_0_L5 (pp : Nat) (i24 : Nat) (ke : Nat → Sto → Prop) : Nat → Nat → Sto → Prop
  | 0, i26, s36 => bnd (F_MH_turned_0 (318 + i24) 369 s36) fun s37 => E_MH_verify_0_L6 i24 (ke) 256 0 s37
  | n26 + 1, i26, s36 => bnd (F_M_unpack pp 2592 ((256 + (2560 * i24)) + (10 * i26)) 10 s36) fun q25 => bnd (sI q25.2 ((318 + i24)) i26 ((q25.1) <<< ((nI 13) &&& 31))) fun s40 => E_MH_verify_0_L5 pp i24 ke n26 (i26 + 1) s40
noncomputable def F_MH_verify_0_L4 : Nat → Nat → Sto → Int32 × Sto
  | 0, i25, s34 => bnd ((s34.1 225 30).toNatClampNeg) fun z32 => (nI 1, s34)
  | n25 + 1, i25, s34 => bnd ((s34.1 225 30).toNatClampNeg) fun z33 => if (s34.1 377 i25) = (s34.1 376 i25) then F_MH_verify_0_L4  n25 (i25 + 1) s34 else (nI 0, s34)
noncomputable def E_MH_verify_0_L4 : Nat → Nat → Sto → Prop
  | 0, i25, s34 => bnd ((s34.1 225 30).toNatClampNeg) fun z32 => True
  | n25 + 1, i25, s34 => bnd ((s34.1 225 30).toNatClampNeg) fun z33 => if (s34.1 377 i25) = (s34.1 376 i25) then E_MH_verify_0_L4  n25 (i25 + 1) s34 else True
noncomputable def F_MH_verify_0_L3 (pp : Nat) : Nat → Nat → Sto → Int32 × Sto
  | 0, i24, s32 => bnd ((s32.1 225 24).toNatClampNeg) fun z31 => bnd (F_MH_marked_0 (nI 1) 377 s32) fun s33 => F_MH_verify_0_L4 32 0 s33
  | n24 + 1, i24, s32 => bnd ((s32.1 225 24).toNatClampNeg) fun z34 => bnd (F_MH_rowBy_0 i24 (351 + i24) s32) fun s35 => F_MH_verify_0_L5 pp i24 (F_MH_verify_0_L3 pp n24) 256 0 s35
noncomputable def E_MH_verify_0_L3 (pp : Nat) : Nat → Nat → Sto → Prop
  | 0, i24, s32 => bnd ((s32.1 225 24).toNatClampNeg) fun z31 => bnd (F_MH_marked_0 (nI 1) 377 s32) fun s33 => E_MH_verify_0_L4 32 0 s33
  | n24 + 1, i24, s32 => bnd ((s32.1 225 24).toNatClampNeg) fun z34 => bnd (F_MH_rowBy_0 i24 (351 + i24) s32) fun s35 => E_MH_verify_0_L5 pp i24 (E_MH_verify_0_L3 pp n24) 256 0 s35
noncomputable def F_MH_verify_0_L2 (pp : Nat) : Nat → Nat → Sto → Int32 × Sto
  | 0, i23, s31 => bnd ((s31.1 225 25).toNatClampNeg) fun z30 => F_MH_verify_0_L3 pp 4 0 s31
  | n23 + 1, i23, s31 => bnd ((s31.1 225 25).toNatClampNeg) fun z35 => bnd (F_MR_forth_8_0 (335 + i23) (343 + i23) s31) fun s41 => F_MH_verify_0_L2 pp n23 (i23 + 1) s41
noncomputable def E_MH_verify_0_L2 (pp : Nat) : Nat → Nat → Sto → Prop
  | 0, i23, s31 => bnd ((s31.1 225 25).toNatClampNeg) fun z30 => E_MH_verify_0_L3 pp 4 0 s31
  | n23 + 1, i23, s31 => bnd ((s31.1 225 25).toNatClampNeg) fun z35 => bnd (F_MR_forth_8_0 (335 + i23) (343 + i23) s31) fun s41 => E_MH_verify_0_L2 pp n23 (i23 + 1) s41
noncomputable def F_MH_verify_0_L1 (pp : Nat) (pb : Nat) (cl_ : Int32) (ed : Nat) : Nat → Nat → Int32 → Nat → Sto → Int32 × Sto
  | 0, i22, z24, az21, s23 => bnd ((s23.1 225 25).toNatClampNeg) fun z25 => if z24 = 0 then (nI 0, s23) else bnd (F_MH_readHints_0 pb (az21 / 8) s23) fun q21 => if (q21.1) = 0 then (nI 0, q21.2) else bnd (F_MS_shake  q21.2) fun s24 => bnd ((s24.1 225 23).toNatClampNeg) fun z26 => bnd (F_MH_openSize_0  s24) fun q22 => bnd (q22.1.toNatClampNeg) fun z27 => bnd (F_MS_puts pp 2592 0 1312 q22.2) fun s25 => bnd (F_MS_end  s25) fun s26 => bnd (F_MS_take 378 64 0 64 s26) fun s27 => bnd ((s27.1 225 23).toNatClampNeg) fun z28 => bnd (F_MH_markSize_0  s27) fun q23 => bnd (q23.1.toNatClampNeg) fun z29 => bnd (F_MH_message_0 378 64 0 pb 16384 2420 cl_ ed q23.2) fun s28 => bnd (F_MH_expand_0 pp 2592 s28) fun s29 => bnd (F_MH_ball_0 376 s29) fun s30 => F_MH_verify_0_L2 pp 4 0 s30
  | n22 + 1, i22, z24, az21, s23 => bnd ((s23.1 225 25).toNatClampNeg) fun z36 => F_MH_verify_0_L7 pb i22 (F_MH_verify_0_L1 pp pb cl_ ed n22) 256 0 z24 az21 s23
noncomputable def E_MH_verify_0_L1 (pp : Nat) (pb : Nat) (cl_ : Int32) (ed : Nat) : Nat → Nat → Int32 → Nat → Sto → Prop
  | 0, i22, z24, az21, s23 => bnd ((s23.1 225 25).toNatClampNeg) fun z25 => if z24 = 0 then True else bnd (F_MH_readHints_0 pb (az21 / 8) s23) fun q21 => if (q21.1) = 0 then True else bnd (F_MS_shake  q21.2) fun s24 => bnd ((s24.1 225 23).toNatClampNeg) fun z26 => bnd (F_MH_openSize_0  s24) fun q22 => bnd (q22.1.toNatClampNeg) fun z27 => bnd (F_MS_puts pp 2592 0 1312 q22.2) fun s25 => bnd (F_MS_end  s25) fun s26 => bnd (F_MS_take 378 64 0 64 s26) fun s27 => bnd ((s27.1 225 23).toNatClampNeg) fun z28 => bnd (F_MH_markSize_0  s27) fun q23 => bnd (q23.1.toNatClampNeg) fun z29 => bnd (F_MH_message_0 378 64 0 pb 16384 2420 cl_ ed q23.2) fun s28 => (E_MH_expand_0 pp 2592 s28) ∧ (bnd (F_MH_expand_0 pp 2592 s28) fun s29 => (E_MH_ball_0 376 s29) ∧ (bnd (F_MH_ball_0 376 s29) fun s30 => E_MH_verify_0_L2 pp 4 0 s30))
  | n22 + 1, i22, z24, az21, s23 => bnd ((s23.1 225 25).toNatClampNeg) fun z36 => E_MH_verify_0_L7 pb i22 (E_MH_verify_0_L1 pp pb cl_ ed n22) 256 0 z24 az21 s23
noncomputable def F_MH_verify_0_L0 (pp : Nat) (pb : Nat) (cl_ : Int32) (ed : Nat) : Nat → Nat → Sto → Int32 × Sto
  | 0, i21, s22 => bnd ((s22.1 225 30).toNatClampNeg) fun z23 => F_MH_verify_0_L1 pp pb cl_ ed 4 0 (nI 1) 256 s22
  | n21 + 1, i21, s22 => bnd ((s22.1 225 30).toNatClampNeg) fun z43 => bnd (sB s22 376 i21 (s22.1 pb i21)) fun s44 => F_MH_verify_0_L0 pp pb cl_ ed n21 (i21 + 1) s44
noncomputable def E_MH_verify_0_L0 (pp : Nat) (pb : Nat) (cl_ : Int32) (ed : Nat) : Nat → Nat → Sto → Prop
  | 0, i21, s22 => bnd ((s22.1 225 30).toNatClampNeg) fun z23 => E_MH_verify_0_L1 pp pb cl_ ed 4 0 (nI 1) 256 s22
  | n21 + 1, i21, s22 => bnd ((s22.1 225 30).toNatClampNeg) fun z43 => bnd (sB s22 376 i21 (s22.1 pb i21)) fun s44 => E_MH_verify_0_L0 pp pb cl_ ed n21 (i21 + 1) s44
noncomputable def F_MH_verify_0 (pp : Nat) (pb : Nat) (cl_ : Int32) (ed : Nat) (s : Sto) : Int32 × Sto := bnd (F_MH_as_0  s) fun s21 => bnd ((s21.1 225 23).toNatClampNeg) fun z21 => bnd ((s21.1 225 30).toNatClampNeg) fun z22 => F_MH_verify_0_L0 pp pb cl_ ed 32 0 s21
noncomputable def E_MH_verify_0 (pp : Nat) (pb : Nat) (cl_ : Int32) (ed : Nat) (s : Sto) : Prop := bnd (F_MH_as_0  s) fun s21 => bnd ((s21.1 225 23).toNatClampNeg) fun z21 => bnd ((s21.1 225 30).toNatClampNeg) fun z22 => E_MH_verify_0_L0 pp pb cl_ ed 32 0 s21
set_option maxHeartbeats 8000000 in
set_option maxRecDepth 100000 in
theorem N_MH_verify_0 (l : Launch) (g : Gd) (sz : Nat) (T : TyN) (s : Sto) (pl : va_W) (hO : okn g T s pl) (hU : inj T) (h0 pk b : Nat) (pp : Nat) (pb : Nat) (cl_ : Int32) (ed : Nat) (k_h0 : T h0 = some 225) (k_pk : T pk = some pp) (n_pk : nsp pp = (1, 2592, [])) (k_b : T b = some pb) (n_b : nsp pb = (1, 16384, [])) (h1 : 2420 ≤ ed) (h3 : ed ≤ 16384) (hE : E_MH_verify_0 pp pb cl_ ed s)  : Met l y_MH_verify w_MH_verify ({ frames := 5, cells := 0, slots := 0, locals := 116 } : Room) (va_Pc [.ref h0, .int (nI 0), .ref pk, .ref b, .int cl_, .int (nI ed)] (pr (en g) g.1 vcl sz ([] ++ pl))) (va_Qi (fun (r : Int32) (u : (Int32 × Sto) × va_W) => (u.1 = F_MH_verify_0 pp pb cl_ ed s ∧ r = u.1.1 ∧ frm (M_MH_verify_0) s u.1.2 ∧ True) ∧ okn g T u.1.2 u.2) (po g.1 vcl (va_A ([] ++ pl) sz) (fun (u : (Int32 × Sto) × va_W) => [] ++ u.2)) (va_A ([] ++ pl) sz)) 0 0 (va_A ([] ++ pl) sz) := by
  refine mc_entry (cc := c_MH_verify) (maxL := 11) (ret := (some .boolean)) (by decide) rfl (Nat.le_of_ble_eq_true rfl) ?_
  intro p e s0 m args below meth c ls F hr hlk hnm hsz hP hD hEn hA hl
  obtain ⟨hx, hb, hml, hown, hts⟩ := id F
  have hK := hEn.1
  generalize va_A ([] ++ pl) sz = A at hD hEn hA ⊢
  have hS : va_S A s0.heap s0.heap [] := va_S.rf
  have hl : lv_has ls 11 [(0, .ref h0), (1, .int (nI 0)), (2, .ref pk), (3, .ref b), (4, .int cl_), (5, .int (nI ed))] := hl
  have hR : F_MH_verify_0 pp pb cl_ ed s = F_MH_verify_0 pp pb cl_ ed s := rfl
  have hF : frm (M_MH_verify_0) s s := frm_rf
  have ne_172_pp : 172 ≠ pp := nsp_ne (p := 172) rfl n_pk (show (5 : Nat) ≠ 1 by decide)
  have ne_172_pb : 172 ≠ pb := nsp_ne (p := 172) rfl n_b (show (5 : Nat) ≠ 1 by decide)
  have ne_225_pp : 225 ≠ pp := nsp_ne (p := 225) rfl n_pk (show (5 : Nat) ≠ 1 by decide)
  have ne_225_pb : 225 ≠ pb := nsp_ne (p := 225) rfl n_b (show (5 : Nat) ≠ 1 by decide)
  refine lv_aload_n hx hb dMH_verify_0 rfl (lv_at hl 0 rfl) ?_
  refine lv_iload_n hx hb dMH_verify_1 rfl (lv_at hl 1 rfl) ?_
  refine mp_v (cx := []) (wr := []) hP hD hS hA [] [] rfl rfl rfl (by decide) (va_runV (As := [.int (nI 0)]) (rest := []) F (N_MH_as_0 l g _ T s pl hO hU h0 k_h0) (cwV 1 hts (wg_app (wg_c kw_1698 (wg_c kw_1700 (wg_c ks_60 (wg_c kw_13 wg_n)))) kw_1701) rfl rfl rfl (by decide +kernel) ⟨by decide, by decide⟩) (pn_V (en_ok g) (ci := 12) (kn := 225) (fl := [(3, 172), (3, 181), (3, 226), (3, 291), (3, 299), (3, 308), (3, 317), (3, 326), (3, 334), (3, 342), (3, 350), (3, 359), (3, 368), (3, 369), (3, 370), (3, 371), (3, 372), (3, 373), (3, 374), (3, 375), (3, 376), (3, 377), (3, 378), (0, 0), (0, 0), (0, 0), (0, 0), (0, 0), (0, 0), (0, 0), (0, 0)]) hK hO k_h0 rfl hP hD hS hA hEn [] rfl rfl rfl) rfl rfl hl.1 rfl (lv_room (Nat.le_of_ble_eq_true rfl)) dMH_verify_2 ⟨by omega, by omega⟩) (fun  u21 H locs hu21 hP hD hS => ?_)
  obtain ⟨s21, pl⟩ := u21
  obtain ⟨⟨eq21, hFc21, ⟨x21, hx_21, hb_21⟩, ⟨x22, hx_22, hb_22⟩, ⟨x23, hx_23, hb_23⟩, ⟨x24, hx_24, hb_24⟩, ⟨x25, hx_25, hb_25⟩, ⟨x26, hx_26, hb_26⟩, ⟨x27, hx_27, hb_27⟩, ⟨x28, hx_28, hb_28⟩, -⟩, hO⟩ := hu21
  have hO : okn g T s21 pl := hO
  have hP : va_P g.1 vcl ([] ++ pl) _ := hP
  have hD : va_D _ ([] ++ pl) := hD
  have hFc21 : frm (M_MH_as_0) s s21 := hFc21
  have hb_21 : x21 = 0 := hb_21
  have hb_22 : x22 = 4 := hb_22
  have hb_23 : x23 = 4 := hb_23
  have hb_24 : x24 = 2 := hb_24
  have hb_25 : x25 = 131072 := hb_25
  have hb_26 : x26 = 95232 := hb_26
  have hb_27 : x27 = 78 := hb_27
  have hb_28 : x28 = 32 := hb_28
  replace hR := bnd_step hR eq21
  replace hE := bndP_step hE eq21
  have hF := frm_tr hF hFc21 (fun k hk => by unfold M_MH_as_0 at hk; unfold M_MH_verify_0; omega)
  subst hb_21
  subst hb_22
  subst hb_23
  subst hb_24
  subst hb_25
  subst hb_26
  subst hb_27
  subst hb_28
  refine W.widen (k := 0) (n := 0) (by omega) (by omega) ?_
  refine lv_aload_n hx hb dMH_verify_5 rfl (lv_at hl 0 rfl) ?_
  refine nw_get (C := "LatticeKeysModel$Hands") (TT := T_MH) (N := 31) hx hb hts (wg_ft i_MH) hown hK hO k_h0 (kn := 225) (ci := 12) (fl := [(3, 172), (3, 181), (3, 226), (3, 291), (3, 299), (3, 308), (3, 317), (3, 326), (3, 334), (3, 342), (3, 350), (3, 359), (3, 368), (3, 369), (3, 370), (3, 371), (3, 372), (3, 373), (3, 374), (3, 375), (3, 376), (3, 377), (3, 378), (0, 0), (0, 0), (0, 0), (0, 0), (0, 0), (0, 0), (0, 0), (0, 0)]) rfl hP rfl 23 (by decide) (hts _ (wg_t kw_1455)) (fun _ h9 => h9) (cd := (0, 0)) rfl dMH_verify_6 (fun v21 hv21 => ?_)
  obtain rfl := (show v21 = .int (s21.1 225 23) from hv21)
  obtain ⟨z21, ez21, hz21, hz22⟩ := cl_of (b := 2147483648) hx_21 (by omega) (by decide)
  replace hR := bnd_step hR ez21
  replace hE := bndP_step hE ez21
  refine mi_as hz21 ?_
  subst hz22
  refine lv_if_ne (tgt := 17) hx hb dMH_verify_9 (by decide) (fun h21 => absurd h21 (by decide)) (fun h21 => ?_)
  refine lv_bipush (v := nI 18) hx hb dMH_verify_12 (by decide) ?_
  refine lv_goto (tgt := 19) hx hb dMH_verify_14 (by decide) ?_
  refine lv_istore (lv' := [(6, .int (nI 18)), (0, .ref h0), (1, .int (nI 0)), (2, .ref pk), (3, .ref b), (4, .int cl_), (5, .int (nI ed))]) hx hb dMH_verify_19 hl (by decide) rfl (fun ls hl => ?_)
  refine lv_bipush (v := nI 8) hx hb dMH_verify_21 (by decide) ?_
  refine lv_aload_n hx hb dMH_verify_23 rfl (lv_at hl 1 rfl) ?_
  refine nw_get (C := "LatticeKeysModel$Hands") (TT := T_MH) (N := 31) hx hb hts (wg_ft i_MH) hown hK hO k_h0 (kn := 225) (ci := 12) (fl := [(3, 172), (3, 181), (3, 226), (3, 291), (3, 299), (3, 308), (3, 317), (3, 326), (3, 334), (3, 342), (3, 350), (3, 359), (3, 368), (3, 369), (3, 370), (3, 371), (3, 372), (3, 373), (3, 374), (3, 375), (3, 376), (3, 377), (3, 378), (0, 0), (0, 0), (0, 0), (0, 0), (0, 0), (0, 0), (0, 0), (0, 0)]) rfl hP rfl 30 (by decide) (hts _ (wg_t kw_1462)) (fun _ h9 => h9) (cd := (0, 0)) rfl dMH_verify_24 (fun v22 hv22 => ?_)
  obtain rfl := (show v22 = .int (s21.1 225 30) from hv22)
  obtain ⟨z22, ez22, hz23, hz24⟩ := cl_of (b := 2147483648) hx_28 (by omega) (by decide)
  replace hR := bnd_step hR ez22
  replace hE := bndP_step hE ez22
  refine mi_as hz23 ?_
  subst hz24
  refine mi_imul hx hb dMH_verify_27 ?_
  refine mi_as (show nI (8 * 32) = nI 256 from rfl) ?_
  refine lv_istore (lv' := [(7, .int (nI 256)), (6, .int (nI 18)), (0, .ref h0), (1, .int (nI 0)), (2, .ref pk), (3, .ref b), (4, .int cl_), (5, .int (nI ed))]) hx hb dMH_verify_28 hl (by decide) rfl (fun ls hl => ?_)
  refine lv_iconst (v := nI 1) hx hb dMH_verify_30 (by decide) ?_
  refine lv_istore (lv' := [(8, .int (nI 1)), (7, .int (nI 256)), (6, .int (nI 18)), (0, .ref h0), (1, .int (nI 0)), (2, .ref pk), (3, .ref b), (4, .int cl_), (5, .int (nI ed))]) hx hb dMH_verify_31 hl (by decide) rfl (fun ls hl => ?_)
  refine lv_iconst (v := nI 0) hx hb dMH_verify_33 (by decide) ?_
  refine lv_istore (lv' := [(9, .int (nI 0)), (8, .int (nI 1)), (7, .int (nI 256)), (6, .int (nI 18)), (0, .ref h0), (1, .int (nI 0)), (2, .ref pk), (3, .ref b), (4, .int cl_), (5, .int (nI ed))]) hx hb dMH_verify_34 hl (by decide) rfl (fun ls hl => ?_)
  have lp21 : ∀ (n21 : Nat) (i21 : Nat) (s22 : Sto) (pl : va_W) (ls : Array Slot) (H : Heap) (locs : List Loc), n21 + i21 = 32 → frm (M_MH_verify_0) s s22 → s22.1 225 23 = nI 0 → s22.1 225 24 = nI 4 → s22.1 225 25 = nI 4 → s22.1 225 26 = nI 2 → s22.1 225 27 = nI 131072 → s22.1 225 28 = nI 95232 → s22.1 225 29 = nI 78 → s22.1 225 30 = nI 32 → E_MH_verify_0_L0 pp pb cl_ ed n21 i21 s22 → F_MH_verify_0 pp pb cl_ ed s = F_MH_verify_0_L0 pp pb cl_ ed n21 i21 s22 → lv_has ls 11 [(9, .int (nI i21)), (8, .int (nI 1)), (7, .int (nI 256)), (6, .int (nI 18)), (0, .ref h0), (2, .ref pk), (3, .ref b), (4, .int cl_), (5, .int (nI ed))] → okn g T s22 pl → va_P g.1 vcl ([] ++ pl) H → va_D A ([] ++ pl) → va_S A s0.heap H locs → W p l e ({ frames := 5, cells := 0, slots := 0, locals := 116 } : Room) s0 m args below meth c H locs 0 0 (MQ below (va_Qi (fun (r : Int32) (u : (Int32 × Sto) × va_W) => (u.1 = F_MH_verify_0 pp pb cl_ ed s ∧ r = u.1.1 ∧ frm (M_MH_verify_0) s u.1.2 ∧ True) ∧ okn g T u.1.2 u.2) (po g.1 vcl A (fun (u : (Int32 × Sto) × va_W) => [] ++ u.2)) A) args s0 0 0 A) (F0 m 36 ls []) := by
    intro n21
    induction n21 with
    | zero =>
      intro i21 s22 pl ls H locs hm21 hF hf21 hf22 hf23 hf24 hf25 hf26 hf27 hf28 hE hR hl hO hP hD hS
      refine lv_iload hx hb dMH_verify_36 (lv_at hl 0 rfl) ?_
      refine lv_aload_n hx hb dMH_verify_38 rfl (lv_at hl 4 rfl) ?_
      refine nw_get (C := "LatticeKeysModel$Hands") (TT := T_MH) (N := 31) hx hb hts (wg_ft i_MH) hown hK hO k_h0 (kn := 225) (ci := 12) (fl := [(3, 172), (3, 181), (3, 226), (3, 291), (3, 299), (3, 308), (3, 317), (3, 326), (3, 334), (3, 342), (3, 350), (3, 359), (3, 368), (3, 369), (3, 370), (3, 371), (3, 372), (3, 373), (3, 374), (3, 375), (3, 376), (3, 377), (3, 378), (0, 0), (0, 0), (0, 0), (0, 0), (0, 0), (0, 0), (0, 0), (0, 0)]) rfl hP rfl 30 (by decide) (hts _ (wg_t kw_1462)) (fun _ h9 => h9) (cd := (0, 0)) rfl dMH_verify_39 (fun v23 hv23 => ?_)
      obtain rfl := (show v23 = .int (s22.1 225 30) from hv23)
      obtain ⟨z23, ez23, hz25, hz26⟩ := cl_of (b := 2147483648) hf28 (by omega) (by decide)
      replace hR := bnd_step hR ez23
      replace hE := bndP_step hE ez23
      refine mi_as hz25 ?_
      subst hz26
      refine mi_ge (tgt := 62) hx hb dMH_verify_42 (by decide) (by omega) (by omega) (fun h22 => ?_) (fun h22 => absurd h22 (by omega))
      refine lv_iconst (v := nI 0) hx hb dMH_verify_62 (by decide) ?_
      refine lv_istore (lv' := [(9, .int (nI 0)), (8, .int (nI 1)), (7, .int (nI 256)), (6, .int (nI 18)), (0, .ref h0), (2, .ref pk), (3, .ref b), (4, .int cl_), (5, .int (nI ed))]) hx hb dMH_verify_63 hl (by decide) rfl (fun ls hl => ?_)
      have lp22 : ∀ (n22 : Nat) (i22 : Nat) (z24 : Int32) (az21 : Nat) (s23 : Sto) (pl : va_W) (ls : Array Slot) (H : Heap) (locs : List Loc), n22 + i22 = 4 → (az21 = 256 + 4608 * i22) → frm (M_MH_verify_0) s s23 → s23.1 225 23 = nI 0 → s23.1 225 24 = nI 4 → s23.1 225 25 = nI 4 → s23.1 225 26 = nI 2 → s23.1 225 27 = nI 131072 → s23.1 225 28 = nI 95232 → s23.1 225 29 = nI 78 → s23.1 225 30 = nI 32 → E_MH_verify_0_L1 pp pb cl_ ed n22 i22 z24 az21 s23 → F_MH_verify_0 pp pb cl_ ed s = F_MH_verify_0_L1 pp pb cl_ ed n22 i22 z24 az21 s23 → lv_has ls 11 [(9, .int (nI i22)), (8, .int z24), (7, .int (nI az21)), (6, .int (nI 18)), (0, .ref h0), (2, .ref pk), (3, .ref b), (4, .int cl_), (5, .int (nI ed))] → okn g T s23 pl → va_P g.1 vcl ([] ++ pl) H → va_D A ([] ++ pl) → va_S A s0.heap H locs → W p l e ({ frames := 5, cells := 0, slots := 0, locals := 116 } : Room) s0 m args below meth c H locs 0 0 (MQ below (va_Qi (fun (r : Int32) (u : (Int32 × Sto) × va_W) => (u.1 = F_MH_verify_0 pp pb cl_ ed s ∧ r = u.1.1 ∧ frm (M_MH_verify_0) s u.1.2 ∧ True) ∧ okn g T u.1.2 u.2) (po g.1 vcl A (fun (u : (Int32 × Sto) × va_W) => [] ++ u.2)) A) args s0 0 0 A) (F0 m 65 ls []) := by
        intro n22
        induction n22 with
        | zero =>
          intro i22 z24 az21 s23 pl ls H locs hm22 hi21 hF hf29 hf30 hf31 hf32 hf33 hf34 hf35 hf36 hE hR hl hO hP hD hS
          refine lv_iload hx hb dMH_verify_65 (lv_at hl 0 rfl) ?_
          refine lv_aload_n hx hb dMH_verify_67 rfl (lv_at hl 4 rfl) ?_
          refine nw_get (C := "LatticeKeysModel$Hands") (TT := T_MH) (N := 31) hx hb hts (wg_ft i_MH) hown hK hO k_h0 (kn := 225) (ci := 12) (fl := [(3, 172), (3, 181), (3, 226), (3, 291), (3, 299), (3, 308), (3, 317), (3, 326), (3, 334), (3, 342), (3, 350), (3, 359), (3, 368), (3, 369), (3, 370), (3, 371), (3, 372), (3, 373), (3, 374), (3, 375), (3, 376), (3, 377), (3, 378), (0, 0), (0, 0), (0, 0), (0, 0), (0, 0), (0, 0), (0, 0), (0, 0)]) rfl hP rfl 25 (by decide) (hts _ (wg_t kw_1457)) (fun _ h9 => h9) (cd := (0, 0)) rfl dMH_verify_68 (fun v24 hv24 => ?_)
          obtain rfl := (show v24 = .int (s23.1 225 25) from hv24)
          obtain ⟨z25, ez24, hz27, hz28⟩ := cl_of (b := 2147483648) hf31 (by omega) (by decide)
          replace hR := bnd_step hR ez24
          replace hE := bndP_step hE ez24
          refine mi_as hz27 ?_
          subst hz28
          refine mi_ge (tgt := 164) hx hb dMH_verify_71 (by decide) (by omega) (by omega) (fun h23 => ?_) (fun h23 => absurd h23 (by omega))
          refine lv_iload hx hb dMH_verify_164 (lv_at hl 1 rfl) ?_
          refine lv_if_eq (tgt := 182) hx hb dMH_verify_166 (by decide) (fun h24 => ?_) (fun h24 => ?_)
          · replace hR := hR.trans (if_pos h24)
            replace hE := iteP_pos h24 hE
            refine lv_iconst (v := nI 0) hx hb dMH_verify_182 (by decide) ?_
            exact mp_zret hx hb hr hlk rfl hP hD hS ((nI 0, s23), pl) ⟨⟨hR.symm, rfl, hF, trivial⟩, hO⟩ [] rfl rfl rfl (by omega) (by omega) dMH_verify_183
          · replace hR := hR.trans (if_neg h24)
            replace hE := iteP_neg h24 hE
            refine lv_aload_n hx hb dMH_verify_169 rfl (lv_at hl 4 rfl) ?_
            refine lv_aload_n hx hb dMH_verify_170 rfl (lv_at hl 6 rfl) ?_
            refine lv_iload hx hb dMH_verify_171 (lv_at hl 2 rfl) ?_
            refine lv_bipush (v := nI 8) hx hb dMH_verify_173 (by decide) ?_
            refine mi_idiv hx hb dMH_verify_175 (by omega) (by omega) (by omega) ?_
            refine mp_i (cx := []) (wr := []) hP hD hS hA [] [] rfl rfl rfl (by decide) (va_runV (As := [.ref b, .int (nI (az21 / 8))]) (rest := []) F (N_MH_readHints_0 l g _ T s23 pl hO hU h0 b pb (az21 / 8) k_h0 k_b n_b hf29 hf30 hf31 hf32 hf33 hf34 hf35 hf36 (by omega)) (cwV 2 hts (wg_app (wg_c kw_1925 (wg_c kw_1927 (wg_c ks_81 (wg_c kw_13 wg_n)))) kw_1928) rfl rfl rfl (by decide +kernel) ⟨by decide, by decide⟩) (pn_V (en_ok g) (ci := 12) (kn := 225) (fl := [(3, 172), (3, 181), (3, 226), (3, 291), (3, 299), (3, 308), (3, 317), (3, 326), (3, 334), (3, 342), (3, 350), (3, 359), (3, 368), (3, 369), (3, 370), (3, 371), (3, 372), (3, 373), (3, 374), (3, 375), (3, 376), (3, 377), (3, 378), (0, 0), (0, 0), (0, 0), (0, 0), (0, 0), (0, 0), (0, 0), (0, 0)]) hK hO k_h0 rfl hP hD hS hA hEn [] rfl rfl rfl) rfl rfl hl.1 rfl (lv_room (Nat.le_of_ble_eq_true rfl)) dMH_verify_176 ⟨by omega, by omega⟩) (fun r21 u22 H locs hu22 hP hD hS => ?_)
            obtain ⟨q21, pl⟩ := u22
            obtain ⟨⟨eq22, rfl, hFc22, -⟩, hO⟩ := hu22
            have hO : okn g T q21.2 pl := hO
            have hP : va_P g.1 vcl ([] ++ pl) _ := hP
            have hD : va_D _ ([] ++ pl) := hD
            have hFc22 : frm (M_MH_readHints_0) s23 q21.2 := hFc22
            replace hR := bnd_step hR eq22
            replace hE := bndP_step hE eq22
            have hF := frm_tr hF hFc22 (fun k hk => by unfold M_MH_readHints_0 at hk; unfold M_MH_verify_0; omega)
            have hf37 : q21.2.1 225 23 = nI 0 := fc_F hf29 hFc22 (by unfold M_MH_readHints_0; omega)
            have hf38 : q21.2.1 225 24 = nI 4 := fc_F hf30 hFc22 (by unfold M_MH_readHints_0; omega)
            have hf39 : q21.2.1 225 25 = nI 4 := fc_F hf31 hFc22 (by unfold M_MH_readHints_0; omega)
            have hf40 : q21.2.1 225 26 = nI 2 := fc_F hf32 hFc22 (by unfold M_MH_readHints_0; omega)
            have hf41 : q21.2.1 225 27 = nI 131072 := fc_F hf33 hFc22 (by unfold M_MH_readHints_0; omega)
            have hf42 : q21.2.1 225 28 = nI 95232 := fc_F hf34 hFc22 (by unfold M_MH_readHints_0; omega)
            have hf43 : q21.2.1 225 29 = nI 78 := fc_F hf35 hFc22 (by unfold M_MH_readHints_0; omega)
            have hf44 : q21.2.1 225 30 = nI 32 := fc_F hf36 hFc22 (by unfold M_MH_readHints_0; omega)
            refine W.widen (k := 0) (n := 0) (by omega) (by omega) ?_
            refine lv_if_ne (tgt := 184) hx hb dMH_verify_179 (by decide) (fun h25 => ?_) (fun h25 => ?_)
            · replace hR := hR.trans (if_neg h25)
              replace hE := iteP_neg h25 hE
              refine lv_aload_n hx hb dMH_verify_184 rfl (lv_at hl 4 rfl) ?_
              refine nw_get (C := "LatticeKeysModel$Hands") (TT := T_MH) (N := 31) hx hb hts (wg_ft i_MH) hown hK hO k_h0 (kn := 225) (ci := 12) (fl := [(3, 172), (3, 181), (3, 226), (3, 291), (3, 299), (3, 308), (3, 317), (3, 326), (3, 334), (3, 342), (3, 350), (3, 359), (3, 368), (3, 369), (3, 370), (3, 371), (3, 372), (3, 373), (3, 374), (3, 375), (3, 376), (3, 377), (3, 378), (0, 0), (0, 0), (0, 0), (0, 0), (0, 0), (0, 0), (0, 0), (0, 0)]) rfl hP rfl 0 (by decide) (hts _ (wg_t kw_1432)) (fun _ h9 => h9) (cd := (3, 172)) rfl dMH_verify_185 (fun v25 hv25 => ?_)
              obtain ⟨r22, rfl, kr21⟩ := (show ∃ r : Nat, v25 = .ref r ∧ T r = some 172 from hv25)
              refine mp_v (cx := []) (wr := []) hP hD hS hA [] [] rfl rfl rfl (by decide) (va_runV (As := []) (rest := []) F (N_MS_shake l g _ T q21.2 pl hO hU r22 kr21) (cwV 0 hts (wg_app (wg_c kw_1714 (wg_c kw_1657 (wg_c kw_1658 (wg_c kw_10 wg_n)))) kw_1659) rfl rfl rfl (by decide +kernel) ⟨by decide, by decide⟩) (pn_V (en_ok g) (ci := 9) (kn := 172) (fl := [(3, 173), (3, 174), (3, 175), (3, 176), (3, 177), (0, 0), (0, 0), (0, 0)]) hK hO kr21 rfl hP hD hS hA hEn [] rfl rfl rfl) rfl rfl hl.1 rfl (lv_room (Nat.le_of_ble_eq_true rfl)) dMH_verify_188 ⟨by omega, by omega⟩) (fun  u23 H locs hu23 hP hD hS => ?_)
              obtain ⟨s24, pl⟩ := u23
              obtain ⟨⟨eq23, hFc23, ⟨x31, hx_31, hb_31⟩, ⟨x32, hx_32, hb_32⟩, -⟩, hO⟩ := hu23
              have hO : okn g T s24 pl := hO
              have hP : va_P g.1 vcl ([] ++ pl) _ := hP
              have hD : va_D _ ([] ++ pl) := hD
              have hFc23 : frm (M_MS_shake) q21.2 s24 := hFc23
              have hb_31 : x31 = 0 := hb_31
              have hb_32 : x32 = 136 := hb_32
              replace hR := bnd_step hR eq23
              replace hE := bndP_step hE eq23
              have hF := frm_tr hF hFc23 (fun k hk => by unfold M_MS_shake at hk; unfold M_MH_verify_0; omega)
              have hf45 : s24.1 225 23 = nI 0 := fc_F hf37 hFc23 (by unfold M_MS_shake; omega)
              have hf46 : s24.1 225 24 = nI 4 := fc_F hf38 hFc23 (by unfold M_MS_shake; omega)
              have hf47 : s24.1 225 25 = nI 4 := fc_F hf39 hFc23 (by unfold M_MS_shake; omega)
              have hf48 : s24.1 225 26 = nI 2 := fc_F hf40 hFc23 (by unfold M_MS_shake; omega)
              have hf49 : s24.1 225 27 = nI 131072 := fc_F hf41 hFc23 (by unfold M_MS_shake; omega)
              have hf50 : s24.1 225 28 = nI 95232 := fc_F hf42 hFc23 (by unfold M_MS_shake; omega)
              have hf51 : s24.1 225 29 = nI 78 := fc_F hf43 hFc23 (by unfold M_MS_shake; omega)
              have hf52 : s24.1 225 30 = nI 32 := fc_F hf44 hFc23 (by unfold M_MS_shake; omega)
              refine W.widen (k := 0) (n := 0) (by omega) (by omega) ?_
              refine lv_aload_n hx hb dMH_verify_191 rfl (lv_at hl 4 rfl) ?_
              refine nw_get (C := "LatticeKeysModel$Hands") (TT := T_MH) (N := 31) hx hb hts (wg_ft i_MH) hown hK hO k_h0 (kn := 225) (ci := 12) (fl := [(3, 172), (3, 181), (3, 226), (3, 291), (3, 299), (3, 308), (3, 317), (3, 326), (3, 334), (3, 342), (3, 350), (3, 359), (3, 368), (3, 369), (3, 370), (3, 371), (3, 372), (3, 373), (3, 374), (3, 375), (3, 376), (3, 377), (3, 378), (0, 0), (0, 0), (0, 0), (0, 0), (0, 0), (0, 0), (0, 0), (0, 0)]) rfl hP rfl 0 (by decide) (hts _ (wg_t kw_1432)) (fun _ h9 => h9) (cd := (3, 172)) rfl dMH_verify_192 (fun v26 hv26 => ?_)
              obtain ⟨r23, rfl, kr22⟩ := (show ∃ r : Nat, v26 = .ref r ∧ T r = some 172 from hv26)
              refine lv_aload_n hx hb dMH_verify_195 rfl (lv_at hl 5 rfl) ?_
              refine lv_iconst (v := nI 0) hx hb dMH_verify_196 (by decide) ?_
              refine lv_aload_n hx hb dMH_verify_197 rfl (lv_at hl 4 rfl) ?_
              refine nw_get (C := "LatticeKeysModel$Hands") (TT := T_MH) (N := 31) hx hb hts (wg_ft i_MH) hown hK hO k_h0 (kn := 225) (ci := 12) (fl := [(3, 172), (3, 181), (3, 226), (3, 291), (3, 299), (3, 308), (3, 317), (3, 326), (3, 334), (3, 342), (3, 350), (3, 359), (3, 368), (3, 369), (3, 370), (3, 371), (3, 372), (3, 373), (3, 374), (3, 375), (3, 376), (3, 377), (3, 378), (0, 0), (0, 0), (0, 0), (0, 0), (0, 0), (0, 0), (0, 0), (0, 0)]) rfl hP rfl 23 (by decide) (hts _ (wg_t kw_1455)) (fun _ h9 => h9) (cd := (0, 0)) rfl dMH_verify_198 (fun v27 hv27 => ?_)
              obtain rfl := (show v27 = .int (s24.1 225 23) from hv27)
              obtain ⟨z26, ez25, hz29, hz30⟩ := cl_of (b := 2147483648) hf45 (by omega) (by decide)
              replace hR := bnd_step hR ez25
              replace hE := bndP_step hE ez25
              refine mi_as hz29 ?_
              subst hz30
              refine mp_i (cx := []) (wr := []) hP hD hS hA [] [] rfl rfl rfl (by decide) (va_runS (As := [.int (nI 0)]) (rest := [.int (nI 0), .ref pk, .ref r23]) F (N_MH_openSize_0 l g _ T s24 pl hO hU ) (va_cwS 1 hts (wg_app (wg_c kw_1740 (wg_c kw_1741 (wg_c kw_13 wg_n))) kw_1742) rfl rfl rfl (by decide +kernel) ⟨by decide, by decide⟩) (pp_S (en_ok g) hP hD hS hA hEn [] rfl rfl) rfl rfl hl.1 rfl (lv_room (Nat.le_of_ble_eq_true rfl)) dMH_verify_201 ⟨by omega, by omega⟩) (fun r24 u24 H locs hu24 hP hD hS => ?_)
              obtain ⟨q22, pl⟩ := u24
              obtain ⟨⟨eq24, rfl, hFc24, ⟨x34, hx_34, hb_34⟩, hxp24, -⟩, hO⟩ := hu24
              have hO : okn g T q22.2 pl := hO
              have hP : va_P g.1 vcl ([] ++ pl) _ := hP
              have hD : va_D _ ([] ++ pl) := hD
              have hFc24 : frm (M_MH_openSize_0) s24 q22.2 := hFc24
              have hb_34 : x34 < 1313 := hb_34
              replace hR := bnd_step hR eq24
              replace hE := bndP_step hE eq24
              have hF := frm_tr hF hFc24 (fun k hk => by unfold M_MH_openSize_0 at hk; unfold M_MH_verify_0; omega)
              have hf53 : q22.2.1 225 23 = nI 0 := fc_F hf45 hFc24 (by unfold M_MH_openSize_0; omega)
              have hf54 : q22.2.1 225 24 = nI 4 := fc_F hf46 hFc24 (by unfold M_MH_openSize_0; omega)
              have hf55 : q22.2.1 225 25 = nI 4 := fc_F hf47 hFc24 (by unfold M_MH_openSize_0; omega)
              have hf56 : q22.2.1 225 26 = nI 2 := fc_F hf48 hFc24 (by unfold M_MH_openSize_0; omega)
              have hf57 : q22.2.1 225 27 = nI 131072 := fc_F hf49 hFc24 (by unfold M_MH_openSize_0; omega)
              have hf58 : q22.2.1 225 28 = nI 95232 := fc_F hf50 hFc24 (by unfold M_MH_openSize_0; omega)
              have hf59 : q22.2.1 225 29 = nI 78 := fc_F hf51 hFc24 (by unfold M_MH_openSize_0; omega)
              have hf60 : q22.2.1 225 30 = nI 32 := fc_F hf52 hFc24 (by unfold M_MH_openSize_0; omega)
              have hf61 : q22.2.1 172 6 = nI x31 := fc_F hx_31 hFc24 (by unfold M_MH_openSize_0; omega)
              have hf62 : q22.2.1 172 5 = nI x32 := fc_F hx_32 hFc24 (by unfold M_MH_openSize_0; omega)
              obtain ⟨z27, ez26, hz31, hz32⟩ := cl_of (b := 2147483648) hx_34 (by omega) (by decide)
              replace hR := bnd_step hR ez26
              replace hE := bndP_step hE ez26
              refine mi_as hz31 ?_
              have hsz21 : z27 = 1312 := (nI_eq (by omega) (by omega)).mp (hz31.symm.trans hxp24)
              subst hsz21
              refine W.widen (k := 0) (n := 0) (by omega) (by omega) ?_
              refine mp_v (cx := []) (wr := []) hP hD hS hA [] [] rfl rfl rfl (by decide) (va_runV (As := [.ref pk, .int (nI 0), .int (nI 1312)]) (rest := []) F (N_MS_puts l g _ T q22.2 pl hO hU r23 pk pp 2592 0 1312 x31 x32 kr22 k_pk n_pk hf61 hf62 (by omega) (by omega) (by omega) (by omega)) (cwV 3 hts (wg_app (wg_c kw_1715 (wg_c kw_1608 (wg_c kw_1609 (wg_c kw_10 wg_n)))) kw_1610) rfl rfl rfl (by decide +kernel) ⟨by decide, by decide⟩) (pn_V (en_ok g) (ci := 9) (kn := 172) (fl := [(3, 173), (3, 174), (3, 175), (3, 176), (3, 177), (0, 0), (0, 0), (0, 0)]) hK hO kr22 rfl hP hD hS hA hEn [] rfl rfl rfl) rfl rfl hl.1 rfl (lv_room (Nat.le_of_ble_eq_true rfl)) dMH_verify_204 ⟨by omega, by omega⟩) (fun  u25 H locs hu25 hP hD hS => ?_)
              obtain ⟨s25, pl⟩ := u25
              obtain ⟨⟨eq25, hFc25, ⟨x35, hx_35, hb_35⟩, ⟨x36, hx_36, hb_36⟩, -⟩, hO⟩ := hu25
              have hO : okn g T s25 pl := hO
              have hP : va_P g.1 vcl ([] ++ pl) _ := hP
              have hD : va_D _ ([] ++ pl) := hD
              have hFc25 : frm (M_MS_puts) q22.2 s25 := hFc25
              have hb_35 : x35 < x32 := hb_35
              have hb_36 : x36 = x32 := hb_36
              replace hR := bnd_step hR eq25
              replace hE := bndP_step hE eq25
              have hF := frm_tr hF hFc25 (fun k hk => by unfold M_MS_puts at hk; unfold M_MH_verify_0; omega)
              have hf63 : s25.1 225 23 = nI 0 := fc_F hf53 hFc25 (by unfold M_MS_puts; omega)
              have hf64 : s25.1 225 24 = nI 4 := fc_F hf54 hFc25 (by unfold M_MS_puts; omega)
              have hf65 : s25.1 225 25 = nI 4 := fc_F hf55 hFc25 (by unfold M_MS_puts; omega)
              have hf66 : s25.1 225 26 = nI 2 := fc_F hf56 hFc25 (by unfold M_MS_puts; omega)
              have hf67 : s25.1 225 27 = nI 131072 := fc_F hf57 hFc25 (by unfold M_MS_puts; omega)
              have hf68 : s25.1 225 28 = nI 95232 := fc_F hf58 hFc25 (by unfold M_MS_puts; omega)
              have hf69 : s25.1 225 29 = nI 78 := fc_F hf59 hFc25 (by unfold M_MS_puts; omega)
              have hf70 : s25.1 225 30 = nI 32 := fc_F hf60 hFc25 (by unfold M_MS_puts; omega)
              refine W.widen (k := 0) (n := 0) (by omega) (by omega) ?_
              refine lv_aload_n hx hb dMH_verify_207 rfl (lv_at hl 4 rfl) ?_
              refine nw_get (C := "LatticeKeysModel$Hands") (TT := T_MH) (N := 31) hx hb hts (wg_ft i_MH) hown hK hO k_h0 (kn := 225) (ci := 12) (fl := [(3, 172), (3, 181), (3, 226), (3, 291), (3, 299), (3, 308), (3, 317), (3, 326), (3, 334), (3, 342), (3, 350), (3, 359), (3, 368), (3, 369), (3, 370), (3, 371), (3, 372), (3, 373), (3, 374), (3, 375), (3, 376), (3, 377), (3, 378), (0, 0), (0, 0), (0, 0), (0, 0), (0, 0), (0, 0), (0, 0), (0, 0)]) rfl hP rfl 0 (by decide) (hts _ (wg_t kw_1432)) (fun _ h9 => h9) (cd := (3, 172)) rfl dMH_verify_208 (fun v28 hv28 => ?_)
              obtain ⟨r25, rfl, kr23⟩ := (show ∃ r : Nat, v28 = .ref r ∧ T r = some 172 from hv28)
              refine mp_v (cx := []) (wr := []) hP hD hS hA [] [] rfl rfl rfl (by decide) (va_runV (As := []) (rest := []) F (N_MS_end l g _ T s25 pl hO hU r25 x35 x36 kr23 hx_35 hx_36 (by omega) (by omega)) (cwV 0 hts (wg_app (wg_c kw_1717 (wg_c kw_1630 (wg_c kw_1631 (wg_c kw_10 wg_n)))) kw_1632) rfl rfl rfl (by decide +kernel) ⟨by decide, by decide⟩) (pn_V (en_ok g) (ci := 9) (kn := 172) (fl := [(3, 173), (3, 174), (3, 175), (3, 176), (3, 177), (0, 0), (0, 0), (0, 0)]) hK hO kr23 rfl hP hD hS hA hEn [] rfl rfl rfl) rfl rfl hl.1 rfl (lv_room (Nat.le_of_ble_eq_true rfl)) dMH_verify_211 ⟨by omega, by omega⟩) (fun  u26 H locs hu26 hP hD hS => ?_)
              obtain ⟨s26, pl⟩ := u26
              obtain ⟨⟨eq26, hFc26, ⟨x38, hx_38, hb_38⟩, ⟨x39, hx_39, hb_39⟩, -⟩, hO⟩ := hu26
              have hO : okn g T s26 pl := hO
              have hP : va_P g.1 vcl ([] ++ pl) _ := hP
              have hD : va_D _ ([] ++ pl) := hD
              have hFc26 : frm (M_MS_end) s25 s26 := hFc26
              have hb_38 : x38 = 0 := hb_38
              have hb_39 : x39 = x36 := hb_39
              replace hR := bnd_step hR eq26
              replace hE := bndP_step hE eq26
              have hF := frm_tr hF hFc26 (fun k hk => by unfold M_MS_end at hk; unfold M_MH_verify_0; omega)
              have hf71 : s26.1 225 23 = nI 0 := fc_F hf63 hFc26 (by unfold M_MS_end; omega)
              have hf72 : s26.1 225 24 = nI 4 := fc_F hf64 hFc26 (by unfold M_MS_end; omega)
              have hf73 : s26.1 225 25 = nI 4 := fc_F hf65 hFc26 (by unfold M_MS_end; omega)
              have hf74 : s26.1 225 26 = nI 2 := fc_F hf66 hFc26 (by unfold M_MS_end; omega)
              have hf75 : s26.1 225 27 = nI 131072 := fc_F hf67 hFc26 (by unfold M_MS_end; omega)
              have hf76 : s26.1 225 28 = nI 95232 := fc_F hf68 hFc26 (by unfold M_MS_end; omega)
              have hf77 : s26.1 225 29 = nI 78 := fc_F hf69 hFc26 (by unfold M_MS_end; omega)
              have hf78 : s26.1 225 30 = nI 32 := fc_F hf70 hFc26 (by unfold M_MS_end; omega)
              refine W.widen (k := 0) (n := 0) (by omega) (by omega) ?_
              refine lv_aload_n hx hb dMH_verify_214 rfl (lv_at hl 4 rfl) ?_
              refine nw_get (C := "LatticeKeysModel$Hands") (TT := T_MH) (N := 31) hx hb hts (wg_ft i_MH) hown hK hO k_h0 (kn := 225) (ci := 12) (fl := [(3, 172), (3, 181), (3, 226), (3, 291), (3, 299), (3, 308), (3, 317), (3, 326), (3, 334), (3, 342), (3, 350), (3, 359), (3, 368), (3, 369), (3, 370), (3, 371), (3, 372), (3, 373), (3, 374), (3, 375), (3, 376), (3, 377), (3, 378), (0, 0), (0, 0), (0, 0), (0, 0), (0, 0), (0, 0), (0, 0), (0, 0)]) rfl hP rfl 0 (by decide) (hts _ (wg_t kw_1432)) (fun _ h9 => h9) (cd := (3, 172)) rfl dMH_verify_215 (fun v29 hv29 => ?_)
              obtain ⟨r26, rfl, kr24⟩ := (show ∃ r : Nat, v29 = .ref r ∧ T r = some 172 from hv29)
              refine lv_aload_n hx hb dMH_verify_218 rfl (lv_at hl 4 rfl) ?_
              refine nw_get (C := "LatticeKeysModel$Hands") (TT := T_MH) (N := 31) hx hb hts (wg_ft i_MH) hown hK hO k_h0 (kn := 225) (ci := 12) (fl := [(3, 172), (3, 181), (3, 226), (3, 291), (3, 299), (3, 308), (3, 317), (3, 326), (3, 334), (3, 342), (3, 350), (3, 359), (3, 368), (3, 369), (3, 370), (3, 371), (3, 372), (3, 373), (3, 374), (3, 375), (3, 376), (3, 377), (3, 378), (0, 0), (0, 0), (0, 0), (0, 0), (0, 0), (0, 0), (0, 0), (0, 0)]) rfl hP rfl 22 (by decide) (hts _ (wg_t kw_1454)) (fun _ h9 => h9) (cd := (3, 378)) rfl dMH_verify_219 (fun v30 hv30 => ?_)
              obtain ⟨r27, rfl, kr25⟩ := (show ∃ r : Nat, v30 = .ref r ∧ T r = some 378 from hv30)
              refine lv_iconst (v := nI 0) hx hb dMH_verify_222 (by decide) ?_
              refine lv_bipush (v := nI 64) hx hb dMH_verify_223 (by decide) ?_
              refine mp_v (cx := []) (wr := []) hP hD hS hA [] [] rfl rfl rfl (by decide) (va_runV (As := [.ref r27, .int (nI 0), .int (nI 64)]) (rest := []) F (N_MS_take l g _ T s26 pl hO hU r26 r27 378 64 0 64 x38 x39 kr24 kr25 rfl hx_38 hx_39 (by omega) (by omega) (by omega) (by omega)) (cwV 3 hts (wg_app (wg_c kw_1718 (wg_c kw_1634 (wg_c kw_1635 (wg_c kw_10 wg_n)))) kw_1636) rfl rfl rfl (by decide +kernel) ⟨by decide, by decide⟩) (pn_V (en_ok g) (ci := 9) (kn := 172) (fl := [(3, 173), (3, 174), (3, 175), (3, 176), (3, 177), (0, 0), (0, 0), (0, 0)]) hK hO kr24 rfl hP hD hS hA hEn [] rfl rfl rfl) rfl rfl hl.1 rfl (lv_room (Nat.le_of_ble_eq_true rfl)) dMH_verify_225 ⟨by omega, by omega⟩) (fun  u27 H locs hu27 hP hD hS => ?_)
              obtain ⟨s27, pl⟩ := u27
              obtain ⟨⟨eq27, hFc27, ⟨x41, hx_41, hb_41⟩, ⟨x42, hx_42, hb_42⟩, -⟩, hO⟩ := hu27
              have hO : okn g T s27 pl := hO
              have hP : va_P g.1 vcl ([] ++ pl) _ := hP
              have hD : va_D _ ([] ++ pl) := hD
              have hFc27 : frm (M_MS_take 378) s26 s27 := hFc27
              have hb_41 : x41 ≤ x39 := hb_41
              have hb_42 : x42 = x39 := hb_42
              replace hR := bnd_step hR eq27
              replace hE := bndP_step hE eq27
              have hF := frm_tr hF hFc27 (fun k hk => by unfold M_MS_take at hk; unfold M_MH_verify_0; omega)
              have hf79 : s27.1 225 23 = nI 0 := fc_F hf71 hFc27 (by unfold M_MS_take; omega)
              have hf80 : s27.1 225 24 = nI 4 := fc_F hf72 hFc27 (by unfold M_MS_take; omega)
              have hf81 : s27.1 225 25 = nI 4 := fc_F hf73 hFc27 (by unfold M_MS_take; omega)
              have hf82 : s27.1 225 26 = nI 2 := fc_F hf74 hFc27 (by unfold M_MS_take; omega)
              have hf83 : s27.1 225 27 = nI 131072 := fc_F hf75 hFc27 (by unfold M_MS_take; omega)
              have hf84 : s27.1 225 28 = nI 95232 := fc_F hf76 hFc27 (by unfold M_MS_take; omega)
              have hf85 : s27.1 225 29 = nI 78 := fc_F hf77 hFc27 (by unfold M_MS_take; omega)
              have hf86 : s27.1 225 30 = nI 32 := fc_F hf78 hFc27 (by unfold M_MS_take; omega)
              refine W.widen (k := 0) (n := 0) (by omega) (by omega) ?_
              refine lv_aload_n hx hb dMH_verify_228 rfl (lv_at hl 4 rfl) ?_
              refine lv_aload_n hx hb dMH_verify_229 rfl (lv_at hl 4 rfl) ?_
              refine nw_get (C := "LatticeKeysModel$Hands") (TT := T_MH) (N := 31) hx hb hts (wg_ft i_MH) hown hK hO k_h0 (kn := 225) (ci := 12) (fl := [(3, 172), (3, 181), (3, 226), (3, 291), (3, 299), (3, 308), (3, 317), (3, 326), (3, 334), (3, 342), (3, 350), (3, 359), (3, 368), (3, 369), (3, 370), (3, 371), (3, 372), (3, 373), (3, 374), (3, 375), (3, 376), (3, 377), (3, 378), (0, 0), (0, 0), (0, 0), (0, 0), (0, 0), (0, 0), (0, 0), (0, 0)]) rfl hP rfl 22 (by decide) (hts _ (wg_t kw_1454)) (fun _ h9 => h9) (cd := (3, 378)) rfl dMH_verify_230 (fun v31 hv31 => ?_)
              obtain ⟨r28, rfl, kr26⟩ := (show ∃ r : Nat, v31 = .ref r ∧ T r = some 378 from hv31)
              refine lv_iconst (v := nI 0) hx hb dMH_verify_233 (by decide) ?_
              refine lv_aload_n hx hb dMH_verify_234 rfl (lv_at hl 6 rfl) ?_
              refine lv_aload_n hx hb dMH_verify_235 rfl (lv_at hl 4 rfl) ?_
              refine nw_get (C := "LatticeKeysModel$Hands") (TT := T_MH) (N := 31) hx hb hts (wg_ft i_MH) hown hK hO k_h0 (kn := 225) (ci := 12) (fl := [(3, 172), (3, 181), (3, 226), (3, 291), (3, 299), (3, 308), (3, 317), (3, 326), (3, 334), (3, 342), (3, 350), (3, 359), (3, 368), (3, 369), (3, 370), (3, 371), (3, 372), (3, 373), (3, 374), (3, 375), (3, 376), (3, 377), (3, 378), (0, 0), (0, 0), (0, 0), (0, 0), (0, 0), (0, 0), (0, 0), (0, 0)]) rfl hP rfl 23 (by decide) (hts _ (wg_t kw_1455)) (fun _ h9 => h9) (cd := (0, 0)) rfl dMH_verify_236 (fun v32 hv32 => ?_)
              obtain rfl := (show v32 = .int (s27.1 225 23) from hv32)
              obtain ⟨z28, ez27, hz33, hz34⟩ := cl_of (b := 2147483648) hf79 (by omega) (by decide)
              replace hR := bnd_step hR ez27
              replace hE := bndP_step hE ez27
              refine mi_as hz33 ?_
              subst hz34
              refine mp_i (cx := []) (wr := []) hP hD hS hA [] [] rfl rfl rfl (by decide) (va_runS (As := [.int (nI 0)]) (rest := [.ref b, .int (nI 0), .ref r28, .ref h0]) F (N_MH_markSize_0 l g _ T s27 pl hO hU ) (va_cwS 1 hts (wg_app (wg_c kw_1929 (wg_c kw_1915 (wg_c kw_13 wg_n))) kw_1916) rfl rfl rfl (by decide +kernel) ⟨by decide, by decide⟩) (pp_S (en_ok g) hP hD hS hA hEn [] rfl rfl) rfl rfl hl.1 rfl (lv_room (Nat.le_of_ble_eq_true rfl)) dMH_verify_239 ⟨by omega, by omega⟩) (fun r29 u28 H locs hu28 hP hD hS => ?_)
              obtain ⟨q23, pl⟩ := u28
              obtain ⟨⟨eq28, rfl, hFc28, ⟨x44, hx_44, hb_44⟩, hxp28, -⟩, hO⟩ := hu28
              have hO : okn g T q23.2 pl := hO
              have hP : va_P g.1 vcl ([] ++ pl) _ := hP
              have hD : va_D _ ([] ++ pl) := hD
              have hFc28 : frm (M_MH_markSize_0) s27 q23.2 := hFc28
              have hb_44 : x44 < 2421 := hb_44
              replace hR := bnd_step hR eq28
              replace hE := bndP_step hE eq28
              have hF := frm_tr hF hFc28 (fun k hk => by unfold M_MH_markSize_0 at hk; unfold M_MH_verify_0; omega)
              have hf87 : q23.2.1 225 23 = nI 0 := fc_F hf79 hFc28 (by unfold M_MH_markSize_0; omega)
              have hf88 : q23.2.1 225 24 = nI 4 := fc_F hf80 hFc28 (by unfold M_MH_markSize_0; omega)
              have hf89 : q23.2.1 225 25 = nI 4 := fc_F hf81 hFc28 (by unfold M_MH_markSize_0; omega)
              have hf90 : q23.2.1 225 26 = nI 2 := fc_F hf82 hFc28 (by unfold M_MH_markSize_0; omega)
              have hf91 : q23.2.1 225 27 = nI 131072 := fc_F hf83 hFc28 (by unfold M_MH_markSize_0; omega)
              have hf92 : q23.2.1 225 28 = nI 95232 := fc_F hf84 hFc28 (by unfold M_MH_markSize_0; omega)
              have hf93 : q23.2.1 225 29 = nI 78 := fc_F hf85 hFc28 (by unfold M_MH_markSize_0; omega)
              have hf94 : q23.2.1 225 30 = nI 32 := fc_F hf86 hFc28 (by unfold M_MH_markSize_0; omega)
              have hf95 : q23.2.1 172 6 = nI x41 := fc_F hx_41 hFc28 (by unfold M_MH_markSize_0; omega)
              have hf96 : q23.2.1 172 5 = nI x42 := fc_F hx_42 hFc28 (by unfold M_MH_markSize_0; omega)
              obtain ⟨z29, ez28, hz35, hz36⟩ := cl_of (b := 2147483648) hx_44 (by omega) (by decide)
              replace hR := bnd_step hR ez28
              replace hE := bndP_step hE ez28
              refine mi_as hz35 ?_
              have hsz22 : z29 = 2420 := (nI_eq (by omega) (by omega)).mp (hz35.symm.trans hxp28)
              subst hsz22
              refine W.widen (k := 0) (n := 0) (by omega) (by omega) ?_
              refine lv_iload hx hb dMH_verify_242 (lv_at hl 7 rfl) ?_
              refine lv_iload hx hb dMH_verify_244 (lv_at hl 8 rfl) ?_
              refine mp_v (cx := []) (wr := []) hP hD hS hA [] [] rfl rfl rfl (by decide) (va_runV (As := [.ref r28, .int (nI 0), .ref b, .int (nI 2420), .int cl_, .int (nI ed)]) (rest := []) F (N_MH_message_0 l g _ T q23.2 pl hO hU h0 r28 b 378 64 0 pb 16384 2420 cl_ ed k_h0 kr26 rfl k_b n_b hf87 hf88 hf89 hf90 hf91 hf92 hf93 hf94 (by omega) (by omega) (by omega) (by omega) (by omega)) (cwV 6 hts (wg_app (wg_c kw_1864 (wg_c kw_1866 (wg_c ks_71 (wg_c kw_13 wg_n)))) kw_1867) rfl rfl rfl (by decide +kernel) ⟨by decide, by decide⟩) (pn_V (en_ok g) (ci := 12) (kn := 225) (fl := [(3, 172), (3, 181), (3, 226), (3, 291), (3, 299), (3, 308), (3, 317), (3, 326), (3, 334), (3, 342), (3, 350), (3, 359), (3, 368), (3, 369), (3, 370), (3, 371), (3, 372), (3, 373), (3, 374), (3, 375), (3, 376), (3, 377), (3, 378), (0, 0), (0, 0), (0, 0), (0, 0), (0, 0), (0, 0), (0, 0), (0, 0)]) hK hO k_h0 rfl hP hD hS hA hEn [] rfl rfl rfl) rfl rfl hl.1 rfl (lv_room (Nat.le_of_ble_eq_true rfl)) dMH_verify_246 ⟨by omega, by omega⟩) (fun  u29 H locs hu29 hP hD hS => ?_)
              obtain ⟨s28, pl⟩ := u29
              obtain ⟨⟨eq29, hFc29, -⟩, hO⟩ := hu29
              have hO : okn g T s28 pl := hO
              have hP : va_P g.1 vcl ([] ++ pl) _ := hP
              have hD : va_D _ ([] ++ pl) := hD
              have hFc29 : frm (M_MH_message_0) q23.2 s28 := hFc29
              replace hR := bnd_step hR eq29
              replace hE := bndP_step hE eq29
              have hF := frm_tr hF hFc29 (fun k hk => by unfold M_MH_message_0 at hk; unfold M_MH_verify_0; omega)
              have hf97 : s28.1 225 23 = nI 0 := fc_F hf87 hFc29 (by unfold M_MH_message_0; omega)
              have hf98 : s28.1 225 24 = nI 4 := fc_F hf88 hFc29 (by unfold M_MH_message_0; omega)
              have hf99 : s28.1 225 25 = nI 4 := fc_F hf89 hFc29 (by unfold M_MH_message_0; omega)
              have hf100 : s28.1 225 26 = nI 2 := fc_F hf90 hFc29 (by unfold M_MH_message_0; omega)
              have hf101 : s28.1 225 27 = nI 131072 := fc_F hf91 hFc29 (by unfold M_MH_message_0; omega)
              have hf102 : s28.1 225 28 = nI 95232 := fc_F hf92 hFc29 (by unfold M_MH_message_0; omega)
              have hf103 : s28.1 225 29 = nI 78 := fc_F hf93 hFc29 (by unfold M_MH_message_0; omega)
              have hf104 : s28.1 225 30 = nI 32 := fc_F hf94 hFc29 (by unfold M_MH_message_0; omega)
              refine W.widen (k := 0) (n := 0) (by omega) (by omega) ?_
              refine lv_aload_n hx hb dMH_verify_249 rfl (lv_at hl 4 rfl) ?_
              refine lv_aload_n hx hb dMH_verify_250 rfl (lv_at hl 5 rfl) ?_
              refine mp_v (cx := []) (wr := []) hP hD hS hA [] [] rfl rfl rfl (by decide) (va_runV (As := [.ref pk]) (rest := []) F (N_MH_expand_0 l g _ T s28 pl hO hU h0 pk pp 2592 k_h0 k_pk n_pk hf97 hf98 hf99 hf100 hf101 hf102 hf103 hf104 (by omega) (by omega) hE.1) (cwV 1 hts (wg_app (wg_c kw_1719 (wg_c kw_1721 (wg_c ks_61 (wg_c kw_13 wg_n)))) kw_1722) rfl rfl rfl (by decide +kernel) ⟨by decide, by decide⟩) (pn_V (en_ok g) (ci := 12) (kn := 225) (fl := [(3, 172), (3, 181), (3, 226), (3, 291), (3, 299), (3, 308), (3, 317), (3, 326), (3, 334), (3, 342), (3, 350), (3, 359), (3, 368), (3, 369), (3, 370), (3, 371), (3, 372), (3, 373), (3, 374), (3, 375), (3, 376), (3, 377), (3, 378), (0, 0), (0, 0), (0, 0), (0, 0), (0, 0), (0, 0), (0, 0), (0, 0)]) hK hO k_h0 rfl hP hD hS hA hEn [] rfl rfl rfl) rfl rfl hl.1 rfl (lv_room (Nat.le_of_ble_eq_true rfl)) dMH_verify_251 ⟨by omega, by omega⟩) (fun  u30 H locs hu30 hP hD hS => ?_)
              obtain ⟨s29, pl⟩ := u30
              obtain ⟨⟨eq30, hFc30, -⟩, hO⟩ := hu30
              have hO : okn g T s29 pl := hO
              have hP : va_P g.1 vcl ([] ++ pl) _ := hP
              have hD : va_D _ ([] ++ pl) := hD
              have hFc30 : frm (M_MH_expand_0) s28 s29 := hFc30
              replace hE := hE.2
              replace hR := bnd_step hR eq30
              replace hE := bndP_step hE eq30
              have hF := frm_tr hF hFc30 (fun k hk => by unfold M_MH_expand_0 at hk; unfold M_MH_verify_0; omega)
              have hf105 : s29.1 225 23 = nI 0 := fc_F hf97 hFc30 (by unfold M_MH_expand_0; omega)
              have hf106 : s29.1 225 24 = nI 4 := fc_F hf98 hFc30 (by unfold M_MH_expand_0; omega)
              have hf107 : s29.1 225 25 = nI 4 := fc_F hf99 hFc30 (by unfold M_MH_expand_0; omega)
              have hf108 : s29.1 225 26 = nI 2 := fc_F hf100 hFc30 (by unfold M_MH_expand_0; omega)
              have hf109 : s29.1 225 27 = nI 131072 := fc_F hf101 hFc30 (by unfold M_MH_expand_0; omega)
              have hf110 : s29.1 225 28 = nI 95232 := fc_F hf102 hFc30 (by unfold M_MH_expand_0; omega)
              have hf111 : s29.1 225 29 = nI 78 := fc_F hf103 hFc30 (by unfold M_MH_expand_0; omega)
              have hf112 : s29.1 225 30 = nI 32 := fc_F hf104 hFc30 (by unfold M_MH_expand_0; omega)
              refine W.widen (k := 0) (n := 0) (by omega) (by omega) ?_
              refine lv_aload_n hx hb dMH_verify_254 rfl (lv_at hl 4 rfl) ?_
              refine lv_aload_n hx hb dMH_verify_255 rfl (lv_at hl 4 rfl) ?_
              refine nw_get (C := "LatticeKeysModel$Hands") (TT := T_MH) (N := 31) hx hb hts (wg_ft i_MH) hown hK hO k_h0 (kn := 225) (ci := 12) (fl := [(3, 172), (3, 181), (3, 226), (3, 291), (3, 299), (3, 308), (3, 317), (3, 326), (3, 334), (3, 342), (3, 350), (3, 359), (3, 368), (3, 369), (3, 370), (3, 371), (3, 372), (3, 373), (3, 374), (3, 375), (3, 376), (3, 377), (3, 378), (0, 0), (0, 0), (0, 0), (0, 0), (0, 0), (0, 0), (0, 0), (0, 0)]) rfl hP rfl 20 (by decide) (hts _ (wg_t kw_1452)) (fun _ h9 => h9) (cd := (3, 376)) rfl dMH_verify_256 (fun v33 hv33 => ?_)
              obtain ⟨r30, rfl, kr27⟩ := (show ∃ r : Nat, v33 = .ref r ∧ T r = some 376 from hv33)
              refine mp_v (cx := []) (wr := []) hP hD hS hA [] [] rfl rfl rfl (by decide) (va_runV (As := [.ref r30]) (rest := []) F (N_MH_ball_0 l g _ T s29 pl hO hU h0 r30 376 k_h0 kr27 rfl hf105 hf106 hf107 hf108 hf109 hf110 hf111 hf112 hE.1) (cwV 1 hts (wg_app (wg_c kw_1889 (wg_c kw_1891 (wg_c ks_77 (wg_c kw_13 wg_n)))) kw_1892) rfl rfl rfl (by decide +kernel) ⟨by decide, by decide⟩) (pn_V (en_ok g) (ci := 12) (kn := 225) (fl := [(3, 172), (3, 181), (3, 226), (3, 291), (3, 299), (3, 308), (3, 317), (3, 326), (3, 334), (3, 342), (3, 350), (3, 359), (3, 368), (3, 369), (3, 370), (3, 371), (3, 372), (3, 373), (3, 374), (3, 375), (3, 376), (3, 377), (3, 378), (0, 0), (0, 0), (0, 0), (0, 0), (0, 0), (0, 0), (0, 0), (0, 0)]) hK hO k_h0 rfl hP hD hS hA hEn [] rfl rfl rfl) rfl rfl hl.1 rfl (lv_room (Nat.le_of_ble_eq_true rfl)) dMH_verify_259 ⟨by omega, by omega⟩) (fun  u31 H locs hu31 hP hD hS => ?_)
              obtain ⟨s30, pl⟩ := u31
              obtain ⟨⟨eq31, hFc31, -⟩, hO⟩ := hu31
              have hO : okn g T s30 pl := hO
              have hP : va_P g.1 vcl ([] ++ pl) _ := hP
              have hD : va_D _ ([] ++ pl) := hD
              have hFc31 : frm (M_MH_ball_0) s29 s30 := hFc31
              replace hE := hE.2
              replace hR := bnd_step hR eq31
              replace hE := bndP_step hE eq31
              have hF := frm_tr hF hFc31 (fun k hk => by unfold M_MH_ball_0 at hk; unfold M_MH_verify_0; omega)
              have hf113 : s30.1 225 23 = nI 0 := fc_F hf105 hFc31 (by unfold M_MH_ball_0; omega)
              have hf114 : s30.1 225 24 = nI 4 := fc_F hf106 hFc31 (by unfold M_MH_ball_0; omega)
              have hf115 : s30.1 225 25 = nI 4 := fc_F hf107 hFc31 (by unfold M_MH_ball_0; omega)
              have hf116 : s30.1 225 26 = nI 2 := fc_F hf108 hFc31 (by unfold M_MH_ball_0; omega)
              have hf117 : s30.1 225 27 = nI 131072 := fc_F hf109 hFc31 (by unfold M_MH_ball_0; omega)
              have hf118 : s30.1 225 28 = nI 95232 := fc_F hf110 hFc31 (by unfold M_MH_ball_0; omega)
              have hf119 : s30.1 225 29 = nI 78 := fc_F hf111 hFc31 (by unfold M_MH_ball_0; omega)
              have hf120 : s30.1 225 30 = nI 32 := fc_F hf112 hFc31 (by unfold M_MH_ball_0; omega)
              refine W.widen (k := 0) (n := 0) (by omega) (by omega) ?_
              refine lv_iconst (v := nI 0) hx hb dMH_verify_262 (by decide) ?_
              refine lv_istore (lv' := [(9, .int (nI 0)), (8, .int z24), (7, .int (nI az21)), (6, .int (nI 18)), (0, .ref h0), (2, .ref pk), (3, .ref b), (4, .int cl_), (5, .int (nI ed))]) hx hb dMH_verify_263 hl (by decide) rfl (fun ls hl => ?_)
              have lp23 : ∀ (n23 : Nat) (i23 : Nat) (s31 : Sto) (pl : va_W) (ls : Array Slot) (H : Heap) (locs : List Loc), n23 + i23 = 4 → frm (M_MH_verify_0) s s31 → s31.1 225 23 = nI 0 → s31.1 225 24 = nI 4 → s31.1 225 25 = nI 4 → s31.1 225 26 = nI 2 → s31.1 225 27 = nI 131072 → s31.1 225 28 = nI 95232 → s31.1 225 29 = nI 78 → s31.1 225 30 = nI 32 → E_MH_verify_0_L2 pp n23 i23 s31 → F_MH_verify_0 pp pb cl_ ed s = F_MH_verify_0_L2 pp n23 i23 s31 → lv_has ls 11 [(9, .int (nI i23)), (0, .ref h0), (2, .ref pk)] → okn g T s31 pl → va_P g.1 vcl ([] ++ pl) H → va_D A ([] ++ pl) → va_S A s0.heap H locs → W p l e ({ frames := 5, cells := 0, slots := 0, locals := 116 } : Room) s0 m args below meth c H locs 0 0 (MQ below (va_Qi (fun (r : Int32) (u : (Int32 × Sto) × va_W) => (u.1 = F_MH_verify_0 pp pb cl_ ed s ∧ r = u.1.1 ∧ frm (M_MH_verify_0) s u.1.2 ∧ True) ∧ okn g T u.1.2 u.2) (po g.1 vcl A (fun (u : (Int32 × Sto) × va_W) => [] ++ u.2)) A) args s0 0 0 A) (F0 m 265 ls []) := by
                intro n23
                induction n23 with
                | zero =>
                  intro i23 s31 pl ls H locs hm23 hF hf121 hf122 hf123 hf124 hf125 hf126 hf127 hf128 hE hR hl hO hP hD hS
                  refine lv_iload hx hb dMH_verify_265 (lv_at hl 0 rfl) ?_
                  refine lv_aload_n hx hb dMH_verify_267 rfl (lv_at hl 1 rfl) ?_
                  refine nw_get (C := "LatticeKeysModel$Hands") (TT := T_MH) (N := 31) hx hb hts (wg_ft i_MH) hown hK hO k_h0 (kn := 225) (ci := 12) (fl := [(3, 172), (3, 181), (3, 226), (3, 291), (3, 299), (3, 308), (3, 317), (3, 326), (3, 334), (3, 342), (3, 350), (3, 359), (3, 368), (3, 369), (3, 370), (3, 371), (3, 372), (3, 373), (3, 374), (3, 375), (3, 376), (3, 377), (3, 378), (0, 0), (0, 0), (0, 0), (0, 0), (0, 0), (0, 0), (0, 0), (0, 0)]) rfl hP rfl 25 (by decide) (hts _ (wg_t kw_1457)) (fun _ h9 => h9) (cd := (0, 0)) rfl dMH_verify_268 (fun v34 hv34 => ?_)
                  obtain rfl := (show v34 = .int (s31.1 225 25) from hv34)
                  obtain ⟨z30, ez29, hz37, hz38⟩ := cl_of (b := 2147483648) hf123 (by omega) (by decide)
                  replace hR := bnd_step hR ez29
                  replace hE := bndP_step hE ez29
                  refine mi_as hz37 ?_
                  subst hz38
                  refine mi_ge (tgt := 303) hx hb dMH_verify_271 (by decide) (by omega) (by omega) (fun h26 => ?_) (fun h26 => absurd h26 (by omega))
                  refine lv_iconst (v := nI 0) hx hb dMH_verify_303 (by decide) ?_
                  refine lv_istore (lv' := [(9, .int (nI 0)), (0, .ref h0), (2, .ref pk)]) hx hb dMH_verify_304 hl (by decide) rfl (fun ls hl => ?_)
                  have lp24 : ∀ (n24 : Nat) (i24 : Nat) (s32 : Sto) (pl : va_W) (ls : Array Slot) (H : Heap) (locs : List Loc), n24 + i24 = 4 → frm (M_MH_verify_0) s s32 → s32.1 225 23 = nI 0 → s32.1 225 24 = nI 4 → s32.1 225 25 = nI 4 → s32.1 225 26 = nI 2 → s32.1 225 27 = nI 131072 → s32.1 225 28 = nI 95232 → s32.1 225 29 = nI 78 → s32.1 225 30 = nI 32 → E_MH_verify_0_L3 pp n24 i24 s32 → F_MH_verify_0 pp pb cl_ ed s = F_MH_verify_0_L3 pp n24 i24 s32 → lv_has ls 11 [(9, .int (nI i24)), (0, .ref h0), (2, .ref pk)] → okn g T s32 pl → va_P g.1 vcl ([] ++ pl) H → va_D A ([] ++ pl) → va_S A s0.heap H locs → W p l e ({ frames := 5, cells := 0, slots := 0, locals := 116 } : Room) s0 m args below meth c H locs 0 0 (MQ below (va_Qi (fun (r : Int32) (u : (Int32 × Sto) × va_W) => (u.1 = F_MH_verify_0 pp pb cl_ ed s ∧ r = u.1.1 ∧ frm (M_MH_verify_0) s u.1.2 ∧ True) ∧ okn g T u.1.2 u.2) (po g.1 vcl A (fun (u : (Int32 × Sto) × va_W) => [] ++ u.2)) A) args s0 0 0 A) (F0 m 306 ls []) := by
                    intro n24
                    induction n24 with
                    | zero =>
                      intro i24 s32 pl ls H locs hm24 hF hf129 hf130 hf131 hf132 hf133 hf134 hf135 hf136 hE hR hl hO hP hD hS
                      refine lv_iload hx hb dMH_verify_306 (lv_at hl 0 rfl) ?_
                      refine lv_aload_n hx hb dMH_verify_308 rfl (lv_at hl 1 rfl) ?_
                      refine nw_get (C := "LatticeKeysModel$Hands") (TT := T_MH) (N := 31) hx hb hts (wg_ft i_MH) hown hK hO k_h0 (kn := 225) (ci := 12) (fl := [(3, 172), (3, 181), (3, 226), (3, 291), (3, 299), (3, 308), (3, 317), (3, 326), (3, 334), (3, 342), (3, 350), (3, 359), (3, 368), (3, 369), (3, 370), (3, 371), (3, 372), (3, 373), (3, 374), (3, 375), (3, 376), (3, 377), (3, 378), (0, 0), (0, 0), (0, 0), (0, 0), (0, 0), (0, 0), (0, 0), (0, 0)]) rfl hP rfl 24 (by decide) (hts _ (wg_t kw_1456)) (fun _ h9 => h9) (cd := (0, 0)) rfl dMH_verify_309 (fun v35 hv35 => ?_)
                      obtain rfl := (show v35 = .int (s32.1 225 24) from hv35)
                      obtain ⟨z31, ez30, hz39, hz40⟩ := cl_of (b := 2147483648) hf130 (by omega) (by decide)
                      replace hR := bnd_step hR ez30
                      replace hE := bndP_step hE ez30
                      refine mi_as hz39 ?_
                      subst hz40
                      refine mi_ge (tgt := 448) hx hb dMH_verify_312 (by decide) (by omega) (by omega) (fun h27 => ?_) (fun h27 => absurd h27 (by omega))
                      refine lv_aload_n hx hb dMH_verify_448 rfl (lv_at hl 1 rfl) ?_
                      refine lv_iconst (v := nI 1) hx hb dMH_verify_449 (by decide) ?_
                      refine lv_aload_n hx hb dMH_verify_450 rfl (lv_at hl 1 rfl) ?_
                      refine nw_get (C := "LatticeKeysModel$Hands") (TT := T_MH) (N := 31) hx hb hts (wg_ft i_MH) hown hK hO k_h0 (kn := 225) (ci := 12) (fl := [(3, 172), (3, 181), (3, 226), (3, 291), (3, 299), (3, 308), (3, 317), (3, 326), (3, 334), (3, 342), (3, 350), (3, 359), (3, 368), (3, 369), (3, 370), (3, 371), (3, 372), (3, 373), (3, 374), (3, 375), (3, 376), (3, 377), (3, 378), (0, 0), (0, 0), (0, 0), (0, 0), (0, 0), (0, 0), (0, 0), (0, 0)]) rfl hP rfl 21 (by decide) (hts _ (wg_t kw_1453)) (fun _ h9 => h9) (cd := (3, 377)) rfl dMH_verify_451 (fun v36 hv36 => ?_)
                      obtain ⟨r31, rfl, kr28⟩ := (show ∃ r : Nat, v36 = .ref r ∧ T r = some 377 from hv36)
                      refine mp_v (cx := []) (wr := []) hP hD hS hA [] [] rfl rfl rfl (by decide) (va_runV (As := [.int (nI 1), .ref r31]) (rest := []) F (N_MH_marked_0 l g _ T s32 pl hO hU h0 r31 (nI 1) 377 k_h0 kr28 rfl hf129 hf130 hf131 hf132 hf133 hf134 hf135 hf136) (cwV 2 hts (wg_app (wg_c kw_1872 (wg_c kw_1874 (wg_c ks_73 (wg_c kw_13 wg_n)))) kw_1875) rfl rfl rfl (by decide +kernel) ⟨by decide, by decide⟩) (pn_V (en_ok g) (ci := 12) (kn := 225) (fl := [(3, 172), (3, 181), (3, 226), (3, 291), (3, 299), (3, 308), (3, 317), (3, 326), (3, 334), (3, 342), (3, 350), (3, 359), (3, 368), (3, 369), (3, 370), (3, 371), (3, 372), (3, 373), (3, 374), (3, 375), (3, 376), (3, 377), (3, 378), (0, 0), (0, 0), (0, 0), (0, 0), (0, 0), (0, 0), (0, 0), (0, 0)]) hK hO k_h0 rfl hP hD hS hA hEn [] rfl rfl rfl) rfl rfl hl.1 rfl (lv_room (Nat.le_of_ble_eq_true rfl)) dMH_verify_454 ⟨by omega, by omega⟩) (fun  u32 H locs hu32 hP hD hS => ?_)
                      obtain ⟨s33, pl⟩ := u32
                      obtain ⟨⟨eq32, hFc32, -⟩, hO⟩ := hu32
                      have hO : okn g T s33 pl := hO
                      have hP : va_P g.1 vcl ([] ++ pl) _ := hP
                      have hD : va_D _ ([] ++ pl) := hD
                      have hFc32 : frm (M_MH_marked_0 377) s32 s33 := hFc32
                      replace hR := bnd_step hR eq32
                      replace hE := bndP_step hE eq32
                      have hF := frm_tr hF hFc32 (fun k hk => by unfold M_MH_marked_0 at hk; unfold M_MH_verify_0; omega)
                      have hf137 : s33.1 225 23 = nI 0 := fc_F hf129 hFc32 (by unfold M_MH_marked_0; omega)
                      have hf138 : s33.1 225 24 = nI 4 := fc_F hf130 hFc32 (by unfold M_MH_marked_0; omega)
                      have hf139 : s33.1 225 25 = nI 4 := fc_F hf131 hFc32 (by unfold M_MH_marked_0; omega)
                      have hf140 : s33.1 225 26 = nI 2 := fc_F hf132 hFc32 (by unfold M_MH_marked_0; omega)
                      have hf141 : s33.1 225 27 = nI 131072 := fc_F hf133 hFc32 (by unfold M_MH_marked_0; omega)
                      have hf142 : s33.1 225 28 = nI 95232 := fc_F hf134 hFc32 (by unfold M_MH_marked_0; omega)
                      have hf143 : s33.1 225 29 = nI 78 := fc_F hf135 hFc32 (by unfold M_MH_marked_0; omega)
                      have hf144 : s33.1 225 30 = nI 32 := fc_F hf136 hFc32 (by unfold M_MH_marked_0; omega)
                      refine W.widen (k := 0) (n := 0) (by omega) (by omega) ?_
                      refine lv_iconst (v := nI 0) hx hb dMH_verify_457 (by decide) ?_
                      refine lv_istore (lv' := [(9, .int (nI 0)), (0, .ref h0), (2, .ref pk)]) hx hb dMH_verify_458 hl (by decide) rfl (fun ls hl => ?_)
                      have lp25 : ∀ (n25 : Nat) (i25 : Nat) (s34 : Sto) (pl : va_W) (ls : Array Slot) (H : Heap) (locs : List Loc), n25 + i25 = 32 → frm (M_MH_verify_0) s s34 → s34.1 225 23 = nI 0 → s34.1 225 24 = nI 4 → s34.1 225 25 = nI 4 → s34.1 225 26 = nI 2 → s34.1 225 27 = nI 131072 → s34.1 225 28 = nI 95232 → s34.1 225 29 = nI 78 → s34.1 225 30 = nI 32 → E_MH_verify_0_L4 n25 i25 s34 → F_MH_verify_0 pp pb cl_ ed s = F_MH_verify_0_L4 n25 i25 s34 → lv_has ls 11 [(9, .int (nI i25)), (0, .ref h0)] → okn g T s34 pl → va_P g.1 vcl ([] ++ pl) H → va_D A ([] ++ pl) → va_S A s0.heap H locs → W p l e ({ frames := 5, cells := 0, slots := 0, locals := 116 } : Room) s0 m args below meth c H locs 0 0 (MQ below (va_Qi (fun (r : Int32) (u : (Int32 × Sto) × va_W) => (u.1 = F_MH_verify_0 pp pb cl_ ed s ∧ r = u.1.1 ∧ frm (M_MH_verify_0) s u.1.2 ∧ True) ∧ okn g T u.1.2 u.2) (po g.1 vcl A (fun (u : (Int32 × Sto) × va_W) => [] ++ u.2)) A) args s0 0 0 A) (F0 m 460 ls []) := by
                        intro n25
                        induction n25 with
                        | zero =>
                          intro i25 s34 pl ls H locs hm25 hF hf145 hf146 hf147 hf148 hf149 hf150 hf151 hf152 hE hR hl hO hP hD hS
                          refine lv_iload hx hb dMH_verify_460 (lv_at hl 0 rfl) ?_
                          refine lv_aload_n hx hb dMH_verify_462 rfl (lv_at hl 1 rfl) ?_
                          refine nw_get (C := "LatticeKeysModel$Hands") (TT := T_MH) (N := 31) hx hb hts (wg_ft i_MH) hown hK hO k_h0 (kn := 225) (ci := 12) (fl := [(3, 172), (3, 181), (3, 226), (3, 291), (3, 299), (3, 308), (3, 317), (3, 326), (3, 334), (3, 342), (3, 350), (3, 359), (3, 368), (3, 369), (3, 370), (3, 371), (3, 372), (3, 373), (3, 374), (3, 375), (3, 376), (3, 377), (3, 378), (0, 0), (0, 0), (0, 0), (0, 0), (0, 0), (0, 0), (0, 0), (0, 0)]) rfl hP rfl 30 (by decide) (hts _ (wg_t kw_1462)) (fun _ h9 => h9) (cd := (0, 0)) rfl dMH_verify_463 (fun v37 hv37 => ?_)
                          obtain rfl := (show v37 = .int (s34.1 225 30) from hv37)
                          obtain ⟨z32, ez31, hz41, hz42⟩ := cl_of (b := 2147483648) hf152 (by omega) (by decide)
                          replace hR := bnd_step hR ez31
                          replace hE := bndP_step hE ez31
                          refine mi_as hz41 ?_
                          subst hz42
                          refine mi_ge (tgt := 494) hx hb dMH_verify_466 (by decide) (by omega) (by omega) (fun h28 => ?_) (fun h28 => absurd h28 (by omega))
                          refine lv_iconst (v := nI 1) hx hb dMH_verify_494 (by decide) ?_
                          exact mp_zret hx hb hr hlk rfl hP hD hS ((nI 1, s34), pl) ⟨⟨hR.symm, rfl, hF, trivial⟩, hO⟩ [] rfl rfl rfl (by omega) (by omega) dMH_verify_495
                        | succ n25 ih25 =>
                          intro i25 s34 pl ls H locs hm25 hF hf153 hf154 hf155 hf156 hf157 hf158 hf159 hf160 hE hR hl hO hP hD hS
                          refine lv_iload hx hb dMH_verify_460 (lv_at hl 0 rfl) ?_
                          refine lv_aload_n hx hb dMH_verify_462 rfl (lv_at hl 1 rfl) ?_
                          refine nw_get (C := "LatticeKeysModel$Hands") (TT := T_MH) (N := 31) hx hb hts (wg_ft i_MH) hown hK hO k_h0 (kn := 225) (ci := 12) (fl := [(3, 172), (3, 181), (3, 226), (3, 291), (3, 299), (3, 308), (3, 317), (3, 326), (3, 334), (3, 342), (3, 350), (3, 359), (3, 368), (3, 369), (3, 370), (3, 371), (3, 372), (3, 373), (3, 374), (3, 375), (3, 376), (3, 377), (3, 378), (0, 0), (0, 0), (0, 0), (0, 0), (0, 0), (0, 0), (0, 0), (0, 0)]) rfl hP rfl 30 (by decide) (hts _ (wg_t kw_1462)) (fun _ h9 => h9) (cd := (0, 0)) rfl dMH_verify_463 (fun v38 hv38 => ?_)
                          obtain rfl := (show v38 = .int (s34.1 225 30) from hv38)
                          obtain ⟨z33, ez32, hz43, hz44⟩ := cl_of (b := 2147483648) hf160 (by omega) (by decide)
                          replace hR := bnd_step hR ez32
                          replace hE := bndP_step hE ez32
                          refine mi_as hz43 ?_
                          subst hz44
                          refine mi_ge (tgt := 494) hx hb dMH_verify_466 (by decide) (by omega) (by omega) (fun h29 => absurd h29 (by omega)) (fun h29 => ?_)
                          refine lv_aload_n hx hb dMH_verify_469 rfl (lv_at hl 1 rfl) ?_
                          refine nw_get (C := "LatticeKeysModel$Hands") (TT := T_MH) (N := 31) hx hb hts (wg_ft i_MH) hown hK hO k_h0 (kn := 225) (ci := 12) (fl := [(3, 172), (3, 181), (3, 226), (3, 291), (3, 299), (3, 308), (3, 317), (3, 326), (3, 334), (3, 342), (3, 350), (3, 359), (3, 368), (3, 369), (3, 370), (3, 371), (3, 372), (3, 373), (3, 374), (3, 375), (3, 376), (3, 377), (3, 378), (0, 0), (0, 0), (0, 0), (0, 0), (0, 0), (0, 0), (0, 0), (0, 0)]) rfl hP rfl 21 (by decide) (hts _ (wg_t kw_1453)) (fun _ h9 => h9) (cd := (3, 377)) rfl dMH_verify_470 (fun v39 hv39 => ?_)
                          obtain ⟨r32, rfl, kr29⟩ := (show ∃ r : Nat, v39 = .ref r ∧ T r = some 377 from hv39)
                          refine lv_iload hx hb dMH_verify_473 (lv_at hl 0 rfl) ?_
                          refine nw_bald hx hb hK hO kr29 (k := 377) rfl hP (by omega) (by omega) dMH_verify_475 ?_
                          refine lv_aload_n hx hb dMH_verify_476 rfl (lv_at hl 1 rfl) ?_
                          refine nw_get (C := "LatticeKeysModel$Hands") (TT := T_MH) (N := 31) hx hb hts (wg_ft i_MH) hown hK hO k_h0 (kn := 225) (ci := 12) (fl := [(3, 172), (3, 181), (3, 226), (3, 291), (3, 299), (3, 308), (3, 317), (3, 326), (3, 334), (3, 342), (3, 350), (3, 359), (3, 368), (3, 369), (3, 370), (3, 371), (3, 372), (3, 373), (3, 374), (3, 375), (3, 376), (3, 377), (3, 378), (0, 0), (0, 0), (0, 0), (0, 0), (0, 0), (0, 0), (0, 0), (0, 0)]) rfl hP rfl 20 (by decide) (hts _ (wg_t kw_1452)) (fun _ h9 => h9) (cd := (3, 376)) rfl dMH_verify_477 (fun v40 hv40 => ?_)
                          obtain ⟨r33, rfl, kr30⟩ := (show ∃ r : Nat, v40 = .ref r ∧ T r = some 376 from hv40)
                          refine lv_iload hx hb dMH_verify_480 (lv_at hl 0 rfl) ?_
                          refine nw_bald hx hb hK hO kr30 (k := 376) rfl hP (by omega) (by omega) dMH_verify_482 ?_
                          refine lv_icmp_eq (tgt := 488) hx hb dMH_verify_483 (by decide) (fun h30 => ?_) (fun h30 => ?_)
                          · replace hR := hR.trans (if_pos h30)
                            replace hE := iteP_pos h30 hE
                            refine mi_iinc (k := 0) (x := i25) (d := 1) (y := i25 + 1) (lv' := [(9, .int (nI (i25 + 1))), (0, .ref h0)]) hx hb dMH_verify_488 hl rfl (by decide) rfl (by decide) rfl (fun ls hl => ?_)
                            refine lv_goto (tgt := 460) hx hb dMH_verify_491 (by decide) ?_
                            exact ih25 (i25 + 1) s34 pl ls H locs (by omega) hF hf153 hf154 hf155 hf156 hf157 hf158 hf159 hf160 hE hR (lv_sub hl [0, 1] rfl) hO hP hD hS
                          · replace hR := hR.trans (if_neg h30)
                            replace hE := iteP_neg h30 hE
                            refine lv_iconst (v := nI 0) hx hb dMH_verify_486 (by decide) ?_
                            exact mp_zret hx hb hr hlk rfl hP hD hS ((nI 0, s34), pl) ⟨⟨hR.symm, rfl, hF, trivial⟩, hO⟩ [] rfl rfl rfl (by omega) (by omega) dMH_verify_487
                      exact lp25 32 0 s33 pl ls _ _ (by omega) hF hf137 hf138 hf139 hf140 hf141 hf142 hf143 hf144 hE hR (lv_sub hl [0, 1] rfl) hO hP hD hS
                    | succ n24 ih24 =>
                      intro i24 s32 pl ls H locs hm24 hF hf161 hf162 hf163 hf164 hf165 hf166 hf167 hf168 hE hR hl hO hP hD hS
                      refine lv_iload hx hb dMH_verify_306 (lv_at hl 0 rfl) ?_
                      refine lv_aload_n hx hb dMH_verify_308 rfl (lv_at hl 1 rfl) ?_
                      refine nw_get (C := "LatticeKeysModel$Hands") (TT := T_MH) (N := 31) hx hb hts (wg_ft i_MH) hown hK hO k_h0 (kn := 225) (ci := 12) (fl := [(3, 172), (3, 181), (3, 226), (3, 291), (3, 299), (3, 308), (3, 317), (3, 326), (3, 334), (3, 342), (3, 350), (3, 359), (3, 368), (3, 369), (3, 370), (3, 371), (3, 372), (3, 373), (3, 374), (3, 375), (3, 376), (3, 377), (3, 378), (0, 0), (0, 0), (0, 0), (0, 0), (0, 0), (0, 0), (0, 0), (0, 0)]) rfl hP rfl 24 (by decide) (hts _ (wg_t kw_1456)) (fun _ h9 => h9) (cd := (0, 0)) rfl dMH_verify_309 (fun v41 hv41 => ?_)
                      obtain rfl := (show v41 = .int (s32.1 225 24) from hv41)
                      obtain ⟨z34, ez33, hz45, hz46⟩ := cl_of (b := 2147483648) hf162 (by omega) (by decide)
                      replace hR := bnd_step hR ez33
                      replace hE := bndP_step hE ez33
                      refine mi_as hz45 ?_
                      subst hz46
                      refine mi_ge (tgt := 448) hx hb dMH_verify_312 (by decide) (by omega) (by omega) (fun h31 => absurd h31 (by omega)) (fun h31 => ?_)
                      refine lv_aload_n hx hb dMH_verify_315 rfl (lv_at hl 1 rfl) ?_
                      refine lv_iload hx hb dMH_verify_316 (lv_at hl 0 rfl) ?_
                      refine lv_aload_n hx hb dMH_verify_318 rfl (lv_at hl 1 rfl) ?_
                      refine nw_get (C := "LatticeKeysModel$Hands") (TT := T_MH) (N := 31) hx hb hts (wg_ft i_MH) hown hK hO k_h0 (kn := 225) (ci := 12) (fl := [(3, 172), (3, 181), (3, 226), (3, 291), (3, 299), (3, 308), (3, 317), (3, 326), (3, 334), (3, 342), (3, 350), (3, 359), (3, 368), (3, 369), (3, 370), (3, 371), (3, 372), (3, 373), (3, 374), (3, 375), (3, 376), (3, 377), (3, 378), (0, 0), (0, 0), (0, 0), (0, 0), (0, 0), (0, 0), (0, 0), (0, 0)]) rfl hP rfl 10 (by decide) (hts _ (wg_t kw_1442)) (fun _ h9 => h9) (cd := (3, 350)) rfl dMH_verify_319 (fun v42 hv42 => ?_)
                      obtain ⟨r34, rfl, kr31⟩ := (show ∃ r : Nat, v42 = .ref r ∧ T r = some 350 from hv42)
                      refine lv_iload hx hb dMH_verify_322 (lv_at hl 0 rfl) ?_
                      refine nw_aald3 hx hb hK hO kr31 (k := 350) (b := 351) rfl hP (by omega) (by omega) dMH_verify_324 (fun r35 kr32 => ?_)
                      have hn21 : nsp (351 + i24) = (0, 256, []) := rows_ok 351 8 (by decide) _ (by omega)
                      refine mp_v (cx := []) (wr := []) hP hD hS hA [] [] rfl rfl rfl (by decide) (va_runV (As := [.int (nI i24), .ref r35]) (rest := []) F (N_MH_rowBy_0 l g _ T s32 pl hO hU h0 r35 i24 (351 + i24) k_h0 kr32 hn21 hf161 hf162 hf163 hf164 hf165 hf166 hf167 hf168 (by omega)) (cwV 2 hts (wg_app (wg_c kw_1730 (wg_c kw_1732 (wg_c ks_63 (wg_c kw_13 wg_n)))) kw_1733) rfl rfl rfl (by decide +kernel) ⟨by decide, by decide⟩) (pn_V (en_ok g) (ci := 12) (kn := 225) (fl := [(3, 172), (3, 181), (3, 226), (3, 291), (3, 299), (3, 308), (3, 317), (3, 326), (3, 334), (3, 342), (3, 350), (3, 359), (3, 368), (3, 369), (3, 370), (3, 371), (3, 372), (3, 373), (3, 374), (3, 375), (3, 376), (3, 377), (3, 378), (0, 0), (0, 0), (0, 0), (0, 0), (0, 0), (0, 0), (0, 0), (0, 0)]) hK hO k_h0 rfl hP hD hS hA hEn [] rfl rfl rfl) rfl rfl hl.1 rfl (lv_room (Nat.le_of_ble_eq_true rfl)) dMH_verify_325 ⟨by omega, by omega⟩) (fun  u33 H locs hu33 hP hD hS => ?_)
                      obtain ⟨s35, pl⟩ := u33
                      obtain ⟨⟨eq33, hFc33, -⟩, hO⟩ := hu33
                      have hO : okn g T s35 pl := hO
                      have hP : va_P g.1 vcl ([] ++ pl) _ := hP
                      have hD : va_D _ ([] ++ pl) := hD
                      have hFc33 : frm (M_MH_rowBy_0 (351 + i24)) s32 s35 := hFc33
                      replace hR := bnd_step hR eq33
                      replace hE := bndP_step hE eq33
                      have hF := frm_tr hF hFc33 (fun k hk => by unfold M_MH_rowBy_0 at hk; unfold M_MH_verify_0; omega)
                      have hf169 : s35.1 225 23 = nI 0 := fc_F hf161 hFc33 (by unfold M_MH_rowBy_0; omega)
                      have hf170 : s35.1 225 24 = nI 4 := fc_F hf162 hFc33 (by unfold M_MH_rowBy_0; omega)
                      have hf171 : s35.1 225 25 = nI 4 := fc_F hf163 hFc33 (by unfold M_MH_rowBy_0; omega)
                      have hf172 : s35.1 225 26 = nI 2 := fc_F hf164 hFc33 (by unfold M_MH_rowBy_0; omega)
                      have hf173 : s35.1 225 27 = nI 131072 := fc_F hf165 hFc33 (by unfold M_MH_rowBy_0; omega)
                      have hf174 : s35.1 225 28 = nI 95232 := fc_F hf166 hFc33 (by unfold M_MH_rowBy_0; omega)
                      have hf175 : s35.1 225 29 = nI 78 := fc_F hf167 hFc33 (by unfold M_MH_rowBy_0; omega)
                      have hf176 : s35.1 225 30 = nI 32 := fc_F hf168 hFc33 (by unfold M_MH_rowBy_0; omega)
                      refine W.widen (k := 0) (n := 0) (by omega) (by omega) ?_
                      refine lv_iconst (v := nI 0) hx hb dMH_verify_328 (by decide) ?_
                      refine lv_istore (lv' := [(10, .int (nI 0)), (9, .int (nI i24)), (0, .ref h0), (2, .ref pk)]) hx hb dMH_verify_329 hl (by decide) rfl (fun ls hl => ?_)
                      have lp26 : ∀ (n26 : Nat) (i26 : Nat) (s36 : Sto) (pl : va_W) (ls : Array Slot) (H : Heap) (locs : List Loc), n26 + i26 = 256 → frm (M_MH_verify_0) s s36 → s36.1 225 23 = nI 0 → s36.1 225 24 = nI 4 → s36.1 225 25 = nI 4 → s36.1 225 26 = nI 2 → s36.1 225 27 = nI 131072 → s36.1 225 28 = nI 95232 → s36.1 225 29 = nI 78 → s36.1 225 30 = nI 32 → E_MH_verify_0_L5 pp i24 (E_MH_verify_0_L3 pp n24) n26 i26 s36 → F_MH_verify_0 pp pb cl_ ed s = F_MH_verify_0_L5 pp i24 (F_MH_verify_0_L3 pp n24) n26 i26 s36 → lv_has ls 11 [(10, .int (nI i26)), (9, .int (nI i24)), (0, .ref h0), (2, .ref pk)] → okn g T s36 pl → va_P g.1 vcl ([] ++ pl) H → va_D A ([] ++ pl) → va_S A s0.heap H locs → W p l e ({ frames := 5, cells := 0, slots := 0, locals := 116 } : Room) s0 m args below meth c H locs 0 0 (MQ below (va_Qi (fun (r : Int32) (u : (Int32 × Sto) × va_W) => (u.1 = F_MH_verify_0 pp pb cl_ ed s ∧ r = u.1.1 ∧ frm (M_MH_verify_0) s u.1.2 ∧ True) ∧ okn g T u.1.2 u.2) (po g.1 vcl A (fun (u : (Int32 × Sto) × va_W) => [] ++ u.2)) A) args s0 0 0 A) (F0 m 331 ls []) := by
                        intro n26
                        induction n26 with
                        | zero =>
                          intro i26 s36 pl ls H locs hm26 hF hf177 hf178 hf179 hf180 hf181 hf182 hf183 hf184 hE hR hl hO hP hD hS
                          refine lv_iload hx hb dMH_verify_331 (lv_at hl 0 rfl) ?_
                          refine lv_sipush (v := nI 256) hx hb dMH_verify_333 (by decide) ?_
                          refine mi_ge (tgt := 380) hx hb dMH_verify_336 (by decide) (by omega) (by omega) (fun h32 => ?_) (fun h32 => absurd h32 (by omega))
                          refine lv_aload_n hx hb dMH_verify_380 rfl (lv_at hl 2 rfl) ?_
                          refine lv_aload_n hx hb dMH_verify_381 rfl (lv_at hl 2 rfl) ?_
                          refine nw_get (C := "LatticeKeysModel$Hands") (TT := T_MH) (N := 31) hx hb hts (wg_ft i_MH) hown hK hO k_h0 (kn := 225) (ci := 12) (fl := [(3, 172), (3, 181), (3, 226), (3, 291), (3, 299), (3, 308), (3, 317), (3, 326), (3, 334), (3, 342), (3, 350), (3, 359), (3, 368), (3, 369), (3, 370), (3, 371), (3, 372), (3, 373), (3, 374), (3, 375), (3, 376), (3, 377), (3, 378), (0, 0), (0, 0), (0, 0), (0, 0), (0, 0), (0, 0), (0, 0), (0, 0)]) rfl hP rfl 6 (by decide) (hts _ (wg_t kw_1438)) (fun _ h9 => h9) (cd := (3, 317)) rfl dMH_verify_382 (fun v43 hv43 => ?_)
                          obtain ⟨r36, rfl, kr33⟩ := (show ∃ r : Nat, v43 = .ref r ∧ T r = some 317 from hv43)
                          refine lv_iload hx hb dMH_verify_385 (lv_at hl 1 rfl) ?_
                          refine nw_aald3 hx hb hK hO kr33 (k := 317) (b := 318) rfl hP (by omega) (by omega) dMH_verify_387 (fun r37 kr34 => ?_)
                          have hn22 : nsp (318 + i24) = (0, 256, []) := rows_ok 318 8 (by decide) _ (by omega)
                          refine lv_aload_n hx hb dMH_verify_388 rfl (lv_at hl 2 rfl) ?_
                          refine nw_get (C := "LatticeKeysModel$Hands") (TT := T_MH) (N := 31) hx hb hts (wg_ft i_MH) hown hK hO k_h0 (kn := 225) (ci := 12) (fl := [(3, 172), (3, 181), (3, 226), (3, 291), (3, 299), (3, 308), (3, 317), (3, 326), (3, 334), (3, 342), (3, 350), (3, 359), (3, 368), (3, 369), (3, 370), (3, 371), (3, 372), (3, 373), (3, 374), (3, 375), (3, 376), (3, 377), (3, 378), (0, 0), (0, 0), (0, 0), (0, 0), (0, 0), (0, 0), (0, 0), (0, 0)]) rfl hP rfl 13 (by decide) (hts _ (wg_t kw_1445)) (fun _ h9 => h9) (cd := (3, 369)) rfl dMH_verify_389 (fun v44 hv44 => ?_)
                          obtain ⟨r38, rfl, kr35⟩ := (show ∃ r : Nat, v44 = .ref r ∧ T r = some 369 from hv44)
                          refine mp_v (cx := []) (wr := []) hP hD hS hA [] [] rfl rfl rfl (by decide) (va_runV (As := [.ref r37, .ref r38]) (rest := []) F (N_MH_turned_0 l g _ T s36 pl hO hU h0 r37 r38 (318 + i24) 369 k_h0 kr34 hn22 kr35 rfl hf177 hf178 hf179 hf180 hf181 hf182 hf183 hf184) (cwV 2 hts (wg_app (wg_c kw_1897 (wg_c kw_1899 (wg_c ks_79 (wg_c kw_13 wg_n)))) kw_1900) rfl rfl rfl (by decide +kernel) ⟨by decide, by decide⟩) (pn_V (en_ok g) (ci := 12) (kn := 225) (fl := [(3, 172), (3, 181), (3, 226), (3, 291), (3, 299), (3, 308), (3, 317), (3, 326), (3, 334), (3, 342), (3, 350), (3, 359), (3, 368), (3, 369), (3, 370), (3, 371), (3, 372), (3, 373), (3, 374), (3, 375), (3, 376), (3, 377), (3, 378), (0, 0), (0, 0), (0, 0), (0, 0), (0, 0), (0, 0), (0, 0), (0, 0)]) hK hO k_h0 rfl hP hD hS hA hEn [] rfl rfl rfl) rfl rfl hl.1 rfl (lv_room (Nat.le_of_ble_eq_true rfl)) dMH_verify_392 ⟨by omega, by omega⟩) (fun  u34 H locs hu34 hP hD hS => ?_)
                          obtain ⟨s37, pl⟩ := u34
                          obtain ⟨⟨eq34, hFc34, -⟩, hO⟩ := hu34
                          have hO : okn g T s37 pl := hO
                          have hP : va_P g.1 vcl ([] ++ pl) _ := hP
                          have hD : va_D _ ([] ++ pl) := hD
                          have hFc34 : frm (M_MH_turned_0 369) s36 s37 := hFc34
                          replace hR := bnd_step hR eq34
                          replace hE := bndP_step hE eq34
                          have hF := frm_tr hF hFc34 (fun k hk => by unfold M_MH_turned_0 at hk; unfold M_MH_verify_0; omega)
                          have hf185 : s37.1 225 23 = nI 0 := fc_F hf177 hFc34 (by unfold M_MH_turned_0; omega)
                          have hf186 : s37.1 225 24 = nI 4 := fc_F hf178 hFc34 (by unfold M_MH_turned_0; omega)
                          have hf187 : s37.1 225 25 = nI 4 := fc_F hf179 hFc34 (by unfold M_MH_turned_0; omega)
                          have hf188 : s37.1 225 26 = nI 2 := fc_F hf180 hFc34 (by unfold M_MH_turned_0; omega)
                          have hf189 : s37.1 225 27 = nI 131072 := fc_F hf181 hFc34 (by unfold M_MH_turned_0; omega)
                          have hf190 : s37.1 225 28 = nI 95232 := fc_F hf182 hFc34 (by unfold M_MH_turned_0; omega)
                          have hf191 : s37.1 225 29 = nI 78 := fc_F hf183 hFc34 (by unfold M_MH_turned_0; omega)
                          have hf192 : s37.1 225 30 = nI 32 := fc_F hf184 hFc34 (by unfold M_MH_turned_0; omega)
                          refine W.widen (k := 0) (n := 0) (by omega) (by omega) ?_
                          refine lv_iconst (v := nI 0) hx hb dMH_verify_395 (by decide) ?_
                          refine lv_istore (lv' := [(10, .int (nI 0)), (9, .int (nI i24)), (0, .ref h0), (2, .ref pk)]) hx hb dMH_verify_396 hl (by decide) rfl (fun ls hl => ?_)
                          have lp27 : ∀ (n27 : Nat) (i27 : Nat) (s38 : Sto) (pl : va_W) (ls : Array Slot) (H : Heap) (locs : List Loc), n27 + i27 = 256 → frm (M_MH_verify_0) s s38 → s38.1 225 23 = nI 0 → s38.1 225 24 = nI 4 → s38.1 225 25 = nI 4 → s38.1 225 26 = nI 2 → s38.1 225 27 = nI 131072 → s38.1 225 28 = nI 95232 → s38.1 225 29 = nI 78 → s38.1 225 30 = nI 32 → E_MH_verify_0_L6 i24 (E_MH_verify_0_L3 pp n24) n27 i27 s38 → F_MH_verify_0 pp pb cl_ ed s = F_MH_verify_0_L6 i24 (F_MH_verify_0_L3 pp n24) n27 i27 s38 → lv_has ls 11 [(10, .int (nI i27)), (9, .int (nI i24)), (0, .ref h0), (2, .ref pk)] → okn g T s38 pl → va_P g.1 vcl ([] ++ pl) H → va_D A ([] ++ pl) → va_S A s0.heap H locs → W p l e ({ frames := 5, cells := 0, slots := 0, locals := 116 } : Room) s0 m args below meth c H locs 0 0 (MQ below (va_Qi (fun (r : Int32) (u : (Int32 × Sto) × va_W) => (u.1 = F_MH_verify_0 pp pb cl_ ed s ∧ r = u.1.1 ∧ frm (M_MH_verify_0) s u.1.2 ∧ True) ∧ okn g T u.1.2 u.2) (po g.1 vcl A (fun (u : (Int32 × Sto) × va_W) => [] ++ u.2)) A) args s0 0 0 A) (F0 m 398 ls []) := by
                            intro n27
                            induction n27 with
                            | zero =>
                              intro i27 s38 pl ls H locs hm27 hF hf193 hf194 hf195 hf196 hf197 hf198 hf199 hf200 hE hR hl hO hP hD hS
                              refine lv_iload hx hb dMH_verify_398 (lv_at hl 0 rfl) ?_
                              refine lv_sipush (v := nI 256) hx hb dMH_verify_400 (by decide) ?_
                              refine mi_ge (tgt := 442) hx hb dMH_verify_403 (by decide) (by omega) (by omega) (fun h33 => ?_) (fun h33 => absurd h33 (by omega))
                              refine mi_iinc (k := 1) (x := i24) (d := 1) (y := i24 + 1) (lv' := [(9, .int (nI (i24 + 1))), (10, .int (nI i27)), (0, .ref h0), (2, .ref pk)]) hx hb dMH_verify_442 hl rfl (by decide) rfl (by decide) rfl (fun ls hl => ?_)
                              refine lv_goto (tgt := 306) hx hb dMH_verify_445 (by decide) ?_
                              exact ih24 (i24 + 1) s38 pl ls H locs (by omega) hF hf193 hf194 hf195 hf196 hf197 hf198 hf199 hf200 hE hR (lv_sub hl [0, 2, 3] rfl) hO hP hD hS
                            | succ n27 ih27 =>
                              intro i27 s38 pl ls H locs hm27 hF hf201 hf202 hf203 hf204 hf205 hf206 hf207 hf208 hE hR hl hO hP hD hS
                              refine lv_iload hx hb dMH_verify_398 (lv_at hl 0 rfl) ?_
                              refine lv_sipush (v := nI 256) hx hb dMH_verify_400 (by decide) ?_
                              refine mi_ge (tgt := 442) hx hb dMH_verify_403 (by decide) (by omega) (by omega) (fun h34 => absurd h34 (by omega)) (fun h34 => ?_)
                              refine lv_aload_n hx hb dMH_verify_406 rfl (lv_at hl 2 rfl) ?_
                              refine nw_get (C := "LatticeKeysModel$Hands") (TT := T_MH) (N := 31) hx hb hts (wg_ft i_MH) hown hK hO k_h0 (kn := 225) (ci := 12) (fl := [(3, 172), (3, 181), (3, 226), (3, 291), (3, 299), (3, 308), (3, 317), (3, 326), (3, 334), (3, 342), (3, 350), (3, 359), (3, 368), (3, 369), (3, 370), (3, 371), (3, 372), (3, 373), (3, 374), (3, 375), (3, 376), (3, 377), (3, 378), (0, 0), (0, 0), (0, 0), (0, 0), (0, 0), (0, 0), (0, 0), (0, 0)]) rfl hP rfl 10 (by decide) (hts _ (wg_t kw_1442)) (fun _ h9 => h9) (cd := (3, 350)) rfl dMH_verify_407 (fun v45 hv45 => ?_)
                              obtain ⟨r39, rfl, kr36⟩ := (show ∃ r : Nat, v45 = .ref r ∧ T r = some 350 from hv45)
                              refine lv_iload hx hb dMH_verify_410 (lv_at hl 1 rfl) ?_
                              refine nw_aald3 hx hb hK hO kr36 (k := 350) (b := 351) rfl hP (by omega) (by omega) dMH_verify_412 (fun r40 kr37 => ?_)
                              have hn23 : nsp (351 + i24) = (0, 256, []) := rows_ok 351 8 (by decide) _ (by omega)
                              refine lv_iload hx hb dMH_verify_413 (lv_at hl 0 rfl) ?_
                              refine lv_aload_n hx hb dMH_verify_415 rfl (lv_at hl 2 rfl) ?_
                              refine nw_get (C := "LatticeKeysModel$Hands") (TT := T_MH) (N := 31) hx hb hts (wg_ft i_MH) hown hK hO k_h0 (kn := 225) (ci := 12) (fl := [(3, 172), (3, 181), (3, 226), (3, 291), (3, 299), (3, 308), (3, 317), (3, 326), (3, 334), (3, 342), (3, 350), (3, 359), (3, 368), (3, 369), (3, 370), (3, 371), (3, 372), (3, 373), (3, 374), (3, 375), (3, 376), (3, 377), (3, 378), (0, 0), (0, 0), (0, 0), (0, 0), (0, 0), (0, 0), (0, 0), (0, 0)]) rfl hP rfl 10 (by decide) (hts _ (wg_t kw_1442)) (fun _ h9 => h9) (cd := (3, 350)) rfl dMH_verify_416 (fun v46 hv46 => ?_)
                              obtain ⟨r41, rfl, kr38⟩ := (show ∃ r : Nat, v46 = .ref r ∧ T r = some 350 from hv46)
                              refine lv_iload hx hb dMH_verify_419 (lv_at hl 1 rfl) ?_
                              refine nw_aald3 hx hb hK hO kr38 (k := 350) (b := 351) rfl hP (by omega) (by omega) dMH_verify_421 (fun r42 kr39 => ?_)
                              have hn24 : nsp (351 + i24) = (0, 256, []) := rows_ok 351 8 (by decide) _ (by omega)
                              refine lv_iload hx hb dMH_verify_422 (lv_at hl 0 rfl) ?_
                              refine nw_iald hx hb hK hO kr39 (k := (351 + i24)) hn24 hP (by omega) (by omega) dMH_verify_424 ?_
                              refine lv_aload_n hx hb dMH_verify_425 rfl (lv_at hl 2 rfl) ?_
                              refine nw_get (C := "LatticeKeysModel$Hands") (TT := T_MH) (N := 31) hx hb hts (wg_ft i_MH) hown hK hO k_h0 (kn := 225) (ci := 12) (fl := [(3, 172), (3, 181), (3, 226), (3, 291), (3, 299), (3, 308), (3, 317), (3, 326), (3, 334), (3, 342), (3, 350), (3, 359), (3, 368), (3, 369), (3, 370), (3, 371), (3, 372), (3, 373), (3, 374), (3, 375), (3, 376), (3, 377), (3, 378), (0, 0), (0, 0), (0, 0), (0, 0), (0, 0), (0, 0), (0, 0), (0, 0)]) rfl hP rfl 13 (by decide) (hts _ (wg_t kw_1445)) (fun _ h9 => h9) (cd := (3, 369)) rfl dMH_verify_426 (fun v47 hv47 => ?_)
                              obtain ⟨r43, rfl, kr40⟩ := (show ∃ r : Nat, v47 = .ref r ∧ T r = some 369 from hv47)
                              refine lv_iload hx hb dMH_verify_429 (lv_at hl 0 rfl) ?_
                              refine nw_iald hx hb hK hO kr40 (k := 369) rfl hP (by omega) (by omega) dMH_verify_431 ?_
                              refine mp_i (cx := []) (wr := []) hP hD hS hA [] [] rfl rfl rfl (by decide) (va_runS (As := [.int ((s38.1 ((351 + i24)) i27)), .int ((s38.1 369 i27))]) (rest := [.int (nI i27), .ref r40]) F (N_MH_minus l g _ T s38 pl hO hU (s38.1 ((351 + i24)) i27) (s38.1 369 i27)) (va_cwS 2 hts (wg_app (wg_c kw_1861 (wg_c kw_1862 (wg_c kw_13 wg_n))) kw_1863) rfl rfl rfl (by decide +kernel) ⟨by decide, by decide⟩) (pp_S (en_ok g) hP hD hS hA hEn [] rfl rfl) rfl rfl hl.1 rfl (lv_room (Nat.le_of_ble_eq_true rfl)) dMH_verify_432 ⟨by omega, by omega⟩) (fun r44 u35 H locs hu35 hP hD hS => ?_)
                              obtain ⟨q24, pl⟩ := u35
                              obtain ⟨⟨eq35, rfl, hFc35, -⟩, hO⟩ := hu35
                              have hO : okn g T q24.2 pl := hO
                              have hP : va_P g.1 vcl ([] ++ pl) _ := hP
                              have hD : va_D _ ([] ++ pl) := hD
                              have hFc35 : frm (M_MH_minus) s38 q24.2 := hFc35
                              replace hR := bnd_step hR eq35
                              replace hE := bndP_step hE eq35
                              have hF := frm_tr hF hFc35 (fun k hk => by unfold M_MH_minus at hk; unfold M_MH_verify_0; omega)
                              have hf209 : q24.2.1 225 23 = nI 0 := fc_F hf201 hFc35 (by unfold M_MH_minus; omega)
                              have hf210 : q24.2.1 225 24 = nI 4 := fc_F hf202 hFc35 (by unfold M_MH_minus; omega)
                              have hf211 : q24.2.1 225 25 = nI 4 := fc_F hf203 hFc35 (by unfold M_MH_minus; omega)
                              have hf212 : q24.2.1 225 26 = nI 2 := fc_F hf204 hFc35 (by unfold M_MH_minus; omega)
                              have hf213 : q24.2.1 225 27 = nI 131072 := fc_F hf205 hFc35 (by unfold M_MH_minus; omega)
                              have hf214 : q24.2.1 225 28 = nI 95232 := fc_F hf206 hFc35 (by unfold M_MH_minus; omega)
                              have hf215 : q24.2.1 225 29 = nI 78 := fc_F hf207 hFc35 (by unfold M_MH_minus; omega)
                              have hf216 : q24.2.1 225 30 = nI 32 := fc_F hf208 hFc35 (by unfold M_MH_minus; omega)
                              refine W.widen (k := 0) (n := 0) (by omega) (by omega) ?_
                              refine nw_iast hx hb hK hO hU kr37 (k := (351 + i24)) hn23 hP hD hS (by omega) (by omega) dMH_verify_435 (fun s39 pl H locs es21 hO hP hD hS => ?_)
                              replace hR := bnd_step hR es21
                              replace hE := bndP_step hE es21
                              have hF := frm_sI hF es21 (by unfold M_MH_verify_0; omega)
                              have hf217 : s39.1 225 23 = nI 0 := fc_ne hf209 es21 (by omega)
                              have hf218 : s39.1 225 24 = nI 4 := fc_ne hf210 es21 (by omega)
                              have hf219 : s39.1 225 25 = nI 4 := fc_ne hf211 es21 (by omega)
                              have hf220 : s39.1 225 26 = nI 2 := fc_ne hf212 es21 (by omega)
                              have hf221 : s39.1 225 27 = nI 131072 := fc_ne hf213 es21 (by omega)
                              have hf222 : s39.1 225 28 = nI 95232 := fc_ne hf214 es21 (by omega)
                              have hf223 : s39.1 225 29 = nI 78 := fc_ne hf215 es21 (by omega)
                              have hf224 : s39.1 225 30 = nI 32 := fc_ne hf216 es21 (by omega)
                              refine mi_iinc (k := 0) (x := i27) (d := 1) (y := i27 + 1) (lv' := [(10, .int (nI (i27 + 1))), (9, .int (nI i24)), (0, .ref h0), (2, .ref pk)]) hx hb dMH_verify_436 hl rfl (by decide) rfl (by decide) rfl (fun ls hl => ?_)
                              refine lv_goto (tgt := 398) hx hb dMH_verify_439 (by decide) ?_
                              exact ih27 (i27 + 1) s39 pl ls H locs (by omega) hF hf217 hf218 hf219 hf220 hf221 hf222 hf223 hf224 hE hR (lv_sub hl [0, 1, 2, 3] rfl) hO hP hD hS
                          exact lp27 256 0 s37 pl ls _ _ (by omega) hF hf185 hf186 hf187 hf188 hf189 hf190 hf191 hf192 hE hR (lv_sub hl [0, 1, 2, 3] rfl) hO hP hD hS
                        | succ n26 ih26 =>
                          intro i26 s36 pl ls H locs hm26 hF hf225 hf226 hf227 hf228 hf229 hf230 hf231 hf232 hE hR hl hO hP hD hS
                          refine lv_iload hx hb dMH_verify_331 (lv_at hl 0 rfl) ?_
                          refine lv_sipush (v := nI 256) hx hb dMH_verify_333 (by decide) ?_
                          refine mi_ge (tgt := 380) hx hb dMH_verify_336 (by decide) (by omega) (by omega) (fun h35 => absurd h35 (by omega)) (fun h35 => ?_)
                          refine lv_aload_n hx hb dMH_verify_339 rfl (lv_at hl 2 rfl) ?_
                          refine nw_get (C := "LatticeKeysModel$Hands") (TT := T_MH) (N := 31) hx hb hts (wg_ft i_MH) hown hK hO k_h0 (kn := 225) (ci := 12) (fl := [(3, 172), (3, 181), (3, 226), (3, 291), (3, 299), (3, 308), (3, 317), (3, 326), (3, 334), (3, 342), (3, 350), (3, 359), (3, 368), (3, 369), (3, 370), (3, 371), (3, 372), (3, 373), (3, 374), (3, 375), (3, 376), (3, 377), (3, 378), (0, 0), (0, 0), (0, 0), (0, 0), (0, 0), (0, 0), (0, 0), (0, 0)]) rfl hP rfl 6 (by decide) (hts _ (wg_t kw_1438)) (fun _ h9 => h9) (cd := (3, 317)) rfl dMH_verify_340 (fun v48 hv48 => ?_)
                          obtain ⟨r45, rfl, kr41⟩ := (show ∃ r : Nat, v48 = .ref r ∧ T r = some 317 from hv48)
                          refine lv_iload hx hb dMH_verify_343 (lv_at hl 1 rfl) ?_
                          refine nw_aald3 hx hb hK hO kr41 (k := 317) (b := 318) rfl hP (by omega) (by omega) dMH_verify_345 (fun r46 kr42 => ?_)
                          have hn25 : nsp (318 + i24) = (0, 256, []) := rows_ok 318 8 (by decide) _ (by omega)
                          refine lv_iload hx hb dMH_verify_346 (lv_at hl 0 rfl) ?_
                          refine lv_aload_n hx hb dMH_verify_348 rfl (lv_at hl 3 rfl) ?_
                          refine lv_sipush (v := nI 256) hx hb dMH_verify_349 (by decide) ?_
                          refine lv_sipush (v := nI 2560) hx hb dMH_verify_352 (by decide) ?_
                          refine lv_iload hx hb dMH_verify_355 (lv_at hl 1 rfl) ?_
                          refine mi_imul hx hb dMH_verify_357 ?_
                          refine mi_iadd hx hb dMH_verify_358 ?_
                          refine lv_bipush (v := nI 10) hx hb dMH_verify_359 (by decide) ?_
                          refine lv_iload hx hb dMH_verify_361 (lv_at hl 0 rfl) ?_
                          refine mi_imul hx hb dMH_verify_363 ?_
                          refine mi_iadd hx hb dMH_verify_364 ?_
                          refine lv_bipush (v := nI 10) hx hb dMH_verify_365 (by decide) ?_
                          refine mp_i (cx := []) (wr := []) hP hD hS hA [] [] rfl rfl rfl (by decide) (va_runSN (As := [.ref pk, .int (nI ((256 + (2560 * i24)) + (10 * i26))), .int (nI 10)]) (rest := [.int (nI i26), .ref r46]) F (N_M_unpack l g _ T s36 pl hO hU pk pp 2592 ((256 + (2560 * i24)) + (10 * i26)) 10 k_pk n_pk (by omega) (by omega) (by omega)) ⟨va_cnB 3 hts (wg_in kw_1663) rfl rfl rfl (hEn.2.2.2.2.2.2.2.2.2.2) (hts _ (wg_t kw_9)) (by decide +kernel) ⟨by decide, by decide⟩, hts _ (wg_t kw_1662), trivial⟩ (pp_S (en_ok g) hP hD hS hA hEn [] rfl rfl) rfl rfl hl.1 rfl (lv_room (Nat.le_of_ble_eq_true rfl)) dMH_verify_367 ⟨by omega, by omega⟩) (fun r47 u36 H locs hu36 hP hD hS => ?_)
                          obtain ⟨q25, pl⟩ := u36
                          obtain ⟨⟨eq36, rfl, hFc36, -⟩, hO⟩ := hu36
                          have hO : okn g T q25.2 pl := hO
                          have hP : va_P g.1 vcl ([] ++ pl) _ := hP
                          have hD : va_D _ ([] ++ pl) := hD
                          have hFc36 : frm (M_M_unpack) s36 q25.2 := hFc36
                          replace hR := bnd_step hR eq36
                          replace hE := bndP_step hE eq36
                          have hF := frm_tr hF hFc36 (fun k hk => by unfold M_M_unpack at hk; unfold M_MH_verify_0; omega)
                          have hf233 : q25.2.1 225 23 = nI 0 := fc_F hf225 hFc36 (by unfold M_M_unpack; omega)
                          have hf234 : q25.2.1 225 24 = nI 4 := fc_F hf226 hFc36 (by unfold M_M_unpack; omega)
                          have hf235 : q25.2.1 225 25 = nI 4 := fc_F hf227 hFc36 (by unfold M_M_unpack; omega)
                          have hf236 : q25.2.1 225 26 = nI 2 := fc_F hf228 hFc36 (by unfold M_M_unpack; omega)
                          have hf237 : q25.2.1 225 27 = nI 131072 := fc_F hf229 hFc36 (by unfold M_M_unpack; omega)
                          have hf238 : q25.2.1 225 28 = nI 95232 := fc_F hf230 hFc36 (by unfold M_M_unpack; omega)
                          have hf239 : q25.2.1 225 29 = nI 78 := fc_F hf231 hFc36 (by unfold M_M_unpack; omega)
                          have hf240 : q25.2.1 225 30 = nI 32 := fc_F hf232 hFc36 (by unfold M_M_unpack; omega)
                          refine W.widen (k := 0) (n := 0) (by omega) (by omega) ?_
                          refine lv_bipush (v := nI 13) hx hb dMH_verify_370 (by decide) ?_
                          refine lv_ishl hx hb dMH_verify_372 ?_
                          refine nw_iast hx hb hK hO hU kr42 (k := (318 + i24)) hn25 hP hD hS (by omega) (by omega) dMH_verify_373 (fun s40 pl H locs es22 hO hP hD hS => ?_)
                          replace hR := bnd_step hR es22
                          replace hE := bndP_step hE es22
                          have hF := frm_sI hF es22 (by unfold M_MH_verify_0; omega)
                          have hf241 : s40.1 225 23 = nI 0 := fc_ne hf233 es22 (by omega)
                          have hf242 : s40.1 225 24 = nI 4 := fc_ne hf234 es22 (by omega)
                          have hf243 : s40.1 225 25 = nI 4 := fc_ne hf235 es22 (by omega)
                          have hf244 : s40.1 225 26 = nI 2 := fc_ne hf236 es22 (by omega)
                          have hf245 : s40.1 225 27 = nI 131072 := fc_ne hf237 es22 (by omega)
                          have hf246 : s40.1 225 28 = nI 95232 := fc_ne hf238 es22 (by omega)
                          have hf247 : s40.1 225 29 = nI 78 := fc_ne hf239 es22 (by omega)
                          have hf248 : s40.1 225 30 = nI 32 := fc_ne hf240 es22 (by omega)
                          refine mi_iinc (k := 0) (x := i26) (d := 1) (y := i26 + 1) (lv' := [(10, .int (nI (i26 + 1))), (9, .int (nI i24)), (0, .ref h0), (2, .ref pk)]) hx hb dMH_verify_374 hl rfl (by decide) rfl (by decide) rfl (fun ls hl => ?_)
                          refine lv_goto (tgt := 331) hx hb dMH_verify_377 (by decide) ?_
                          exact ih26 (i26 + 1) s40 pl ls H locs (by omega) hF hf241 hf242 hf243 hf244 hf245 hf246 hf247 hf248 hE hR (lv_sub hl [0, 1, 2, 3] rfl) hO hP hD hS
                      exact lp26 256 0 s35 pl ls _ _ (by omega) hF hf169 hf170 hf171 hf172 hf173 hf174 hf175 hf176 hE hR (lv_sub hl [0, 1, 2, 3] rfl) hO hP hD hS
                  exact lp24 4 0 s31 pl ls _ _ (by omega) hF hf121 hf122 hf123 hf124 hf125 hf126 hf127 hf128 hE hR (lv_sub hl [0, 1, 2] rfl) hO hP hD hS
                | succ n23 ih23 =>
                  intro i23 s31 pl ls H locs hm23 hF hf249 hf250 hf251 hf252 hf253 hf254 hf255 hf256 hE hR hl hO hP hD hS
                  refine lv_iload hx hb dMH_verify_265 (lv_at hl 0 rfl) ?_
                  refine lv_aload_n hx hb dMH_verify_267 rfl (lv_at hl 1 rfl) ?_
                  refine nw_get (C := "LatticeKeysModel$Hands") (TT := T_MH) (N := 31) hx hb hts (wg_ft i_MH) hown hK hO k_h0 (kn := 225) (ci := 12) (fl := [(3, 172), (3, 181), (3, 226), (3, 291), (3, 299), (3, 308), (3, 317), (3, 326), (3, 334), (3, 342), (3, 350), (3, 359), (3, 368), (3, 369), (3, 370), (3, 371), (3, 372), (3, 373), (3, 374), (3, 375), (3, 376), (3, 377), (3, 378), (0, 0), (0, 0), (0, 0), (0, 0), (0, 0), (0, 0), (0, 0), (0, 0)]) rfl hP rfl 25 (by decide) (hts _ (wg_t kw_1457)) (fun _ h9 => h9) (cd := (0, 0)) rfl dMH_verify_268 (fun v49 hv49 => ?_)
                  obtain rfl := (show v49 = .int (s31.1 225 25) from hv49)
                  obtain ⟨z35, ez34, hz47, hz48⟩ := cl_of (b := 2147483648) hf251 (by omega) (by decide)
                  replace hR := bnd_step hR ez34
                  replace hE := bndP_step hE ez34
                  refine mi_as hz47 ?_
                  subst hz48
                  refine mi_ge (tgt := 303) hx hb dMH_verify_271 (by decide) (by omega) (by omega) (fun h36 => absurd h36 (by omega)) (fun h36 => ?_)
                  refine lv_aload_n hx hb dMH_verify_274 rfl (lv_at hl 1 rfl) ?_
                  refine nw_get (C := "LatticeKeysModel$Hands") (TT := T_MH) (N := 31) hx hb hts (wg_ft i_MH) hown hK hO k_h0 (kn := 225) (ci := 12) (fl := [(3, 172), (3, 181), (3, 226), (3, 291), (3, 299), (3, 308), (3, 317), (3, 326), (3, 334), (3, 342), (3, 350), (3, 359), (3, 368), (3, 369), (3, 370), (3, 371), (3, 372), (3, 373), (3, 374), (3, 375), (3, 376), (3, 377), (3, 378), (0, 0), (0, 0), (0, 0), (0, 0), (0, 0), (0, 0), (0, 0), (0, 0)]) rfl hP rfl 1 (by decide) (hts _ (wg_t kw_1433)) (fun _ h9 => h9) (cd := (3, 181)) rfl dMH_verify_275 (fun v50 hv50 => ?_)
                  obtain ⟨r48, rfl, kr43⟩ := (show ∃ r : Nat, v50 = .ref r ∧ T r = some 181 from hv50)
                  refine lv_aload_n hx hb dMH_verify_278 rfl (lv_at hl 1 rfl) ?_
                  refine nw_get (C := "LatticeKeysModel$Hands") (TT := T_MH) (N := 31) hx hb hts (wg_ft i_MH) hown hK hO k_h0 (kn := 225) (ci := 12) (fl := [(3, 172), (3, 181), (3, 226), (3, 291), (3, 299), (3, 308), (3, 317), (3, 326), (3, 334), (3, 342), (3, 350), (3, 359), (3, 368), (3, 369), (3, 370), (3, 371), (3, 372), (3, 373), (3, 374), (3, 375), (3, 376), (3, 377), (3, 378), (0, 0), (0, 0), (0, 0), (0, 0), (0, 0), (0, 0), (0, 0), (0, 0)]) rfl hP rfl 8 (by decide) (hts _ (wg_t kw_1440)) (fun _ h9 => h9) (cd := (3, 334)) rfl dMH_verify_279 (fun v51 hv51 => ?_)
                  obtain ⟨r49, rfl, kr44⟩ := (show ∃ r : Nat, v51 = .ref r ∧ T r = some 334 from hv51)
                  refine lv_iload hx hb dMH_verify_282 (lv_at hl 0 rfl) ?_
                  refine nw_aald3 hx hb hK hO kr44 (k := 334) (b := 335) rfl hP (by omega) (by omega) dMH_verify_284 (fun r50 kr45 => ?_)
                  have hn26 : nsp (335 + i23) = (0, 256, []) := rows_ok 335 7 (by decide) _ (by omega)
                  refine lv_aload_n hx hb dMH_verify_285 rfl (lv_at hl 1 rfl) ?_
                  refine nw_get (C := "LatticeKeysModel$Hands") (TT := T_MH) (N := 31) hx hb hts (wg_ft i_MH) hown hK hO k_h0 (kn := 225) (ci := 12) (fl := [(3, 172), (3, 181), (3, 226), (3, 291), (3, 299), (3, 308), (3, 317), (3, 326), (3, 334), (3, 342), (3, 350), (3, 359), (3, 368), (3, 369), (3, 370), (3, 371), (3, 372), (3, 373), (3, 374), (3, 375), (3, 376), (3, 377), (3, 378), (0, 0), (0, 0), (0, 0), (0, 0), (0, 0), (0, 0), (0, 0), (0, 0)]) rfl hP rfl 9 (by decide) (hts _ (wg_t kw_1441)) (fun _ h9 => h9) (cd := (3, 342)) rfl dMH_verify_286 (fun v52 hv52 => ?_)
                  obtain ⟨r51, rfl, kr46⟩ := (show ∃ r : Nat, v52 = .ref r ∧ T r = some 342 from hv52)
                  refine lv_iload hx hb dMH_verify_289 (lv_at hl 0 rfl) ?_
                  refine nw_aald3 hx hb hK hO kr46 (k := 342) (b := 343) rfl hP (by omega) (by omega) dMH_verify_291 (fun r52 kr47 => ?_)
                  have hn27 : nsp (343 + i23) = (0, 256, []) := rows_ok 343 7 (by decide) _ (by omega)
                  refine lv_iconst (v := nI 1) hx hb dMH_verify_292 (by decide) ?_
                  refine lv_iconst (v := nI 0) hx hb dMH_verify_293 (by decide) ?_
                  refine mp_v (cx := []) (wr := []) hP hD hS hA [] [] rfl rfl rfl (by decide) (va_runV (As := [.ref r50, .ref r52, .int (nI 1), .int (nI 0)]) (rest := []) F (N_MR_forth_8_0 l g _ T s31 pl hO hU r48 r50 r52 (335 + i23) (343 + i23) kr43 kr45 hn26 kr47 hn27) (cwV 4 hts (wg_app (wg_c kw_1729 (wg_c kw_1669 (wg_c kw_1670 (wg_c kw_12 wg_n)))) kw_1671) rfl rfl rfl (by decide +kernel) ⟨by decide, by decide⟩) (pn_V (en_ok g) (ci := 10) (kn := 181) (fl := [(1, 8380417), (1, 256), (3, 182), (3, 183), (4, 8347681)]) hK hO kr43 rfl hP hD hS hA hEn [] rfl rfl rfl) rfl rfl hl.1 rfl (lv_room (Nat.le_of_ble_eq_true rfl)) dMH_verify_294 ⟨by omega, by omega⟩) (fun  u37 H locs hu37 hP hD hS => ?_)
                  obtain ⟨s41, pl⟩ := u37
                  obtain ⟨⟨eq37, hFc37, -⟩, hO⟩ := hu37
                  have hO : okn g T s41 pl := hO
                  have hP : va_P g.1 vcl ([] ++ pl) _ := hP
                  have hD : va_D _ ([] ++ pl) := hD
                  have hFc37 : frm (M_MR_forth_8_0 (343 + i23)) s31 s41 := hFc37
                  replace hR := bnd_step hR eq37
                  replace hE := bndP_step hE eq37
                  have hF := frm_tr hF hFc37 (fun k hk => by unfold M_MR_forth_8_0 at hk; unfold M_MH_verify_0; omega)
                  have hf257 : s41.1 225 23 = nI 0 := fc_F hf249 hFc37 (by unfold M_MR_forth_8_0; omega)
                  have hf258 : s41.1 225 24 = nI 4 := fc_F hf250 hFc37 (by unfold M_MR_forth_8_0; omega)
                  have hf259 : s41.1 225 25 = nI 4 := fc_F hf251 hFc37 (by unfold M_MR_forth_8_0; omega)
                  have hf260 : s41.1 225 26 = nI 2 := fc_F hf252 hFc37 (by unfold M_MR_forth_8_0; omega)
                  have hf261 : s41.1 225 27 = nI 131072 := fc_F hf253 hFc37 (by unfold M_MR_forth_8_0; omega)
                  have hf262 : s41.1 225 28 = nI 95232 := fc_F hf254 hFc37 (by unfold M_MR_forth_8_0; omega)
                  have hf263 : s41.1 225 29 = nI 78 := fc_F hf255 hFc37 (by unfold M_MR_forth_8_0; omega)
                  have hf264 : s41.1 225 30 = nI 32 := fc_F hf256 hFc37 (by unfold M_MR_forth_8_0; omega)
                  refine W.widen (k := 0) (n := 0) (by omega) (by omega) ?_
                  refine mi_iinc (k := 0) (x := i23) (d := 1) (y := i23 + 1) (lv' := [(9, .int (nI (i23 + 1))), (0, .ref h0), (2, .ref pk)]) hx hb dMH_verify_297 hl rfl (by decide) rfl (by decide) rfl (fun ls hl => ?_)
                  refine lv_goto (tgt := 265) hx hb dMH_verify_300 (by decide) ?_
                  exact ih23 (i23 + 1) s41 pl ls H locs (by omega) hF hf257 hf258 hf259 hf260 hf261 hf262 hf263 hf264 hE hR (lv_sub hl [0, 1, 2] rfl) hO hP hD hS
              exact lp23 4 0 s30 pl ls _ _ (by omega) hF hf113 hf114 hf115 hf116 hf117 hf118 hf119 hf120 hE hR (lv_sub hl [0, 4, 5] rfl) hO hP hD hS
            · replace hR := hR.trans (if_pos h25)
              replace hE := iteP_pos h25 hE
              refine lv_iconst (v := nI 0) hx hb dMH_verify_182 (by decide) ?_
              exact mp_zret hx hb hr hlk rfl hP hD hS ((nI 0, q21.2), pl) ⟨⟨hR.symm, rfl, hF, trivial⟩, hO⟩ [] rfl rfl rfl (by omega) (by omega) dMH_verify_183
        | succ n22 ih22 =>
          intro i22 z24 az21 s23 pl ls H locs hm22 hi21 hF hf265 hf266 hf267 hf268 hf269 hf270 hf271 hf272 hE hR hl hO hP hD hS
          refine lv_iload hx hb dMH_verify_65 (lv_at hl 0 rfl) ?_
          refine lv_aload_n hx hb dMH_verify_67 rfl (lv_at hl 4 rfl) ?_
          refine nw_get (C := "LatticeKeysModel$Hands") (TT := T_MH) (N := 31) hx hb hts (wg_ft i_MH) hown hK hO k_h0 (kn := 225) (ci := 12) (fl := [(3, 172), (3, 181), (3, 226), (3, 291), (3, 299), (3, 308), (3, 317), (3, 326), (3, 334), (3, 342), (3, 350), (3, 359), (3, 368), (3, 369), (3, 370), (3, 371), (3, 372), (3, 373), (3, 374), (3, 375), (3, 376), (3, 377), (3, 378), (0, 0), (0, 0), (0, 0), (0, 0), (0, 0), (0, 0), (0, 0), (0, 0)]) rfl hP rfl 25 (by decide) (hts _ (wg_t kw_1457)) (fun _ h9 => h9) (cd := (0, 0)) rfl dMH_verify_68 (fun v53 hv53 => ?_)
          obtain rfl := (show v53 = .int (s23.1 225 25) from hv53)
          obtain ⟨z36, ez35, hz49, hz50⟩ := cl_of (b := 2147483648) hf267 (by omega) (by decide)
          replace hR := bnd_step hR ez35
          replace hE := bndP_step hE ez35
          refine mi_as hz49 ?_
          subst hz50
          refine mi_ge (tgt := 164) hx hb dMH_verify_71 (by decide) (by omega) (by omega) (fun h37 => absurd h37 (by omega)) (fun h37 => ?_)
          refine lv_iconst (v := nI 0) hx hb dMH_verify_74 (by decide) ?_
          refine lv_istore (lv' := [(10, .int (nI 0)), (9, .int (nI i22)), (8, .int z24), (7, .int (nI az21)), (6, .int (nI 18)), (0, .ref h0), (2, .ref pk), (3, .ref b), (4, .int cl_), (5, .int (nI ed))]) hx hb dMH_verify_75 hl (by decide) rfl (fun ls hl => ?_)
          have lp28 : ∀ (n28 : Nat) (i28 : Nat) (z37 : Int32) (az22 : Nat) (s42 : Sto) (pl : va_W) (ls : Array Slot) (H : Heap) (locs : List Loc), n28 + i28 = 256 → (az22 = 256 + 4608 * i22 + 18 * i28) → frm (M_MH_verify_0) s s42 → s42.1 225 23 = nI 0 → s42.1 225 24 = nI 4 → s42.1 225 25 = nI 4 → s42.1 225 26 = nI 2 → s42.1 225 27 = nI 131072 → s42.1 225 28 = nI 95232 → s42.1 225 29 = nI 78 → s42.1 225 30 = nI 32 → E_MH_verify_0_L7 pb i22 (E_MH_verify_0_L1 pp pb cl_ ed n22) n28 i28 z37 az22 s42 → F_MH_verify_0 pp pb cl_ ed s = F_MH_verify_0_L7 pb i22 (F_MH_verify_0_L1 pp pb cl_ ed n22) n28 i28 z37 az22 s42 → lv_has ls 11 [(10, .int (nI i28)), (9, .int (nI i22)), (8, .int z37), (7, .int (nI az22)), (6, .int (nI 18)), (0, .ref h0), (2, .ref pk), (3, .ref b), (4, .int cl_), (5, .int (nI ed))] → okn g T s42 pl → va_P g.1 vcl ([] ++ pl) H → va_D A ([] ++ pl) → va_S A s0.heap H locs → W p l e ({ frames := 5, cells := 0, slots := 0, locals := 116 } : Room) s0 m args below meth c H locs 0 0 (MQ below (va_Qi (fun (r : Int32) (u : (Int32 × Sto) × va_W) => (u.1 = F_MH_verify_0 pp pb cl_ ed s ∧ r = u.1.1 ∧ frm (M_MH_verify_0) s u.1.2 ∧ True) ∧ okn g T u.1.2 u.2) (po g.1 vcl A (fun (u : (Int32 × Sto) × va_W) => [] ++ u.2)) A) args s0 0 0 A) (F0 m 77 ls []) := by
            intro n28
            induction n28 with
            | zero =>
              intro i28 z37 az22 s42 pl ls H locs hm28 hi22 hF hf273 hf274 hf275 hf276 hf277 hf278 hf279 hf280 hE hR hl hO hP hD hS
              refine lv_iload hx hb dMH_verify_77 (lv_at hl 0 rfl) ?_
              refine lv_sipush (v := nI 256) hx hb dMH_verify_79 (by decide) ?_
              refine mi_ge (tgt := 158) hx hb dMH_verify_82 (by decide) (by omega) (by omega) (fun h38 => ?_) (fun h38 => absurd h38 (by omega))
              refine mi_iinc (k := 1) (x := i22) (d := 1) (y := i22 + 1) (lv' := [(9, .int (nI (i22 + 1))), (10, .int (nI i28)), (8, .int z37), (7, .int (nI az22)), (6, .int (nI 18)), (0, .ref h0), (2, .ref pk), (3, .ref b), (4, .int cl_), (5, .int (nI ed))]) hx hb dMH_verify_158 hl rfl (by decide) rfl (by decide) rfl (fun ls hl => ?_)
              refine lv_goto (tgt := 65) hx hb dMH_verify_161 (by decide) ?_
              exact ih22 (i22 + 1) z37 az22 s42 pl ls H locs (by omega) (by omega) hF hf273 hf274 hf275 hf276 hf277 hf278 hf279 hf280 hE hR (lv_sub hl [0, 2, 3, 4, 5, 6, 7, 8, 9] rfl) hO hP hD hS
            | succ n28 ih28 =>
              intro i28 z37 az22 s42 pl ls H locs hm28 hi22 hF hf281 hf282 hf283 hf284 hf285 hf286 hf287 hf288 hE hR hl hO hP hD hS
              refine lv_iload hx hb dMH_verify_77 (lv_at hl 0 rfl) ?_
              refine lv_sipush (v := nI 256) hx hb dMH_verify_79 (by decide) ?_
              refine mi_ge (tgt := 158) hx hb dMH_verify_82 (by decide) (by omega) (by omega) (fun h39 => absurd h39 (by omega)) (fun h39 => ?_)
              refine lv_aload_n hx hb dMH_verify_85 rfl (lv_at hl 5 rfl) ?_
              refine nw_get (C := "LatticeKeysModel$Hands") (TT := T_MH) (N := 31) hx hb hts (wg_ft i_MH) hown hK hO k_h0 (kn := 225) (ci := 12) (fl := [(3, 172), (3, 181), (3, 226), (3, 291), (3, 299), (3, 308), (3, 317), (3, 326), (3, 334), (3, 342), (3, 350), (3, 359), (3, 368), (3, 369), (3, 370), (3, 371), (3, 372), (3, 373), (3, 374), (3, 375), (3, 376), (3, 377), (3, 378), (0, 0), (0, 0), (0, 0), (0, 0), (0, 0), (0, 0), (0, 0), (0, 0)]) rfl hP rfl 8 (by decide) (hts _ (wg_t kw_1440)) (fun _ h9 => h9) (cd := (3, 334)) rfl dMH_verify_86 (fun v54 hv54 => ?_)
              obtain ⟨r53, rfl, kr48⟩ := (show ∃ r : Nat, v54 = .ref r ∧ T r = some 334 from hv54)
              refine lv_iload hx hb dMH_verify_89 (lv_at hl 1 rfl) ?_
              refine nw_aald3 hx hb hK hO kr48 (k := 334) (b := 335) rfl hP (by omega) (by omega) dMH_verify_91 (fun r54 kr49 => ?_)
              have hn28 : nsp (335 + i22) = (0, 256, []) := rows_ok 335 7 (by decide) _ (by omega)
              refine lv_iload hx hb dMH_verify_92 (lv_at hl 0 rfl) ?_
              refine lv_aload_n hx hb dMH_verify_94 rfl (lv_at hl 5 rfl) ?_
              refine nw_get (C := "LatticeKeysModel$Hands") (TT := T_MH) (N := 31) hx hb hts (wg_ft i_MH) hown hK hO k_h0 (kn := 225) (ci := 12) (fl := [(3, 172), (3, 181), (3, 226), (3, 291), (3, 299), (3, 308), (3, 317), (3, 326), (3, 334), (3, 342), (3, 350), (3, 359), (3, 368), (3, 369), (3, 370), (3, 371), (3, 372), (3, 373), (3, 374), (3, 375), (3, 376), (3, 377), (3, 378), (0, 0), (0, 0), (0, 0), (0, 0), (0, 0), (0, 0), (0, 0), (0, 0)]) rfl hP rfl 27 (by decide) (hts _ (wg_t kw_1459)) (fun _ h9 => h9) (cd := (0, 0)) rfl dMH_verify_95 (fun v55 hv55 => ?_)
              obtain rfl := (show v55 = .int (s42.1 225 27) from hv55)
              obtain ⟨z38, ez36, hz51, hz52⟩ := cl_of (b := 2147483648) hf285 (by omega) (by decide)
              replace hR := bnd_step hR ez36
              replace hE := bndP_step hE ez36
              refine mi_as hz51 ?_
              subst hz52
              refine lv_aload_n hx hb dMH_verify_98 rfl (lv_at hl 7 rfl) ?_
              refine lv_iload hx hb dMH_verify_99 (lv_at hl 3 rfl) ?_
              refine lv_iload hx hb dMH_verify_101 (lv_at hl 4 rfl) ?_
              refine mp_i (cx := []) (wr := []) hP hD hS hA [] [] rfl rfl rfl (by decide) (va_runSN (As := [.ref b, .int (nI az22), .int (nI 18)]) (rest := [.int (nI 131072), .int (nI i28), .ref r54]) F (N_M_unpack l g _ T s42 pl hO hU b pb 16384 az22 18 k_b n_b (by omega) (by omega) (by omega)) ⟨va_cnB 3 hts (wg_in kw_1663) rfl rfl rfl (hEn.2.2.2.2.2.2.2.2.2.2) (hts _ (wg_t kw_9)) (by decide +kernel) ⟨by decide, by decide⟩, hts _ (wg_t kw_1662), trivial⟩ (pp_S (en_ok g) hP hD hS hA hEn [] rfl rfl) rfl rfl hl.1 rfl (lv_room (Nat.le_of_ble_eq_true rfl)) dMH_verify_103 ⟨by omega, by omega⟩) (fun r55 u38 H locs hu38 hP hD hS => ?_)
              obtain ⟨q26, pl⟩ := u38
              obtain ⟨⟨eq38, rfl, hFc38, -⟩, hO⟩ := hu38
              have hO : okn g T q26.2 pl := hO
              have hP : va_P g.1 vcl ([] ++ pl) _ := hP
              have hD : va_D _ ([] ++ pl) := hD
              have hFc38 : frm (M_M_unpack) s42 q26.2 := hFc38
              replace hR := bnd_step hR eq38
              replace hE := bndP_step hE eq38
              have hF := frm_tr hF hFc38 (fun k hk => by unfold M_M_unpack at hk; unfold M_MH_verify_0; omega)
              have hf289 : q26.2.1 225 23 = nI 0 := fc_F hf281 hFc38 (by unfold M_M_unpack; omega)
              have hf290 : q26.2.1 225 24 = nI 4 := fc_F hf282 hFc38 (by unfold M_M_unpack; omega)
              have hf291 : q26.2.1 225 25 = nI 4 := fc_F hf283 hFc38 (by unfold M_M_unpack; omega)
              have hf292 : q26.2.1 225 26 = nI 2 := fc_F hf284 hFc38 (by unfold M_M_unpack; omega)
              have hf293 : q26.2.1 225 27 = nI 131072 := fc_F hf285 hFc38 (by unfold M_M_unpack; omega)
              have hf294 : q26.2.1 225 28 = nI 95232 := fc_F hf286 hFc38 (by unfold M_M_unpack; omega)
              have hf295 : q26.2.1 225 29 = nI 78 := fc_F hf287 hFc38 (by unfold M_M_unpack; omega)
              have hf296 : q26.2.1 225 30 = nI 32 := fc_F hf288 hFc38 (by unfold M_M_unpack; omega)
              refine W.widen (k := 0) (n := 0) (by omega) (by omega) ?_
              refine mp_i (cx := []) (wr := []) hP hD hS hA [] [] rfl rfl rfl (by decide) (va_runS (As := [.int (nI 131072), .int q26.1]) (rest := [.int (nI i28), .ref r54]) F (N_MH_minus l g _ T q26.2 pl hO hU (nI 131072) (q26.1)) (va_cwS 2 hts (wg_app (wg_c kw_1861 (wg_c kw_1862 (wg_c kw_13 wg_n))) kw_1863) rfl rfl rfl (by decide +kernel) ⟨by decide, by decide⟩) (pp_S (en_ok g) hP hD hS hA hEn [] rfl rfl) rfl rfl hl.1 rfl (lv_room (Nat.le_of_ble_eq_true rfl)) dMH_verify_106 ⟨by omega, by omega⟩) (fun r56 u39 H locs hu39 hP hD hS => ?_)
              obtain ⟨q27, pl⟩ := u39
              obtain ⟨⟨eq39, rfl, hFc39, -⟩, hO⟩ := hu39
              have hO : okn g T q27.2 pl := hO
              have hP : va_P g.1 vcl ([] ++ pl) _ := hP
              have hD : va_D _ ([] ++ pl) := hD
              have hFc39 : frm (M_MH_minus) q26.2 q27.2 := hFc39
              replace hR := bnd_step hR eq39
              replace hE := bndP_step hE eq39
              have hF := frm_tr hF hFc39 (fun k hk => by unfold M_MH_minus at hk; unfold M_MH_verify_0; omega)
              have hf297 : q27.2.1 225 23 = nI 0 := fc_F hf289 hFc39 (by unfold M_MH_minus; omega)
              have hf298 : q27.2.1 225 24 = nI 4 := fc_F hf290 hFc39 (by unfold M_MH_minus; omega)
              have hf299 : q27.2.1 225 25 = nI 4 := fc_F hf291 hFc39 (by unfold M_MH_minus; omega)
              have hf300 : q27.2.1 225 26 = nI 2 := fc_F hf292 hFc39 (by unfold M_MH_minus; omega)
              have hf301 : q27.2.1 225 27 = nI 131072 := fc_F hf293 hFc39 (by unfold M_MH_minus; omega)
              have hf302 : q27.2.1 225 28 = nI 95232 := fc_F hf294 hFc39 (by unfold M_MH_minus; omega)
              have hf303 : q27.2.1 225 29 = nI 78 := fc_F hf295 hFc39 (by unfold M_MH_minus; omega)
              have hf304 : q27.2.1 225 30 = nI 32 := fc_F hf296 hFc39 (by unfold M_MH_minus; omega)
              refine W.widen (k := 0) (n := 0) (by omega) (by omega) ?_
              refine nw_iast hx hb hK hO hU kr49 (k := (335 + i22)) hn28 hP hD hS (by omega) (by omega) dMH_verify_109 (fun s43 pl H locs es23 hO hP hD hS => ?_)
              replace hR := bnd_step hR es23
              replace hE := bndP_step hE es23
              have hF := frm_sI hF es23 (by unfold M_MH_verify_0; omega)
              have hf305 : s43.1 225 23 = nI 0 := fc_ne hf297 es23 (by omega)
              have hf306 : s43.1 225 24 = nI 4 := fc_ne hf298 es23 (by omega)
              have hf307 : s43.1 225 25 = nI 4 := fc_ne hf299 es23 (by omega)
              have hf308 : s43.1 225 26 = nI 2 := fc_ne hf300 es23 (by omega)
              have hf309 : s43.1 225 27 = nI 131072 := fc_ne hf301 es23 (by omega)
              have hf310 : s43.1 225 28 = nI 95232 := fc_ne hf302 es23 (by omega)
              have hf311 : s43.1 225 29 = nI 78 := fc_ne hf303 es23 (by omega)
              have hf312 : s43.1 225 30 = nI 32 := fc_ne hf304 es23 (by omega)
              refine lv_iload hx hb dMH_verify_110 (lv_at hl 2 rfl) ?_
              refine lv_aload_n hx hb dMH_verify_112 rfl (lv_at hl 5 rfl) ?_
              refine nw_get (C := "LatticeKeysModel$Hands") (TT := T_MH) (N := 31) hx hb hts (wg_ft i_MH) hown hK hO k_h0 (kn := 225) (ci := 12) (fl := [(3, 172), (3, 181), (3, 226), (3, 291), (3, 299), (3, 308), (3, 317), (3, 326), (3, 334), (3, 342), (3, 350), (3, 359), (3, 368), (3, 369), (3, 370), (3, 371), (3, 372), (3, 373), (3, 374), (3, 375), (3, 376), (3, 377), (3, 378), (0, 0), (0, 0), (0, 0), (0, 0), (0, 0), (0, 0), (0, 0), (0, 0)]) rfl hP rfl 8 (by decide) (hts _ (wg_t kw_1440)) (fun _ h9 => h9) (cd := (3, 334)) rfl dMH_verify_113 (fun v56 hv56 => ?_)
              obtain ⟨r57, rfl, kr50⟩ := (show ∃ r : Nat, v56 = .ref r ∧ T r = some 334 from hv56)
              refine lv_iload hx hb dMH_verify_116 (lv_at hl 1 rfl) ?_
              refine nw_aald3 hx hb hK hO kr50 (k := 334) (b := 335) rfl hP (by omega) (by omega) dMH_verify_118 (fun r58 kr51 => ?_)
              have hn29 : nsp (335 + i22) = (0, 256, []) := rows_ok 335 7 (by decide) _ (by omega)
              refine lv_iload hx hb dMH_verify_119 (lv_at hl 0 rfl) ?_
              refine nw_iald hx hb hK hO kr51 (k := (335 + i22)) hn29 hP (by omega) (by omega) dMH_verify_121 ?_
              refine mp_i (cx := []) (wr := []) hP hD hS hA [] [] rfl rfl rfl (by decide) (va_runS (As := [.int ((s43.1 ((335 + i22)) i28))]) (rest := [.int z37]) F (N_MH_norm l g _ T s43 pl hO hU (s43.1 ((335 + i22)) i28)) (va_cwS 1 hts (wg_app (wg_c kw_1901 (wg_c kw_1902 (wg_c kw_13 wg_n))) kw_1903) rfl rfl rfl (by decide +kernel) ⟨by decide, by decide⟩) (pp_S (en_ok g) hP hD hS hA hEn [] rfl rfl) rfl rfl hl.1 rfl (lv_room (Nat.le_of_ble_eq_true rfl)) dMH_verify_122 ⟨by omega, by omega⟩) (fun r59 u40 H locs hu40 hP hD hS => ?_)
              obtain ⟨q28, pl⟩ := u40
              obtain ⟨⟨eq40, rfl, hFc40, -⟩, hO⟩ := hu40
              have hO : okn g T q28.2 pl := hO
              have hP : va_P g.1 vcl ([] ++ pl) _ := hP
              have hD : va_D _ ([] ++ pl) := hD
              have hFc40 : frm (M_MH_norm) s43 q28.2 := hFc40
              replace hR := bnd_step hR eq40
              replace hE := bndP_step hE eq40
              have hF := frm_tr hF hFc40 (fun k hk => by unfold M_MH_norm at hk; unfold M_MH_verify_0; omega)
              have hf313 : q28.2.1 225 23 = nI 0 := fc_F hf305 hFc40 (by unfold M_MH_norm; omega)
              have hf314 : q28.2.1 225 24 = nI 4 := fc_F hf306 hFc40 (by unfold M_MH_norm; omega)
              have hf315 : q28.2.1 225 25 = nI 4 := fc_F hf307 hFc40 (by unfold M_MH_norm; omega)
              have hf316 : q28.2.1 225 26 = nI 2 := fc_F hf308 hFc40 (by unfold M_MH_norm; omega)
              have hf317 : q28.2.1 225 27 = nI 131072 := fc_F hf309 hFc40 (by unfold M_MH_norm; omega)
              have hf318 : q28.2.1 225 28 = nI 95232 := fc_F hf310 hFc40 (by unfold M_MH_norm; omega)
              have hf319 : q28.2.1 225 29 = nI 78 := fc_F hf311 hFc40 (by unfold M_MH_norm; omega)
              have hf320 : q28.2.1 225 30 = nI 32 := fc_F hf312 hFc40 (by unfold M_MH_norm; omega)
              refine W.widen (k := 0) (n := 0) (by omega) (by omega) ?_
              refine lv_aload_n hx hb dMH_verify_125 rfl (lv_at hl 5 rfl) ?_
              refine nw_get (C := "LatticeKeysModel$Hands") (TT := T_MH) (N := 31) hx hb hts (wg_ft i_MH) hown hK hO k_h0 (kn := 225) (ci := 12) (fl := [(3, 172), (3, 181), (3, 226), (3, 291), (3, 299), (3, 308), (3, 317), (3, 326), (3, 334), (3, 342), (3, 350), (3, 359), (3, 368), (3, 369), (3, 370), (3, 371), (3, 372), (3, 373), (3, 374), (3, 375), (3, 376), (3, 377), (3, 378), (0, 0), (0, 0), (0, 0), (0, 0), (0, 0), (0, 0), (0, 0), (0, 0)]) rfl hP rfl 27 (by decide) (hts _ (wg_t kw_1459)) (fun _ h9 => h9) (cd := (0, 0)) rfl dMH_verify_126 (fun v57 hv57 => ?_)
              obtain rfl := (show v57 = .int (q28.2.1 225 27) from hv57)
              obtain ⟨z39, ez37, hz53, hz54⟩ := cl_of (b := 2147483648) hf317 (by omega) (by decide)
              replace hR := bnd_step hR ez37
              replace hE := bndP_step hE ez37
              refine mi_as hz53 ?_
              subst hz54
              refine lv_aload_n hx hb dMH_verify_129 rfl (lv_at hl 5 rfl) ?_
              refine nw_get (C := "LatticeKeysModel$Hands") (TT := T_MH) (N := 31) hx hb hts (wg_ft i_MH) hown hK hO k_h0 (kn := 225) (ci := 12) (fl := [(3, 172), (3, 181), (3, 226), (3, 291), (3, 299), (3, 308), (3, 317), (3, 326), (3, 334), (3, 342), (3, 350), (3, 359), (3, 368), (3, 369), (3, 370), (3, 371), (3, 372), (3, 373), (3, 374), (3, 375), (3, 376), (3, 377), (3, 378), (0, 0), (0, 0), (0, 0), (0, 0), (0, 0), (0, 0), (0, 0), (0, 0)]) rfl hP rfl 29 (by decide) (hts _ (wg_t kw_1461)) (fun _ h9 => h9) (cd := (0, 0)) rfl dMH_verify_130 (fun v58 hv58 => ?_)
              obtain rfl := (show v58 = .int (q28.2.1 225 29) from hv58)
              obtain ⟨z40, ez38, hz55, hz56⟩ := cl_of (b := 2147483648) hf319 (by omega) (by decide)
              replace hR := bnd_step hR ez38
              replace hE := bndP_step hE ez38
              refine mi_as hz55 ?_
              subst hz56
              refine mi_isub hx hb dMH_verify_133 (by omega) ?_
              refine mi_as (show nI (131072 - 78) = nI 130994 from rfl) ?_
              refine lv_icmp_ge (tgt := 141) hx hb dMH_verify_134 (by decide) (fun h40 => ?_) (fun h40 => ?_)
              · replace hR := hR.trans (if_pos h40)
                replace hE := iteP_pos h40 hE
                refine lv_iconst (v := nI 0) hx hb dMH_verify_141 (by decide) ?_
                refine lv_iand hx hb dMH_verify_142 ?_
                refine mi_eqv (fun z41 ez39 => ?_)
                replace hR := bnd_step hR ez39
                replace hE := bndP_step hE ez39
                refine lv_istore (lv' := [(8, .int z41), (10, .int (nI i28)), (9, .int (nI i22)), (7, .int (nI az22)), (6, .int (nI 18)), (0, .ref h0), (2, .ref pk), (3, .ref b), (4, .int cl_), (5, .int (nI ed))]) hx hb dMH_verify_143 hl (by decide) rfl (fun ls hl => ?_)
                refine lv_iload hx hb dMH_verify_145 (lv_at hl 3 rfl) ?_
                refine lv_iload hx hb dMH_verify_147 (lv_at hl 4 rfl) ?_
                refine mi_iadd hx hb dMH_verify_149 ?_
                refine lv_istore (lv' := [(7, .int (nI (az22 + 18))), (8, .int z41), (10, .int (nI i28)), (9, .int (nI i22)), (6, .int (nI 18)), (0, .ref h0), (2, .ref pk), (3, .ref b), (4, .int cl_), (5, .int (nI ed))]) hx hb dMH_verify_150 hl (by decide) rfl (fun ls hl => ?_)
                refine mi_iinc (k := 2) (x := i28) (d := 1) (y := i28 + 1) (lv' := [(10, .int (nI (i28 + 1))), (7, .int (nI (az22 + 18))), (8, .int z41), (9, .int (nI i22)), (6, .int (nI 18)), (0, .ref h0), (2, .ref pk), (3, .ref b), (4, .int cl_), (5, .int (nI ed))]) hx hb dMH_verify_152 hl rfl (by decide) rfl (by decide) rfl (fun ls hl => ?_)
                refine lv_goto (tgt := 77) hx hb dMH_verify_155 (by decide) ?_
                exact ih28 (i28 + 1) z41 (az22 + 18) q28.2 pl ls H locs (by omega) (by omega) hF hf313 hf314 hf315 hf316 hf317 hf318 hf319 hf320 hE hR (lv_sub hl [0, 3, 2, 1, 4, 5, 6, 7, 8, 9] rfl) hO hP hD hS
              · replace hR := hR.trans (if_neg h40)
                replace hE := iteP_neg h40 hE
                refine lv_iconst (v := nI 1) hx hb dMH_verify_137 (by decide) ?_
                refine lv_goto (tgt := 142) hx hb dMH_verify_138 (by decide) ?_
                refine lv_iand hx hb dMH_verify_142 ?_
                refine mi_eqv (fun z42 ez40 => ?_)
                replace hR := bnd_step hR ez40
                replace hE := bndP_step hE ez40
                refine lv_istore (lv' := [(8, .int z42), (10, .int (nI i28)), (9, .int (nI i22)), (7, .int (nI az22)), (6, .int (nI 18)), (0, .ref h0), (2, .ref pk), (3, .ref b), (4, .int cl_), (5, .int (nI ed))]) hx hb dMH_verify_143 hl (by decide) rfl (fun ls hl => ?_)
                refine lv_iload hx hb dMH_verify_145 (lv_at hl 3 rfl) ?_
                refine lv_iload hx hb dMH_verify_147 (lv_at hl 4 rfl) ?_
                refine mi_iadd hx hb dMH_verify_149 ?_
                refine lv_istore (lv' := [(7, .int (nI (az22 + 18))), (8, .int z42), (10, .int (nI i28)), (9, .int (nI i22)), (6, .int (nI 18)), (0, .ref h0), (2, .ref pk), (3, .ref b), (4, .int cl_), (5, .int (nI ed))]) hx hb dMH_verify_150 hl (by decide) rfl (fun ls hl => ?_)
                refine mi_iinc (k := 2) (x := i28) (d := 1) (y := i28 + 1) (lv' := [(10, .int (nI (i28 + 1))), (7, .int (nI (az22 + 18))), (8, .int z42), (9, .int (nI i22)), (6, .int (nI 18)), (0, .ref h0), (2, .ref pk), (3, .ref b), (4, .int cl_), (5, .int (nI ed))]) hx hb dMH_verify_152 hl rfl (by decide) rfl (by decide) rfl (fun ls hl => ?_)
                refine lv_goto (tgt := 77) hx hb dMH_verify_155 (by decide) ?_
                exact ih28 (i28 + 1) z42 (az22 + 18) q28.2 pl ls H locs (by omega) (by omega) hF hf313 hf314 hf315 hf316 hf317 hf318 hf319 hf320 hE hR (lv_sub hl [0, 3, 2, 1, 4, 5, 6, 7, 8, 9] rfl) hO hP hD hS
          exact lp28 256 0 z24 az21 s23 pl ls _ _ (by omega) (by omega) hF hf265 hf266 hf267 hf268 hf269 hf270 hf271 hf272 hE hR (lv_sub hl [0, 1, 2, 3, 4, 5, 6, 7, 8, 9] rfl) hO hP hD hS
      exact lp22 4 0 (nI 1) 256 s22 pl ls _ _ (by omega) (by omega) hF hf21 hf22 hf23 hf24 hf25 hf26 hf27 hf28 hE hR (lv_sub hl [0, 1, 2, 3, 4, 5, 6, 7, 8] rfl) hO hP hD hS
    | succ n21 ih21 =>
      intro i21 s22 pl ls H locs hm21 hF hf321 hf322 hf323 hf324 hf325 hf326 hf327 hf328 hE hR hl hO hP hD hS
      refine lv_iload hx hb dMH_verify_36 (lv_at hl 0 rfl) ?_
      refine lv_aload_n hx hb dMH_verify_38 rfl (lv_at hl 4 rfl) ?_
      refine nw_get (C := "LatticeKeysModel$Hands") (TT := T_MH) (N := 31) hx hb hts (wg_ft i_MH) hown hK hO k_h0 (kn := 225) (ci := 12) (fl := [(3, 172), (3, 181), (3, 226), (3, 291), (3, 299), (3, 308), (3, 317), (3, 326), (3, 334), (3, 342), (3, 350), (3, 359), (3, 368), (3, 369), (3, 370), (3, 371), (3, 372), (3, 373), (3, 374), (3, 375), (3, 376), (3, 377), (3, 378), (0, 0), (0, 0), (0, 0), (0, 0), (0, 0), (0, 0), (0, 0), (0, 0)]) rfl hP rfl 30 (by decide) (hts _ (wg_t kw_1462)) (fun _ h9 => h9) (cd := (0, 0)) rfl dMH_verify_39 (fun v59 hv59 => ?_)
      obtain rfl := (show v59 = .int (s22.1 225 30) from hv59)
      obtain ⟨z43, ez41, hz57, hz58⟩ := cl_of (b := 2147483648) hf328 (by omega) (by decide)
      replace hR := bnd_step hR ez41
      replace hE := bndP_step hE ez41
      refine mi_as hz57 ?_
      subst hz58
      refine mi_ge (tgt := 62) hx hb dMH_verify_42 (by decide) (by omega) (by omega) (fun h41 => absurd h41 (by omega)) (fun h41 => ?_)
      refine lv_aload_n hx hb dMH_verify_45 rfl (lv_at hl 4 rfl) ?_
      refine nw_get (C := "LatticeKeysModel$Hands") (TT := T_MH) (N := 31) hx hb hts (wg_ft i_MH) hown hK hO k_h0 (kn := 225) (ci := 12) (fl := [(3, 172), (3, 181), (3, 226), (3, 291), (3, 299), (3, 308), (3, 317), (3, 326), (3, 334), (3, 342), (3, 350), (3, 359), (3, 368), (3, 369), (3, 370), (3, 371), (3, 372), (3, 373), (3, 374), (3, 375), (3, 376), (3, 377), (3, 378), (0, 0), (0, 0), (0, 0), (0, 0), (0, 0), (0, 0), (0, 0), (0, 0)]) rfl hP rfl 20 (by decide) (hts _ (wg_t kw_1452)) (fun _ h9 => h9) (cd := (3, 376)) rfl dMH_verify_46 (fun v60 hv60 => ?_)
      obtain ⟨r60, rfl, kr52⟩ := (show ∃ r : Nat, v60 = .ref r ∧ T r = some 376 from hv60)
      refine lv_iload hx hb dMH_verify_49 (lv_at hl 0 rfl) ?_
      refine lv_aload_n hx hb dMH_verify_51 rfl (lv_at hl 6 rfl) ?_
      refine lv_iload hx hb dMH_verify_52 (lv_at hl 0 rfl) ?_
      refine nw_bald hx hb hK hO k_b (k := pb) n_b hP (by omega) (by omega) dMH_verify_54 ?_
      refine nw_bast hx hb hK hO hU kr52 (k := 376) rfl hP hD hS (by omega) (by omega) dMH_verify_55 (fun s44 pl H locs es24 hO hP hD hS => ?_)
      replace hR := bnd_step hR es24
      replace hE := bndP_step hE es24
      have hF := frm_sB hF es24 (by unfold M_MH_verify_0; omega)
      have hf329 : s44.1 225 23 = nI 0 := fc_B hf321 es24 (by omega)
      have hf330 : s44.1 225 24 = nI 4 := fc_B hf322 es24 (by omega)
      have hf331 : s44.1 225 25 = nI 4 := fc_B hf323 es24 (by omega)
      have hf332 : s44.1 225 26 = nI 2 := fc_B hf324 es24 (by omega)
      have hf333 : s44.1 225 27 = nI 131072 := fc_B hf325 es24 (by omega)
      have hf334 : s44.1 225 28 = nI 95232 := fc_B hf326 es24 (by omega)
      have hf335 : s44.1 225 29 = nI 78 := fc_B hf327 es24 (by omega)
      have hf336 : s44.1 225 30 = nI 32 := fc_B hf328 es24 (by omega)
      refine mi_iinc (k := 0) (x := i21) (d := 1) (y := i21 + 1) (lv' := [(9, .int (nI (i21 + 1))), (8, .int (nI 1)), (7, .int (nI 256)), (6, .int (nI 18)), (0, .ref h0), (2, .ref pk), (3, .ref b), (4, .int cl_), (5, .int (nI ed))]) hx hb dMH_verify_56 hl rfl (by decide) rfl (by decide) rfl (fun ls hl => ?_)
      refine lv_goto (tgt := 36) hx hb dMH_verify_59 (by decide) ?_
      exact ih21 (i21 + 1) s44 pl ls H locs (by omega) hF hf329 hf330 hf331 hf332 hf333 hf334 hf335 hf336 hE hR (lv_sub hl [0, 1, 2, 3, 4, 5, 6, 7, 8] rfl) hO hP hD hS
  exact lp21 32 0 s21 pl ls _ _ (by omega) hF hx_21 hx_22 hx_23 hx_24 hx_25 hx_26 hx_27 hx_28 hE hR (lv_sub hl [0, 1, 2, 3, 4, 6, 7, 8, 9] rfl) hO hP hD hS
def M_MH_verify_1 (k : Nat) : Prop := (227 ≤ k ∧ k < 291) ∨ (318 ≤ k ∧ k < 326) ∨ (335 ≤ k ∧ k < 342) ∨ (343 ≤ k ∧ k < 350) ∨ (351 ≤ k ∧ k < 359) ∨ (360 ≤ k ∧ k < 368) ∨ k = 172 ∨ k = 225 ∨ k = 368 ∨ k = 369 ∨ k = 370 ∨ k = 373 ∨ k = 375 ∨ k = 376 ∨ k = 377 ∨ k = 378 ∨ (0 : Nat) = 1
noncomputable def F_MH_verify_1_L7 (pb : Nat) (i22 : Nat) (kk : Nat → Int32 → Nat → Sto → Int32 × Sto) : Nat → Nat → Int32 → Nat → Sto → Int32 × Sto
  | 0, i28, z37, az22, s42 => kk (i22 + 1) z37 az22 s42
  | n28 + 1, i28, z37, az22, s42 => bnd ((s42.1 225 27).toNatClampNeg) fun z38 => bnd (F_M_unpack pb 16384 az22 20 s42) fun q26 => bnd (F_MH_minus (nI 524288) (q26.1) q26.2) fun q27 => bnd (sI q27.2 ((335 + i22)) i28 (q27.1)) fun s43 => bnd (F_MH_norm (s43.1 ((335 + i22)) i28) s43) fun q28 => bnd ((q28.2.1 225 27).toNatClampNeg) fun z39 => bnd ((q28.2.1 225 29).toNatClampNeg) fun z40 => if (nI 524092) ≤ (q28.1) then bnd ((z37 &&& (nI 0))) fun z41 => F_MH_verify_1_L7 pb i22 kk n28 (i28 + 1) z41 (az22 + 20) q28.2 else bnd ((z37 &&& (nI 1))) fun z42 => F_MH_verify_1_L7 pb i22 kk n28 (i28 + 1) z42 (az22 + 20) q28.2
noncomputable def E_MH_verify_1_L7 (pb : Nat) (i22 : Nat) (ke : Nat → Int32 → Nat → Sto → Prop) : Nat → Nat → Int32 → Nat → Sto → Prop
  | 0, i28, z37, az22, s42 => ke (i22 + 1) z37 az22 s42
  | n28 + 1, i28, z37, az22, s42 => bnd ((s42.1 225 27).toNatClampNeg) fun z38 => bnd (F_M_unpack pb 16384 az22 20 s42) fun q26 => bnd (F_MH_minus (nI 524288) (q26.1) q26.2) fun q27 => bnd (sI q27.2 ((335 + i22)) i28 (q27.1)) fun s43 => bnd (F_MH_norm (s43.1 ((335 + i22)) i28) s43) fun q28 => bnd ((q28.2.1 225 27).toNatClampNeg) fun z39 => bnd ((q28.2.1 225 29).toNatClampNeg) fun z40 => if (nI 524092) ≤ (q28.1) then bnd ((z37 &&& (nI 0))) fun z41 => E_MH_verify_1_L7 pb i22 ke n28 (i28 + 1) z41 (az22 + 20) q28.2 else bnd ((z37 &&& (nI 1))) fun z42 => E_MH_verify_1_L7 pb i22 ke n28 (i28 + 1) z42 (az22 + 20) q28.2
noncomputable def F_MH_verify_1_L6 (i24 : Nat) (kk : Nat → Sto → Int32 × Sto) : Nat → Nat → Sto → Int32 × Sto
  | 0, i27, s38 => kk (i24 + 1) s38
  | n27 + 1, i27, s38 => bnd (F_MH_minus (s38.1 ((351 + i24)) i27) (s38.1 369 i27) s38) fun q24 => bnd (sI q24.2 ((351 + i24)) i27 (q24.1)) fun s39 => F_MH_verify_1_L6 i24 kk n27 (i27 + 1) s39
noncomputable def E_MH_verify_1_L6 (i24 : Nat) (ke : Nat → Sto → Prop) : Nat → Nat → Sto → Prop
  | 0, i27, s38 => ke (i24 + 1) s38
  | n27 + 1, i27, s38 => bnd (F_MH_minus (s38.1 ((351 + i24)) i27) (s38.1 369 i27) s38) fun q24 => bnd (sI q24.2 ((351 + i24)) i27 (q24.1)) fun s39 => E_MH_verify_1_L6 i24 ke n27 (i27 + 1) s39
noncomputable def F_MH_verify_1_L5 (pp : Nat) (i24 : Nat) (kk : Nat → Sto → Int32 × Sto) : Nat → Nat → Sto → Int32 × Sto
  | 0, i26, s36 => bnd (F_MH_turned_1 (318 + i24) 369 s36) fun s37 => F_MH_verify_1_L6 i24 (kk) 256 0 s37
  | n26 + 1, i26, s36 => bnd (F_M_unpack pp 2592 ((256 + (2560 * i24)) + (10 * i26)) 10 s36) fun q25 => bnd (sI q25.2 ((318 + i24)) i26 ((q25.1) <<< ((nI 13) &&& 31))) fun s40 => F_MH_verify_1_L5 pp i24 kk n26 (i26 + 1) s40
noncomputable def E_MH_verify_1_L5 (pp : Nat) (i24 : Nat) (ke : Nat → Sto → Prop) : Nat → Nat → Sto → Prop
  | 0, i26, s36 => bnd (F_MH_turned_1 (318 + i24) 369 s36) fun s37 => E_MH_verify_1_L6 i24 (ke) 256 0 s37
  | n26 + 1, i26, s36 => bnd (F_M_unpack pp 2592 ((256 + (2560 * i24)) + (10 * i26)) 10 s36) fun q25 => bnd (sI q25.2 ((318 + i24)) i26 ((q25.1) <<< ((nI 13) &&& 31))) fun s40 => E_MH_verify_1_L5 pp i24 ke n26 (i26 + 1) s40
noncomputable def F_MH_verify_1_L4 : Nat → Nat → Sto → Int32 × Sto
  | 0, i25, s34 => bnd ((s34.1 225 30).toNatClampNeg) fun z32 => (nI 1, s34)
  | n25 + 1, i25, s34 => bnd ((s34.1 225 30).toNatClampNeg) fun z33 => if (s34.1 377 i25) = (s34.1 376 i25) then F_MH_verify_1_L4  n25 (i25 + 1) s34 else (nI 0, s34)
noncomputable def E_MH_verify_1_L4 : Nat → Nat → Sto → Prop
  | 0, i25, s34 => bnd ((s34.1 225 30).toNatClampNeg) fun z32 => True
  | n25 + 1, i25, s34 => bnd ((s34.1 225 30).toNatClampNeg) fun z33 => if (s34.1 377 i25) = (s34.1 376 i25) then E_MH_verify_1_L4  n25 (i25 + 1) s34 else True
noncomputable def F_MH_verify_1_L3 (pp : Nat) : Nat → Nat → Sto → Int32 × Sto
  | 0, i24, s32 => bnd ((s32.1 225 24).toNatClampNeg) fun z31 => bnd (F_MH_marked_1 (nI 1) 377 s32) fun s33 => F_MH_verify_1_L4 48 0 s33
  | n24 + 1, i24, s32 => bnd ((s32.1 225 24).toNatClampNeg) fun z34 => bnd (F_MH_rowBy_1 i24 (351 + i24) s32) fun s35 => F_MH_verify_1_L5 pp i24 (F_MH_verify_1_L3 pp n24) 256 0 s35
noncomputable def E_MH_verify_1_L3 (pp : Nat) : Nat → Nat → Sto → Prop
  | 0, i24, s32 => bnd ((s32.1 225 24).toNatClampNeg) fun z31 => bnd (F_MH_marked_1 (nI 1) 377 s32) fun s33 => E_MH_verify_1_L4 48 0 s33
  | n24 + 1, i24, s32 => bnd ((s32.1 225 24).toNatClampNeg) fun z34 => bnd (F_MH_rowBy_1 i24 (351 + i24) s32) fun s35 => E_MH_verify_1_L5 pp i24 (E_MH_verify_1_L3 pp n24) 256 0 s35
noncomputable def F_MH_verify_1_L2 (pp : Nat) : Nat → Nat → Sto → Int32 × Sto
  | 0, i23, s31 => bnd ((s31.1 225 25).toNatClampNeg) fun z30 => F_MH_verify_1_L3 pp 6 0 s31
  | n23 + 1, i23, s31 => bnd ((s31.1 225 25).toNatClampNeg) fun z35 => bnd (F_MR_forth_8_0 (335 + i23) (343 + i23) s31) fun s41 => F_MH_verify_1_L2 pp n23 (i23 + 1) s41
noncomputable def E_MH_verify_1_L2 (pp : Nat) : Nat → Nat → Sto → Prop
  | 0, i23, s31 => bnd ((s31.1 225 25).toNatClampNeg) fun z30 => E_MH_verify_1_L3 pp 6 0 s31
  | n23 + 1, i23, s31 => bnd ((s31.1 225 25).toNatClampNeg) fun z35 => bnd (F_MR_forth_8_0 (335 + i23) (343 + i23) s31) fun s41 => E_MH_verify_1_L2 pp n23 (i23 + 1) s41
noncomputable def F_MH_verify_1_L1 (pp : Nat) (pb : Nat) (cl_ : Int32) (ed : Nat) : Nat → Nat → Int32 → Nat → Sto → Int32 × Sto
  | 0, i22, z24, az21, s23 => bnd ((s23.1 225 25).toNatClampNeg) fun z25 => if z24 = 0 then (nI 0, s23) else bnd (F_MH_readHints_1 pb (az21 / 8) s23) fun q21 => if (q21.1) = 0 then (nI 0, q21.2) else bnd (F_MS_shake  q21.2) fun s24 => bnd ((s24.1 225 23).toNatClampNeg) fun z26 => bnd (F_MH_openSize_1  s24) fun q22 => bnd (q22.1.toNatClampNeg) fun z27 => bnd (F_MS_puts pp 2592 0 1952 q22.2) fun s25 => bnd (F_MS_end  s25) fun s26 => bnd (F_MS_take 378 64 0 64 s26) fun s27 => bnd ((s27.1 225 23).toNatClampNeg) fun z28 => bnd (F_MH_markSize_1  s27) fun q23 => bnd (q23.1.toNatClampNeg) fun z29 => bnd (F_MH_message_1 378 64 0 pb 16384 3309 cl_ ed q23.2) fun s28 => bnd (F_MH_expand_1 pp 2592 s28) fun s29 => bnd (F_MH_ball_1 376 s29) fun s30 => F_MH_verify_1_L2 pp 5 0 s30
  | n22 + 1, i22, z24, az21, s23 => bnd ((s23.1 225 25).toNatClampNeg) fun z36 => F_MH_verify_1_L7 pb i22 (F_MH_verify_1_L1 pp pb cl_ ed n22) 256 0 z24 az21 s23
noncomputable def E_MH_verify_1_L1 (pp : Nat) (pb : Nat) (cl_ : Int32) (ed : Nat) : Nat → Nat → Int32 → Nat → Sto → Prop
  | 0, i22, z24, az21, s23 => bnd ((s23.1 225 25).toNatClampNeg) fun z25 => if z24 = 0 then True else bnd (F_MH_readHints_1 pb (az21 / 8) s23) fun q21 => if (q21.1) = 0 then True else bnd (F_MS_shake  q21.2) fun s24 => bnd ((s24.1 225 23).toNatClampNeg) fun z26 => bnd (F_MH_openSize_1  s24) fun q22 => bnd (q22.1.toNatClampNeg) fun z27 => bnd (F_MS_puts pp 2592 0 1952 q22.2) fun s25 => bnd (F_MS_end  s25) fun s26 => bnd (F_MS_take 378 64 0 64 s26) fun s27 => bnd ((s27.1 225 23).toNatClampNeg) fun z28 => bnd (F_MH_markSize_1  s27) fun q23 => bnd (q23.1.toNatClampNeg) fun z29 => bnd (F_MH_message_1 378 64 0 pb 16384 3309 cl_ ed q23.2) fun s28 => (E_MH_expand_1 pp 2592 s28) ∧ (bnd (F_MH_expand_1 pp 2592 s28) fun s29 => (E_MH_ball_1 376 s29) ∧ (bnd (F_MH_ball_1 376 s29) fun s30 => E_MH_verify_1_L2 pp 5 0 s30))
  | n22 + 1, i22, z24, az21, s23 => bnd ((s23.1 225 25).toNatClampNeg) fun z36 => E_MH_verify_1_L7 pb i22 (E_MH_verify_1_L1 pp pb cl_ ed n22) 256 0 z24 az21 s23
noncomputable def F_MH_verify_1_L0 (pp : Nat) (pb : Nat) (cl_ : Int32) (ed : Nat) : Nat → Nat → Sto → Int32 × Sto
  | 0, i21, s22 => bnd ((s22.1 225 30).toNatClampNeg) fun z23 => F_MH_verify_1_L1 pp pb cl_ ed 5 0 (nI 1) 384 s22
  | n21 + 1, i21, s22 => bnd ((s22.1 225 30).toNatClampNeg) fun z43 => bnd (sB s22 376 i21 (s22.1 pb i21)) fun s44 => F_MH_verify_1_L0 pp pb cl_ ed n21 (i21 + 1) s44
noncomputable def E_MH_verify_1_L0 (pp : Nat) (pb : Nat) (cl_ : Int32) (ed : Nat) : Nat → Nat → Sto → Prop
  | 0, i21, s22 => bnd ((s22.1 225 30).toNatClampNeg) fun z23 => E_MH_verify_1_L1 pp pb cl_ ed 5 0 (nI 1) 384 s22
  | n21 + 1, i21, s22 => bnd ((s22.1 225 30).toNatClampNeg) fun z43 => bnd (sB s22 376 i21 (s22.1 pb i21)) fun s44 => E_MH_verify_1_L0 pp pb cl_ ed n21 (i21 + 1) s44
noncomputable def F_MH_verify_1 (pp : Nat) (pb : Nat) (cl_ : Int32) (ed : Nat) (s : Sto) : Int32 × Sto := bnd (F_MH_as_1  s) fun s21 => bnd ((s21.1 225 23).toNatClampNeg) fun z21 => bnd ((s21.1 225 30).toNatClampNeg) fun z22 => F_MH_verify_1_L0 pp pb cl_ ed 48 0 s21
noncomputable def E_MH_verify_1 (pp : Nat) (pb : Nat) (cl_ : Int32) (ed : Nat) (s : Sto) : Prop := bnd (F_MH_as_1  s) fun s21 => bnd ((s21.1 225 23).toNatClampNeg) fun z21 => bnd ((s21.1 225 30).toNatClampNeg) fun z22 => E_MH_verify_1_L0 pp pb cl_ ed 48 0 s21
set_option maxHeartbeats 8000000 in
set_option maxRecDepth 100000 in
theorem N_MH_verify_1 (l : Launch) (g : Gd) (sz : Nat) (T : TyN) (s : Sto) (pl : va_W) (hO : okn g T s pl) (hU : inj T) (h0 pk b : Nat) (pp : Nat) (pb : Nat) (cl_ : Int32) (ed : Nat) (k_h0 : T h0 = some 225) (k_pk : T pk = some pp) (n_pk : nsp pp = (1, 2592, [])) (k_b : T b = some pb) (n_b : nsp pb = (1, 16384, [])) (h1 : 3309 ≤ ed) (h3 : ed ≤ 16384) (hE : E_MH_verify_1 pp pb cl_ ed s)  : Met l y_MH_verify w_MH_verify ({ frames := 5, cells := 0, slots := 0, locals := 116 } : Room) (va_Pc [.ref h0, .int (nI 1), .ref pk, .ref b, .int cl_, .int (nI ed)] (pr (en g) g.1 vcl sz ([] ++ pl))) (va_Qi (fun (r : Int32) (u : (Int32 × Sto) × va_W) => (u.1 = F_MH_verify_1 pp pb cl_ ed s ∧ r = u.1.1 ∧ frm (M_MH_verify_1) s u.1.2 ∧ True) ∧ okn g T u.1.2 u.2) (po g.1 vcl (va_A ([] ++ pl) sz) (fun (u : (Int32 × Sto) × va_W) => [] ++ u.2)) (va_A ([] ++ pl) sz)) 0 0 (va_A ([] ++ pl) sz) := by
  refine mc_entry (cc := c_MH_verify) (maxL := 11) (ret := (some .boolean)) (by decide) rfl (Nat.le_of_ble_eq_true rfl) ?_
  intro p e s0 m args below meth c ls F hr hlk hnm hsz hP hD hEn hA hl
  obtain ⟨hx, hb, hml, hown, hts⟩ := id F
  have hK := hEn.1
  generalize va_A ([] ++ pl) sz = A at hD hEn hA ⊢
  have hS : va_S A s0.heap s0.heap [] := va_S.rf
  have hl : lv_has ls 11 [(0, .ref h0), (1, .int (nI 1)), (2, .ref pk), (3, .ref b), (4, .int cl_), (5, .int (nI ed))] := hl
  have hR : F_MH_verify_1 pp pb cl_ ed s = F_MH_verify_1 pp pb cl_ ed s := rfl
  have hF : frm (M_MH_verify_1) s s := frm_rf
  have ne_172_pp : 172 ≠ pp := nsp_ne (p := 172) rfl n_pk (show (5 : Nat) ≠ 1 by decide)
  have ne_172_pb : 172 ≠ pb := nsp_ne (p := 172) rfl n_b (show (5 : Nat) ≠ 1 by decide)
  have ne_225_pp : 225 ≠ pp := nsp_ne (p := 225) rfl n_pk (show (5 : Nat) ≠ 1 by decide)
  have ne_225_pb : 225 ≠ pb := nsp_ne (p := 225) rfl n_b (show (5 : Nat) ≠ 1 by decide)
  refine lv_aload_n hx hb dMH_verify_0 rfl (lv_at hl 0 rfl) ?_
  refine lv_iload_n hx hb dMH_verify_1 rfl (lv_at hl 1 rfl) ?_
  refine mp_v (cx := []) (wr := []) hP hD hS hA [] [] rfl rfl rfl (by decide) (va_runV (As := [.int (nI 1)]) (rest := []) F (N_MH_as_1 l g _ T s pl hO hU h0 k_h0) (cwV 1 hts (wg_app (wg_c kw_1698 (wg_c kw_1700 (wg_c ks_60 (wg_c kw_13 wg_n)))) kw_1701) rfl rfl rfl (by decide +kernel) ⟨by decide, by decide⟩) (pn_V (en_ok g) (ci := 12) (kn := 225) (fl := [(3, 172), (3, 181), (3, 226), (3, 291), (3, 299), (3, 308), (3, 317), (3, 326), (3, 334), (3, 342), (3, 350), (3, 359), (3, 368), (3, 369), (3, 370), (3, 371), (3, 372), (3, 373), (3, 374), (3, 375), (3, 376), (3, 377), (3, 378), (0, 0), (0, 0), (0, 0), (0, 0), (0, 0), (0, 0), (0, 0), (0, 0)]) hK hO k_h0 rfl hP hD hS hA hEn [] rfl rfl rfl) rfl rfl hl.1 rfl (lv_room (Nat.le_of_ble_eq_true rfl)) dMH_verify_2 ⟨by omega, by omega⟩) (fun  u21 H locs hu21 hP hD hS => ?_)
  obtain ⟨s21, pl⟩ := u21
  obtain ⟨⟨eq21, hFc21, ⟨x21, hx_21, hb_21⟩, ⟨x22, hx_22, hb_22⟩, ⟨x23, hx_23, hb_23⟩, ⟨x24, hx_24, hb_24⟩, ⟨x25, hx_25, hb_25⟩, ⟨x26, hx_26, hb_26⟩, ⟨x27, hx_27, hb_27⟩, ⟨x28, hx_28, hb_28⟩, -⟩, hO⟩ := hu21
  have hO : okn g T s21 pl := hO
  have hP : va_P g.1 vcl ([] ++ pl) _ := hP
  have hD : va_D _ ([] ++ pl) := hD
  have hFc21 : frm (M_MH_as_1) s s21 := hFc21
  have hb_21 : x21 = 1 := hb_21
  have hb_22 : x22 = 6 := hb_22
  have hb_23 : x23 = 5 := hb_23
  have hb_24 : x24 = 4 := hb_24
  have hb_25 : x25 = 524288 := hb_25
  have hb_26 : x26 = 261888 := hb_26
  have hb_27 : x27 = 196 := hb_27
  have hb_28 : x28 = 48 := hb_28
  replace hR := bnd_step hR eq21
  replace hE := bndP_step hE eq21
  have hF := frm_tr hF hFc21 (fun k hk => by unfold M_MH_as_1 at hk; unfold M_MH_verify_1; omega)
  subst hb_21
  subst hb_22
  subst hb_23
  subst hb_24
  subst hb_25
  subst hb_26
  subst hb_27
  subst hb_28
  refine W.widen (k := 0) (n := 0) (by omega) (by omega) ?_
  refine lv_aload_n hx hb dMH_verify_5 rfl (lv_at hl 0 rfl) ?_
  refine nw_get (C := "LatticeKeysModel$Hands") (TT := T_MH) (N := 31) hx hb hts (wg_ft i_MH) hown hK hO k_h0 (kn := 225) (ci := 12) (fl := [(3, 172), (3, 181), (3, 226), (3, 291), (3, 299), (3, 308), (3, 317), (3, 326), (3, 334), (3, 342), (3, 350), (3, 359), (3, 368), (3, 369), (3, 370), (3, 371), (3, 372), (3, 373), (3, 374), (3, 375), (3, 376), (3, 377), (3, 378), (0, 0), (0, 0), (0, 0), (0, 0), (0, 0), (0, 0), (0, 0), (0, 0)]) rfl hP rfl 23 (by decide) (hts _ (wg_t kw_1455)) (fun _ h9 => h9) (cd := (0, 0)) rfl dMH_verify_6 (fun v21 hv21 => ?_)
  obtain rfl := (show v21 = .int (s21.1 225 23) from hv21)
  obtain ⟨z21, ez21, hz21, hz22⟩ := cl_of (b := 2147483648) hx_21 (by omega) (by decide)
  replace hR := bnd_step hR ez21
  replace hE := bndP_step hE ez21
  refine mi_as hz21 ?_
  subst hz22
  refine lv_if_ne (tgt := 17) hx hb dMH_verify_9 (by decide) (fun h21 => ?_) (fun h21 => absurd h21 (by decide))
  refine lv_bipush (v := nI 20) hx hb dMH_verify_17 (by decide) ?_
  refine lv_istore (lv' := [(6, .int (nI 20)), (0, .ref h0), (1, .int (nI 1)), (2, .ref pk), (3, .ref b), (4, .int cl_), (5, .int (nI ed))]) hx hb dMH_verify_19 hl (by decide) rfl (fun ls hl => ?_)
  refine lv_bipush (v := nI 8) hx hb dMH_verify_21 (by decide) ?_
  refine lv_aload_n hx hb dMH_verify_23 rfl (lv_at hl 1 rfl) ?_
  refine nw_get (C := "LatticeKeysModel$Hands") (TT := T_MH) (N := 31) hx hb hts (wg_ft i_MH) hown hK hO k_h0 (kn := 225) (ci := 12) (fl := [(3, 172), (3, 181), (3, 226), (3, 291), (3, 299), (3, 308), (3, 317), (3, 326), (3, 334), (3, 342), (3, 350), (3, 359), (3, 368), (3, 369), (3, 370), (3, 371), (3, 372), (3, 373), (3, 374), (3, 375), (3, 376), (3, 377), (3, 378), (0, 0), (0, 0), (0, 0), (0, 0), (0, 0), (0, 0), (0, 0), (0, 0)]) rfl hP rfl 30 (by decide) (hts _ (wg_t kw_1462)) (fun _ h9 => h9) (cd := (0, 0)) rfl dMH_verify_24 (fun v22 hv22 => ?_)
  obtain rfl := (show v22 = .int (s21.1 225 30) from hv22)
  obtain ⟨z22, ez22, hz23, hz24⟩ := cl_of (b := 2147483648) hx_28 (by omega) (by decide)
  replace hR := bnd_step hR ez22
  replace hE := bndP_step hE ez22
  refine mi_as hz23 ?_
  subst hz24
  refine mi_imul hx hb dMH_verify_27 ?_
  refine mi_as (show nI (8 * 48) = nI 384 from rfl) ?_
  refine lv_istore (lv' := [(7, .int (nI 384)), (6, .int (nI 20)), (0, .ref h0), (1, .int (nI 1)), (2, .ref pk), (3, .ref b), (4, .int cl_), (5, .int (nI ed))]) hx hb dMH_verify_28 hl (by decide) rfl (fun ls hl => ?_)
  refine lv_iconst (v := nI 1) hx hb dMH_verify_30 (by decide) ?_
  refine lv_istore (lv' := [(8, .int (nI 1)), (7, .int (nI 384)), (6, .int (nI 20)), (0, .ref h0), (1, .int (nI 1)), (2, .ref pk), (3, .ref b), (4, .int cl_), (5, .int (nI ed))]) hx hb dMH_verify_31 hl (by decide) rfl (fun ls hl => ?_)
  refine lv_iconst (v := nI 0) hx hb dMH_verify_33 (by decide) ?_
  refine lv_istore (lv' := [(9, .int (nI 0)), (8, .int (nI 1)), (7, .int (nI 384)), (6, .int (nI 20)), (0, .ref h0), (1, .int (nI 1)), (2, .ref pk), (3, .ref b), (4, .int cl_), (5, .int (nI ed))]) hx hb dMH_verify_34 hl (by decide) rfl (fun ls hl => ?_)
  have lp21 : ∀ (n21 : Nat) (i21 : Nat) (s22 : Sto) (pl : va_W) (ls : Array Slot) (H : Heap) (locs : List Loc), n21 + i21 = 48 → frm (M_MH_verify_1) s s22 → s22.1 225 23 = nI 1 → s22.1 225 24 = nI 6 → s22.1 225 25 = nI 5 → s22.1 225 26 = nI 4 → s22.1 225 27 = nI 524288 → s22.1 225 28 = nI 261888 → s22.1 225 29 = nI 196 → s22.1 225 30 = nI 48 → E_MH_verify_1_L0 pp pb cl_ ed n21 i21 s22 → F_MH_verify_1 pp pb cl_ ed s = F_MH_verify_1_L0 pp pb cl_ ed n21 i21 s22 → lv_has ls 11 [(9, .int (nI i21)), (8, .int (nI 1)), (7, .int (nI 384)), (6, .int (nI 20)), (0, .ref h0), (2, .ref pk), (3, .ref b), (4, .int cl_), (5, .int (nI ed))] → okn g T s22 pl → va_P g.1 vcl ([] ++ pl) H → va_D A ([] ++ pl) → va_S A s0.heap H locs → W p l e ({ frames := 5, cells := 0, slots := 0, locals := 116 } : Room) s0 m args below meth c H locs 0 0 (MQ below (va_Qi (fun (r : Int32) (u : (Int32 × Sto) × va_W) => (u.1 = F_MH_verify_1 pp pb cl_ ed s ∧ r = u.1.1 ∧ frm (M_MH_verify_1) s u.1.2 ∧ True) ∧ okn g T u.1.2 u.2) (po g.1 vcl A (fun (u : (Int32 × Sto) × va_W) => [] ++ u.2)) A) args s0 0 0 A) (F0 m 36 ls []) := by
    intro n21
    induction n21 with
    | zero =>
      intro i21 s22 pl ls H locs hm21 hF hf21 hf22 hf23 hf24 hf25 hf26 hf27 hf28 hE hR hl hO hP hD hS
      refine lv_iload hx hb dMH_verify_36 (lv_at hl 0 rfl) ?_
      refine lv_aload_n hx hb dMH_verify_38 rfl (lv_at hl 4 rfl) ?_
      refine nw_get (C := "LatticeKeysModel$Hands") (TT := T_MH) (N := 31) hx hb hts (wg_ft i_MH) hown hK hO k_h0 (kn := 225) (ci := 12) (fl := [(3, 172), (3, 181), (3, 226), (3, 291), (3, 299), (3, 308), (3, 317), (3, 326), (3, 334), (3, 342), (3, 350), (3, 359), (3, 368), (3, 369), (3, 370), (3, 371), (3, 372), (3, 373), (3, 374), (3, 375), (3, 376), (3, 377), (3, 378), (0, 0), (0, 0), (0, 0), (0, 0), (0, 0), (0, 0), (0, 0), (0, 0)]) rfl hP rfl 30 (by decide) (hts _ (wg_t kw_1462)) (fun _ h9 => h9) (cd := (0, 0)) rfl dMH_verify_39 (fun v23 hv23 => ?_)
      obtain rfl := (show v23 = .int (s22.1 225 30) from hv23)
      obtain ⟨z23, ez23, hz25, hz26⟩ := cl_of (b := 2147483648) hf28 (by omega) (by decide)
      replace hR := bnd_step hR ez23
      replace hE := bndP_step hE ez23
      refine mi_as hz25 ?_
      subst hz26
      refine mi_ge (tgt := 62) hx hb dMH_verify_42 (by decide) (by omega) (by omega) (fun h22 => ?_) (fun h22 => absurd h22 (by omega))
      refine lv_iconst (v := nI 0) hx hb dMH_verify_62 (by decide) ?_
      refine lv_istore (lv' := [(9, .int (nI 0)), (8, .int (nI 1)), (7, .int (nI 384)), (6, .int (nI 20)), (0, .ref h0), (2, .ref pk), (3, .ref b), (4, .int cl_), (5, .int (nI ed))]) hx hb dMH_verify_63 hl (by decide) rfl (fun ls hl => ?_)
      have lp22 : ∀ (n22 : Nat) (i22 : Nat) (z24 : Int32) (az21 : Nat) (s23 : Sto) (pl : va_W) (ls : Array Slot) (H : Heap) (locs : List Loc), n22 + i22 = 5 → (az21 = 384 + 5120 * i22) → frm (M_MH_verify_1) s s23 → s23.1 225 23 = nI 1 → s23.1 225 24 = nI 6 → s23.1 225 25 = nI 5 → s23.1 225 26 = nI 4 → s23.1 225 27 = nI 524288 → s23.1 225 28 = nI 261888 → s23.1 225 29 = nI 196 → s23.1 225 30 = nI 48 → E_MH_verify_1_L1 pp pb cl_ ed n22 i22 z24 az21 s23 → F_MH_verify_1 pp pb cl_ ed s = F_MH_verify_1_L1 pp pb cl_ ed n22 i22 z24 az21 s23 → lv_has ls 11 [(9, .int (nI i22)), (8, .int z24), (7, .int (nI az21)), (6, .int (nI 20)), (0, .ref h0), (2, .ref pk), (3, .ref b), (4, .int cl_), (5, .int (nI ed))] → okn g T s23 pl → va_P g.1 vcl ([] ++ pl) H → va_D A ([] ++ pl) → va_S A s0.heap H locs → W p l e ({ frames := 5, cells := 0, slots := 0, locals := 116 } : Room) s0 m args below meth c H locs 0 0 (MQ below (va_Qi (fun (r : Int32) (u : (Int32 × Sto) × va_W) => (u.1 = F_MH_verify_1 pp pb cl_ ed s ∧ r = u.1.1 ∧ frm (M_MH_verify_1) s u.1.2 ∧ True) ∧ okn g T u.1.2 u.2) (po g.1 vcl A (fun (u : (Int32 × Sto) × va_W) => [] ++ u.2)) A) args s0 0 0 A) (F0 m 65 ls []) := by
        intro n22
        induction n22 with
        | zero =>
          intro i22 z24 az21 s23 pl ls H locs hm22 hi21 hF hf29 hf30 hf31 hf32 hf33 hf34 hf35 hf36 hE hR hl hO hP hD hS
          refine lv_iload hx hb dMH_verify_65 (lv_at hl 0 rfl) ?_
          refine lv_aload_n hx hb dMH_verify_67 rfl (lv_at hl 4 rfl) ?_
          refine nw_get (C := "LatticeKeysModel$Hands") (TT := T_MH) (N := 31) hx hb hts (wg_ft i_MH) hown hK hO k_h0 (kn := 225) (ci := 12) (fl := [(3, 172), (3, 181), (3, 226), (3, 291), (3, 299), (3, 308), (3, 317), (3, 326), (3, 334), (3, 342), (3, 350), (3, 359), (3, 368), (3, 369), (3, 370), (3, 371), (3, 372), (3, 373), (3, 374), (3, 375), (3, 376), (3, 377), (3, 378), (0, 0), (0, 0), (0, 0), (0, 0), (0, 0), (0, 0), (0, 0), (0, 0)]) rfl hP rfl 25 (by decide) (hts _ (wg_t kw_1457)) (fun _ h9 => h9) (cd := (0, 0)) rfl dMH_verify_68 (fun v24 hv24 => ?_)
          obtain rfl := (show v24 = .int (s23.1 225 25) from hv24)
          obtain ⟨z25, ez24, hz27, hz28⟩ := cl_of (b := 2147483648) hf31 (by omega) (by decide)
          replace hR := bnd_step hR ez24
          replace hE := bndP_step hE ez24
          refine mi_as hz27 ?_
          subst hz28
          refine mi_ge (tgt := 164) hx hb dMH_verify_71 (by decide) (by omega) (by omega) (fun h23 => ?_) (fun h23 => absurd h23 (by omega))
          refine lv_iload hx hb dMH_verify_164 (lv_at hl 1 rfl) ?_
          refine lv_if_eq (tgt := 182) hx hb dMH_verify_166 (by decide) (fun h24 => ?_) (fun h24 => ?_)
          · replace hR := hR.trans (if_pos h24)
            replace hE := iteP_pos h24 hE
            refine lv_iconst (v := nI 0) hx hb dMH_verify_182 (by decide) ?_
            exact mp_zret hx hb hr hlk rfl hP hD hS ((nI 0, s23), pl) ⟨⟨hR.symm, rfl, hF, trivial⟩, hO⟩ [] rfl rfl rfl (by omega) (by omega) dMH_verify_183
          · replace hR := hR.trans (if_neg h24)
            replace hE := iteP_neg h24 hE
            refine lv_aload_n hx hb dMH_verify_169 rfl (lv_at hl 4 rfl) ?_
            refine lv_aload_n hx hb dMH_verify_170 rfl (lv_at hl 6 rfl) ?_
            refine lv_iload hx hb dMH_verify_171 (lv_at hl 2 rfl) ?_
            refine lv_bipush (v := nI 8) hx hb dMH_verify_173 (by decide) ?_
            refine mi_idiv hx hb dMH_verify_175 (by omega) (by omega) (by omega) ?_
            refine mp_i (cx := []) (wr := []) hP hD hS hA [] [] rfl rfl rfl (by decide) (va_runV (As := [.ref b, .int (nI (az21 / 8))]) (rest := []) F (N_MH_readHints_1 l g _ T s23 pl hO hU h0 b pb (az21 / 8) k_h0 k_b n_b hf29 hf30 hf31 hf32 hf33 hf34 hf35 hf36 (by omega)) (cwV 2 hts (wg_app (wg_c kw_1925 (wg_c kw_1927 (wg_c ks_81 (wg_c kw_13 wg_n)))) kw_1928) rfl rfl rfl (by decide +kernel) ⟨by decide, by decide⟩) (pn_V (en_ok g) (ci := 12) (kn := 225) (fl := [(3, 172), (3, 181), (3, 226), (3, 291), (3, 299), (3, 308), (3, 317), (3, 326), (3, 334), (3, 342), (3, 350), (3, 359), (3, 368), (3, 369), (3, 370), (3, 371), (3, 372), (3, 373), (3, 374), (3, 375), (3, 376), (3, 377), (3, 378), (0, 0), (0, 0), (0, 0), (0, 0), (0, 0), (0, 0), (0, 0), (0, 0)]) hK hO k_h0 rfl hP hD hS hA hEn [] rfl rfl rfl) rfl rfl hl.1 rfl (lv_room (Nat.le_of_ble_eq_true rfl)) dMH_verify_176 ⟨by omega, by omega⟩) (fun r21 u22 H locs hu22 hP hD hS => ?_)
            obtain ⟨q21, pl⟩ := u22
            obtain ⟨⟨eq22, rfl, hFc22, -⟩, hO⟩ := hu22
            have hO : okn g T q21.2 pl := hO
            have hP : va_P g.1 vcl ([] ++ pl) _ := hP
            have hD : va_D _ ([] ++ pl) := hD
            have hFc22 : frm (M_MH_readHints_1) s23 q21.2 := hFc22
            replace hR := bnd_step hR eq22
            replace hE := bndP_step hE eq22
            have hF := frm_tr hF hFc22 (fun k hk => by unfold M_MH_readHints_1 at hk; unfold M_MH_verify_1; omega)
            have hf37 : q21.2.1 225 23 = nI 1 := fc_F hf29 hFc22 (by unfold M_MH_readHints_1; omega)
            have hf38 : q21.2.1 225 24 = nI 6 := fc_F hf30 hFc22 (by unfold M_MH_readHints_1; omega)
            have hf39 : q21.2.1 225 25 = nI 5 := fc_F hf31 hFc22 (by unfold M_MH_readHints_1; omega)
            have hf40 : q21.2.1 225 26 = nI 4 := fc_F hf32 hFc22 (by unfold M_MH_readHints_1; omega)
            have hf41 : q21.2.1 225 27 = nI 524288 := fc_F hf33 hFc22 (by unfold M_MH_readHints_1; omega)
            have hf42 : q21.2.1 225 28 = nI 261888 := fc_F hf34 hFc22 (by unfold M_MH_readHints_1; omega)
            have hf43 : q21.2.1 225 29 = nI 196 := fc_F hf35 hFc22 (by unfold M_MH_readHints_1; omega)
            have hf44 : q21.2.1 225 30 = nI 48 := fc_F hf36 hFc22 (by unfold M_MH_readHints_1; omega)
            refine W.widen (k := 0) (n := 0) (by omega) (by omega) ?_
            refine lv_if_ne (tgt := 184) hx hb dMH_verify_179 (by decide) (fun h25 => ?_) (fun h25 => ?_)
            · replace hR := hR.trans (if_neg h25)
              replace hE := iteP_neg h25 hE
              refine lv_aload_n hx hb dMH_verify_184 rfl (lv_at hl 4 rfl) ?_
              refine nw_get (C := "LatticeKeysModel$Hands") (TT := T_MH) (N := 31) hx hb hts (wg_ft i_MH) hown hK hO k_h0 (kn := 225) (ci := 12) (fl := [(3, 172), (3, 181), (3, 226), (3, 291), (3, 299), (3, 308), (3, 317), (3, 326), (3, 334), (3, 342), (3, 350), (3, 359), (3, 368), (3, 369), (3, 370), (3, 371), (3, 372), (3, 373), (3, 374), (3, 375), (3, 376), (3, 377), (3, 378), (0, 0), (0, 0), (0, 0), (0, 0), (0, 0), (0, 0), (0, 0), (0, 0)]) rfl hP rfl 0 (by decide) (hts _ (wg_t kw_1432)) (fun _ h9 => h9) (cd := (3, 172)) rfl dMH_verify_185 (fun v25 hv25 => ?_)
              obtain ⟨r22, rfl, kr21⟩ := (show ∃ r : Nat, v25 = .ref r ∧ T r = some 172 from hv25)
              refine mp_v (cx := []) (wr := []) hP hD hS hA [] [] rfl rfl rfl (by decide) (va_runV (As := []) (rest := []) F (N_MS_shake l g _ T q21.2 pl hO hU r22 kr21) (cwV 0 hts (wg_app (wg_c kw_1714 (wg_c kw_1657 (wg_c kw_1658 (wg_c kw_10 wg_n)))) kw_1659) rfl rfl rfl (by decide +kernel) ⟨by decide, by decide⟩) (pn_V (en_ok g) (ci := 9) (kn := 172) (fl := [(3, 173), (3, 174), (3, 175), (3, 176), (3, 177), (0, 0), (0, 0), (0, 0)]) hK hO kr21 rfl hP hD hS hA hEn [] rfl rfl rfl) rfl rfl hl.1 rfl (lv_room (Nat.le_of_ble_eq_true rfl)) dMH_verify_188 ⟨by omega, by omega⟩) (fun  u23 H locs hu23 hP hD hS => ?_)
              obtain ⟨s24, pl⟩ := u23
              obtain ⟨⟨eq23, hFc23, ⟨x31, hx_31, hb_31⟩, ⟨x32, hx_32, hb_32⟩, -⟩, hO⟩ := hu23
              have hO : okn g T s24 pl := hO
              have hP : va_P g.1 vcl ([] ++ pl) _ := hP
              have hD : va_D _ ([] ++ pl) := hD
              have hFc23 : frm (M_MS_shake) q21.2 s24 := hFc23
              have hb_31 : x31 = 0 := hb_31
              have hb_32 : x32 = 136 := hb_32
              replace hR := bnd_step hR eq23
              replace hE := bndP_step hE eq23
              have hF := frm_tr hF hFc23 (fun k hk => by unfold M_MS_shake at hk; unfold M_MH_verify_1; omega)
              have hf45 : s24.1 225 23 = nI 1 := fc_F hf37 hFc23 (by unfold M_MS_shake; omega)
              have hf46 : s24.1 225 24 = nI 6 := fc_F hf38 hFc23 (by unfold M_MS_shake; omega)
              have hf47 : s24.1 225 25 = nI 5 := fc_F hf39 hFc23 (by unfold M_MS_shake; omega)
              have hf48 : s24.1 225 26 = nI 4 := fc_F hf40 hFc23 (by unfold M_MS_shake; omega)
              have hf49 : s24.1 225 27 = nI 524288 := fc_F hf41 hFc23 (by unfold M_MS_shake; omega)
              have hf50 : s24.1 225 28 = nI 261888 := fc_F hf42 hFc23 (by unfold M_MS_shake; omega)
              have hf51 : s24.1 225 29 = nI 196 := fc_F hf43 hFc23 (by unfold M_MS_shake; omega)
              have hf52 : s24.1 225 30 = nI 48 := fc_F hf44 hFc23 (by unfold M_MS_shake; omega)
              refine W.widen (k := 0) (n := 0) (by omega) (by omega) ?_
              refine lv_aload_n hx hb dMH_verify_191 rfl (lv_at hl 4 rfl) ?_
              refine nw_get (C := "LatticeKeysModel$Hands") (TT := T_MH) (N := 31) hx hb hts (wg_ft i_MH) hown hK hO k_h0 (kn := 225) (ci := 12) (fl := [(3, 172), (3, 181), (3, 226), (3, 291), (3, 299), (3, 308), (3, 317), (3, 326), (3, 334), (3, 342), (3, 350), (3, 359), (3, 368), (3, 369), (3, 370), (3, 371), (3, 372), (3, 373), (3, 374), (3, 375), (3, 376), (3, 377), (3, 378), (0, 0), (0, 0), (0, 0), (0, 0), (0, 0), (0, 0), (0, 0), (0, 0)]) rfl hP rfl 0 (by decide) (hts _ (wg_t kw_1432)) (fun _ h9 => h9) (cd := (3, 172)) rfl dMH_verify_192 (fun v26 hv26 => ?_)
              obtain ⟨r23, rfl, kr22⟩ := (show ∃ r : Nat, v26 = .ref r ∧ T r = some 172 from hv26)
              refine lv_aload_n hx hb dMH_verify_195 rfl (lv_at hl 5 rfl) ?_
              refine lv_iconst (v := nI 0) hx hb dMH_verify_196 (by decide) ?_
              refine lv_aload_n hx hb dMH_verify_197 rfl (lv_at hl 4 rfl) ?_
              refine nw_get (C := "LatticeKeysModel$Hands") (TT := T_MH) (N := 31) hx hb hts (wg_ft i_MH) hown hK hO k_h0 (kn := 225) (ci := 12) (fl := [(3, 172), (3, 181), (3, 226), (3, 291), (3, 299), (3, 308), (3, 317), (3, 326), (3, 334), (3, 342), (3, 350), (3, 359), (3, 368), (3, 369), (3, 370), (3, 371), (3, 372), (3, 373), (3, 374), (3, 375), (3, 376), (3, 377), (3, 378), (0, 0), (0, 0), (0, 0), (0, 0), (0, 0), (0, 0), (0, 0), (0, 0)]) rfl hP rfl 23 (by decide) (hts _ (wg_t kw_1455)) (fun _ h9 => h9) (cd := (0, 0)) rfl dMH_verify_198 (fun v27 hv27 => ?_)
              obtain rfl := (show v27 = .int (s24.1 225 23) from hv27)
              obtain ⟨z26, ez25, hz29, hz30⟩ := cl_of (b := 2147483648) hf45 (by omega) (by decide)
              replace hR := bnd_step hR ez25
              replace hE := bndP_step hE ez25
              refine mi_as hz29 ?_
              subst hz30
              refine mp_i (cx := []) (wr := []) hP hD hS hA [] [] rfl rfl rfl (by decide) (va_runS (As := [.int (nI 1)]) (rest := [.int (nI 0), .ref pk, .ref r23]) F (N_MH_openSize_1 l g _ T s24 pl hO hU ) (va_cwS 1 hts (wg_app (wg_c kw_1740 (wg_c kw_1741 (wg_c kw_13 wg_n))) kw_1742) rfl rfl rfl (by decide +kernel) ⟨by decide, by decide⟩) (pp_S (en_ok g) hP hD hS hA hEn [] rfl rfl) rfl rfl hl.1 rfl (lv_room (Nat.le_of_ble_eq_true rfl)) dMH_verify_201 ⟨by omega, by omega⟩) (fun r24 u24 H locs hu24 hP hD hS => ?_)
              obtain ⟨q22, pl⟩ := u24
              obtain ⟨⟨eq24, rfl, hFc24, ⟨x34, hx_34, hb_34⟩, hxp24, -⟩, hO⟩ := hu24
              have hO : okn g T q22.2 pl := hO
              have hP : va_P g.1 vcl ([] ++ pl) _ := hP
              have hD : va_D _ ([] ++ pl) := hD
              have hFc24 : frm (M_MH_openSize_1) s24 q22.2 := hFc24
              have hb_34 : x34 < 1953 := hb_34
              replace hR := bnd_step hR eq24
              replace hE := bndP_step hE eq24
              have hF := frm_tr hF hFc24 (fun k hk => by unfold M_MH_openSize_1 at hk; unfold M_MH_verify_1; omega)
              have hf53 : q22.2.1 225 23 = nI 1 := fc_F hf45 hFc24 (by unfold M_MH_openSize_1; omega)
              have hf54 : q22.2.1 225 24 = nI 6 := fc_F hf46 hFc24 (by unfold M_MH_openSize_1; omega)
              have hf55 : q22.2.1 225 25 = nI 5 := fc_F hf47 hFc24 (by unfold M_MH_openSize_1; omega)
              have hf56 : q22.2.1 225 26 = nI 4 := fc_F hf48 hFc24 (by unfold M_MH_openSize_1; omega)
              have hf57 : q22.2.1 225 27 = nI 524288 := fc_F hf49 hFc24 (by unfold M_MH_openSize_1; omega)
              have hf58 : q22.2.1 225 28 = nI 261888 := fc_F hf50 hFc24 (by unfold M_MH_openSize_1; omega)
              have hf59 : q22.2.1 225 29 = nI 196 := fc_F hf51 hFc24 (by unfold M_MH_openSize_1; omega)
              have hf60 : q22.2.1 225 30 = nI 48 := fc_F hf52 hFc24 (by unfold M_MH_openSize_1; omega)
              have hf61 : q22.2.1 172 6 = nI x31 := fc_F hx_31 hFc24 (by unfold M_MH_openSize_1; omega)
              have hf62 : q22.2.1 172 5 = nI x32 := fc_F hx_32 hFc24 (by unfold M_MH_openSize_1; omega)
              obtain ⟨z27, ez26, hz31, hz32⟩ := cl_of (b := 2147483648) hx_34 (by omega) (by decide)
              replace hR := bnd_step hR ez26
              replace hE := bndP_step hE ez26
              refine mi_as hz31 ?_
              have hsz21 : z27 = 1952 := (nI_eq (by omega) (by omega)).mp (hz31.symm.trans hxp24)
              subst hsz21
              refine W.widen (k := 0) (n := 0) (by omega) (by omega) ?_
              refine mp_v (cx := []) (wr := []) hP hD hS hA [] [] rfl rfl rfl (by decide) (va_runV (As := [.ref pk, .int (nI 0), .int (nI 1952)]) (rest := []) F (N_MS_puts l g _ T q22.2 pl hO hU r23 pk pp 2592 0 1952 x31 x32 kr22 k_pk n_pk hf61 hf62 (by omega) (by omega) (by omega) (by omega)) (cwV 3 hts (wg_app (wg_c kw_1715 (wg_c kw_1608 (wg_c kw_1609 (wg_c kw_10 wg_n)))) kw_1610) rfl rfl rfl (by decide +kernel) ⟨by decide, by decide⟩) (pn_V (en_ok g) (ci := 9) (kn := 172) (fl := [(3, 173), (3, 174), (3, 175), (3, 176), (3, 177), (0, 0), (0, 0), (0, 0)]) hK hO kr22 rfl hP hD hS hA hEn [] rfl rfl rfl) rfl rfl hl.1 rfl (lv_room (Nat.le_of_ble_eq_true rfl)) dMH_verify_204 ⟨by omega, by omega⟩) (fun  u25 H locs hu25 hP hD hS => ?_)
              obtain ⟨s25, pl⟩ := u25
              obtain ⟨⟨eq25, hFc25, ⟨x35, hx_35, hb_35⟩, ⟨x36, hx_36, hb_36⟩, -⟩, hO⟩ := hu25
              have hO : okn g T s25 pl := hO
              have hP : va_P g.1 vcl ([] ++ pl) _ := hP
              have hD : va_D _ ([] ++ pl) := hD
              have hFc25 : frm (M_MS_puts) q22.2 s25 := hFc25
              have hb_35 : x35 < x32 := hb_35
              have hb_36 : x36 = x32 := hb_36
              replace hR := bnd_step hR eq25
              replace hE := bndP_step hE eq25
              have hF := frm_tr hF hFc25 (fun k hk => by unfold M_MS_puts at hk; unfold M_MH_verify_1; omega)
              have hf63 : s25.1 225 23 = nI 1 := fc_F hf53 hFc25 (by unfold M_MS_puts; omega)
              have hf64 : s25.1 225 24 = nI 6 := fc_F hf54 hFc25 (by unfold M_MS_puts; omega)
              have hf65 : s25.1 225 25 = nI 5 := fc_F hf55 hFc25 (by unfold M_MS_puts; omega)
              have hf66 : s25.1 225 26 = nI 4 := fc_F hf56 hFc25 (by unfold M_MS_puts; omega)
              have hf67 : s25.1 225 27 = nI 524288 := fc_F hf57 hFc25 (by unfold M_MS_puts; omega)
              have hf68 : s25.1 225 28 = nI 261888 := fc_F hf58 hFc25 (by unfold M_MS_puts; omega)
              have hf69 : s25.1 225 29 = nI 196 := fc_F hf59 hFc25 (by unfold M_MS_puts; omega)
              have hf70 : s25.1 225 30 = nI 48 := fc_F hf60 hFc25 (by unfold M_MS_puts; omega)
              refine W.widen (k := 0) (n := 0) (by omega) (by omega) ?_
              refine lv_aload_n hx hb dMH_verify_207 rfl (lv_at hl 4 rfl) ?_
              refine nw_get (C := "LatticeKeysModel$Hands") (TT := T_MH) (N := 31) hx hb hts (wg_ft i_MH) hown hK hO k_h0 (kn := 225) (ci := 12) (fl := [(3, 172), (3, 181), (3, 226), (3, 291), (3, 299), (3, 308), (3, 317), (3, 326), (3, 334), (3, 342), (3, 350), (3, 359), (3, 368), (3, 369), (3, 370), (3, 371), (3, 372), (3, 373), (3, 374), (3, 375), (3, 376), (3, 377), (3, 378), (0, 0), (0, 0), (0, 0), (0, 0), (0, 0), (0, 0), (0, 0), (0, 0)]) rfl hP rfl 0 (by decide) (hts _ (wg_t kw_1432)) (fun _ h9 => h9) (cd := (3, 172)) rfl dMH_verify_208 (fun v28 hv28 => ?_)
              obtain ⟨r25, rfl, kr23⟩ := (show ∃ r : Nat, v28 = .ref r ∧ T r = some 172 from hv28)
              refine mp_v (cx := []) (wr := []) hP hD hS hA [] [] rfl rfl rfl (by decide) (va_runV (As := []) (rest := []) F (N_MS_end l g _ T s25 pl hO hU r25 x35 x36 kr23 hx_35 hx_36 (by omega) (by omega)) (cwV 0 hts (wg_app (wg_c kw_1717 (wg_c kw_1630 (wg_c kw_1631 (wg_c kw_10 wg_n)))) kw_1632) rfl rfl rfl (by decide +kernel) ⟨by decide, by decide⟩) (pn_V (en_ok g) (ci := 9) (kn := 172) (fl := [(3, 173), (3, 174), (3, 175), (3, 176), (3, 177), (0, 0), (0, 0), (0, 0)]) hK hO kr23 rfl hP hD hS hA hEn [] rfl rfl rfl) rfl rfl hl.1 rfl (lv_room (Nat.le_of_ble_eq_true rfl)) dMH_verify_211 ⟨by omega, by omega⟩) (fun  u26 H locs hu26 hP hD hS => ?_)
              obtain ⟨s26, pl⟩ := u26
              obtain ⟨⟨eq26, hFc26, ⟨x38, hx_38, hb_38⟩, ⟨x39, hx_39, hb_39⟩, -⟩, hO⟩ := hu26
              have hO : okn g T s26 pl := hO
              have hP : va_P g.1 vcl ([] ++ pl) _ := hP
              have hD : va_D _ ([] ++ pl) := hD
              have hFc26 : frm (M_MS_end) s25 s26 := hFc26
              have hb_38 : x38 = 0 := hb_38
              have hb_39 : x39 = x36 := hb_39
              replace hR := bnd_step hR eq26
              replace hE := bndP_step hE eq26
              have hF := frm_tr hF hFc26 (fun k hk => by unfold M_MS_end at hk; unfold M_MH_verify_1; omega)
              have hf71 : s26.1 225 23 = nI 1 := fc_F hf63 hFc26 (by unfold M_MS_end; omega)
              have hf72 : s26.1 225 24 = nI 6 := fc_F hf64 hFc26 (by unfold M_MS_end; omega)
              have hf73 : s26.1 225 25 = nI 5 := fc_F hf65 hFc26 (by unfold M_MS_end; omega)
              have hf74 : s26.1 225 26 = nI 4 := fc_F hf66 hFc26 (by unfold M_MS_end; omega)
              have hf75 : s26.1 225 27 = nI 524288 := fc_F hf67 hFc26 (by unfold M_MS_end; omega)
              have hf76 : s26.1 225 28 = nI 261888 := fc_F hf68 hFc26 (by unfold M_MS_end; omega)
              have hf77 : s26.1 225 29 = nI 196 := fc_F hf69 hFc26 (by unfold M_MS_end; omega)
              have hf78 : s26.1 225 30 = nI 48 := fc_F hf70 hFc26 (by unfold M_MS_end; omega)
              refine W.widen (k := 0) (n := 0) (by omega) (by omega) ?_
              refine lv_aload_n hx hb dMH_verify_214 rfl (lv_at hl 4 rfl) ?_
              refine nw_get (C := "LatticeKeysModel$Hands") (TT := T_MH) (N := 31) hx hb hts (wg_ft i_MH) hown hK hO k_h0 (kn := 225) (ci := 12) (fl := [(3, 172), (3, 181), (3, 226), (3, 291), (3, 299), (3, 308), (3, 317), (3, 326), (3, 334), (3, 342), (3, 350), (3, 359), (3, 368), (3, 369), (3, 370), (3, 371), (3, 372), (3, 373), (3, 374), (3, 375), (3, 376), (3, 377), (3, 378), (0, 0), (0, 0), (0, 0), (0, 0), (0, 0), (0, 0), (0, 0), (0, 0)]) rfl hP rfl 0 (by decide) (hts _ (wg_t kw_1432)) (fun _ h9 => h9) (cd := (3, 172)) rfl dMH_verify_215 (fun v29 hv29 => ?_)
              obtain ⟨r26, rfl, kr24⟩ := (show ∃ r : Nat, v29 = .ref r ∧ T r = some 172 from hv29)
              refine lv_aload_n hx hb dMH_verify_218 rfl (lv_at hl 4 rfl) ?_
              refine nw_get (C := "LatticeKeysModel$Hands") (TT := T_MH) (N := 31) hx hb hts (wg_ft i_MH) hown hK hO k_h0 (kn := 225) (ci := 12) (fl := [(3, 172), (3, 181), (3, 226), (3, 291), (3, 299), (3, 308), (3, 317), (3, 326), (3, 334), (3, 342), (3, 350), (3, 359), (3, 368), (3, 369), (3, 370), (3, 371), (3, 372), (3, 373), (3, 374), (3, 375), (3, 376), (3, 377), (3, 378), (0, 0), (0, 0), (0, 0), (0, 0), (0, 0), (0, 0), (0, 0), (0, 0)]) rfl hP rfl 22 (by decide) (hts _ (wg_t kw_1454)) (fun _ h9 => h9) (cd := (3, 378)) rfl dMH_verify_219 (fun v30 hv30 => ?_)
              obtain ⟨r27, rfl, kr25⟩ := (show ∃ r : Nat, v30 = .ref r ∧ T r = some 378 from hv30)
              refine lv_iconst (v := nI 0) hx hb dMH_verify_222 (by decide) ?_
              refine lv_bipush (v := nI 64) hx hb dMH_verify_223 (by decide) ?_
              refine mp_v (cx := []) (wr := []) hP hD hS hA [] [] rfl rfl rfl (by decide) (va_runV (As := [.ref r27, .int (nI 0), .int (nI 64)]) (rest := []) F (N_MS_take l g _ T s26 pl hO hU r26 r27 378 64 0 64 x38 x39 kr24 kr25 rfl hx_38 hx_39 (by omega) (by omega) (by omega) (by omega)) (cwV 3 hts (wg_app (wg_c kw_1718 (wg_c kw_1634 (wg_c kw_1635 (wg_c kw_10 wg_n)))) kw_1636) rfl rfl rfl (by decide +kernel) ⟨by decide, by decide⟩) (pn_V (en_ok g) (ci := 9) (kn := 172) (fl := [(3, 173), (3, 174), (3, 175), (3, 176), (3, 177), (0, 0), (0, 0), (0, 0)]) hK hO kr24 rfl hP hD hS hA hEn [] rfl rfl rfl) rfl rfl hl.1 rfl (lv_room (Nat.le_of_ble_eq_true rfl)) dMH_verify_225 ⟨by omega, by omega⟩) (fun  u27 H locs hu27 hP hD hS => ?_)
              obtain ⟨s27, pl⟩ := u27
              obtain ⟨⟨eq27, hFc27, ⟨x41, hx_41, hb_41⟩, ⟨x42, hx_42, hb_42⟩, -⟩, hO⟩ := hu27
              have hO : okn g T s27 pl := hO
              have hP : va_P g.1 vcl ([] ++ pl) _ := hP
              have hD : va_D _ ([] ++ pl) := hD
              have hFc27 : frm (M_MS_take 378) s26 s27 := hFc27
              have hb_41 : x41 ≤ x39 := hb_41
              have hb_42 : x42 = x39 := hb_42
              replace hR := bnd_step hR eq27
              replace hE := bndP_step hE eq27
              have hF := frm_tr hF hFc27 (fun k hk => by unfold M_MS_take at hk; unfold M_MH_verify_1; omega)
              have hf79 : s27.1 225 23 = nI 1 := fc_F hf71 hFc27 (by unfold M_MS_take; omega)
              have hf80 : s27.1 225 24 = nI 6 := fc_F hf72 hFc27 (by unfold M_MS_take; omega)
              have hf81 : s27.1 225 25 = nI 5 := fc_F hf73 hFc27 (by unfold M_MS_take; omega)
              have hf82 : s27.1 225 26 = nI 4 := fc_F hf74 hFc27 (by unfold M_MS_take; omega)
              have hf83 : s27.1 225 27 = nI 524288 := fc_F hf75 hFc27 (by unfold M_MS_take; omega)
              have hf84 : s27.1 225 28 = nI 261888 := fc_F hf76 hFc27 (by unfold M_MS_take; omega)
              have hf85 : s27.1 225 29 = nI 196 := fc_F hf77 hFc27 (by unfold M_MS_take; omega)
              have hf86 : s27.1 225 30 = nI 48 := fc_F hf78 hFc27 (by unfold M_MS_take; omega)
              refine W.widen (k := 0) (n := 0) (by omega) (by omega) ?_
              refine lv_aload_n hx hb dMH_verify_228 rfl (lv_at hl 4 rfl) ?_
              refine lv_aload_n hx hb dMH_verify_229 rfl (lv_at hl 4 rfl) ?_
              refine nw_get (C := "LatticeKeysModel$Hands") (TT := T_MH) (N := 31) hx hb hts (wg_ft i_MH) hown hK hO k_h0 (kn := 225) (ci := 12) (fl := [(3, 172), (3, 181), (3, 226), (3, 291), (3, 299), (3, 308), (3, 317), (3, 326), (3, 334), (3, 342), (3, 350), (3, 359), (3, 368), (3, 369), (3, 370), (3, 371), (3, 372), (3, 373), (3, 374), (3, 375), (3, 376), (3, 377), (3, 378), (0, 0), (0, 0), (0, 0), (0, 0), (0, 0), (0, 0), (0, 0), (0, 0)]) rfl hP rfl 22 (by decide) (hts _ (wg_t kw_1454)) (fun _ h9 => h9) (cd := (3, 378)) rfl dMH_verify_230 (fun v31 hv31 => ?_)
              obtain ⟨r28, rfl, kr26⟩ := (show ∃ r : Nat, v31 = .ref r ∧ T r = some 378 from hv31)
              refine lv_iconst (v := nI 0) hx hb dMH_verify_233 (by decide) ?_
              refine lv_aload_n hx hb dMH_verify_234 rfl (lv_at hl 6 rfl) ?_
              refine lv_aload_n hx hb dMH_verify_235 rfl (lv_at hl 4 rfl) ?_
              refine nw_get (C := "LatticeKeysModel$Hands") (TT := T_MH) (N := 31) hx hb hts (wg_ft i_MH) hown hK hO k_h0 (kn := 225) (ci := 12) (fl := [(3, 172), (3, 181), (3, 226), (3, 291), (3, 299), (3, 308), (3, 317), (3, 326), (3, 334), (3, 342), (3, 350), (3, 359), (3, 368), (3, 369), (3, 370), (3, 371), (3, 372), (3, 373), (3, 374), (3, 375), (3, 376), (3, 377), (3, 378), (0, 0), (0, 0), (0, 0), (0, 0), (0, 0), (0, 0), (0, 0), (0, 0)]) rfl hP rfl 23 (by decide) (hts _ (wg_t kw_1455)) (fun _ h9 => h9) (cd := (0, 0)) rfl dMH_verify_236 (fun v32 hv32 => ?_)
              obtain rfl := (show v32 = .int (s27.1 225 23) from hv32)
              obtain ⟨z28, ez27, hz33, hz34⟩ := cl_of (b := 2147483648) hf79 (by omega) (by decide)
              replace hR := bnd_step hR ez27
              replace hE := bndP_step hE ez27
              refine mi_as hz33 ?_
              subst hz34
              refine mp_i (cx := []) (wr := []) hP hD hS hA [] [] rfl rfl rfl (by decide) (va_runS (As := [.int (nI 1)]) (rest := [.ref b, .int (nI 0), .ref r28, .ref h0]) F (N_MH_markSize_1 l g _ T s27 pl hO hU ) (va_cwS 1 hts (wg_app (wg_c kw_1929 (wg_c kw_1915 (wg_c kw_13 wg_n))) kw_1916) rfl rfl rfl (by decide +kernel) ⟨by decide, by decide⟩) (pp_S (en_ok g) hP hD hS hA hEn [] rfl rfl) rfl rfl hl.1 rfl (lv_room (Nat.le_of_ble_eq_true rfl)) dMH_verify_239 ⟨by omega, by omega⟩) (fun r29 u28 H locs hu28 hP hD hS => ?_)
              obtain ⟨q23, pl⟩ := u28
              obtain ⟨⟨eq28, rfl, hFc28, ⟨x44, hx_44, hb_44⟩, hxp28, -⟩, hO⟩ := hu28
              have hO : okn g T q23.2 pl := hO
              have hP : va_P g.1 vcl ([] ++ pl) _ := hP
              have hD : va_D _ ([] ++ pl) := hD
              have hFc28 : frm (M_MH_markSize_1) s27 q23.2 := hFc28
              have hb_44 : x44 < 3310 := hb_44
              replace hR := bnd_step hR eq28
              replace hE := bndP_step hE eq28
              have hF := frm_tr hF hFc28 (fun k hk => by unfold M_MH_markSize_1 at hk; unfold M_MH_verify_1; omega)
              have hf87 : q23.2.1 225 23 = nI 1 := fc_F hf79 hFc28 (by unfold M_MH_markSize_1; omega)
              have hf88 : q23.2.1 225 24 = nI 6 := fc_F hf80 hFc28 (by unfold M_MH_markSize_1; omega)
              have hf89 : q23.2.1 225 25 = nI 5 := fc_F hf81 hFc28 (by unfold M_MH_markSize_1; omega)
              have hf90 : q23.2.1 225 26 = nI 4 := fc_F hf82 hFc28 (by unfold M_MH_markSize_1; omega)
              have hf91 : q23.2.1 225 27 = nI 524288 := fc_F hf83 hFc28 (by unfold M_MH_markSize_1; omega)
              have hf92 : q23.2.1 225 28 = nI 261888 := fc_F hf84 hFc28 (by unfold M_MH_markSize_1; omega)
              have hf93 : q23.2.1 225 29 = nI 196 := fc_F hf85 hFc28 (by unfold M_MH_markSize_1; omega)
              have hf94 : q23.2.1 225 30 = nI 48 := fc_F hf86 hFc28 (by unfold M_MH_markSize_1; omega)
              have hf95 : q23.2.1 172 6 = nI x41 := fc_F hx_41 hFc28 (by unfold M_MH_markSize_1; omega)
              have hf96 : q23.2.1 172 5 = nI x42 := fc_F hx_42 hFc28 (by unfold M_MH_markSize_1; omega)
              obtain ⟨z29, ez28, hz35, hz36⟩ := cl_of (b := 2147483648) hx_44 (by omega) (by decide)
              replace hR := bnd_step hR ez28
              replace hE := bndP_step hE ez28
              refine mi_as hz35 ?_
              have hsz22 : z29 = 3309 := (nI_eq (by omega) (by omega)).mp (hz35.symm.trans hxp28)
              subst hsz22
              refine W.widen (k := 0) (n := 0) (by omega) (by omega) ?_
              refine lv_iload hx hb dMH_verify_242 (lv_at hl 7 rfl) ?_
              refine lv_iload hx hb dMH_verify_244 (lv_at hl 8 rfl) ?_
              refine mp_v (cx := []) (wr := []) hP hD hS hA [] [] rfl rfl rfl (by decide) (va_runV (As := [.ref r28, .int (nI 0), .ref b, .int (nI 3309), .int cl_, .int (nI ed)]) (rest := []) F (N_MH_message_1 l g _ T q23.2 pl hO hU h0 r28 b 378 64 0 pb 16384 3309 cl_ ed k_h0 kr26 rfl k_b n_b hf87 hf88 hf89 hf90 hf91 hf92 hf93 hf94 (by omega) (by omega) (by omega) (by omega) (by omega)) (cwV 6 hts (wg_app (wg_c kw_1864 (wg_c kw_1866 (wg_c ks_71 (wg_c kw_13 wg_n)))) kw_1867) rfl rfl rfl (by decide +kernel) ⟨by decide, by decide⟩) (pn_V (en_ok g) (ci := 12) (kn := 225) (fl := [(3, 172), (3, 181), (3, 226), (3, 291), (3, 299), (3, 308), (3, 317), (3, 326), (3, 334), (3, 342), (3, 350), (3, 359), (3, 368), (3, 369), (3, 370), (3, 371), (3, 372), (3, 373), (3, 374), (3, 375), (3, 376), (3, 377), (3, 378), (0, 0), (0, 0), (0, 0), (0, 0), (0, 0), (0, 0), (0, 0), (0, 0)]) hK hO k_h0 rfl hP hD hS hA hEn [] rfl rfl rfl) rfl rfl hl.1 rfl (lv_room (Nat.le_of_ble_eq_true rfl)) dMH_verify_246 ⟨by omega, by omega⟩) (fun  u29 H locs hu29 hP hD hS => ?_)
              obtain ⟨s28, pl⟩ := u29
              obtain ⟨⟨eq29, hFc29, -⟩, hO⟩ := hu29
              have hO : okn g T s28 pl := hO
              have hP : va_P g.1 vcl ([] ++ pl) _ := hP
              have hD : va_D _ ([] ++ pl) := hD
              have hFc29 : frm (M_MH_message_1) q23.2 s28 := hFc29
              replace hR := bnd_step hR eq29
              replace hE := bndP_step hE eq29
              have hF := frm_tr hF hFc29 (fun k hk => by unfold M_MH_message_1 at hk; unfold M_MH_verify_1; omega)
              have hf97 : s28.1 225 23 = nI 1 := fc_F hf87 hFc29 (by unfold M_MH_message_1; omega)
              have hf98 : s28.1 225 24 = nI 6 := fc_F hf88 hFc29 (by unfold M_MH_message_1; omega)
              have hf99 : s28.1 225 25 = nI 5 := fc_F hf89 hFc29 (by unfold M_MH_message_1; omega)
              have hf100 : s28.1 225 26 = nI 4 := fc_F hf90 hFc29 (by unfold M_MH_message_1; omega)
              have hf101 : s28.1 225 27 = nI 524288 := fc_F hf91 hFc29 (by unfold M_MH_message_1; omega)
              have hf102 : s28.1 225 28 = nI 261888 := fc_F hf92 hFc29 (by unfold M_MH_message_1; omega)
              have hf103 : s28.1 225 29 = nI 196 := fc_F hf93 hFc29 (by unfold M_MH_message_1; omega)
              have hf104 : s28.1 225 30 = nI 48 := fc_F hf94 hFc29 (by unfold M_MH_message_1; omega)
              refine W.widen (k := 0) (n := 0) (by omega) (by omega) ?_
              refine lv_aload_n hx hb dMH_verify_249 rfl (lv_at hl 4 rfl) ?_
              refine lv_aload_n hx hb dMH_verify_250 rfl (lv_at hl 5 rfl) ?_
              refine mp_v (cx := []) (wr := []) hP hD hS hA [] [] rfl rfl rfl (by decide) (va_runV (As := [.ref pk]) (rest := []) F (N_MH_expand_1 l g _ T s28 pl hO hU h0 pk pp 2592 k_h0 k_pk n_pk hf97 hf98 hf99 hf100 hf101 hf102 hf103 hf104 (by omega) (by omega) hE.1) (cwV 1 hts (wg_app (wg_c kw_1719 (wg_c kw_1721 (wg_c ks_61 (wg_c kw_13 wg_n)))) kw_1722) rfl rfl rfl (by decide +kernel) ⟨by decide, by decide⟩) (pn_V (en_ok g) (ci := 12) (kn := 225) (fl := [(3, 172), (3, 181), (3, 226), (3, 291), (3, 299), (3, 308), (3, 317), (3, 326), (3, 334), (3, 342), (3, 350), (3, 359), (3, 368), (3, 369), (3, 370), (3, 371), (3, 372), (3, 373), (3, 374), (3, 375), (3, 376), (3, 377), (3, 378), (0, 0), (0, 0), (0, 0), (0, 0), (0, 0), (0, 0), (0, 0), (0, 0)]) hK hO k_h0 rfl hP hD hS hA hEn [] rfl rfl rfl) rfl rfl hl.1 rfl (lv_room (Nat.le_of_ble_eq_true rfl)) dMH_verify_251 ⟨by omega, by omega⟩) (fun  u30 H locs hu30 hP hD hS => ?_)
              obtain ⟨s29, pl⟩ := u30
              obtain ⟨⟨eq30, hFc30, -⟩, hO⟩ := hu30
              have hO : okn g T s29 pl := hO
              have hP : va_P g.1 vcl ([] ++ pl) _ := hP
              have hD : va_D _ ([] ++ pl) := hD
              have hFc30 : frm (M_MH_expand_1) s28 s29 := hFc30
              replace hE := hE.2
              replace hR := bnd_step hR eq30
              replace hE := bndP_step hE eq30
              have hF := frm_tr hF hFc30 (fun k hk => by unfold M_MH_expand_1 at hk; unfold M_MH_verify_1; omega)
              have hf105 : s29.1 225 23 = nI 1 := fc_F hf97 hFc30 (by unfold M_MH_expand_1; omega)
              have hf106 : s29.1 225 24 = nI 6 := fc_F hf98 hFc30 (by unfold M_MH_expand_1; omega)
              have hf107 : s29.1 225 25 = nI 5 := fc_F hf99 hFc30 (by unfold M_MH_expand_1; omega)
              have hf108 : s29.1 225 26 = nI 4 := fc_F hf100 hFc30 (by unfold M_MH_expand_1; omega)
              have hf109 : s29.1 225 27 = nI 524288 := fc_F hf101 hFc30 (by unfold M_MH_expand_1; omega)
              have hf110 : s29.1 225 28 = nI 261888 := fc_F hf102 hFc30 (by unfold M_MH_expand_1; omega)
              have hf111 : s29.1 225 29 = nI 196 := fc_F hf103 hFc30 (by unfold M_MH_expand_1; omega)
              have hf112 : s29.1 225 30 = nI 48 := fc_F hf104 hFc30 (by unfold M_MH_expand_1; omega)
              refine W.widen (k := 0) (n := 0) (by omega) (by omega) ?_
              refine lv_aload_n hx hb dMH_verify_254 rfl (lv_at hl 4 rfl) ?_
              refine lv_aload_n hx hb dMH_verify_255 rfl (lv_at hl 4 rfl) ?_
              refine nw_get (C := "LatticeKeysModel$Hands") (TT := T_MH) (N := 31) hx hb hts (wg_ft i_MH) hown hK hO k_h0 (kn := 225) (ci := 12) (fl := [(3, 172), (3, 181), (3, 226), (3, 291), (3, 299), (3, 308), (3, 317), (3, 326), (3, 334), (3, 342), (3, 350), (3, 359), (3, 368), (3, 369), (3, 370), (3, 371), (3, 372), (3, 373), (3, 374), (3, 375), (3, 376), (3, 377), (3, 378), (0, 0), (0, 0), (0, 0), (0, 0), (0, 0), (0, 0), (0, 0), (0, 0)]) rfl hP rfl 20 (by decide) (hts _ (wg_t kw_1452)) (fun _ h9 => h9) (cd := (3, 376)) rfl dMH_verify_256 (fun v33 hv33 => ?_)
              obtain ⟨r30, rfl, kr27⟩ := (show ∃ r : Nat, v33 = .ref r ∧ T r = some 376 from hv33)
              refine mp_v (cx := []) (wr := []) hP hD hS hA [] [] rfl rfl rfl (by decide) (va_runV (As := [.ref r30]) (rest := []) F (N_MH_ball_1 l g _ T s29 pl hO hU h0 r30 376 k_h0 kr27 rfl hf105 hf106 hf107 hf108 hf109 hf110 hf111 hf112 hE.1) (cwV 1 hts (wg_app (wg_c kw_1889 (wg_c kw_1891 (wg_c ks_77 (wg_c kw_13 wg_n)))) kw_1892) rfl rfl rfl (by decide +kernel) ⟨by decide, by decide⟩) (pn_V (en_ok g) (ci := 12) (kn := 225) (fl := [(3, 172), (3, 181), (3, 226), (3, 291), (3, 299), (3, 308), (3, 317), (3, 326), (3, 334), (3, 342), (3, 350), (3, 359), (3, 368), (3, 369), (3, 370), (3, 371), (3, 372), (3, 373), (3, 374), (3, 375), (3, 376), (3, 377), (3, 378), (0, 0), (0, 0), (0, 0), (0, 0), (0, 0), (0, 0), (0, 0), (0, 0)]) hK hO k_h0 rfl hP hD hS hA hEn [] rfl rfl rfl) rfl rfl hl.1 rfl (lv_room (Nat.le_of_ble_eq_true rfl)) dMH_verify_259 ⟨by omega, by omega⟩) (fun  u31 H locs hu31 hP hD hS => ?_)
              obtain ⟨s30, pl⟩ := u31
              obtain ⟨⟨eq31, hFc31, -⟩, hO⟩ := hu31
              have hO : okn g T s30 pl := hO
              have hP : va_P g.1 vcl ([] ++ pl) _ := hP
              have hD : va_D _ ([] ++ pl) := hD
              have hFc31 : frm (M_MH_ball_1) s29 s30 := hFc31
              replace hE := hE.2
              replace hR := bnd_step hR eq31
              replace hE := bndP_step hE eq31
              have hF := frm_tr hF hFc31 (fun k hk => by unfold M_MH_ball_1 at hk; unfold M_MH_verify_1; omega)
              have hf113 : s30.1 225 23 = nI 1 := fc_F hf105 hFc31 (by unfold M_MH_ball_1; omega)
              have hf114 : s30.1 225 24 = nI 6 := fc_F hf106 hFc31 (by unfold M_MH_ball_1; omega)
              have hf115 : s30.1 225 25 = nI 5 := fc_F hf107 hFc31 (by unfold M_MH_ball_1; omega)
              have hf116 : s30.1 225 26 = nI 4 := fc_F hf108 hFc31 (by unfold M_MH_ball_1; omega)
              have hf117 : s30.1 225 27 = nI 524288 := fc_F hf109 hFc31 (by unfold M_MH_ball_1; omega)
              have hf118 : s30.1 225 28 = nI 261888 := fc_F hf110 hFc31 (by unfold M_MH_ball_1; omega)
              have hf119 : s30.1 225 29 = nI 196 := fc_F hf111 hFc31 (by unfold M_MH_ball_1; omega)
              have hf120 : s30.1 225 30 = nI 48 := fc_F hf112 hFc31 (by unfold M_MH_ball_1; omega)
              refine W.widen (k := 0) (n := 0) (by omega) (by omega) ?_
              refine lv_iconst (v := nI 0) hx hb dMH_verify_262 (by decide) ?_
              refine lv_istore (lv' := [(9, .int (nI 0)), (8, .int z24), (7, .int (nI az21)), (6, .int (nI 20)), (0, .ref h0), (2, .ref pk), (3, .ref b), (4, .int cl_), (5, .int (nI ed))]) hx hb dMH_verify_263 hl (by decide) rfl (fun ls hl => ?_)
              have lp23 : ∀ (n23 : Nat) (i23 : Nat) (s31 : Sto) (pl : va_W) (ls : Array Slot) (H : Heap) (locs : List Loc), n23 + i23 = 5 → frm (M_MH_verify_1) s s31 → s31.1 225 23 = nI 1 → s31.1 225 24 = nI 6 → s31.1 225 25 = nI 5 → s31.1 225 26 = nI 4 → s31.1 225 27 = nI 524288 → s31.1 225 28 = nI 261888 → s31.1 225 29 = nI 196 → s31.1 225 30 = nI 48 → E_MH_verify_1_L2 pp n23 i23 s31 → F_MH_verify_1 pp pb cl_ ed s = F_MH_verify_1_L2 pp n23 i23 s31 → lv_has ls 11 [(9, .int (nI i23)), (0, .ref h0), (2, .ref pk)] → okn g T s31 pl → va_P g.1 vcl ([] ++ pl) H → va_D A ([] ++ pl) → va_S A s0.heap H locs → W p l e ({ frames := 5, cells := 0, slots := 0, locals := 116 } : Room) s0 m args below meth c H locs 0 0 (MQ below (va_Qi (fun (r : Int32) (u : (Int32 × Sto) × va_W) => (u.1 = F_MH_verify_1 pp pb cl_ ed s ∧ r = u.1.1 ∧ frm (M_MH_verify_1) s u.1.2 ∧ True) ∧ okn g T u.1.2 u.2) (po g.1 vcl A (fun (u : (Int32 × Sto) × va_W) => [] ++ u.2)) A) args s0 0 0 A) (F0 m 265 ls []) := by
                intro n23
                induction n23 with
                | zero =>
                  intro i23 s31 pl ls H locs hm23 hF hf121 hf122 hf123 hf124 hf125 hf126 hf127 hf128 hE hR hl hO hP hD hS
                  refine lv_iload hx hb dMH_verify_265 (lv_at hl 0 rfl) ?_
                  refine lv_aload_n hx hb dMH_verify_267 rfl (lv_at hl 1 rfl) ?_
                  refine nw_get (C := "LatticeKeysModel$Hands") (TT := T_MH) (N := 31) hx hb hts (wg_ft i_MH) hown hK hO k_h0 (kn := 225) (ci := 12) (fl := [(3, 172), (3, 181), (3, 226), (3, 291), (3, 299), (3, 308), (3, 317), (3, 326), (3, 334), (3, 342), (3, 350), (3, 359), (3, 368), (3, 369), (3, 370), (3, 371), (3, 372), (3, 373), (3, 374), (3, 375), (3, 376), (3, 377), (3, 378), (0, 0), (0, 0), (0, 0), (0, 0), (0, 0), (0, 0), (0, 0), (0, 0)]) rfl hP rfl 25 (by decide) (hts _ (wg_t kw_1457)) (fun _ h9 => h9) (cd := (0, 0)) rfl dMH_verify_268 (fun v34 hv34 => ?_)
                  obtain rfl := (show v34 = .int (s31.1 225 25) from hv34)
                  obtain ⟨z30, ez29, hz37, hz38⟩ := cl_of (b := 2147483648) hf123 (by omega) (by decide)
                  replace hR := bnd_step hR ez29
                  replace hE := bndP_step hE ez29
                  refine mi_as hz37 ?_
                  subst hz38
                  refine mi_ge (tgt := 303) hx hb dMH_verify_271 (by decide) (by omega) (by omega) (fun h26 => ?_) (fun h26 => absurd h26 (by omega))
                  refine lv_iconst (v := nI 0) hx hb dMH_verify_303 (by decide) ?_
                  refine lv_istore (lv' := [(9, .int (nI 0)), (0, .ref h0), (2, .ref pk)]) hx hb dMH_verify_304 hl (by decide) rfl (fun ls hl => ?_)
                  have lp24 : ∀ (n24 : Nat) (i24 : Nat) (s32 : Sto) (pl : va_W) (ls : Array Slot) (H : Heap) (locs : List Loc), n24 + i24 = 6 → frm (M_MH_verify_1) s s32 → s32.1 225 23 = nI 1 → s32.1 225 24 = nI 6 → s32.1 225 25 = nI 5 → s32.1 225 26 = nI 4 → s32.1 225 27 = nI 524288 → s32.1 225 28 = nI 261888 → s32.1 225 29 = nI 196 → s32.1 225 30 = nI 48 → E_MH_verify_1_L3 pp n24 i24 s32 → F_MH_verify_1 pp pb cl_ ed s = F_MH_verify_1_L3 pp n24 i24 s32 → lv_has ls 11 [(9, .int (nI i24)), (0, .ref h0), (2, .ref pk)] → okn g T s32 pl → va_P g.1 vcl ([] ++ pl) H → va_D A ([] ++ pl) → va_S A s0.heap H locs → W p l e ({ frames := 5, cells := 0, slots := 0, locals := 116 } : Room) s0 m args below meth c H locs 0 0 (MQ below (va_Qi (fun (r : Int32) (u : (Int32 × Sto) × va_W) => (u.1 = F_MH_verify_1 pp pb cl_ ed s ∧ r = u.1.1 ∧ frm (M_MH_verify_1) s u.1.2 ∧ True) ∧ okn g T u.1.2 u.2) (po g.1 vcl A (fun (u : (Int32 × Sto) × va_W) => [] ++ u.2)) A) args s0 0 0 A) (F0 m 306 ls []) := by
                    intro n24
                    induction n24 with
                    | zero =>
                      intro i24 s32 pl ls H locs hm24 hF hf129 hf130 hf131 hf132 hf133 hf134 hf135 hf136 hE hR hl hO hP hD hS
                      refine lv_iload hx hb dMH_verify_306 (lv_at hl 0 rfl) ?_
                      refine lv_aload_n hx hb dMH_verify_308 rfl (lv_at hl 1 rfl) ?_
                      refine nw_get (C := "LatticeKeysModel$Hands") (TT := T_MH) (N := 31) hx hb hts (wg_ft i_MH) hown hK hO k_h0 (kn := 225) (ci := 12) (fl := [(3, 172), (3, 181), (3, 226), (3, 291), (3, 299), (3, 308), (3, 317), (3, 326), (3, 334), (3, 342), (3, 350), (3, 359), (3, 368), (3, 369), (3, 370), (3, 371), (3, 372), (3, 373), (3, 374), (3, 375), (3, 376), (3, 377), (3, 378), (0, 0), (0, 0), (0, 0), (0, 0), (0, 0), (0, 0), (0, 0), (0, 0)]) rfl hP rfl 24 (by decide) (hts _ (wg_t kw_1456)) (fun _ h9 => h9) (cd := (0, 0)) rfl dMH_verify_309 (fun v35 hv35 => ?_)
                      obtain rfl := (show v35 = .int (s32.1 225 24) from hv35)
                      obtain ⟨z31, ez30, hz39, hz40⟩ := cl_of (b := 2147483648) hf130 (by omega) (by decide)
                      replace hR := bnd_step hR ez30
                      replace hE := bndP_step hE ez30
                      refine mi_as hz39 ?_
                      subst hz40
                      refine mi_ge (tgt := 448) hx hb dMH_verify_312 (by decide) (by omega) (by omega) (fun h27 => ?_) (fun h27 => absurd h27 (by omega))
                      refine lv_aload_n hx hb dMH_verify_448 rfl (lv_at hl 1 rfl) ?_
                      refine lv_iconst (v := nI 1) hx hb dMH_verify_449 (by decide) ?_
                      refine lv_aload_n hx hb dMH_verify_450 rfl (lv_at hl 1 rfl) ?_
                      refine nw_get (C := "LatticeKeysModel$Hands") (TT := T_MH) (N := 31) hx hb hts (wg_ft i_MH) hown hK hO k_h0 (kn := 225) (ci := 12) (fl := [(3, 172), (3, 181), (3, 226), (3, 291), (3, 299), (3, 308), (3, 317), (3, 326), (3, 334), (3, 342), (3, 350), (3, 359), (3, 368), (3, 369), (3, 370), (3, 371), (3, 372), (3, 373), (3, 374), (3, 375), (3, 376), (3, 377), (3, 378), (0, 0), (0, 0), (0, 0), (0, 0), (0, 0), (0, 0), (0, 0), (0, 0)]) rfl hP rfl 21 (by decide) (hts _ (wg_t kw_1453)) (fun _ h9 => h9) (cd := (3, 377)) rfl dMH_verify_451 (fun v36 hv36 => ?_)
                      obtain ⟨r31, rfl, kr28⟩ := (show ∃ r : Nat, v36 = .ref r ∧ T r = some 377 from hv36)
                      refine mp_v (cx := []) (wr := []) hP hD hS hA [] [] rfl rfl rfl (by decide) (va_runV (As := [.int (nI 1), .ref r31]) (rest := []) F (N_MH_marked_1 l g _ T s32 pl hO hU h0 r31 (nI 1) 377 k_h0 kr28 rfl hf129 hf130 hf131 hf132 hf133 hf134 hf135 hf136) (cwV 2 hts (wg_app (wg_c kw_1872 (wg_c kw_1874 (wg_c ks_73 (wg_c kw_13 wg_n)))) kw_1875) rfl rfl rfl (by decide +kernel) ⟨by decide, by decide⟩) (pn_V (en_ok g) (ci := 12) (kn := 225) (fl := [(3, 172), (3, 181), (3, 226), (3, 291), (3, 299), (3, 308), (3, 317), (3, 326), (3, 334), (3, 342), (3, 350), (3, 359), (3, 368), (3, 369), (3, 370), (3, 371), (3, 372), (3, 373), (3, 374), (3, 375), (3, 376), (3, 377), (3, 378), (0, 0), (0, 0), (0, 0), (0, 0), (0, 0), (0, 0), (0, 0), (0, 0)]) hK hO k_h0 rfl hP hD hS hA hEn [] rfl rfl rfl) rfl rfl hl.1 rfl (lv_room (Nat.le_of_ble_eq_true rfl)) dMH_verify_454 ⟨by omega, by omega⟩) (fun  u32 H locs hu32 hP hD hS => ?_)
                      obtain ⟨s33, pl⟩ := u32
                      obtain ⟨⟨eq32, hFc32, -⟩, hO⟩ := hu32
                      have hO : okn g T s33 pl := hO
                      have hP : va_P g.1 vcl ([] ++ pl) _ := hP
                      have hD : va_D _ ([] ++ pl) := hD
                      have hFc32 : frm (M_MH_marked_1 377) s32 s33 := hFc32
                      replace hR := bnd_step hR eq32
                      replace hE := bndP_step hE eq32
                      have hF := frm_tr hF hFc32 (fun k hk => by unfold M_MH_marked_1 at hk; unfold M_MH_verify_1; omega)
                      have hf137 : s33.1 225 23 = nI 1 := fc_F hf129 hFc32 (by unfold M_MH_marked_1; omega)
                      have hf138 : s33.1 225 24 = nI 6 := fc_F hf130 hFc32 (by unfold M_MH_marked_1; omega)
                      have hf139 : s33.1 225 25 = nI 5 := fc_F hf131 hFc32 (by unfold M_MH_marked_1; omega)
                      have hf140 : s33.1 225 26 = nI 4 := fc_F hf132 hFc32 (by unfold M_MH_marked_1; omega)
                      have hf141 : s33.1 225 27 = nI 524288 := fc_F hf133 hFc32 (by unfold M_MH_marked_1; omega)
                      have hf142 : s33.1 225 28 = nI 261888 := fc_F hf134 hFc32 (by unfold M_MH_marked_1; omega)
                      have hf143 : s33.1 225 29 = nI 196 := fc_F hf135 hFc32 (by unfold M_MH_marked_1; omega)
                      have hf144 : s33.1 225 30 = nI 48 := fc_F hf136 hFc32 (by unfold M_MH_marked_1; omega)
                      refine W.widen (k := 0) (n := 0) (by omega) (by omega) ?_
                      refine lv_iconst (v := nI 0) hx hb dMH_verify_457 (by decide) ?_
                      refine lv_istore (lv' := [(9, .int (nI 0)), (0, .ref h0), (2, .ref pk)]) hx hb dMH_verify_458 hl (by decide) rfl (fun ls hl => ?_)
                      have lp25 : ∀ (n25 : Nat) (i25 : Nat) (s34 : Sto) (pl : va_W) (ls : Array Slot) (H : Heap) (locs : List Loc), n25 + i25 = 48 → frm (M_MH_verify_1) s s34 → s34.1 225 23 = nI 1 → s34.1 225 24 = nI 6 → s34.1 225 25 = nI 5 → s34.1 225 26 = nI 4 → s34.1 225 27 = nI 524288 → s34.1 225 28 = nI 261888 → s34.1 225 29 = nI 196 → s34.1 225 30 = nI 48 → E_MH_verify_1_L4 n25 i25 s34 → F_MH_verify_1 pp pb cl_ ed s = F_MH_verify_1_L4 n25 i25 s34 → lv_has ls 11 [(9, .int (nI i25)), (0, .ref h0)] → okn g T s34 pl → va_P g.1 vcl ([] ++ pl) H → va_D A ([] ++ pl) → va_S A s0.heap H locs → W p l e ({ frames := 5, cells := 0, slots := 0, locals := 116 } : Room) s0 m args below meth c H locs 0 0 (MQ below (va_Qi (fun (r : Int32) (u : (Int32 × Sto) × va_W) => (u.1 = F_MH_verify_1 pp pb cl_ ed s ∧ r = u.1.1 ∧ frm (M_MH_verify_1) s u.1.2 ∧ True) ∧ okn g T u.1.2 u.2) (po g.1 vcl A (fun (u : (Int32 × Sto) × va_W) => [] ++ u.2)) A) args s0 0 0 A) (F0 m 460 ls []) := by
                        intro n25
                        induction n25 with
                        | zero =>
                          intro i25 s34 pl ls H locs hm25 hF hf145 hf146 hf147 hf148 hf149 hf150 hf151 hf152 hE hR hl hO hP hD hS
                          refine lv_iload hx hb dMH_verify_460 (lv_at hl 0 rfl) ?_
                          refine lv_aload_n hx hb dMH_verify_462 rfl (lv_at hl 1 rfl) ?_
                          refine nw_get (C := "LatticeKeysModel$Hands") (TT := T_MH) (N := 31) hx hb hts (wg_ft i_MH) hown hK hO k_h0 (kn := 225) (ci := 12) (fl := [(3, 172), (3, 181), (3, 226), (3, 291), (3, 299), (3, 308), (3, 317), (3, 326), (3, 334), (3, 342), (3, 350), (3, 359), (3, 368), (3, 369), (3, 370), (3, 371), (3, 372), (3, 373), (3, 374), (3, 375), (3, 376), (3, 377), (3, 378), (0, 0), (0, 0), (0, 0), (0, 0), (0, 0), (0, 0), (0, 0), (0, 0)]) rfl hP rfl 30 (by decide) (hts _ (wg_t kw_1462)) (fun _ h9 => h9) (cd := (0, 0)) rfl dMH_verify_463 (fun v37 hv37 => ?_)
                          obtain rfl := (show v37 = .int (s34.1 225 30) from hv37)
                          obtain ⟨z32, ez31, hz41, hz42⟩ := cl_of (b := 2147483648) hf152 (by omega) (by decide)
                          replace hR := bnd_step hR ez31
                          replace hE := bndP_step hE ez31
                          refine mi_as hz41 ?_
                          subst hz42
                          refine mi_ge (tgt := 494) hx hb dMH_verify_466 (by decide) (by omega) (by omega) (fun h28 => ?_) (fun h28 => absurd h28 (by omega))
                          refine lv_iconst (v := nI 1) hx hb dMH_verify_494 (by decide) ?_
                          exact mp_zret hx hb hr hlk rfl hP hD hS ((nI 1, s34), pl) ⟨⟨hR.symm, rfl, hF, trivial⟩, hO⟩ [] rfl rfl rfl (by omega) (by omega) dMH_verify_495
                        | succ n25 ih25 =>
                          intro i25 s34 pl ls H locs hm25 hF hf153 hf154 hf155 hf156 hf157 hf158 hf159 hf160 hE hR hl hO hP hD hS
                          refine lv_iload hx hb dMH_verify_460 (lv_at hl 0 rfl) ?_
                          refine lv_aload_n hx hb dMH_verify_462 rfl (lv_at hl 1 rfl) ?_
                          refine nw_get (C := "LatticeKeysModel$Hands") (TT := T_MH) (N := 31) hx hb hts (wg_ft i_MH) hown hK hO k_h0 (kn := 225) (ci := 12) (fl := [(3, 172), (3, 181), (3, 226), (3, 291), (3, 299), (3, 308), (3, 317), (3, 326), (3, 334), (3, 342), (3, 350), (3, 359), (3, 368), (3, 369), (3, 370), (3, 371), (3, 372), (3, 373), (3, 374), (3, 375), (3, 376), (3, 377), (3, 378), (0, 0), (0, 0), (0, 0), (0, 0), (0, 0), (0, 0), (0, 0), (0, 0)]) rfl hP rfl 30 (by decide) (hts _ (wg_t kw_1462)) (fun _ h9 => h9) (cd := (0, 0)) rfl dMH_verify_463 (fun v38 hv38 => ?_)
                          obtain rfl := (show v38 = .int (s34.1 225 30) from hv38)
                          obtain ⟨z33, ez32, hz43, hz44⟩ := cl_of (b := 2147483648) hf160 (by omega) (by decide)
                          replace hR := bnd_step hR ez32
                          replace hE := bndP_step hE ez32
                          refine mi_as hz43 ?_
                          subst hz44
                          refine mi_ge (tgt := 494) hx hb dMH_verify_466 (by decide) (by omega) (by omega) (fun h29 => absurd h29 (by omega)) (fun h29 => ?_)
                          refine lv_aload_n hx hb dMH_verify_469 rfl (lv_at hl 1 rfl) ?_
                          refine nw_get (C := "LatticeKeysModel$Hands") (TT := T_MH) (N := 31) hx hb hts (wg_ft i_MH) hown hK hO k_h0 (kn := 225) (ci := 12) (fl := [(3, 172), (3, 181), (3, 226), (3, 291), (3, 299), (3, 308), (3, 317), (3, 326), (3, 334), (3, 342), (3, 350), (3, 359), (3, 368), (3, 369), (3, 370), (3, 371), (3, 372), (3, 373), (3, 374), (3, 375), (3, 376), (3, 377), (3, 378), (0, 0), (0, 0), (0, 0), (0, 0), (0, 0), (0, 0), (0, 0), (0, 0)]) rfl hP rfl 21 (by decide) (hts _ (wg_t kw_1453)) (fun _ h9 => h9) (cd := (3, 377)) rfl dMH_verify_470 (fun v39 hv39 => ?_)
                          obtain ⟨r32, rfl, kr29⟩ := (show ∃ r : Nat, v39 = .ref r ∧ T r = some 377 from hv39)
                          refine lv_iload hx hb dMH_verify_473 (lv_at hl 0 rfl) ?_
                          refine nw_bald hx hb hK hO kr29 (k := 377) rfl hP (by omega) (by omega) dMH_verify_475 ?_
                          refine lv_aload_n hx hb dMH_verify_476 rfl (lv_at hl 1 rfl) ?_
                          refine nw_get (C := "LatticeKeysModel$Hands") (TT := T_MH) (N := 31) hx hb hts (wg_ft i_MH) hown hK hO k_h0 (kn := 225) (ci := 12) (fl := [(3, 172), (3, 181), (3, 226), (3, 291), (3, 299), (3, 308), (3, 317), (3, 326), (3, 334), (3, 342), (3, 350), (3, 359), (3, 368), (3, 369), (3, 370), (3, 371), (3, 372), (3, 373), (3, 374), (3, 375), (3, 376), (3, 377), (3, 378), (0, 0), (0, 0), (0, 0), (0, 0), (0, 0), (0, 0), (0, 0), (0, 0)]) rfl hP rfl 20 (by decide) (hts _ (wg_t kw_1452)) (fun _ h9 => h9) (cd := (3, 376)) rfl dMH_verify_477 (fun v40 hv40 => ?_)
                          obtain ⟨r33, rfl, kr30⟩ := (show ∃ r : Nat, v40 = .ref r ∧ T r = some 376 from hv40)
                          refine lv_iload hx hb dMH_verify_480 (lv_at hl 0 rfl) ?_
                          refine nw_bald hx hb hK hO kr30 (k := 376) rfl hP (by omega) (by omega) dMH_verify_482 ?_
                          refine lv_icmp_eq (tgt := 488) hx hb dMH_verify_483 (by decide) (fun h30 => ?_) (fun h30 => ?_)
                          · replace hR := hR.trans (if_pos h30)
                            replace hE := iteP_pos h30 hE
                            refine mi_iinc (k := 0) (x := i25) (d := 1) (y := i25 + 1) (lv' := [(9, .int (nI (i25 + 1))), (0, .ref h0)]) hx hb dMH_verify_488 hl rfl (by decide) rfl (by decide) rfl (fun ls hl => ?_)
                            refine lv_goto (tgt := 460) hx hb dMH_verify_491 (by decide) ?_
                            exact ih25 (i25 + 1) s34 pl ls H locs (by omega) hF hf153 hf154 hf155 hf156 hf157 hf158 hf159 hf160 hE hR (lv_sub hl [0, 1] rfl) hO hP hD hS
                          · replace hR := hR.trans (if_neg h30)
                            replace hE := iteP_neg h30 hE
                            refine lv_iconst (v := nI 0) hx hb dMH_verify_486 (by decide) ?_
                            exact mp_zret hx hb hr hlk rfl hP hD hS ((nI 0, s34), pl) ⟨⟨hR.symm, rfl, hF, trivial⟩, hO⟩ [] rfl rfl rfl (by omega) (by omega) dMH_verify_487
                      exact lp25 48 0 s33 pl ls _ _ (by omega) hF hf137 hf138 hf139 hf140 hf141 hf142 hf143 hf144 hE hR (lv_sub hl [0, 1] rfl) hO hP hD hS
                    | succ n24 ih24 =>
                      intro i24 s32 pl ls H locs hm24 hF hf161 hf162 hf163 hf164 hf165 hf166 hf167 hf168 hE hR hl hO hP hD hS
                      refine lv_iload hx hb dMH_verify_306 (lv_at hl 0 rfl) ?_
                      refine lv_aload_n hx hb dMH_verify_308 rfl (lv_at hl 1 rfl) ?_
                      refine nw_get (C := "LatticeKeysModel$Hands") (TT := T_MH) (N := 31) hx hb hts (wg_ft i_MH) hown hK hO k_h0 (kn := 225) (ci := 12) (fl := [(3, 172), (3, 181), (3, 226), (3, 291), (3, 299), (3, 308), (3, 317), (3, 326), (3, 334), (3, 342), (3, 350), (3, 359), (3, 368), (3, 369), (3, 370), (3, 371), (3, 372), (3, 373), (3, 374), (3, 375), (3, 376), (3, 377), (3, 378), (0, 0), (0, 0), (0, 0), (0, 0), (0, 0), (0, 0), (0, 0), (0, 0)]) rfl hP rfl 24 (by decide) (hts _ (wg_t kw_1456)) (fun _ h9 => h9) (cd := (0, 0)) rfl dMH_verify_309 (fun v41 hv41 => ?_)
                      obtain rfl := (show v41 = .int (s32.1 225 24) from hv41)
                      obtain ⟨z34, ez33, hz45, hz46⟩ := cl_of (b := 2147483648) hf162 (by omega) (by decide)
                      replace hR := bnd_step hR ez33
                      replace hE := bndP_step hE ez33
                      refine mi_as hz45 ?_
                      subst hz46
                      refine mi_ge (tgt := 448) hx hb dMH_verify_312 (by decide) (by omega) (by omega) (fun h31 => absurd h31 (by omega)) (fun h31 => ?_)
                      refine lv_aload_n hx hb dMH_verify_315 rfl (lv_at hl 1 rfl) ?_
                      refine lv_iload hx hb dMH_verify_316 (lv_at hl 0 rfl) ?_
                      refine lv_aload_n hx hb dMH_verify_318 rfl (lv_at hl 1 rfl) ?_
                      refine nw_get (C := "LatticeKeysModel$Hands") (TT := T_MH) (N := 31) hx hb hts (wg_ft i_MH) hown hK hO k_h0 (kn := 225) (ci := 12) (fl := [(3, 172), (3, 181), (3, 226), (3, 291), (3, 299), (3, 308), (3, 317), (3, 326), (3, 334), (3, 342), (3, 350), (3, 359), (3, 368), (3, 369), (3, 370), (3, 371), (3, 372), (3, 373), (3, 374), (3, 375), (3, 376), (3, 377), (3, 378), (0, 0), (0, 0), (0, 0), (0, 0), (0, 0), (0, 0), (0, 0), (0, 0)]) rfl hP rfl 10 (by decide) (hts _ (wg_t kw_1442)) (fun _ h9 => h9) (cd := (3, 350)) rfl dMH_verify_319 (fun v42 hv42 => ?_)
                      obtain ⟨r34, rfl, kr31⟩ := (show ∃ r : Nat, v42 = .ref r ∧ T r = some 350 from hv42)
                      refine lv_iload hx hb dMH_verify_322 (lv_at hl 0 rfl) ?_
                      refine nw_aald3 hx hb hK hO kr31 (k := 350) (b := 351) rfl hP (by omega) (by omega) dMH_verify_324 (fun r35 kr32 => ?_)
                      have hn21 : nsp (351 + i24) = (0, 256, []) := rows_ok 351 8 (by decide) _ (by omega)
                      refine mp_v (cx := []) (wr := []) hP hD hS hA [] [] rfl rfl rfl (by decide) (va_runV (As := [.int (nI i24), .ref r35]) (rest := []) F (N_MH_rowBy_1 l g _ T s32 pl hO hU h0 r35 i24 (351 + i24) k_h0 kr32 hn21 hf161 hf162 hf163 hf164 hf165 hf166 hf167 hf168 (by omega)) (cwV 2 hts (wg_app (wg_c kw_1730 (wg_c kw_1732 (wg_c ks_63 (wg_c kw_13 wg_n)))) kw_1733) rfl rfl rfl (by decide +kernel) ⟨by decide, by decide⟩) (pn_V (en_ok g) (ci := 12) (kn := 225) (fl := [(3, 172), (3, 181), (3, 226), (3, 291), (3, 299), (3, 308), (3, 317), (3, 326), (3, 334), (3, 342), (3, 350), (3, 359), (3, 368), (3, 369), (3, 370), (3, 371), (3, 372), (3, 373), (3, 374), (3, 375), (3, 376), (3, 377), (3, 378), (0, 0), (0, 0), (0, 0), (0, 0), (0, 0), (0, 0), (0, 0), (0, 0)]) hK hO k_h0 rfl hP hD hS hA hEn [] rfl rfl rfl) rfl rfl hl.1 rfl (lv_room (Nat.le_of_ble_eq_true rfl)) dMH_verify_325 ⟨by omega, by omega⟩) (fun  u33 H locs hu33 hP hD hS => ?_)
                      obtain ⟨s35, pl⟩ := u33
                      obtain ⟨⟨eq33, hFc33, -⟩, hO⟩ := hu33
                      have hO : okn g T s35 pl := hO
                      have hP : va_P g.1 vcl ([] ++ pl) _ := hP
                      have hD : va_D _ ([] ++ pl) := hD
                      have hFc33 : frm (M_MH_rowBy_1 (351 + i24)) s32 s35 := hFc33
                      replace hR := bnd_step hR eq33
                      replace hE := bndP_step hE eq33
                      have hF := frm_tr hF hFc33 (fun k hk => by unfold M_MH_rowBy_1 at hk; unfold M_MH_verify_1; omega)
                      have hf169 : s35.1 225 23 = nI 1 := fc_F hf161 hFc33 (by unfold M_MH_rowBy_1; omega)
                      have hf170 : s35.1 225 24 = nI 6 := fc_F hf162 hFc33 (by unfold M_MH_rowBy_1; omega)
                      have hf171 : s35.1 225 25 = nI 5 := fc_F hf163 hFc33 (by unfold M_MH_rowBy_1; omega)
                      have hf172 : s35.1 225 26 = nI 4 := fc_F hf164 hFc33 (by unfold M_MH_rowBy_1; omega)
                      have hf173 : s35.1 225 27 = nI 524288 := fc_F hf165 hFc33 (by unfold M_MH_rowBy_1; omega)
                      have hf174 : s35.1 225 28 = nI 261888 := fc_F hf166 hFc33 (by unfold M_MH_rowBy_1; omega)
                      have hf175 : s35.1 225 29 = nI 196 := fc_F hf167 hFc33 (by unfold M_MH_rowBy_1; omega)
                      have hf176 : s35.1 225 30 = nI 48 := fc_F hf168 hFc33 (by unfold M_MH_rowBy_1; omega)
                      refine W.widen (k := 0) (n := 0) (by omega) (by omega) ?_
                      refine lv_iconst (v := nI 0) hx hb dMH_verify_328 (by decide) ?_
                      refine lv_istore (lv' := [(10, .int (nI 0)), (9, .int (nI i24)), (0, .ref h0), (2, .ref pk)]) hx hb dMH_verify_329 hl (by decide) rfl (fun ls hl => ?_)
                      have lp26 : ∀ (n26 : Nat) (i26 : Nat) (s36 : Sto) (pl : va_W) (ls : Array Slot) (H : Heap) (locs : List Loc), n26 + i26 = 256 → frm (M_MH_verify_1) s s36 → s36.1 225 23 = nI 1 → s36.1 225 24 = nI 6 → s36.1 225 25 = nI 5 → s36.1 225 26 = nI 4 → s36.1 225 27 = nI 524288 → s36.1 225 28 = nI 261888 → s36.1 225 29 = nI 196 → s36.1 225 30 = nI 48 → E_MH_verify_1_L5 pp i24 (E_MH_verify_1_L3 pp n24) n26 i26 s36 → F_MH_verify_1 pp pb cl_ ed s = F_MH_verify_1_L5 pp i24 (F_MH_verify_1_L3 pp n24) n26 i26 s36 → lv_has ls 11 [(10, .int (nI i26)), (9, .int (nI i24)), (0, .ref h0), (2, .ref pk)] → okn g T s36 pl → va_P g.1 vcl ([] ++ pl) H → va_D A ([] ++ pl) → va_S A s0.heap H locs → W p l e ({ frames := 5, cells := 0, slots := 0, locals := 116 } : Room) s0 m args below meth c H locs 0 0 (MQ below (va_Qi (fun (r : Int32) (u : (Int32 × Sto) × va_W) => (u.1 = F_MH_verify_1 pp pb cl_ ed s ∧ r = u.1.1 ∧ frm (M_MH_verify_1) s u.1.2 ∧ True) ∧ okn g T u.1.2 u.2) (po g.1 vcl A (fun (u : (Int32 × Sto) × va_W) => [] ++ u.2)) A) args s0 0 0 A) (F0 m 331 ls []) := by
                        intro n26
                        induction n26 with
                        | zero =>
                          intro i26 s36 pl ls H locs hm26 hF hf177 hf178 hf179 hf180 hf181 hf182 hf183 hf184 hE hR hl hO hP hD hS
                          refine lv_iload hx hb dMH_verify_331 (lv_at hl 0 rfl) ?_
                          refine lv_sipush (v := nI 256) hx hb dMH_verify_333 (by decide) ?_
                          refine mi_ge (tgt := 380) hx hb dMH_verify_336 (by decide) (by omega) (by omega) (fun h32 => ?_) (fun h32 => absurd h32 (by omega))
                          refine lv_aload_n hx hb dMH_verify_380 rfl (lv_at hl 2 rfl) ?_
                          refine lv_aload_n hx hb dMH_verify_381 rfl (lv_at hl 2 rfl) ?_
                          refine nw_get (C := "LatticeKeysModel$Hands") (TT := T_MH) (N := 31) hx hb hts (wg_ft i_MH) hown hK hO k_h0 (kn := 225) (ci := 12) (fl := [(3, 172), (3, 181), (3, 226), (3, 291), (3, 299), (3, 308), (3, 317), (3, 326), (3, 334), (3, 342), (3, 350), (3, 359), (3, 368), (3, 369), (3, 370), (3, 371), (3, 372), (3, 373), (3, 374), (3, 375), (3, 376), (3, 377), (3, 378), (0, 0), (0, 0), (0, 0), (0, 0), (0, 0), (0, 0), (0, 0), (0, 0)]) rfl hP rfl 6 (by decide) (hts _ (wg_t kw_1438)) (fun _ h9 => h9) (cd := (3, 317)) rfl dMH_verify_382 (fun v43 hv43 => ?_)
                          obtain ⟨r36, rfl, kr33⟩ := (show ∃ r : Nat, v43 = .ref r ∧ T r = some 317 from hv43)
                          refine lv_iload hx hb dMH_verify_385 (lv_at hl 1 rfl) ?_
                          refine nw_aald3 hx hb hK hO kr33 (k := 317) (b := 318) rfl hP (by omega) (by omega) dMH_verify_387 (fun r37 kr34 => ?_)
                          have hn22 : nsp (318 + i24) = (0, 256, []) := rows_ok 318 8 (by decide) _ (by omega)
                          refine lv_aload_n hx hb dMH_verify_388 rfl (lv_at hl 2 rfl) ?_
                          refine nw_get (C := "LatticeKeysModel$Hands") (TT := T_MH) (N := 31) hx hb hts (wg_ft i_MH) hown hK hO k_h0 (kn := 225) (ci := 12) (fl := [(3, 172), (3, 181), (3, 226), (3, 291), (3, 299), (3, 308), (3, 317), (3, 326), (3, 334), (3, 342), (3, 350), (3, 359), (3, 368), (3, 369), (3, 370), (3, 371), (3, 372), (3, 373), (3, 374), (3, 375), (3, 376), (3, 377), (3, 378), (0, 0), (0, 0), (0, 0), (0, 0), (0, 0), (0, 0), (0, 0), (0, 0)]) rfl hP rfl 13 (by decide) (hts _ (wg_t kw_1445)) (fun _ h9 => h9) (cd := (3, 369)) rfl dMH_verify_389 (fun v44 hv44 => ?_)
                          obtain ⟨r38, rfl, kr35⟩ := (show ∃ r : Nat, v44 = .ref r ∧ T r = some 369 from hv44)
                          refine mp_v (cx := []) (wr := []) hP hD hS hA [] [] rfl rfl rfl (by decide) (va_runV (As := [.ref r37, .ref r38]) (rest := []) F (N_MH_turned_1 l g _ T s36 pl hO hU h0 r37 r38 (318 + i24) 369 k_h0 kr34 hn22 kr35 rfl hf177 hf178 hf179 hf180 hf181 hf182 hf183 hf184) (cwV 2 hts (wg_app (wg_c kw_1897 (wg_c kw_1899 (wg_c ks_79 (wg_c kw_13 wg_n)))) kw_1900) rfl rfl rfl (by decide +kernel) ⟨by decide, by decide⟩) (pn_V (en_ok g) (ci := 12) (kn := 225) (fl := [(3, 172), (3, 181), (3, 226), (3, 291), (3, 299), (3, 308), (3, 317), (3, 326), (3, 334), (3, 342), (3, 350), (3, 359), (3, 368), (3, 369), (3, 370), (3, 371), (3, 372), (3, 373), (3, 374), (3, 375), (3, 376), (3, 377), (3, 378), (0, 0), (0, 0), (0, 0), (0, 0), (0, 0), (0, 0), (0, 0), (0, 0)]) hK hO k_h0 rfl hP hD hS hA hEn [] rfl rfl rfl) rfl rfl hl.1 rfl (lv_room (Nat.le_of_ble_eq_true rfl)) dMH_verify_392 ⟨by omega, by omega⟩) (fun  u34 H locs hu34 hP hD hS => ?_)
                          obtain ⟨s37, pl⟩ := u34
                          obtain ⟨⟨eq34, hFc34, -⟩, hO⟩ := hu34
                          have hO : okn g T s37 pl := hO
                          have hP : va_P g.1 vcl ([] ++ pl) _ := hP
                          have hD : va_D _ ([] ++ pl) := hD
                          have hFc34 : frm (M_MH_turned_1 369) s36 s37 := hFc34
                          replace hR := bnd_step hR eq34
                          replace hE := bndP_step hE eq34
                          have hF := frm_tr hF hFc34 (fun k hk => by unfold M_MH_turned_1 at hk; unfold M_MH_verify_1; omega)
                          have hf185 : s37.1 225 23 = nI 1 := fc_F hf177 hFc34 (by unfold M_MH_turned_1; omega)
                          have hf186 : s37.1 225 24 = nI 6 := fc_F hf178 hFc34 (by unfold M_MH_turned_1; omega)
                          have hf187 : s37.1 225 25 = nI 5 := fc_F hf179 hFc34 (by unfold M_MH_turned_1; omega)
                          have hf188 : s37.1 225 26 = nI 4 := fc_F hf180 hFc34 (by unfold M_MH_turned_1; omega)
                          have hf189 : s37.1 225 27 = nI 524288 := fc_F hf181 hFc34 (by unfold M_MH_turned_1; omega)
                          have hf190 : s37.1 225 28 = nI 261888 := fc_F hf182 hFc34 (by unfold M_MH_turned_1; omega)
                          have hf191 : s37.1 225 29 = nI 196 := fc_F hf183 hFc34 (by unfold M_MH_turned_1; omega)
                          have hf192 : s37.1 225 30 = nI 48 := fc_F hf184 hFc34 (by unfold M_MH_turned_1; omega)
                          refine W.widen (k := 0) (n := 0) (by omega) (by omega) ?_
                          refine lv_iconst (v := nI 0) hx hb dMH_verify_395 (by decide) ?_
                          refine lv_istore (lv' := [(10, .int (nI 0)), (9, .int (nI i24)), (0, .ref h0), (2, .ref pk)]) hx hb dMH_verify_396 hl (by decide) rfl (fun ls hl => ?_)
                          have lp27 : ∀ (n27 : Nat) (i27 : Nat) (s38 : Sto) (pl : va_W) (ls : Array Slot) (H : Heap) (locs : List Loc), n27 + i27 = 256 → frm (M_MH_verify_1) s s38 → s38.1 225 23 = nI 1 → s38.1 225 24 = nI 6 → s38.1 225 25 = nI 5 → s38.1 225 26 = nI 4 → s38.1 225 27 = nI 524288 → s38.1 225 28 = nI 261888 → s38.1 225 29 = nI 196 → s38.1 225 30 = nI 48 → E_MH_verify_1_L6 i24 (E_MH_verify_1_L3 pp n24) n27 i27 s38 → F_MH_verify_1 pp pb cl_ ed s = F_MH_verify_1_L6 i24 (F_MH_verify_1_L3 pp n24) n27 i27 s38 → lv_has ls 11 [(10, .int (nI i27)), (9, .int (nI i24)), (0, .ref h0), (2, .ref pk)] → okn g T s38 pl → va_P g.1 vcl ([] ++ pl) H → va_D A ([] ++ pl) → va_S A s0.heap H locs → W p l e ({ frames := 5, cells := 0, slots := 0, locals := 116 } : Room) s0 m args below meth c H locs 0 0 (MQ below (va_Qi (fun (r : Int32) (u : (Int32 × Sto) × va_W) => (u.1 = F_MH_verify_1 pp pb cl_ ed s ∧ r = u.1.1 ∧ frm (M_MH_verify_1) s u.1.2 ∧ True) ∧ okn g T u.1.2 u.2) (po g.1 vcl A (fun (u : (Int32 × Sto) × va_W) => [] ++ u.2)) A) args s0 0 0 A) (F0 m 398 ls []) := by
                            intro n27
                            induction n27 with
                            | zero =>
                              intro i27 s38 pl ls H locs hm27 hF hf193 hf194 hf195 hf196 hf197 hf198 hf199 hf200 hE hR hl hO hP hD hS
                              refine lv_iload hx hb dMH_verify_398 (lv_at hl 0 rfl) ?_
                              refine lv_sipush (v := nI 256) hx hb dMH_verify_400 (by decide) ?_
                              refine mi_ge (tgt := 442) hx hb dMH_verify_403 (by decide) (by omega) (by omega) (fun h33 => ?_) (fun h33 => absurd h33 (by omega))
                              refine mi_iinc (k := 1) (x := i24) (d := 1) (y := i24 + 1) (lv' := [(9, .int (nI (i24 + 1))), (10, .int (nI i27)), (0, .ref h0), (2, .ref pk)]) hx hb dMH_verify_442 hl rfl (by decide) rfl (by decide) rfl (fun ls hl => ?_)
                              refine lv_goto (tgt := 306) hx hb dMH_verify_445 (by decide) ?_
                              exact ih24 (i24 + 1) s38 pl ls H locs (by omega) hF hf193 hf194 hf195 hf196 hf197 hf198 hf199 hf200 hE hR (lv_sub hl [0, 2, 3] rfl) hO hP hD hS
                            | succ n27 ih27 =>
                              intro i27 s38 pl ls H locs hm27 hF hf201 hf202 hf203 hf204 hf205 hf206 hf207 hf208 hE hR hl hO hP hD hS
                              refine lv_iload hx hb dMH_verify_398 (lv_at hl 0 rfl) ?_
                              refine lv_sipush (v := nI 256) hx hb dMH_verify_400 (by decide) ?_
                              refine mi_ge (tgt := 442) hx hb dMH_verify_403 (by decide) (by omega) (by omega) (fun h34 => absurd h34 (by omega)) (fun h34 => ?_)
                              refine lv_aload_n hx hb dMH_verify_406 rfl (lv_at hl 2 rfl) ?_
                              refine nw_get (C := "LatticeKeysModel$Hands") (TT := T_MH) (N := 31) hx hb hts (wg_ft i_MH) hown hK hO k_h0 (kn := 225) (ci := 12) (fl := [(3, 172), (3, 181), (3, 226), (3, 291), (3, 299), (3, 308), (3, 317), (3, 326), (3, 334), (3, 342), (3, 350), (3, 359), (3, 368), (3, 369), (3, 370), (3, 371), (3, 372), (3, 373), (3, 374), (3, 375), (3, 376), (3, 377), (3, 378), (0, 0), (0, 0), (0, 0), (0, 0), (0, 0), (0, 0), (0, 0), (0, 0)]) rfl hP rfl 10 (by decide) (hts _ (wg_t kw_1442)) (fun _ h9 => h9) (cd := (3, 350)) rfl dMH_verify_407 (fun v45 hv45 => ?_)
                              obtain ⟨r39, rfl, kr36⟩ := (show ∃ r : Nat, v45 = .ref r ∧ T r = some 350 from hv45)
                              refine lv_iload hx hb dMH_verify_410 (lv_at hl 1 rfl) ?_
                              refine nw_aald3 hx hb hK hO kr36 (k := 350) (b := 351) rfl hP (by omega) (by omega) dMH_verify_412 (fun r40 kr37 => ?_)
                              have hn23 : nsp (351 + i24) = (0, 256, []) := rows_ok 351 8 (by decide) _ (by omega)
                              refine lv_iload hx hb dMH_verify_413 (lv_at hl 0 rfl) ?_
                              refine lv_aload_n hx hb dMH_verify_415 rfl (lv_at hl 2 rfl) ?_
                              refine nw_get (C := "LatticeKeysModel$Hands") (TT := T_MH) (N := 31) hx hb hts (wg_ft i_MH) hown hK hO k_h0 (kn := 225) (ci := 12) (fl := [(3, 172), (3, 181), (3, 226), (3, 291), (3, 299), (3, 308), (3, 317), (3, 326), (3, 334), (3, 342), (3, 350), (3, 359), (3, 368), (3, 369), (3, 370), (3, 371), (3, 372), (3, 373), (3, 374), (3, 375), (3, 376), (3, 377), (3, 378), (0, 0), (0, 0), (0, 0), (0, 0), (0, 0), (0, 0), (0, 0), (0, 0)]) rfl hP rfl 10 (by decide) (hts _ (wg_t kw_1442)) (fun _ h9 => h9) (cd := (3, 350)) rfl dMH_verify_416 (fun v46 hv46 => ?_)
                              obtain ⟨r41, rfl, kr38⟩ := (show ∃ r : Nat, v46 = .ref r ∧ T r = some 350 from hv46)
                              refine lv_iload hx hb dMH_verify_419 (lv_at hl 1 rfl) ?_
                              refine nw_aald3 hx hb hK hO kr38 (k := 350) (b := 351) rfl hP (by omega) (by omega) dMH_verify_421 (fun r42 kr39 => ?_)
                              have hn24 : nsp (351 + i24) = (0, 256, []) := rows_ok 351 8 (by decide) _ (by omega)
                              refine lv_iload hx hb dMH_verify_422 (lv_at hl 0 rfl) ?_
                              refine nw_iald hx hb hK hO kr39 (k := (351 + i24)) hn24 hP (by omega) (by omega) dMH_verify_424 ?_
                              refine lv_aload_n hx hb dMH_verify_425 rfl (lv_at hl 2 rfl) ?_
                              refine nw_get (C := "LatticeKeysModel$Hands") (TT := T_MH) (N := 31) hx hb hts (wg_ft i_MH) hown hK hO k_h0 (kn := 225) (ci := 12) (fl := [(3, 172), (3, 181), (3, 226), (3, 291), (3, 299), (3, 308), (3, 317), (3, 326), (3, 334), (3, 342), (3, 350), (3, 359), (3, 368), (3, 369), (3, 370), (3, 371), (3, 372), (3, 373), (3, 374), (3, 375), (3, 376), (3, 377), (3, 378), (0, 0), (0, 0), (0, 0), (0, 0), (0, 0), (0, 0), (0, 0), (0, 0)]) rfl hP rfl 13 (by decide) (hts _ (wg_t kw_1445)) (fun _ h9 => h9) (cd := (3, 369)) rfl dMH_verify_426 (fun v47 hv47 => ?_)
                              obtain ⟨r43, rfl, kr40⟩ := (show ∃ r : Nat, v47 = .ref r ∧ T r = some 369 from hv47)
                              refine lv_iload hx hb dMH_verify_429 (lv_at hl 0 rfl) ?_
                              refine nw_iald hx hb hK hO kr40 (k := 369) rfl hP (by omega) (by omega) dMH_verify_431 ?_
                              refine mp_i (cx := []) (wr := []) hP hD hS hA [] [] rfl rfl rfl (by decide) (va_runS (As := [.int ((s38.1 ((351 + i24)) i27)), .int ((s38.1 369 i27))]) (rest := [.int (nI i27), .ref r40]) F (N_MH_minus l g _ T s38 pl hO hU (s38.1 ((351 + i24)) i27) (s38.1 369 i27)) (va_cwS 2 hts (wg_app (wg_c kw_1861 (wg_c kw_1862 (wg_c kw_13 wg_n))) kw_1863) rfl rfl rfl (by decide +kernel) ⟨by decide, by decide⟩) (pp_S (en_ok g) hP hD hS hA hEn [] rfl rfl) rfl rfl hl.1 rfl (lv_room (Nat.le_of_ble_eq_true rfl)) dMH_verify_432 ⟨by omega, by omega⟩) (fun r44 u35 H locs hu35 hP hD hS => ?_)
                              obtain ⟨q24, pl⟩ := u35
                              obtain ⟨⟨eq35, rfl, hFc35, -⟩, hO⟩ := hu35
                              have hO : okn g T q24.2 pl := hO
                              have hP : va_P g.1 vcl ([] ++ pl) _ := hP
                              have hD : va_D _ ([] ++ pl) := hD
                              have hFc35 : frm (M_MH_minus) s38 q24.2 := hFc35
                              replace hR := bnd_step hR eq35
                              replace hE := bndP_step hE eq35
                              have hF := frm_tr hF hFc35 (fun k hk => by unfold M_MH_minus at hk; unfold M_MH_verify_1; omega)
                              have hf209 : q24.2.1 225 23 = nI 1 := fc_F hf201 hFc35 (by unfold M_MH_minus; omega)
                              have hf210 : q24.2.1 225 24 = nI 6 := fc_F hf202 hFc35 (by unfold M_MH_minus; omega)
                              have hf211 : q24.2.1 225 25 = nI 5 := fc_F hf203 hFc35 (by unfold M_MH_minus; omega)
                              have hf212 : q24.2.1 225 26 = nI 4 := fc_F hf204 hFc35 (by unfold M_MH_minus; omega)
                              have hf213 : q24.2.1 225 27 = nI 524288 := fc_F hf205 hFc35 (by unfold M_MH_minus; omega)
                              have hf214 : q24.2.1 225 28 = nI 261888 := fc_F hf206 hFc35 (by unfold M_MH_minus; omega)
                              have hf215 : q24.2.1 225 29 = nI 196 := fc_F hf207 hFc35 (by unfold M_MH_minus; omega)
                              have hf216 : q24.2.1 225 30 = nI 48 := fc_F hf208 hFc35 (by unfold M_MH_minus; omega)
                              refine W.widen (k := 0) (n := 0) (by omega) (by omega) ?_
                              refine nw_iast hx hb hK hO hU kr37 (k := (351 + i24)) hn23 hP hD hS (by omega) (by omega) dMH_verify_435 (fun s39 pl H locs es21 hO hP hD hS => ?_)
                              replace hR := bnd_step hR es21
                              replace hE := bndP_step hE es21
                              have hF := frm_sI hF es21 (by unfold M_MH_verify_1; omega)
                              have hf217 : s39.1 225 23 = nI 1 := fc_ne hf209 es21 (by omega)
                              have hf218 : s39.1 225 24 = nI 6 := fc_ne hf210 es21 (by omega)
                              have hf219 : s39.1 225 25 = nI 5 := fc_ne hf211 es21 (by omega)
                              have hf220 : s39.1 225 26 = nI 4 := fc_ne hf212 es21 (by omega)
                              have hf221 : s39.1 225 27 = nI 524288 := fc_ne hf213 es21 (by omega)
                              have hf222 : s39.1 225 28 = nI 261888 := fc_ne hf214 es21 (by omega)
                              have hf223 : s39.1 225 29 = nI 196 := fc_ne hf215 es21 (by omega)
                              have hf224 : s39.1 225 30 = nI 48 := fc_ne hf216 es21 (by omega)
                              refine mi_iinc (k := 0) (x := i27) (d := 1) (y := i27 + 1) (lv' := [(10, .int (nI (i27 + 1))), (9, .int (nI i24)), (0, .ref h0), (2, .ref pk)]) hx hb dMH_verify_436 hl rfl (by decide) rfl (by decide) rfl (fun ls hl => ?_)
                              refine lv_goto (tgt := 398) hx hb dMH_verify_439 (by decide) ?_
                              exact ih27 (i27 + 1) s39 pl ls H locs (by omega) hF hf217 hf218 hf219 hf220 hf221 hf222 hf223 hf224 hE hR (lv_sub hl [0, 1, 2, 3] rfl) hO hP hD hS
                          exact lp27 256 0 s37 pl ls _ _ (by omega) hF hf185 hf186 hf187 hf188 hf189 hf190 hf191 hf192 hE hR (lv_sub hl [0, 1, 2, 3] rfl) hO hP hD hS
                        | succ n26 ih26 =>
                          intro i26 s36 pl ls H locs hm26 hF hf225 hf226 hf227 hf228 hf229 hf230 hf231 hf232 hE hR hl hO hP hD hS
                          refine lv_iload hx hb dMH_verify_331 (lv_at hl 0 rfl) ?_
                          refine lv_sipush (v := nI 256) hx hb dMH_verify_333 (by decide) ?_
                          refine mi_ge (tgt := 380) hx hb dMH_verify_336 (by decide) (by omega) (by omega) (fun h35 => absurd h35 (by omega)) (fun h35 => ?_)
                          refine lv_aload_n hx hb dMH_verify_339 rfl (lv_at hl 2 rfl) ?_
                          refine nw_get (C := "LatticeKeysModel$Hands") (TT := T_MH) (N := 31) hx hb hts (wg_ft i_MH) hown hK hO k_h0 (kn := 225) (ci := 12) (fl := [(3, 172), (3, 181), (3, 226), (3, 291), (3, 299), (3, 308), (3, 317), (3, 326), (3, 334), (3, 342), (3, 350), (3, 359), (3, 368), (3, 369), (3, 370), (3, 371), (3, 372), (3, 373), (3, 374), (3, 375), (3, 376), (3, 377), (3, 378), (0, 0), (0, 0), (0, 0), (0, 0), (0, 0), (0, 0), (0, 0), (0, 0)]) rfl hP rfl 6 (by decide) (hts _ (wg_t kw_1438)) (fun _ h9 => h9) (cd := (3, 317)) rfl dMH_verify_340 (fun v48 hv48 => ?_)
                          obtain ⟨r45, rfl, kr41⟩ := (show ∃ r : Nat, v48 = .ref r ∧ T r = some 317 from hv48)
                          refine lv_iload hx hb dMH_verify_343 (lv_at hl 1 rfl) ?_
                          refine nw_aald3 hx hb hK hO kr41 (k := 317) (b := 318) rfl hP (by omega) (by omega) dMH_verify_345 (fun r46 kr42 => ?_)
                          have hn25 : nsp (318 + i24) = (0, 256, []) := rows_ok 318 8 (by decide) _ (by omega)
                          refine lv_iload hx hb dMH_verify_346 (lv_at hl 0 rfl) ?_
                          refine lv_aload_n hx hb dMH_verify_348 rfl (lv_at hl 3 rfl) ?_
                          refine lv_sipush (v := nI 256) hx hb dMH_verify_349 (by decide) ?_
                          refine lv_sipush (v := nI 2560) hx hb dMH_verify_352 (by decide) ?_
                          refine lv_iload hx hb dMH_verify_355 (lv_at hl 1 rfl) ?_
                          refine mi_imul hx hb dMH_verify_357 ?_
                          refine mi_iadd hx hb dMH_verify_358 ?_
                          refine lv_bipush (v := nI 10) hx hb dMH_verify_359 (by decide) ?_
                          refine lv_iload hx hb dMH_verify_361 (lv_at hl 0 rfl) ?_
                          refine mi_imul hx hb dMH_verify_363 ?_
                          refine mi_iadd hx hb dMH_verify_364 ?_
                          refine lv_bipush (v := nI 10) hx hb dMH_verify_365 (by decide) ?_
                          refine mp_i (cx := []) (wr := []) hP hD hS hA [] [] rfl rfl rfl (by decide) (va_runSN (As := [.ref pk, .int (nI ((256 + (2560 * i24)) + (10 * i26))), .int (nI 10)]) (rest := [.int (nI i26), .ref r46]) F (N_M_unpack l g _ T s36 pl hO hU pk pp 2592 ((256 + (2560 * i24)) + (10 * i26)) 10 k_pk n_pk (by omega) (by omega) (by omega)) ⟨va_cnB 3 hts (wg_in kw_1663) rfl rfl rfl (hEn.2.2.2.2.2.2.2.2.2.2) (hts _ (wg_t kw_9)) (by decide +kernel) ⟨by decide, by decide⟩, hts _ (wg_t kw_1662), trivial⟩ (pp_S (en_ok g) hP hD hS hA hEn [] rfl rfl) rfl rfl hl.1 rfl (lv_room (Nat.le_of_ble_eq_true rfl)) dMH_verify_367 ⟨by omega, by omega⟩) (fun r47 u36 H locs hu36 hP hD hS => ?_)
                          obtain ⟨q25, pl⟩ := u36
                          obtain ⟨⟨eq36, rfl, hFc36, -⟩, hO⟩ := hu36
                          have hO : okn g T q25.2 pl := hO
                          have hP : va_P g.1 vcl ([] ++ pl) _ := hP
                          have hD : va_D _ ([] ++ pl) := hD
                          have hFc36 : frm (M_M_unpack) s36 q25.2 := hFc36
                          replace hR := bnd_step hR eq36
                          replace hE := bndP_step hE eq36
                          have hF := frm_tr hF hFc36 (fun k hk => by unfold M_M_unpack at hk; unfold M_MH_verify_1; omega)
                          have hf233 : q25.2.1 225 23 = nI 1 := fc_F hf225 hFc36 (by unfold M_M_unpack; omega)
                          have hf234 : q25.2.1 225 24 = nI 6 := fc_F hf226 hFc36 (by unfold M_M_unpack; omega)
                          have hf235 : q25.2.1 225 25 = nI 5 := fc_F hf227 hFc36 (by unfold M_M_unpack; omega)
                          have hf236 : q25.2.1 225 26 = nI 4 := fc_F hf228 hFc36 (by unfold M_M_unpack; omega)
                          have hf237 : q25.2.1 225 27 = nI 524288 := fc_F hf229 hFc36 (by unfold M_M_unpack; omega)
                          have hf238 : q25.2.1 225 28 = nI 261888 := fc_F hf230 hFc36 (by unfold M_M_unpack; omega)
                          have hf239 : q25.2.1 225 29 = nI 196 := fc_F hf231 hFc36 (by unfold M_M_unpack; omega)
                          have hf240 : q25.2.1 225 30 = nI 48 := fc_F hf232 hFc36 (by unfold M_M_unpack; omega)
                          refine W.widen (k := 0) (n := 0) (by omega) (by omega) ?_
                          refine lv_bipush (v := nI 13) hx hb dMH_verify_370 (by decide) ?_
                          refine lv_ishl hx hb dMH_verify_372 ?_
                          refine nw_iast hx hb hK hO hU kr42 (k := (318 + i24)) hn25 hP hD hS (by omega) (by omega) dMH_verify_373 (fun s40 pl H locs es22 hO hP hD hS => ?_)
                          replace hR := bnd_step hR es22
                          replace hE := bndP_step hE es22
                          have hF := frm_sI hF es22 (by unfold M_MH_verify_1; omega)
                          have hf241 : s40.1 225 23 = nI 1 := fc_ne hf233 es22 (by omega)
                          have hf242 : s40.1 225 24 = nI 6 := fc_ne hf234 es22 (by omega)
                          have hf243 : s40.1 225 25 = nI 5 := fc_ne hf235 es22 (by omega)
                          have hf244 : s40.1 225 26 = nI 4 := fc_ne hf236 es22 (by omega)
                          have hf245 : s40.1 225 27 = nI 524288 := fc_ne hf237 es22 (by omega)
                          have hf246 : s40.1 225 28 = nI 261888 := fc_ne hf238 es22 (by omega)
                          have hf247 : s40.1 225 29 = nI 196 := fc_ne hf239 es22 (by omega)
                          have hf248 : s40.1 225 30 = nI 48 := fc_ne hf240 es22 (by omega)
                          refine mi_iinc (k := 0) (x := i26) (d := 1) (y := i26 + 1) (lv' := [(10, .int (nI (i26 + 1))), (9, .int (nI i24)), (0, .ref h0), (2, .ref pk)]) hx hb dMH_verify_374 hl rfl (by decide) rfl (by decide) rfl (fun ls hl => ?_)
                          refine lv_goto (tgt := 331) hx hb dMH_verify_377 (by decide) ?_
                          exact ih26 (i26 + 1) s40 pl ls H locs (by omega) hF hf241 hf242 hf243 hf244 hf245 hf246 hf247 hf248 hE hR (lv_sub hl [0, 1, 2, 3] rfl) hO hP hD hS
                      exact lp26 256 0 s35 pl ls _ _ (by omega) hF hf169 hf170 hf171 hf172 hf173 hf174 hf175 hf176 hE hR (lv_sub hl [0, 1, 2, 3] rfl) hO hP hD hS
                  exact lp24 6 0 s31 pl ls _ _ (by omega) hF hf121 hf122 hf123 hf124 hf125 hf126 hf127 hf128 hE hR (lv_sub hl [0, 1, 2] rfl) hO hP hD hS
                | succ n23 ih23 =>
                  intro i23 s31 pl ls H locs hm23 hF hf249 hf250 hf251 hf252 hf253 hf254 hf255 hf256 hE hR hl hO hP hD hS
                  refine lv_iload hx hb dMH_verify_265 (lv_at hl 0 rfl) ?_
                  refine lv_aload_n hx hb dMH_verify_267 rfl (lv_at hl 1 rfl) ?_
                  refine nw_get (C := "LatticeKeysModel$Hands") (TT := T_MH) (N := 31) hx hb hts (wg_ft i_MH) hown hK hO k_h0 (kn := 225) (ci := 12) (fl := [(3, 172), (3, 181), (3, 226), (3, 291), (3, 299), (3, 308), (3, 317), (3, 326), (3, 334), (3, 342), (3, 350), (3, 359), (3, 368), (3, 369), (3, 370), (3, 371), (3, 372), (3, 373), (3, 374), (3, 375), (3, 376), (3, 377), (3, 378), (0, 0), (0, 0), (0, 0), (0, 0), (0, 0), (0, 0), (0, 0), (0, 0)]) rfl hP rfl 25 (by decide) (hts _ (wg_t kw_1457)) (fun _ h9 => h9) (cd := (0, 0)) rfl dMH_verify_268 (fun v49 hv49 => ?_)
                  obtain rfl := (show v49 = .int (s31.1 225 25) from hv49)
                  obtain ⟨z35, ez34, hz47, hz48⟩ := cl_of (b := 2147483648) hf251 (by omega) (by decide)
                  replace hR := bnd_step hR ez34
                  replace hE := bndP_step hE ez34
                  refine mi_as hz47 ?_
                  subst hz48
                  refine mi_ge (tgt := 303) hx hb dMH_verify_271 (by decide) (by omega) (by omega) (fun h36 => absurd h36 (by omega)) (fun h36 => ?_)
                  refine lv_aload_n hx hb dMH_verify_274 rfl (lv_at hl 1 rfl) ?_
                  refine nw_get (C := "LatticeKeysModel$Hands") (TT := T_MH) (N := 31) hx hb hts (wg_ft i_MH) hown hK hO k_h0 (kn := 225) (ci := 12) (fl := [(3, 172), (3, 181), (3, 226), (3, 291), (3, 299), (3, 308), (3, 317), (3, 326), (3, 334), (3, 342), (3, 350), (3, 359), (3, 368), (3, 369), (3, 370), (3, 371), (3, 372), (3, 373), (3, 374), (3, 375), (3, 376), (3, 377), (3, 378), (0, 0), (0, 0), (0, 0), (0, 0), (0, 0), (0, 0), (0, 0), (0, 0)]) rfl hP rfl 1 (by decide) (hts _ (wg_t kw_1433)) (fun _ h9 => h9) (cd := (3, 181)) rfl dMH_verify_275 (fun v50 hv50 => ?_)
                  obtain ⟨r48, rfl, kr43⟩ := (show ∃ r : Nat, v50 = .ref r ∧ T r = some 181 from hv50)
                  refine lv_aload_n hx hb dMH_verify_278 rfl (lv_at hl 1 rfl) ?_
                  refine nw_get (C := "LatticeKeysModel$Hands") (TT := T_MH) (N := 31) hx hb hts (wg_ft i_MH) hown hK hO k_h0 (kn := 225) (ci := 12) (fl := [(3, 172), (3, 181), (3, 226), (3, 291), (3, 299), (3, 308), (3, 317), (3, 326), (3, 334), (3, 342), (3, 350), (3, 359), (3, 368), (3, 369), (3, 370), (3, 371), (3, 372), (3, 373), (3, 374), (3, 375), (3, 376), (3, 377), (3, 378), (0, 0), (0, 0), (0, 0), (0, 0), (0, 0), (0, 0), (0, 0), (0, 0)]) rfl hP rfl 8 (by decide) (hts _ (wg_t kw_1440)) (fun _ h9 => h9) (cd := (3, 334)) rfl dMH_verify_279 (fun v51 hv51 => ?_)
                  obtain ⟨r49, rfl, kr44⟩ := (show ∃ r : Nat, v51 = .ref r ∧ T r = some 334 from hv51)
                  refine lv_iload hx hb dMH_verify_282 (lv_at hl 0 rfl) ?_
                  refine nw_aald3 hx hb hK hO kr44 (k := 334) (b := 335) rfl hP (by omega) (by omega) dMH_verify_284 (fun r50 kr45 => ?_)
                  have hn26 : nsp (335 + i23) = (0, 256, []) := rows_ok 335 7 (by decide) _ (by omega)
                  refine lv_aload_n hx hb dMH_verify_285 rfl (lv_at hl 1 rfl) ?_
                  refine nw_get (C := "LatticeKeysModel$Hands") (TT := T_MH) (N := 31) hx hb hts (wg_ft i_MH) hown hK hO k_h0 (kn := 225) (ci := 12) (fl := [(3, 172), (3, 181), (3, 226), (3, 291), (3, 299), (3, 308), (3, 317), (3, 326), (3, 334), (3, 342), (3, 350), (3, 359), (3, 368), (3, 369), (3, 370), (3, 371), (3, 372), (3, 373), (3, 374), (3, 375), (3, 376), (3, 377), (3, 378), (0, 0), (0, 0), (0, 0), (0, 0), (0, 0), (0, 0), (0, 0), (0, 0)]) rfl hP rfl 9 (by decide) (hts _ (wg_t kw_1441)) (fun _ h9 => h9) (cd := (3, 342)) rfl dMH_verify_286 (fun v52 hv52 => ?_)
                  obtain ⟨r51, rfl, kr46⟩ := (show ∃ r : Nat, v52 = .ref r ∧ T r = some 342 from hv52)
                  refine lv_iload hx hb dMH_verify_289 (lv_at hl 0 rfl) ?_
                  refine nw_aald3 hx hb hK hO kr46 (k := 342) (b := 343) rfl hP (by omega) (by omega) dMH_verify_291 (fun r52 kr47 => ?_)
                  have hn27 : nsp (343 + i23) = (0, 256, []) := rows_ok 343 7 (by decide) _ (by omega)
                  refine lv_iconst (v := nI 1) hx hb dMH_verify_292 (by decide) ?_
                  refine lv_iconst (v := nI 0) hx hb dMH_verify_293 (by decide) ?_
                  refine mp_v (cx := []) (wr := []) hP hD hS hA [] [] rfl rfl rfl (by decide) (va_runV (As := [.ref r50, .ref r52, .int (nI 1), .int (nI 0)]) (rest := []) F (N_MR_forth_8_0 l g _ T s31 pl hO hU r48 r50 r52 (335 + i23) (343 + i23) kr43 kr45 hn26 kr47 hn27) (cwV 4 hts (wg_app (wg_c kw_1729 (wg_c kw_1669 (wg_c kw_1670 (wg_c kw_12 wg_n)))) kw_1671) rfl rfl rfl (by decide +kernel) ⟨by decide, by decide⟩) (pn_V (en_ok g) (ci := 10) (kn := 181) (fl := [(1, 8380417), (1, 256), (3, 182), (3, 183), (4, 8347681)]) hK hO kr43 rfl hP hD hS hA hEn [] rfl rfl rfl) rfl rfl hl.1 rfl (lv_room (Nat.le_of_ble_eq_true rfl)) dMH_verify_294 ⟨by omega, by omega⟩) (fun  u37 H locs hu37 hP hD hS => ?_)
                  obtain ⟨s41, pl⟩ := u37
                  obtain ⟨⟨eq37, hFc37, -⟩, hO⟩ := hu37
                  have hO : okn g T s41 pl := hO
                  have hP : va_P g.1 vcl ([] ++ pl) _ := hP
                  have hD : va_D _ ([] ++ pl) := hD
                  have hFc37 : frm (M_MR_forth_8_0 (343 + i23)) s31 s41 := hFc37
                  replace hR := bnd_step hR eq37
                  replace hE := bndP_step hE eq37
                  have hF := frm_tr hF hFc37 (fun k hk => by unfold M_MR_forth_8_0 at hk; unfold M_MH_verify_1; omega)
                  have hf257 : s41.1 225 23 = nI 1 := fc_F hf249 hFc37 (by unfold M_MR_forth_8_0; omega)
                  have hf258 : s41.1 225 24 = nI 6 := fc_F hf250 hFc37 (by unfold M_MR_forth_8_0; omega)
                  have hf259 : s41.1 225 25 = nI 5 := fc_F hf251 hFc37 (by unfold M_MR_forth_8_0; omega)
                  have hf260 : s41.1 225 26 = nI 4 := fc_F hf252 hFc37 (by unfold M_MR_forth_8_0; omega)
                  have hf261 : s41.1 225 27 = nI 524288 := fc_F hf253 hFc37 (by unfold M_MR_forth_8_0; omega)
                  have hf262 : s41.1 225 28 = nI 261888 := fc_F hf254 hFc37 (by unfold M_MR_forth_8_0; omega)
                  have hf263 : s41.1 225 29 = nI 196 := fc_F hf255 hFc37 (by unfold M_MR_forth_8_0; omega)
                  have hf264 : s41.1 225 30 = nI 48 := fc_F hf256 hFc37 (by unfold M_MR_forth_8_0; omega)
                  refine W.widen (k := 0) (n := 0) (by omega) (by omega) ?_
                  refine mi_iinc (k := 0) (x := i23) (d := 1) (y := i23 + 1) (lv' := [(9, .int (nI (i23 + 1))), (0, .ref h0), (2, .ref pk)]) hx hb dMH_verify_297 hl rfl (by decide) rfl (by decide) rfl (fun ls hl => ?_)
                  refine lv_goto (tgt := 265) hx hb dMH_verify_300 (by decide) ?_
                  exact ih23 (i23 + 1) s41 pl ls H locs (by omega) hF hf257 hf258 hf259 hf260 hf261 hf262 hf263 hf264 hE hR (lv_sub hl [0, 1, 2] rfl) hO hP hD hS
              exact lp23 5 0 s30 pl ls _ _ (by omega) hF hf113 hf114 hf115 hf116 hf117 hf118 hf119 hf120 hE hR (lv_sub hl [0, 4, 5] rfl) hO hP hD hS
            · replace hR := hR.trans (if_pos h25)
              replace hE := iteP_pos h25 hE
              refine lv_iconst (v := nI 0) hx hb dMH_verify_182 (by decide) ?_
              exact mp_zret hx hb hr hlk rfl hP hD hS ((nI 0, q21.2), pl) ⟨⟨hR.symm, rfl, hF, trivial⟩, hO⟩ [] rfl rfl rfl (by omega) (by omega) dMH_verify_183
        | succ n22 ih22 =>
          intro i22 z24 az21 s23 pl ls H locs hm22 hi21 hF hf265 hf266 hf267 hf268 hf269 hf270 hf271 hf272 hE hR hl hO hP hD hS
          refine lv_iload hx hb dMH_verify_65 (lv_at hl 0 rfl) ?_
          refine lv_aload_n hx hb dMH_verify_67 rfl (lv_at hl 4 rfl) ?_
          refine nw_get (C := "LatticeKeysModel$Hands") (TT := T_MH) (N := 31) hx hb hts (wg_ft i_MH) hown hK hO k_h0 (kn := 225) (ci := 12) (fl := [(3, 172), (3, 181), (3, 226), (3, 291), (3, 299), (3, 308), (3, 317), (3, 326), (3, 334), (3, 342), (3, 350), (3, 359), (3, 368), (3, 369), (3, 370), (3, 371), (3, 372), (3, 373), (3, 374), (3, 375), (3, 376), (3, 377), (3, 378), (0, 0), (0, 0), (0, 0), (0, 0), (0, 0), (0, 0), (0, 0), (0, 0)]) rfl hP rfl 25 (by decide) (hts _ (wg_t kw_1457)) (fun _ h9 => h9) (cd := (0, 0)) rfl dMH_verify_68 (fun v53 hv53 => ?_)
          obtain rfl := (show v53 = .int (s23.1 225 25) from hv53)
          obtain ⟨z36, ez35, hz49, hz50⟩ := cl_of (b := 2147483648) hf267 (by omega) (by decide)
          replace hR := bnd_step hR ez35
          replace hE := bndP_step hE ez35
          refine mi_as hz49 ?_
          subst hz50
          refine mi_ge (tgt := 164) hx hb dMH_verify_71 (by decide) (by omega) (by omega) (fun h37 => absurd h37 (by omega)) (fun h37 => ?_)
          refine lv_iconst (v := nI 0) hx hb dMH_verify_74 (by decide) ?_
          refine lv_istore (lv' := [(10, .int (nI 0)), (9, .int (nI i22)), (8, .int z24), (7, .int (nI az21)), (6, .int (nI 20)), (0, .ref h0), (2, .ref pk), (3, .ref b), (4, .int cl_), (5, .int (nI ed))]) hx hb dMH_verify_75 hl (by decide) rfl (fun ls hl => ?_)
          have lp28 : ∀ (n28 : Nat) (i28 : Nat) (z37 : Int32) (az22 : Nat) (s42 : Sto) (pl : va_W) (ls : Array Slot) (H : Heap) (locs : List Loc), n28 + i28 = 256 → (az22 = 384 + 5120 * i22 + 20 * i28) → frm (M_MH_verify_1) s s42 → s42.1 225 23 = nI 1 → s42.1 225 24 = nI 6 → s42.1 225 25 = nI 5 → s42.1 225 26 = nI 4 → s42.1 225 27 = nI 524288 → s42.1 225 28 = nI 261888 → s42.1 225 29 = nI 196 → s42.1 225 30 = nI 48 → E_MH_verify_1_L7 pb i22 (E_MH_verify_1_L1 pp pb cl_ ed n22) n28 i28 z37 az22 s42 → F_MH_verify_1 pp pb cl_ ed s = F_MH_verify_1_L7 pb i22 (F_MH_verify_1_L1 pp pb cl_ ed n22) n28 i28 z37 az22 s42 → lv_has ls 11 [(10, .int (nI i28)), (9, .int (nI i22)), (8, .int z37), (7, .int (nI az22)), (6, .int (nI 20)), (0, .ref h0), (2, .ref pk), (3, .ref b), (4, .int cl_), (5, .int (nI ed))] → okn g T s42 pl → va_P g.1 vcl ([] ++ pl) H → va_D A ([] ++ pl) → va_S A s0.heap H locs → W p l e ({ frames := 5, cells := 0, slots := 0, locals := 116 } : Room) s0 m args below meth c H locs 0 0 (MQ below (va_Qi (fun (r : Int32) (u : (Int32 × Sto) × va_W) => (u.1 = F_MH_verify_1 pp pb cl_ ed s ∧ r = u.1.1 ∧ frm (M_MH_verify_1) s u.1.2 ∧ True) ∧ okn g T u.1.2 u.2) (po g.1 vcl A (fun (u : (Int32 × Sto) × va_W) => [] ++ u.2)) A) args s0 0 0 A) (F0 m 77 ls []) := by
            intro n28
            induction n28 with
            | zero =>
              intro i28 z37 az22 s42 pl ls H locs hm28 hi22 hF hf273 hf274 hf275 hf276 hf277 hf278 hf279 hf280 hE hR hl hO hP hD hS
              refine lv_iload hx hb dMH_verify_77 (lv_at hl 0 rfl) ?_
              refine lv_sipush (v := nI 256) hx hb dMH_verify_79 (by decide) ?_
              refine mi_ge (tgt := 158) hx hb dMH_verify_82 (by decide) (by omega) (by omega) (fun h38 => ?_) (fun h38 => absurd h38 (by omega))
              refine mi_iinc (k := 1) (x := i22) (d := 1) (y := i22 + 1) (lv' := [(9, .int (nI (i22 + 1))), (10, .int (nI i28)), (8, .int z37), (7, .int (nI az22)), (6, .int (nI 20)), (0, .ref h0), (2, .ref pk), (3, .ref b), (4, .int cl_), (5, .int (nI ed))]) hx hb dMH_verify_158 hl rfl (by decide) rfl (by decide) rfl (fun ls hl => ?_)
              refine lv_goto (tgt := 65) hx hb dMH_verify_161 (by decide) ?_
              exact ih22 (i22 + 1) z37 az22 s42 pl ls H locs (by omega) (by omega) hF hf273 hf274 hf275 hf276 hf277 hf278 hf279 hf280 hE hR (lv_sub hl [0, 2, 3, 4, 5, 6, 7, 8, 9] rfl) hO hP hD hS
            | succ n28 ih28 =>
              intro i28 z37 az22 s42 pl ls H locs hm28 hi22 hF hf281 hf282 hf283 hf284 hf285 hf286 hf287 hf288 hE hR hl hO hP hD hS
              refine lv_iload hx hb dMH_verify_77 (lv_at hl 0 rfl) ?_
              refine lv_sipush (v := nI 256) hx hb dMH_verify_79 (by decide) ?_
              refine mi_ge (tgt := 158) hx hb dMH_verify_82 (by decide) (by omega) (by omega) (fun h39 => absurd h39 (by omega)) (fun h39 => ?_)
              refine lv_aload_n hx hb dMH_verify_85 rfl (lv_at hl 5 rfl) ?_
              refine nw_get (C := "LatticeKeysModel$Hands") (TT := T_MH) (N := 31) hx hb hts (wg_ft i_MH) hown hK hO k_h0 (kn := 225) (ci := 12) (fl := [(3, 172), (3, 181), (3, 226), (3, 291), (3, 299), (3, 308), (3, 317), (3, 326), (3, 334), (3, 342), (3, 350), (3, 359), (3, 368), (3, 369), (3, 370), (3, 371), (3, 372), (3, 373), (3, 374), (3, 375), (3, 376), (3, 377), (3, 378), (0, 0), (0, 0), (0, 0), (0, 0), (0, 0), (0, 0), (0, 0), (0, 0)]) rfl hP rfl 8 (by decide) (hts _ (wg_t kw_1440)) (fun _ h9 => h9) (cd := (3, 334)) rfl dMH_verify_86 (fun v54 hv54 => ?_)
              obtain ⟨r53, rfl, kr48⟩ := (show ∃ r : Nat, v54 = .ref r ∧ T r = some 334 from hv54)
              refine lv_iload hx hb dMH_verify_89 (lv_at hl 1 rfl) ?_
              refine nw_aald3 hx hb hK hO kr48 (k := 334) (b := 335) rfl hP (by omega) (by omega) dMH_verify_91 (fun r54 kr49 => ?_)
              have hn28 : nsp (335 + i22) = (0, 256, []) := rows_ok 335 7 (by decide) _ (by omega)
              refine lv_iload hx hb dMH_verify_92 (lv_at hl 0 rfl) ?_
              refine lv_aload_n hx hb dMH_verify_94 rfl (lv_at hl 5 rfl) ?_
              refine nw_get (C := "LatticeKeysModel$Hands") (TT := T_MH) (N := 31) hx hb hts (wg_ft i_MH) hown hK hO k_h0 (kn := 225) (ci := 12) (fl := [(3, 172), (3, 181), (3, 226), (3, 291), (3, 299), (3, 308), (3, 317), (3, 326), (3, 334), (3, 342), (3, 350), (3, 359), (3, 368), (3, 369), (3, 370), (3, 371), (3, 372), (3, 373), (3, 374), (3, 375), (3, 376), (3, 377), (3, 378), (0, 0), (0, 0), (0, 0), (0, 0), (0, 0), (0, 0), (0, 0), (0, 0)]) rfl hP rfl 27 (by decide) (hts _ (wg_t kw_1459)) (fun _ h9 => h9) (cd := (0, 0)) rfl dMH_verify_95 (fun v55 hv55 => ?_)
              obtain rfl := (show v55 = .int (s42.1 225 27) from hv55)
              obtain ⟨z38, ez36, hz51, hz52⟩ := cl_of (b := 2147483648) hf285 (by omega) (by decide)
              replace hR := bnd_step hR ez36
              replace hE := bndP_step hE ez36
              refine mi_as hz51 ?_
              subst hz52
              refine lv_aload_n hx hb dMH_verify_98 rfl (lv_at hl 7 rfl) ?_
              refine lv_iload hx hb dMH_verify_99 (lv_at hl 3 rfl) ?_
              refine lv_iload hx hb dMH_verify_101 (lv_at hl 4 rfl) ?_
              refine mp_i (cx := []) (wr := []) hP hD hS hA [] [] rfl rfl rfl (by decide) (va_runSN (As := [.ref b, .int (nI az22), .int (nI 20)]) (rest := [.int (nI 524288), .int (nI i28), .ref r54]) F (N_M_unpack l g _ T s42 pl hO hU b pb 16384 az22 20 k_b n_b (by omega) (by omega) (by omega)) ⟨va_cnB 3 hts (wg_in kw_1663) rfl rfl rfl (hEn.2.2.2.2.2.2.2.2.2.2) (hts _ (wg_t kw_9)) (by decide +kernel) ⟨by decide, by decide⟩, hts _ (wg_t kw_1662), trivial⟩ (pp_S (en_ok g) hP hD hS hA hEn [] rfl rfl) rfl rfl hl.1 rfl (lv_room (Nat.le_of_ble_eq_true rfl)) dMH_verify_103 ⟨by omega, by omega⟩) (fun r55 u38 H locs hu38 hP hD hS => ?_)
              obtain ⟨q26, pl⟩ := u38
              obtain ⟨⟨eq38, rfl, hFc38, -⟩, hO⟩ := hu38
              have hO : okn g T q26.2 pl := hO
              have hP : va_P g.1 vcl ([] ++ pl) _ := hP
              have hD : va_D _ ([] ++ pl) := hD
              have hFc38 : frm (M_M_unpack) s42 q26.2 := hFc38
              replace hR := bnd_step hR eq38
              replace hE := bndP_step hE eq38
              have hF := frm_tr hF hFc38 (fun k hk => by unfold M_M_unpack at hk; unfold M_MH_verify_1; omega)
              have hf289 : q26.2.1 225 23 = nI 1 := fc_F hf281 hFc38 (by unfold M_M_unpack; omega)
              have hf290 : q26.2.1 225 24 = nI 6 := fc_F hf282 hFc38 (by unfold M_M_unpack; omega)
              have hf291 : q26.2.1 225 25 = nI 5 := fc_F hf283 hFc38 (by unfold M_M_unpack; omega)
              have hf292 : q26.2.1 225 26 = nI 4 := fc_F hf284 hFc38 (by unfold M_M_unpack; omega)
              have hf293 : q26.2.1 225 27 = nI 524288 := fc_F hf285 hFc38 (by unfold M_M_unpack; omega)
              have hf294 : q26.2.1 225 28 = nI 261888 := fc_F hf286 hFc38 (by unfold M_M_unpack; omega)
              have hf295 : q26.2.1 225 29 = nI 196 := fc_F hf287 hFc38 (by unfold M_M_unpack; omega)
              have hf296 : q26.2.1 225 30 = nI 48 := fc_F hf288 hFc38 (by unfold M_M_unpack; omega)
              refine W.widen (k := 0) (n := 0) (by omega) (by omega) ?_
              refine mp_i (cx := []) (wr := []) hP hD hS hA [] [] rfl rfl rfl (by decide) (va_runS (As := [.int (nI 524288), .int q26.1]) (rest := [.int (nI i28), .ref r54]) F (N_MH_minus l g _ T q26.2 pl hO hU (nI 524288) (q26.1)) (va_cwS 2 hts (wg_app (wg_c kw_1861 (wg_c kw_1862 (wg_c kw_13 wg_n))) kw_1863) rfl rfl rfl (by decide +kernel) ⟨by decide, by decide⟩) (pp_S (en_ok g) hP hD hS hA hEn [] rfl rfl) rfl rfl hl.1 rfl (lv_room (Nat.le_of_ble_eq_true rfl)) dMH_verify_106 ⟨by omega, by omega⟩) (fun r56 u39 H locs hu39 hP hD hS => ?_)
              obtain ⟨q27, pl⟩ := u39
              obtain ⟨⟨eq39, rfl, hFc39, -⟩, hO⟩ := hu39
              have hO : okn g T q27.2 pl := hO
              have hP : va_P g.1 vcl ([] ++ pl) _ := hP
              have hD : va_D _ ([] ++ pl) := hD
              have hFc39 : frm (M_MH_minus) q26.2 q27.2 := hFc39
              replace hR := bnd_step hR eq39
              replace hE := bndP_step hE eq39
              have hF := frm_tr hF hFc39 (fun k hk => by unfold M_MH_minus at hk; unfold M_MH_verify_1; omega)
              have hf297 : q27.2.1 225 23 = nI 1 := fc_F hf289 hFc39 (by unfold M_MH_minus; omega)
              have hf298 : q27.2.1 225 24 = nI 6 := fc_F hf290 hFc39 (by unfold M_MH_minus; omega)
              have hf299 : q27.2.1 225 25 = nI 5 := fc_F hf291 hFc39 (by unfold M_MH_minus; omega)
              have hf300 : q27.2.1 225 26 = nI 4 := fc_F hf292 hFc39 (by unfold M_MH_minus; omega)
              have hf301 : q27.2.1 225 27 = nI 524288 := fc_F hf293 hFc39 (by unfold M_MH_minus; omega)
              have hf302 : q27.2.1 225 28 = nI 261888 := fc_F hf294 hFc39 (by unfold M_MH_minus; omega)
              have hf303 : q27.2.1 225 29 = nI 196 := fc_F hf295 hFc39 (by unfold M_MH_minus; omega)
              have hf304 : q27.2.1 225 30 = nI 48 := fc_F hf296 hFc39 (by unfold M_MH_minus; omega)
              refine W.widen (k := 0) (n := 0) (by omega) (by omega) ?_
              refine nw_iast hx hb hK hO hU kr49 (k := (335 + i22)) hn28 hP hD hS (by omega) (by omega) dMH_verify_109 (fun s43 pl H locs es23 hO hP hD hS => ?_)
              replace hR := bnd_step hR es23
              replace hE := bndP_step hE es23
              have hF := frm_sI hF es23 (by unfold M_MH_verify_1; omega)
              have hf305 : s43.1 225 23 = nI 1 := fc_ne hf297 es23 (by omega)
              have hf306 : s43.1 225 24 = nI 6 := fc_ne hf298 es23 (by omega)
              have hf307 : s43.1 225 25 = nI 5 := fc_ne hf299 es23 (by omega)
              have hf308 : s43.1 225 26 = nI 4 := fc_ne hf300 es23 (by omega)
              have hf309 : s43.1 225 27 = nI 524288 := fc_ne hf301 es23 (by omega)
              have hf310 : s43.1 225 28 = nI 261888 := fc_ne hf302 es23 (by omega)
              have hf311 : s43.1 225 29 = nI 196 := fc_ne hf303 es23 (by omega)
              have hf312 : s43.1 225 30 = nI 48 := fc_ne hf304 es23 (by omega)
              refine lv_iload hx hb dMH_verify_110 (lv_at hl 2 rfl) ?_
              refine lv_aload_n hx hb dMH_verify_112 rfl (lv_at hl 5 rfl) ?_
              refine nw_get (C := "LatticeKeysModel$Hands") (TT := T_MH) (N := 31) hx hb hts (wg_ft i_MH) hown hK hO k_h0 (kn := 225) (ci := 12) (fl := [(3, 172), (3, 181), (3, 226), (3, 291), (3, 299), (3, 308), (3, 317), (3, 326), (3, 334), (3, 342), (3, 350), (3, 359), (3, 368), (3, 369), (3, 370), (3, 371), (3, 372), (3, 373), (3, 374), (3, 375), (3, 376), (3, 377), (3, 378), (0, 0), (0, 0), (0, 0), (0, 0), (0, 0), (0, 0), (0, 0), (0, 0)]) rfl hP rfl 8 (by decide) (hts _ (wg_t kw_1440)) (fun _ h9 => h9) (cd := (3, 334)) rfl dMH_verify_113 (fun v56 hv56 => ?_)
              obtain ⟨r57, rfl, kr50⟩ := (show ∃ r : Nat, v56 = .ref r ∧ T r = some 334 from hv56)
              refine lv_iload hx hb dMH_verify_116 (lv_at hl 1 rfl) ?_
              refine nw_aald3 hx hb hK hO kr50 (k := 334) (b := 335) rfl hP (by omega) (by omega) dMH_verify_118 (fun r58 kr51 => ?_)
              have hn29 : nsp (335 + i22) = (0, 256, []) := rows_ok 335 7 (by decide) _ (by omega)
              refine lv_iload hx hb dMH_verify_119 (lv_at hl 0 rfl) ?_
              refine nw_iald hx hb hK hO kr51 (k := (335 + i22)) hn29 hP (by omega) (by omega) dMH_verify_121 ?_
              refine mp_i (cx := []) (wr := []) hP hD hS hA [] [] rfl rfl rfl (by decide) (va_runS (As := [.int ((s43.1 ((335 + i22)) i28))]) (rest := [.int z37]) F (N_MH_norm l g _ T s43 pl hO hU (s43.1 ((335 + i22)) i28)) (va_cwS 1 hts (wg_app (wg_c kw_1901 (wg_c kw_1902 (wg_c kw_13 wg_n))) kw_1903) rfl rfl rfl (by decide +kernel) ⟨by decide, by decide⟩) (pp_S (en_ok g) hP hD hS hA hEn [] rfl rfl) rfl rfl hl.1 rfl (lv_room (Nat.le_of_ble_eq_true rfl)) dMH_verify_122 ⟨by omega, by omega⟩) (fun r59 u40 H locs hu40 hP hD hS => ?_)
              obtain ⟨q28, pl⟩ := u40
              obtain ⟨⟨eq40, rfl, hFc40, -⟩, hO⟩ := hu40
              have hO : okn g T q28.2 pl := hO
              have hP : va_P g.1 vcl ([] ++ pl) _ := hP
              have hD : va_D _ ([] ++ pl) := hD
              have hFc40 : frm (M_MH_norm) s43 q28.2 := hFc40
              replace hR := bnd_step hR eq40
              replace hE := bndP_step hE eq40
              have hF := frm_tr hF hFc40 (fun k hk => by unfold M_MH_norm at hk; unfold M_MH_verify_1; omega)
              have hf313 : q28.2.1 225 23 = nI 1 := fc_F hf305 hFc40 (by unfold M_MH_norm; omega)
              have hf314 : q28.2.1 225 24 = nI 6 := fc_F hf306 hFc40 (by unfold M_MH_norm; omega)
              have hf315 : q28.2.1 225 25 = nI 5 := fc_F hf307 hFc40 (by unfold M_MH_norm; omega)
              have hf316 : q28.2.1 225 26 = nI 4 := fc_F hf308 hFc40 (by unfold M_MH_norm; omega)
              have hf317 : q28.2.1 225 27 = nI 524288 := fc_F hf309 hFc40 (by unfold M_MH_norm; omega)
              have hf318 : q28.2.1 225 28 = nI 261888 := fc_F hf310 hFc40 (by unfold M_MH_norm; omega)
              have hf319 : q28.2.1 225 29 = nI 196 := fc_F hf311 hFc40 (by unfold M_MH_norm; omega)
              have hf320 : q28.2.1 225 30 = nI 48 := fc_F hf312 hFc40 (by unfold M_MH_norm; omega)
              refine W.widen (k := 0) (n := 0) (by omega) (by omega) ?_
              refine lv_aload_n hx hb dMH_verify_125 rfl (lv_at hl 5 rfl) ?_
              refine nw_get (C := "LatticeKeysModel$Hands") (TT := T_MH) (N := 31) hx hb hts (wg_ft i_MH) hown hK hO k_h0 (kn := 225) (ci := 12) (fl := [(3, 172), (3, 181), (3, 226), (3, 291), (3, 299), (3, 308), (3, 317), (3, 326), (3, 334), (3, 342), (3, 350), (3, 359), (3, 368), (3, 369), (3, 370), (3, 371), (3, 372), (3, 373), (3, 374), (3, 375), (3, 376), (3, 377), (3, 378), (0, 0), (0, 0), (0, 0), (0, 0), (0, 0), (0, 0), (0, 0), (0, 0)]) rfl hP rfl 27 (by decide) (hts _ (wg_t kw_1459)) (fun _ h9 => h9) (cd := (0, 0)) rfl dMH_verify_126 (fun v57 hv57 => ?_)
              obtain rfl := (show v57 = .int (q28.2.1 225 27) from hv57)
              obtain ⟨z39, ez37, hz53, hz54⟩ := cl_of (b := 2147483648) hf317 (by omega) (by decide)
              replace hR := bnd_step hR ez37
              replace hE := bndP_step hE ez37
              refine mi_as hz53 ?_
              subst hz54
              refine lv_aload_n hx hb dMH_verify_129 rfl (lv_at hl 5 rfl) ?_
              refine nw_get (C := "LatticeKeysModel$Hands") (TT := T_MH) (N := 31) hx hb hts (wg_ft i_MH) hown hK hO k_h0 (kn := 225) (ci := 12) (fl := [(3, 172), (3, 181), (3, 226), (3, 291), (3, 299), (3, 308), (3, 317), (3, 326), (3, 334), (3, 342), (3, 350), (3, 359), (3, 368), (3, 369), (3, 370), (3, 371), (3, 372), (3, 373), (3, 374), (3, 375), (3, 376), (3, 377), (3, 378), (0, 0), (0, 0), (0, 0), (0, 0), (0, 0), (0, 0), (0, 0), (0, 0)]) rfl hP rfl 29 (by decide) (hts _ (wg_t kw_1461)) (fun _ h9 => h9) (cd := (0, 0)) rfl dMH_verify_130 (fun v58 hv58 => ?_)
              obtain rfl := (show v58 = .int (q28.2.1 225 29) from hv58)
              obtain ⟨z40, ez38, hz55, hz56⟩ := cl_of (b := 2147483648) hf319 (by omega) (by decide)
              replace hR := bnd_step hR ez38
              replace hE := bndP_step hE ez38
              refine mi_as hz55 ?_
              subst hz56
              refine mi_isub hx hb dMH_verify_133 (by omega) ?_
              refine mi_as (show nI (524288 - 196) = nI 524092 from rfl) ?_
              refine lv_icmp_ge (tgt := 141) hx hb dMH_verify_134 (by decide) (fun h40 => ?_) (fun h40 => ?_)
              · replace hR := hR.trans (if_pos h40)
                replace hE := iteP_pos h40 hE
                refine lv_iconst (v := nI 0) hx hb dMH_verify_141 (by decide) ?_
                refine lv_iand hx hb dMH_verify_142 ?_
                refine mi_eqv (fun z41 ez39 => ?_)
                replace hR := bnd_step hR ez39
                replace hE := bndP_step hE ez39
                refine lv_istore (lv' := [(8, .int z41), (10, .int (nI i28)), (9, .int (nI i22)), (7, .int (nI az22)), (6, .int (nI 20)), (0, .ref h0), (2, .ref pk), (3, .ref b), (4, .int cl_), (5, .int (nI ed))]) hx hb dMH_verify_143 hl (by decide) rfl (fun ls hl => ?_)
                refine lv_iload hx hb dMH_verify_145 (lv_at hl 3 rfl) ?_
                refine lv_iload hx hb dMH_verify_147 (lv_at hl 4 rfl) ?_
                refine mi_iadd hx hb dMH_verify_149 ?_
                refine lv_istore (lv' := [(7, .int (nI (az22 + 20))), (8, .int z41), (10, .int (nI i28)), (9, .int (nI i22)), (6, .int (nI 20)), (0, .ref h0), (2, .ref pk), (3, .ref b), (4, .int cl_), (5, .int (nI ed))]) hx hb dMH_verify_150 hl (by decide) rfl (fun ls hl => ?_)
                refine mi_iinc (k := 2) (x := i28) (d := 1) (y := i28 + 1) (lv' := [(10, .int (nI (i28 + 1))), (7, .int (nI (az22 + 20))), (8, .int z41), (9, .int (nI i22)), (6, .int (nI 20)), (0, .ref h0), (2, .ref pk), (3, .ref b), (4, .int cl_), (5, .int (nI ed))]) hx hb dMH_verify_152 hl rfl (by decide) rfl (by decide) rfl (fun ls hl => ?_)
                refine lv_goto (tgt := 77) hx hb dMH_verify_155 (by decide) ?_
                exact ih28 (i28 + 1) z41 (az22 + 20) q28.2 pl ls H locs (by omega) (by omega) hF hf313 hf314 hf315 hf316 hf317 hf318 hf319 hf320 hE hR (lv_sub hl [0, 3, 2, 1, 4, 5, 6, 7, 8, 9] rfl) hO hP hD hS
              · replace hR := hR.trans (if_neg h40)
                replace hE := iteP_neg h40 hE
                refine lv_iconst (v := nI 1) hx hb dMH_verify_137 (by decide) ?_
                refine lv_goto (tgt := 142) hx hb dMH_verify_138 (by decide) ?_
                refine lv_iand hx hb dMH_verify_142 ?_
                refine mi_eqv (fun z42 ez40 => ?_)
                replace hR := bnd_step hR ez40
                replace hE := bndP_step hE ez40
                refine lv_istore (lv' := [(8, .int z42), (10, .int (nI i28)), (9, .int (nI i22)), (7, .int (nI az22)), (6, .int (nI 20)), (0, .ref h0), (2, .ref pk), (3, .ref b), (4, .int cl_), (5, .int (nI ed))]) hx hb dMH_verify_143 hl (by decide) rfl (fun ls hl => ?_)
                refine lv_iload hx hb dMH_verify_145 (lv_at hl 3 rfl) ?_
                refine lv_iload hx hb dMH_verify_147 (lv_at hl 4 rfl) ?_
                refine mi_iadd hx hb dMH_verify_149 ?_
                refine lv_istore (lv' := [(7, .int (nI (az22 + 20))), (8, .int z42), (10, .int (nI i28)), (9, .int (nI i22)), (6, .int (nI 20)), (0, .ref h0), (2, .ref pk), (3, .ref b), (4, .int cl_), (5, .int (nI ed))]) hx hb dMH_verify_150 hl (by decide) rfl (fun ls hl => ?_)
                refine mi_iinc (k := 2) (x := i28) (d := 1) (y := i28 + 1) (lv' := [(10, .int (nI (i28 + 1))), (7, .int (nI (az22 + 20))), (8, .int z42), (9, .int (nI i22)), (6, .int (nI 20)), (0, .ref h0), (2, .ref pk), (3, .ref b), (4, .int cl_), (5, .int (nI ed))]) hx hb dMH_verify_152 hl rfl (by decide) rfl (by decide) rfl (fun ls hl => ?_)
                refine lv_goto (tgt := 77) hx hb dMH_verify_155 (by decide) ?_
                exact ih28 (i28 + 1) z42 (az22 + 20) q28.2 pl ls H locs (by omega) (by omega) hF hf313 hf314 hf315 hf316 hf317 hf318 hf319 hf320 hE hR (lv_sub hl [0, 3, 2, 1, 4, 5, 6, 7, 8, 9] rfl) hO hP hD hS
          exact lp28 256 0 z24 az21 s23 pl ls _ _ (by omega) (by omega) hF hf265 hf266 hf267 hf268 hf269 hf270 hf271 hf272 hE hR (lv_sub hl [0, 1, 2, 3, 4, 5, 6, 7, 8, 9] rfl) hO hP hD hS
      exact lp22 5 0 (nI 1) 384 s22 pl ls _ _ (by omega) (by omega) hF hf21 hf22 hf23 hf24 hf25 hf26 hf27 hf28 hE hR (lv_sub hl [0, 1, 2, 3, 4, 5, 6, 7, 8] rfl) hO hP hD hS
    | succ n21 ih21 =>
      intro i21 s22 pl ls H locs hm21 hF hf321 hf322 hf323 hf324 hf325 hf326 hf327 hf328 hE hR hl hO hP hD hS
      refine lv_iload hx hb dMH_verify_36 (lv_at hl 0 rfl) ?_
      refine lv_aload_n hx hb dMH_verify_38 rfl (lv_at hl 4 rfl) ?_
      refine nw_get (C := "LatticeKeysModel$Hands") (TT := T_MH) (N := 31) hx hb hts (wg_ft i_MH) hown hK hO k_h0 (kn := 225) (ci := 12) (fl := [(3, 172), (3, 181), (3, 226), (3, 291), (3, 299), (3, 308), (3, 317), (3, 326), (3, 334), (3, 342), (3, 350), (3, 359), (3, 368), (3, 369), (3, 370), (3, 371), (3, 372), (3, 373), (3, 374), (3, 375), (3, 376), (3, 377), (3, 378), (0, 0), (0, 0), (0, 0), (0, 0), (0, 0), (0, 0), (0, 0), (0, 0)]) rfl hP rfl 30 (by decide) (hts _ (wg_t kw_1462)) (fun _ h9 => h9) (cd := (0, 0)) rfl dMH_verify_39 (fun v59 hv59 => ?_)
      obtain rfl := (show v59 = .int (s22.1 225 30) from hv59)
      obtain ⟨z43, ez41, hz57, hz58⟩ := cl_of (b := 2147483648) hf328 (by omega) (by decide)
      replace hR := bnd_step hR ez41
      replace hE := bndP_step hE ez41
      refine mi_as hz57 ?_
      subst hz58
      refine mi_ge (tgt := 62) hx hb dMH_verify_42 (by decide) (by omega) (by omega) (fun h41 => absurd h41 (by omega)) (fun h41 => ?_)
      refine lv_aload_n hx hb dMH_verify_45 rfl (lv_at hl 4 rfl) ?_
      refine nw_get (C := "LatticeKeysModel$Hands") (TT := T_MH) (N := 31) hx hb hts (wg_ft i_MH) hown hK hO k_h0 (kn := 225) (ci := 12) (fl := [(3, 172), (3, 181), (3, 226), (3, 291), (3, 299), (3, 308), (3, 317), (3, 326), (3, 334), (3, 342), (3, 350), (3, 359), (3, 368), (3, 369), (3, 370), (3, 371), (3, 372), (3, 373), (3, 374), (3, 375), (3, 376), (3, 377), (3, 378), (0, 0), (0, 0), (0, 0), (0, 0), (0, 0), (0, 0), (0, 0), (0, 0)]) rfl hP rfl 20 (by decide) (hts _ (wg_t kw_1452)) (fun _ h9 => h9) (cd := (3, 376)) rfl dMH_verify_46 (fun v60 hv60 => ?_)
      obtain ⟨r60, rfl, kr52⟩ := (show ∃ r : Nat, v60 = .ref r ∧ T r = some 376 from hv60)
      refine lv_iload hx hb dMH_verify_49 (lv_at hl 0 rfl) ?_
      refine lv_aload_n hx hb dMH_verify_51 rfl (lv_at hl 6 rfl) ?_
      refine lv_iload hx hb dMH_verify_52 (lv_at hl 0 rfl) ?_
      refine nw_bald hx hb hK hO k_b (k := pb) n_b hP (by omega) (by omega) dMH_verify_54 ?_
      refine nw_bast hx hb hK hO hU kr52 (k := 376) rfl hP hD hS (by omega) (by omega) dMH_verify_55 (fun s44 pl H locs es24 hO hP hD hS => ?_)
      replace hR := bnd_step hR es24
      replace hE := bndP_step hE es24
      have hF := frm_sB hF es24 (by unfold M_MH_verify_1; omega)
      have hf329 : s44.1 225 23 = nI 1 := fc_B hf321 es24 (by omega)
      have hf330 : s44.1 225 24 = nI 6 := fc_B hf322 es24 (by omega)
      have hf331 : s44.1 225 25 = nI 5 := fc_B hf323 es24 (by omega)
      have hf332 : s44.1 225 26 = nI 4 := fc_B hf324 es24 (by omega)
      have hf333 : s44.1 225 27 = nI 524288 := fc_B hf325 es24 (by omega)
      have hf334 : s44.1 225 28 = nI 261888 := fc_B hf326 es24 (by omega)
      have hf335 : s44.1 225 29 = nI 196 := fc_B hf327 es24 (by omega)
      have hf336 : s44.1 225 30 = nI 48 := fc_B hf328 es24 (by omega)
      refine mi_iinc (k := 0) (x := i21) (d := 1) (y := i21 + 1) (lv' := [(9, .int (nI (i21 + 1))), (8, .int (nI 1)), (7, .int (nI 384)), (6, .int (nI 20)), (0, .ref h0), (2, .ref pk), (3, .ref b), (4, .int cl_), (5, .int (nI ed))]) hx hb dMH_verify_56 hl rfl (by decide) rfl (by decide) rfl (fun ls hl => ?_)
      refine lv_goto (tgt := 36) hx hb dMH_verify_59 (by decide) ?_
      exact ih21 (i21 + 1) s44 pl ls H locs (by omega) hF hf329 hf330 hf331 hf332 hf333 hf334 hf335 hf336 hE hR (lv_sub hl [0, 1, 2, 3, 4, 5, 6, 7, 8] rfl) hO hP hD hS
  exact lp21 48 0 s21 pl ls _ _ (by omega) hF hx_21 hx_22 hx_23 hx_24 hx_25 hx_26 hx_27 hx_28 hE hR (lv_sub hl [0, 1, 2, 3, 4, 6, 7, 8, 9] rfl) hO hP hD hS
def M_MH_verify_2 (k : Nat) : Prop := (227 ≤ k ∧ k < 291) ∨ (318 ≤ k ∧ k < 326) ∨ (335 ≤ k ∧ k < 342) ∨ (343 ≤ k ∧ k < 350) ∨ (351 ≤ k ∧ k < 359) ∨ (360 ≤ k ∧ k < 368) ∨ k = 172 ∨ k = 225 ∨ k = 368 ∨ k = 369 ∨ k = 370 ∨ k = 373 ∨ k = 375 ∨ k = 376 ∨ k = 377 ∨ k = 378 ∨ (0 : Nat) = 1
noncomputable def F_MH_verify_2_L7 (pb : Nat) (i22 : Nat) (kk : Nat → Int32 → Nat → Sto → Int32 × Sto) : Nat → Nat → Int32 → Nat → Sto → Int32 × Sto
  | 0, i28, z37, az22, s42 => kk (i22 + 1) z37 az22 s42
  | n28 + 1, i28, z37, az22, s42 => bnd ((s42.1 225 27).toNatClampNeg) fun z38 => bnd (F_M_unpack pb 16384 az22 20 s42) fun q26 => bnd (F_MH_minus (nI 524288) (q26.1) q26.2) fun q27 => bnd (sI q27.2 ((335 + i22)) i28 (q27.1)) fun s43 => bnd (F_MH_norm (s43.1 ((335 + i22)) i28) s43) fun q28 => bnd ((q28.2.1 225 27).toNatClampNeg) fun z39 => bnd ((q28.2.1 225 29).toNatClampNeg) fun z40 => if (nI 524168) ≤ (q28.1) then bnd ((z37 &&& (nI 0))) fun z41 => F_MH_verify_2_L7 pb i22 kk n28 (i28 + 1) z41 (az22 + 20) q28.2 else bnd ((z37 &&& (nI 1))) fun z42 => F_MH_verify_2_L7 pb i22 kk n28 (i28 + 1) z42 (az22 + 20) q28.2
noncomputable def E_MH_verify_2_L7 (pb : Nat) (i22 : Nat) (ke : Nat → Int32 → Nat → Sto → Prop) : Nat → Nat → Int32 → Nat → Sto → Prop
  | 0, i28, z37, az22, s42 => ke (i22 + 1) z37 az22 s42
  | n28 + 1, i28, z37, az22, s42 => bnd ((s42.1 225 27).toNatClampNeg) fun z38 => bnd (F_M_unpack pb 16384 az22 20 s42) fun q26 => bnd (F_MH_minus (nI 524288) (q26.1) q26.2) fun q27 => bnd (sI q27.2 ((335 + i22)) i28 (q27.1)) fun s43 => bnd (F_MH_norm (s43.1 ((335 + i22)) i28) s43) fun q28 => bnd ((q28.2.1 225 27).toNatClampNeg) fun z39 => bnd ((q28.2.1 225 29).toNatClampNeg) fun z40 => if (nI 524168) ≤ (q28.1) then bnd ((z37 &&& (nI 0))) fun z41 => E_MH_verify_2_L7 pb i22 ke n28 (i28 + 1) z41 (az22 + 20) q28.2 else bnd ((z37 &&& (nI 1))) fun z42 => E_MH_verify_2_L7 pb i22 ke n28 (i28 + 1) z42 (az22 + 20) q28.2
noncomputable def F_MH_verify_2_L6 (i24 : Nat) (kk : Nat → Sto → Int32 × Sto) : Nat → Nat → Sto → Int32 × Sto
  | 0, i27, s38 => kk (i24 + 1) s38
  | n27 + 1, i27, s38 => bnd (F_MH_minus (s38.1 ((351 + i24)) i27) (s38.1 369 i27) s38) fun q24 => bnd (sI q24.2 ((351 + i24)) i27 (q24.1)) fun s39 => F_MH_verify_2_L6 i24 kk n27 (i27 + 1) s39
noncomputable def E_MH_verify_2_L6 (i24 : Nat) (ke : Nat → Sto → Prop) : Nat → Nat → Sto → Prop
  | 0, i27, s38 => ke (i24 + 1) s38
  | n27 + 1, i27, s38 => bnd (F_MH_minus (s38.1 ((351 + i24)) i27) (s38.1 369 i27) s38) fun q24 => bnd (sI q24.2 ((351 + i24)) i27 (q24.1)) fun s39 => E_MH_verify_2_L6 i24 ke n27 (i27 + 1) s39
noncomputable def F_MH_verify_2_L5 (pp : Nat) (i24 : Nat) (kk : Nat → Sto → Int32 × Sto) : Nat → Nat → Sto → Int32 × Sto
  | 0, i26, s36 => bnd (F_MH_turned_2 (318 + i24) 369 s36) fun s37 => F_MH_verify_2_L6 i24 (kk) 256 0 s37
  | n26 + 1, i26, s36 => bnd (F_M_unpack pp 2592 ((256 + (2560 * i24)) + (10 * i26)) 10 s36) fun q25 => bnd (sI q25.2 ((318 + i24)) i26 ((q25.1) <<< ((nI 13) &&& 31))) fun s40 => F_MH_verify_2_L5 pp i24 kk n26 (i26 + 1) s40
noncomputable def E_MH_verify_2_L5 (pp : Nat) (i24 : Nat) (ke : Nat → Sto → Prop) : Nat → Nat → Sto → Prop
  | 0, i26, s36 => bnd (F_MH_turned_2 (318 + i24) 369 s36) fun s37 => E_MH_verify_2_L6 i24 (ke) 256 0 s37
  | n26 + 1, i26, s36 => bnd (F_M_unpack pp 2592 ((256 + (2560 * i24)) + (10 * i26)) 10 s36) fun q25 => bnd (sI q25.2 ((318 + i24)) i26 ((q25.1) <<< ((nI 13) &&& 31))) fun s40 => E_MH_verify_2_L5 pp i24 ke n26 (i26 + 1) s40
noncomputable def F_MH_verify_2_L4 : Nat → Nat → Sto → Int32 × Sto
  | 0, i25, s34 => bnd ((s34.1 225 30).toNatClampNeg) fun z32 => (nI 1, s34)
  | n25 + 1, i25, s34 => bnd ((s34.1 225 30).toNatClampNeg) fun z33 => if (s34.1 377 i25) = (s34.1 376 i25) then F_MH_verify_2_L4  n25 (i25 + 1) s34 else (nI 0, s34)
noncomputable def E_MH_verify_2_L4 : Nat → Nat → Sto → Prop
  | 0, i25, s34 => bnd ((s34.1 225 30).toNatClampNeg) fun z32 => True
  | n25 + 1, i25, s34 => bnd ((s34.1 225 30).toNatClampNeg) fun z33 => if (s34.1 377 i25) = (s34.1 376 i25) then E_MH_verify_2_L4  n25 (i25 + 1) s34 else True
noncomputable def F_MH_verify_2_L3 (pp : Nat) : Nat → Nat → Sto → Int32 × Sto
  | 0, i24, s32 => bnd ((s32.1 225 24).toNatClampNeg) fun z31 => bnd (F_MH_marked_2 (nI 1) 377 s32) fun s33 => F_MH_verify_2_L4 64 0 s33
  | n24 + 1, i24, s32 => bnd ((s32.1 225 24).toNatClampNeg) fun z34 => bnd (F_MH_rowBy_2 i24 (351 + i24) s32) fun s35 => F_MH_verify_2_L5 pp i24 (F_MH_verify_2_L3 pp n24) 256 0 s35
noncomputable def E_MH_verify_2_L3 (pp : Nat) : Nat → Nat → Sto → Prop
  | 0, i24, s32 => bnd ((s32.1 225 24).toNatClampNeg) fun z31 => bnd (F_MH_marked_2 (nI 1) 377 s32) fun s33 => E_MH_verify_2_L4 64 0 s33
  | n24 + 1, i24, s32 => bnd ((s32.1 225 24).toNatClampNeg) fun z34 => bnd (F_MH_rowBy_2 i24 (351 + i24) s32) fun s35 => E_MH_verify_2_L5 pp i24 (E_MH_verify_2_L3 pp n24) 256 0 s35
noncomputable def F_MH_verify_2_L2 (pp : Nat) : Nat → Nat → Sto → Int32 × Sto
  | 0, i23, s31 => bnd ((s31.1 225 25).toNatClampNeg) fun z30 => F_MH_verify_2_L3 pp 8 0 s31
  | n23 + 1, i23, s31 => bnd ((s31.1 225 25).toNatClampNeg) fun z35 => bnd (F_MR_forth_8_0 (335 + i23) (343 + i23) s31) fun s41 => F_MH_verify_2_L2 pp n23 (i23 + 1) s41
noncomputable def E_MH_verify_2_L2 (pp : Nat) : Nat → Nat → Sto → Prop
  | 0, i23, s31 => bnd ((s31.1 225 25).toNatClampNeg) fun z30 => E_MH_verify_2_L3 pp 8 0 s31
  | n23 + 1, i23, s31 => bnd ((s31.1 225 25).toNatClampNeg) fun z35 => bnd (F_MR_forth_8_0 (335 + i23) (343 + i23) s31) fun s41 => E_MH_verify_2_L2 pp n23 (i23 + 1) s41
noncomputable def F_MH_verify_2_L1 (pp : Nat) (pb : Nat) (cl_ : Int32) (ed : Nat) : Nat → Nat → Int32 → Nat → Sto → Int32 × Sto
  | 0, i22, z24, az21, s23 => bnd ((s23.1 225 25).toNatClampNeg) fun z25 => if z24 = 0 then (nI 0, s23) else bnd (F_MH_readHints_2 pb (az21 / 8) s23) fun q21 => if (q21.1) = 0 then (nI 0, q21.2) else bnd (F_MS_shake  q21.2) fun s24 => bnd ((s24.1 225 23).toNatClampNeg) fun z26 => bnd (F_MH_openSize_2  s24) fun q22 => bnd (q22.1.toNatClampNeg) fun z27 => bnd (F_MS_puts pp 2592 0 2592 q22.2) fun s25 => bnd (F_MS_end  s25) fun s26 => bnd (F_MS_take 378 64 0 64 s26) fun s27 => bnd ((s27.1 225 23).toNatClampNeg) fun z28 => bnd (F_MH_markSize_2  s27) fun q23 => bnd (q23.1.toNatClampNeg) fun z29 => bnd (F_MH_message_2 378 64 0 pb 16384 4627 cl_ ed q23.2) fun s28 => bnd (F_MH_expand_2 pp 2592 s28) fun s29 => bnd (F_MH_ball_2 376 s29) fun s30 => F_MH_verify_2_L2 pp 7 0 s30
  | n22 + 1, i22, z24, az21, s23 => bnd ((s23.1 225 25).toNatClampNeg) fun z36 => F_MH_verify_2_L7 pb i22 (F_MH_verify_2_L1 pp pb cl_ ed n22) 256 0 z24 az21 s23
noncomputable def E_MH_verify_2_L1 (pp : Nat) (pb : Nat) (cl_ : Int32) (ed : Nat) : Nat → Nat → Int32 → Nat → Sto → Prop
  | 0, i22, z24, az21, s23 => bnd ((s23.1 225 25).toNatClampNeg) fun z25 => if z24 = 0 then True else bnd (F_MH_readHints_2 pb (az21 / 8) s23) fun q21 => if (q21.1) = 0 then True else bnd (F_MS_shake  q21.2) fun s24 => bnd ((s24.1 225 23).toNatClampNeg) fun z26 => bnd (F_MH_openSize_2  s24) fun q22 => bnd (q22.1.toNatClampNeg) fun z27 => bnd (F_MS_puts pp 2592 0 2592 q22.2) fun s25 => bnd (F_MS_end  s25) fun s26 => bnd (F_MS_take 378 64 0 64 s26) fun s27 => bnd ((s27.1 225 23).toNatClampNeg) fun z28 => bnd (F_MH_markSize_2  s27) fun q23 => bnd (q23.1.toNatClampNeg) fun z29 => bnd (F_MH_message_2 378 64 0 pb 16384 4627 cl_ ed q23.2) fun s28 => (E_MH_expand_2 pp 2592 s28) ∧ (bnd (F_MH_expand_2 pp 2592 s28) fun s29 => (E_MH_ball_2 376 s29) ∧ (bnd (F_MH_ball_2 376 s29) fun s30 => E_MH_verify_2_L2 pp 7 0 s30))
  | n22 + 1, i22, z24, az21, s23 => bnd ((s23.1 225 25).toNatClampNeg) fun z36 => E_MH_verify_2_L7 pb i22 (E_MH_verify_2_L1 pp pb cl_ ed n22) 256 0 z24 az21 s23
noncomputable def F_MH_verify_2_L0 (pp : Nat) (pb : Nat) (cl_ : Int32) (ed : Nat) : Nat → Nat → Sto → Int32 × Sto
  | 0, i21, s22 => bnd ((s22.1 225 30).toNatClampNeg) fun z23 => F_MH_verify_2_L1 pp pb cl_ ed 7 0 (nI 1) 512 s22
  | n21 + 1, i21, s22 => bnd ((s22.1 225 30).toNatClampNeg) fun z43 => bnd (sB s22 376 i21 (s22.1 pb i21)) fun s44 => F_MH_verify_2_L0 pp pb cl_ ed n21 (i21 + 1) s44
noncomputable def E_MH_verify_2_L0 (pp : Nat) (pb : Nat) (cl_ : Int32) (ed : Nat) : Nat → Nat → Sto → Prop
  | 0, i21, s22 => bnd ((s22.1 225 30).toNatClampNeg) fun z23 => E_MH_verify_2_L1 pp pb cl_ ed 7 0 (nI 1) 512 s22
  | n21 + 1, i21, s22 => bnd ((s22.1 225 30).toNatClampNeg) fun z43 => bnd (sB s22 376 i21 (s22.1 pb i21)) fun s44 => E_MH_verify_2_L0 pp pb cl_ ed n21 (i21 + 1) s44
noncomputable def F_MH_verify_2 (pp : Nat) (pb : Nat) (cl_ : Int32) (ed : Nat) (s : Sto) : Int32 × Sto := bnd (F_MH_as_2  s) fun s21 => bnd ((s21.1 225 23).toNatClampNeg) fun z21 => bnd ((s21.1 225 30).toNatClampNeg) fun z22 => F_MH_verify_2_L0 pp pb cl_ ed 64 0 s21
noncomputable def E_MH_verify_2 (pp : Nat) (pb : Nat) (cl_ : Int32) (ed : Nat) (s : Sto) : Prop := bnd (F_MH_as_2  s) fun s21 => bnd ((s21.1 225 23).toNatClampNeg) fun z21 => bnd ((s21.1 225 30).toNatClampNeg) fun z22 => E_MH_verify_2_L0 pp pb cl_ ed 64 0 s21
set_option maxHeartbeats 8000000 in
set_option maxRecDepth 100000 in
theorem N_MH_verify_2 (l : Launch) (g : Gd) (sz : Nat) (T : TyN) (s : Sto) (pl : va_W) (hO : okn g T s pl) (hU : inj T) (h0 pk b : Nat) (pp : Nat) (pb : Nat) (cl_ : Int32) (ed : Nat) (k_h0 : T h0 = some 225) (k_pk : T pk = some pp) (n_pk : nsp pp = (1, 2592, [])) (k_b : T b = some pb) (n_b : nsp pb = (1, 16384, [])) (h1 : 4627 ≤ ed) (h3 : ed ≤ 16384) (hE : E_MH_verify_2 pp pb cl_ ed s)  : Met l y_MH_verify w_MH_verify ({ frames := 5, cells := 0, slots := 0, locals := 116 } : Room) (va_Pc [.ref h0, .int (nI 2), .ref pk, .ref b, .int cl_, .int (nI ed)] (pr (en g) g.1 vcl sz ([] ++ pl))) (va_Qi (fun (r : Int32) (u : (Int32 × Sto) × va_W) => (u.1 = F_MH_verify_2 pp pb cl_ ed s ∧ r = u.1.1 ∧ frm (M_MH_verify_2) s u.1.2 ∧ True) ∧ okn g T u.1.2 u.2) (po g.1 vcl (va_A ([] ++ pl) sz) (fun (u : (Int32 × Sto) × va_W) => [] ++ u.2)) (va_A ([] ++ pl) sz)) 0 0 (va_A ([] ++ pl) sz) := by
  refine mc_entry (cc := c_MH_verify) (maxL := 11) (ret := (some .boolean)) (by decide) rfl (Nat.le_of_ble_eq_true rfl) ?_
  intro p e s0 m args below meth c ls F hr hlk hnm hsz hP hD hEn hA hl
  obtain ⟨hx, hb, hml, hown, hts⟩ := id F
  have hK := hEn.1
  generalize va_A ([] ++ pl) sz = A at hD hEn hA ⊢
  have hS : va_S A s0.heap s0.heap [] := va_S.rf
  have hl : lv_has ls 11 [(0, .ref h0), (1, .int (nI 2)), (2, .ref pk), (3, .ref b), (4, .int cl_), (5, .int (nI ed))] := hl
  have hR : F_MH_verify_2 pp pb cl_ ed s = F_MH_verify_2 pp pb cl_ ed s := rfl
  have hF : frm (M_MH_verify_2) s s := frm_rf
  have ne_172_pp : 172 ≠ pp := nsp_ne (p := 172) rfl n_pk (show (5 : Nat) ≠ 1 by decide)
  have ne_172_pb : 172 ≠ pb := nsp_ne (p := 172) rfl n_b (show (5 : Nat) ≠ 1 by decide)
  have ne_225_pp : 225 ≠ pp := nsp_ne (p := 225) rfl n_pk (show (5 : Nat) ≠ 1 by decide)
  have ne_225_pb : 225 ≠ pb := nsp_ne (p := 225) rfl n_b (show (5 : Nat) ≠ 1 by decide)
  refine lv_aload_n hx hb dMH_verify_0 rfl (lv_at hl 0 rfl) ?_
  refine lv_iload_n hx hb dMH_verify_1 rfl (lv_at hl 1 rfl) ?_
  refine mp_v (cx := []) (wr := []) hP hD hS hA [] [] rfl rfl rfl (by decide) (va_runV (As := [.int (nI 2)]) (rest := []) F (N_MH_as_2 l g _ T s pl hO hU h0 k_h0) (cwV 1 hts (wg_app (wg_c kw_1698 (wg_c kw_1700 (wg_c ks_60 (wg_c kw_13 wg_n)))) kw_1701) rfl rfl rfl (by decide +kernel) ⟨by decide, by decide⟩) (pn_V (en_ok g) (ci := 12) (kn := 225) (fl := [(3, 172), (3, 181), (3, 226), (3, 291), (3, 299), (3, 308), (3, 317), (3, 326), (3, 334), (3, 342), (3, 350), (3, 359), (3, 368), (3, 369), (3, 370), (3, 371), (3, 372), (3, 373), (3, 374), (3, 375), (3, 376), (3, 377), (3, 378), (0, 0), (0, 0), (0, 0), (0, 0), (0, 0), (0, 0), (0, 0), (0, 0)]) hK hO k_h0 rfl hP hD hS hA hEn [] rfl rfl rfl) rfl rfl hl.1 rfl (lv_room (Nat.le_of_ble_eq_true rfl)) dMH_verify_2 ⟨by omega, by omega⟩) (fun  u21 H locs hu21 hP hD hS => ?_)
  obtain ⟨s21, pl⟩ := u21
  obtain ⟨⟨eq21, hFc21, ⟨x21, hx_21, hb_21⟩, ⟨x22, hx_22, hb_22⟩, ⟨x23, hx_23, hb_23⟩, ⟨x24, hx_24, hb_24⟩, ⟨x25, hx_25, hb_25⟩, ⟨x26, hx_26, hb_26⟩, ⟨x27, hx_27, hb_27⟩, ⟨x28, hx_28, hb_28⟩, -⟩, hO⟩ := hu21
  have hO : okn g T s21 pl := hO
  have hP : va_P g.1 vcl ([] ++ pl) _ := hP
  have hD : va_D _ ([] ++ pl) := hD
  have hFc21 : frm (M_MH_as_2) s s21 := hFc21
  have hb_21 : x21 = 2 := hb_21
  have hb_22 : x22 = 8 := hb_22
  have hb_23 : x23 = 7 := hb_23
  have hb_24 : x24 = 2 := hb_24
  have hb_25 : x25 = 524288 := hb_25
  have hb_26 : x26 = 261888 := hb_26
  have hb_27 : x27 = 120 := hb_27
  have hb_28 : x28 = 64 := hb_28
  replace hR := bnd_step hR eq21
  replace hE := bndP_step hE eq21
  have hF := frm_tr hF hFc21 (fun k hk => by unfold M_MH_as_2 at hk; unfold M_MH_verify_2; omega)
  subst hb_21
  subst hb_22
  subst hb_23
  subst hb_24
  subst hb_25
  subst hb_26
  subst hb_27
  subst hb_28
  refine W.widen (k := 0) (n := 0) (by omega) (by omega) ?_
  refine lv_aload_n hx hb dMH_verify_5 rfl (lv_at hl 0 rfl) ?_
  refine nw_get (C := "LatticeKeysModel$Hands") (TT := T_MH) (N := 31) hx hb hts (wg_ft i_MH) hown hK hO k_h0 (kn := 225) (ci := 12) (fl := [(3, 172), (3, 181), (3, 226), (3, 291), (3, 299), (3, 308), (3, 317), (3, 326), (3, 334), (3, 342), (3, 350), (3, 359), (3, 368), (3, 369), (3, 370), (3, 371), (3, 372), (3, 373), (3, 374), (3, 375), (3, 376), (3, 377), (3, 378), (0, 0), (0, 0), (0, 0), (0, 0), (0, 0), (0, 0), (0, 0), (0, 0)]) rfl hP rfl 23 (by decide) (hts _ (wg_t kw_1455)) (fun _ h9 => h9) (cd := (0, 0)) rfl dMH_verify_6 (fun v21 hv21 => ?_)
  obtain rfl := (show v21 = .int (s21.1 225 23) from hv21)
  obtain ⟨z21, ez21, hz21, hz22⟩ := cl_of (b := 2147483648) hx_21 (by omega) (by decide)
  replace hR := bnd_step hR ez21
  replace hE := bndP_step hE ez21
  refine mi_as hz21 ?_
  subst hz22
  refine lv_if_ne (tgt := 17) hx hb dMH_verify_9 (by decide) (fun h21 => ?_) (fun h21 => absurd h21 (by decide))
  refine lv_bipush (v := nI 20) hx hb dMH_verify_17 (by decide) ?_
  refine lv_istore (lv' := [(6, .int (nI 20)), (0, .ref h0), (1, .int (nI 2)), (2, .ref pk), (3, .ref b), (4, .int cl_), (5, .int (nI ed))]) hx hb dMH_verify_19 hl (by decide) rfl (fun ls hl => ?_)
  refine lv_bipush (v := nI 8) hx hb dMH_verify_21 (by decide) ?_
  refine lv_aload_n hx hb dMH_verify_23 rfl (lv_at hl 1 rfl) ?_
  refine nw_get (C := "LatticeKeysModel$Hands") (TT := T_MH) (N := 31) hx hb hts (wg_ft i_MH) hown hK hO k_h0 (kn := 225) (ci := 12) (fl := [(3, 172), (3, 181), (3, 226), (3, 291), (3, 299), (3, 308), (3, 317), (3, 326), (3, 334), (3, 342), (3, 350), (3, 359), (3, 368), (3, 369), (3, 370), (3, 371), (3, 372), (3, 373), (3, 374), (3, 375), (3, 376), (3, 377), (3, 378), (0, 0), (0, 0), (0, 0), (0, 0), (0, 0), (0, 0), (0, 0), (0, 0)]) rfl hP rfl 30 (by decide) (hts _ (wg_t kw_1462)) (fun _ h9 => h9) (cd := (0, 0)) rfl dMH_verify_24 (fun v22 hv22 => ?_)
  obtain rfl := (show v22 = .int (s21.1 225 30) from hv22)
  obtain ⟨z22, ez22, hz23, hz24⟩ := cl_of (b := 2147483648) hx_28 (by omega) (by decide)
  replace hR := bnd_step hR ez22
  replace hE := bndP_step hE ez22
  refine mi_as hz23 ?_
  subst hz24
  refine mi_imul hx hb dMH_verify_27 ?_
  refine mi_as (show nI (8 * 64) = nI 512 from rfl) ?_
  refine lv_istore (lv' := [(7, .int (nI 512)), (6, .int (nI 20)), (0, .ref h0), (1, .int (nI 2)), (2, .ref pk), (3, .ref b), (4, .int cl_), (5, .int (nI ed))]) hx hb dMH_verify_28 hl (by decide) rfl (fun ls hl => ?_)
  refine lv_iconst (v := nI 1) hx hb dMH_verify_30 (by decide) ?_
  refine lv_istore (lv' := [(8, .int (nI 1)), (7, .int (nI 512)), (6, .int (nI 20)), (0, .ref h0), (1, .int (nI 2)), (2, .ref pk), (3, .ref b), (4, .int cl_), (5, .int (nI ed))]) hx hb dMH_verify_31 hl (by decide) rfl (fun ls hl => ?_)
  refine lv_iconst (v := nI 0) hx hb dMH_verify_33 (by decide) ?_
  refine lv_istore (lv' := [(9, .int (nI 0)), (8, .int (nI 1)), (7, .int (nI 512)), (6, .int (nI 20)), (0, .ref h0), (1, .int (nI 2)), (2, .ref pk), (3, .ref b), (4, .int cl_), (5, .int (nI ed))]) hx hb dMH_verify_34 hl (by decide) rfl (fun ls hl => ?_)
  have lp21 : ∀ (n21 : Nat) (i21 : Nat) (s22 : Sto) (pl : va_W) (ls : Array Slot) (H : Heap) (locs : List Loc), n21 + i21 = 64 → frm (M_MH_verify_2) s s22 → s22.1 225 23 = nI 2 → s22.1 225 24 = nI 8 → s22.1 225 25 = nI 7 → s22.1 225 26 = nI 2 → s22.1 225 27 = nI 524288 → s22.1 225 28 = nI 261888 → s22.1 225 29 = nI 120 → s22.1 225 30 = nI 64 → E_MH_verify_2_L0 pp pb cl_ ed n21 i21 s22 → F_MH_verify_2 pp pb cl_ ed s = F_MH_verify_2_L0 pp pb cl_ ed n21 i21 s22 → lv_has ls 11 [(9, .int (nI i21)), (8, .int (nI 1)), (7, .int (nI 512)), (6, .int (nI 20)), (0, .ref h0), (2, .ref pk), (3, .ref b), (4, .int cl_), (5, .int (nI ed))] → okn g T s22 pl → va_P g.1 vcl ([] ++ pl) H → va_D A ([] ++ pl) → va_S A s0.heap H locs → W p l e ({ frames := 5, cells := 0, slots := 0, locals := 116 } : Room) s0 m args below meth c H locs 0 0 (MQ below (va_Qi (fun (r : Int32) (u : (Int32 × Sto) × va_W) => (u.1 = F_MH_verify_2 pp pb cl_ ed s ∧ r = u.1.1 ∧ frm (M_MH_verify_2) s u.1.2 ∧ True) ∧ okn g T u.1.2 u.2) (po g.1 vcl A (fun (u : (Int32 × Sto) × va_W) => [] ++ u.2)) A) args s0 0 0 A) (F0 m 36 ls []) := by
    intro n21
    induction n21 with
    | zero =>
      intro i21 s22 pl ls H locs hm21 hF hf21 hf22 hf23 hf24 hf25 hf26 hf27 hf28 hE hR hl hO hP hD hS
      refine lv_iload hx hb dMH_verify_36 (lv_at hl 0 rfl) ?_
      refine lv_aload_n hx hb dMH_verify_38 rfl (lv_at hl 4 rfl) ?_
      refine nw_get (C := "LatticeKeysModel$Hands") (TT := T_MH) (N := 31) hx hb hts (wg_ft i_MH) hown hK hO k_h0 (kn := 225) (ci := 12) (fl := [(3, 172), (3, 181), (3, 226), (3, 291), (3, 299), (3, 308), (3, 317), (3, 326), (3, 334), (3, 342), (3, 350), (3, 359), (3, 368), (3, 369), (3, 370), (3, 371), (3, 372), (3, 373), (3, 374), (3, 375), (3, 376), (3, 377), (3, 378), (0, 0), (0, 0), (0, 0), (0, 0), (0, 0), (0, 0), (0, 0), (0, 0)]) rfl hP rfl 30 (by decide) (hts _ (wg_t kw_1462)) (fun _ h9 => h9) (cd := (0, 0)) rfl dMH_verify_39 (fun v23 hv23 => ?_)
      obtain rfl := (show v23 = .int (s22.1 225 30) from hv23)
      obtain ⟨z23, ez23, hz25, hz26⟩ := cl_of (b := 2147483648) hf28 (by omega) (by decide)
      replace hR := bnd_step hR ez23
      replace hE := bndP_step hE ez23
      refine mi_as hz25 ?_
      subst hz26
      refine mi_ge (tgt := 62) hx hb dMH_verify_42 (by decide) (by omega) (by omega) (fun h22 => ?_) (fun h22 => absurd h22 (by omega))
      refine lv_iconst (v := nI 0) hx hb dMH_verify_62 (by decide) ?_
      refine lv_istore (lv' := [(9, .int (nI 0)), (8, .int (nI 1)), (7, .int (nI 512)), (6, .int (nI 20)), (0, .ref h0), (2, .ref pk), (3, .ref b), (4, .int cl_), (5, .int (nI ed))]) hx hb dMH_verify_63 hl (by decide) rfl (fun ls hl => ?_)
      have lp22 : ∀ (n22 : Nat) (i22 : Nat) (z24 : Int32) (az21 : Nat) (s23 : Sto) (pl : va_W) (ls : Array Slot) (H : Heap) (locs : List Loc), n22 + i22 = 7 → (az21 = 512 + 5120 * i22) → frm (M_MH_verify_2) s s23 → s23.1 225 23 = nI 2 → s23.1 225 24 = nI 8 → s23.1 225 25 = nI 7 → s23.1 225 26 = nI 2 → s23.1 225 27 = nI 524288 → s23.1 225 28 = nI 261888 → s23.1 225 29 = nI 120 → s23.1 225 30 = nI 64 → E_MH_verify_2_L1 pp pb cl_ ed n22 i22 z24 az21 s23 → F_MH_verify_2 pp pb cl_ ed s = F_MH_verify_2_L1 pp pb cl_ ed n22 i22 z24 az21 s23 → lv_has ls 11 [(9, .int (nI i22)), (8, .int z24), (7, .int (nI az21)), (6, .int (nI 20)), (0, .ref h0), (2, .ref pk), (3, .ref b), (4, .int cl_), (5, .int (nI ed))] → okn g T s23 pl → va_P g.1 vcl ([] ++ pl) H → va_D A ([] ++ pl) → va_S A s0.heap H locs → W p l e ({ frames := 5, cells := 0, slots := 0, locals := 116 } : Room) s0 m args below meth c H locs 0 0 (MQ below (va_Qi (fun (r : Int32) (u : (Int32 × Sto) × va_W) => (u.1 = F_MH_verify_2 pp pb cl_ ed s ∧ r = u.1.1 ∧ frm (M_MH_verify_2) s u.1.2 ∧ True) ∧ okn g T u.1.2 u.2) (po g.1 vcl A (fun (u : (Int32 × Sto) × va_W) => [] ++ u.2)) A) args s0 0 0 A) (F0 m 65 ls []) := by
        intro n22
        induction n22 with
        | zero =>
          intro i22 z24 az21 s23 pl ls H locs hm22 hi21 hF hf29 hf30 hf31 hf32 hf33 hf34 hf35 hf36 hE hR hl hO hP hD hS
          refine lv_iload hx hb dMH_verify_65 (lv_at hl 0 rfl) ?_
          refine lv_aload_n hx hb dMH_verify_67 rfl (lv_at hl 4 rfl) ?_
          refine nw_get (C := "LatticeKeysModel$Hands") (TT := T_MH) (N := 31) hx hb hts (wg_ft i_MH) hown hK hO k_h0 (kn := 225) (ci := 12) (fl := [(3, 172), (3, 181), (3, 226), (3, 291), (3, 299), (3, 308), (3, 317), (3, 326), (3, 334), (3, 342), (3, 350), (3, 359), (3, 368), (3, 369), (3, 370), (3, 371), (3, 372), (3, 373), (3, 374), (3, 375), (3, 376), (3, 377), (3, 378), (0, 0), (0, 0), (0, 0), (0, 0), (0, 0), (0, 0), (0, 0), (0, 0)]) rfl hP rfl 25 (by decide) (hts _ (wg_t kw_1457)) (fun _ h9 => h9) (cd := (0, 0)) rfl dMH_verify_68 (fun v24 hv24 => ?_)
          obtain rfl := (show v24 = .int (s23.1 225 25) from hv24)
          obtain ⟨z25, ez24, hz27, hz28⟩ := cl_of (b := 2147483648) hf31 (by omega) (by decide)
          replace hR := bnd_step hR ez24
          replace hE := bndP_step hE ez24
          refine mi_as hz27 ?_
          subst hz28
          refine mi_ge (tgt := 164) hx hb dMH_verify_71 (by decide) (by omega) (by omega) (fun h23 => ?_) (fun h23 => absurd h23 (by omega))
          refine lv_iload hx hb dMH_verify_164 (lv_at hl 1 rfl) ?_
          refine lv_if_eq (tgt := 182) hx hb dMH_verify_166 (by decide) (fun h24 => ?_) (fun h24 => ?_)
          · replace hR := hR.trans (if_pos h24)
            replace hE := iteP_pos h24 hE
            refine lv_iconst (v := nI 0) hx hb dMH_verify_182 (by decide) ?_
            exact mp_zret hx hb hr hlk rfl hP hD hS ((nI 0, s23), pl) ⟨⟨hR.symm, rfl, hF, trivial⟩, hO⟩ [] rfl rfl rfl (by omega) (by omega) dMH_verify_183
          · replace hR := hR.trans (if_neg h24)
            replace hE := iteP_neg h24 hE
            refine lv_aload_n hx hb dMH_verify_169 rfl (lv_at hl 4 rfl) ?_
            refine lv_aload_n hx hb dMH_verify_170 rfl (lv_at hl 6 rfl) ?_
            refine lv_iload hx hb dMH_verify_171 (lv_at hl 2 rfl) ?_
            refine lv_bipush (v := nI 8) hx hb dMH_verify_173 (by decide) ?_
            refine mi_idiv hx hb dMH_verify_175 (by omega) (by omega) (by omega) ?_
            refine mp_i (cx := []) (wr := []) hP hD hS hA [] [] rfl rfl rfl (by decide) (va_runV (As := [.ref b, .int (nI (az21 / 8))]) (rest := []) F (N_MH_readHints_2 l g _ T s23 pl hO hU h0 b pb (az21 / 8) k_h0 k_b n_b hf29 hf30 hf31 hf32 hf33 hf34 hf35 hf36 (by omega)) (cwV 2 hts (wg_app (wg_c kw_1925 (wg_c kw_1927 (wg_c ks_81 (wg_c kw_13 wg_n)))) kw_1928) rfl rfl rfl (by decide +kernel) ⟨by decide, by decide⟩) (pn_V (en_ok g) (ci := 12) (kn := 225) (fl := [(3, 172), (3, 181), (3, 226), (3, 291), (3, 299), (3, 308), (3, 317), (3, 326), (3, 334), (3, 342), (3, 350), (3, 359), (3, 368), (3, 369), (3, 370), (3, 371), (3, 372), (3, 373), (3, 374), (3, 375), (3, 376), (3, 377), (3, 378), (0, 0), (0, 0), (0, 0), (0, 0), (0, 0), (0, 0), (0, 0), (0, 0)]) hK hO k_h0 rfl hP hD hS hA hEn [] rfl rfl rfl) rfl rfl hl.1 rfl (lv_room (Nat.le_of_ble_eq_true rfl)) dMH_verify_176 ⟨by omega, by omega⟩) (fun r21 u22 H locs hu22 hP hD hS => ?_)
            obtain ⟨q21, pl⟩ := u22
            obtain ⟨⟨eq22, rfl, hFc22, -⟩, hO⟩ := hu22
            have hO : okn g T q21.2 pl := hO
            have hP : va_P g.1 vcl ([] ++ pl) _ := hP
            have hD : va_D _ ([] ++ pl) := hD
            have hFc22 : frm (M_MH_readHints_2) s23 q21.2 := hFc22
            replace hR := bnd_step hR eq22
            replace hE := bndP_step hE eq22
            have hF := frm_tr hF hFc22 (fun k hk => by unfold M_MH_readHints_2 at hk; unfold M_MH_verify_2; omega)
            have hf37 : q21.2.1 225 23 = nI 2 := fc_F hf29 hFc22 (by unfold M_MH_readHints_2; omega)
            have hf38 : q21.2.1 225 24 = nI 8 := fc_F hf30 hFc22 (by unfold M_MH_readHints_2; omega)
            have hf39 : q21.2.1 225 25 = nI 7 := fc_F hf31 hFc22 (by unfold M_MH_readHints_2; omega)
            have hf40 : q21.2.1 225 26 = nI 2 := fc_F hf32 hFc22 (by unfold M_MH_readHints_2; omega)
            have hf41 : q21.2.1 225 27 = nI 524288 := fc_F hf33 hFc22 (by unfold M_MH_readHints_2; omega)
            have hf42 : q21.2.1 225 28 = nI 261888 := fc_F hf34 hFc22 (by unfold M_MH_readHints_2; omega)
            have hf43 : q21.2.1 225 29 = nI 120 := fc_F hf35 hFc22 (by unfold M_MH_readHints_2; omega)
            have hf44 : q21.2.1 225 30 = nI 64 := fc_F hf36 hFc22 (by unfold M_MH_readHints_2; omega)
            refine W.widen (k := 0) (n := 0) (by omega) (by omega) ?_
            refine lv_if_ne (tgt := 184) hx hb dMH_verify_179 (by decide) (fun h25 => ?_) (fun h25 => ?_)
            · replace hR := hR.trans (if_neg h25)
              replace hE := iteP_neg h25 hE
              refine lv_aload_n hx hb dMH_verify_184 rfl (lv_at hl 4 rfl) ?_
              refine nw_get (C := "LatticeKeysModel$Hands") (TT := T_MH) (N := 31) hx hb hts (wg_ft i_MH) hown hK hO k_h0 (kn := 225) (ci := 12) (fl := [(3, 172), (3, 181), (3, 226), (3, 291), (3, 299), (3, 308), (3, 317), (3, 326), (3, 334), (3, 342), (3, 350), (3, 359), (3, 368), (3, 369), (3, 370), (3, 371), (3, 372), (3, 373), (3, 374), (3, 375), (3, 376), (3, 377), (3, 378), (0, 0), (0, 0), (0, 0), (0, 0), (0, 0), (0, 0), (0, 0), (0, 0)]) rfl hP rfl 0 (by decide) (hts _ (wg_t kw_1432)) (fun _ h9 => h9) (cd := (3, 172)) rfl dMH_verify_185 (fun v25 hv25 => ?_)
              obtain ⟨r22, rfl, kr21⟩ := (show ∃ r : Nat, v25 = .ref r ∧ T r = some 172 from hv25)
              refine mp_v (cx := []) (wr := []) hP hD hS hA [] [] rfl rfl rfl (by decide) (va_runV (As := []) (rest := []) F (N_MS_shake l g _ T q21.2 pl hO hU r22 kr21) (cwV 0 hts (wg_app (wg_c kw_1714 (wg_c kw_1657 (wg_c kw_1658 (wg_c kw_10 wg_n)))) kw_1659) rfl rfl rfl (by decide +kernel) ⟨by decide, by decide⟩) (pn_V (en_ok g) (ci := 9) (kn := 172) (fl := [(3, 173), (3, 174), (3, 175), (3, 176), (3, 177), (0, 0), (0, 0), (0, 0)]) hK hO kr21 rfl hP hD hS hA hEn [] rfl rfl rfl) rfl rfl hl.1 rfl (lv_room (Nat.le_of_ble_eq_true rfl)) dMH_verify_188 ⟨by omega, by omega⟩) (fun  u23 H locs hu23 hP hD hS => ?_)
              obtain ⟨s24, pl⟩ := u23
              obtain ⟨⟨eq23, hFc23, ⟨x31, hx_31, hb_31⟩, ⟨x32, hx_32, hb_32⟩, -⟩, hO⟩ := hu23
              have hO : okn g T s24 pl := hO
              have hP : va_P g.1 vcl ([] ++ pl) _ := hP
              have hD : va_D _ ([] ++ pl) := hD
              have hFc23 : frm (M_MS_shake) q21.2 s24 := hFc23
              have hb_31 : x31 = 0 := hb_31
              have hb_32 : x32 = 136 := hb_32
              replace hR := bnd_step hR eq23
              replace hE := bndP_step hE eq23
              have hF := frm_tr hF hFc23 (fun k hk => by unfold M_MS_shake at hk; unfold M_MH_verify_2; omega)
              have hf45 : s24.1 225 23 = nI 2 := fc_F hf37 hFc23 (by unfold M_MS_shake; omega)
              have hf46 : s24.1 225 24 = nI 8 := fc_F hf38 hFc23 (by unfold M_MS_shake; omega)
              have hf47 : s24.1 225 25 = nI 7 := fc_F hf39 hFc23 (by unfold M_MS_shake; omega)
              have hf48 : s24.1 225 26 = nI 2 := fc_F hf40 hFc23 (by unfold M_MS_shake; omega)
              have hf49 : s24.1 225 27 = nI 524288 := fc_F hf41 hFc23 (by unfold M_MS_shake; omega)
              have hf50 : s24.1 225 28 = nI 261888 := fc_F hf42 hFc23 (by unfold M_MS_shake; omega)
              have hf51 : s24.1 225 29 = nI 120 := fc_F hf43 hFc23 (by unfold M_MS_shake; omega)
              have hf52 : s24.1 225 30 = nI 64 := fc_F hf44 hFc23 (by unfold M_MS_shake; omega)
              refine W.widen (k := 0) (n := 0) (by omega) (by omega) ?_
              refine lv_aload_n hx hb dMH_verify_191 rfl (lv_at hl 4 rfl) ?_
              refine nw_get (C := "LatticeKeysModel$Hands") (TT := T_MH) (N := 31) hx hb hts (wg_ft i_MH) hown hK hO k_h0 (kn := 225) (ci := 12) (fl := [(3, 172), (3, 181), (3, 226), (3, 291), (3, 299), (3, 308), (3, 317), (3, 326), (3, 334), (3, 342), (3, 350), (3, 359), (3, 368), (3, 369), (3, 370), (3, 371), (3, 372), (3, 373), (3, 374), (3, 375), (3, 376), (3, 377), (3, 378), (0, 0), (0, 0), (0, 0), (0, 0), (0, 0), (0, 0), (0, 0), (0, 0)]) rfl hP rfl 0 (by decide) (hts _ (wg_t kw_1432)) (fun _ h9 => h9) (cd := (3, 172)) rfl dMH_verify_192 (fun v26 hv26 => ?_)
              obtain ⟨r23, rfl, kr22⟩ := (show ∃ r : Nat, v26 = .ref r ∧ T r = some 172 from hv26)
              refine lv_aload_n hx hb dMH_verify_195 rfl (lv_at hl 5 rfl) ?_
              refine lv_iconst (v := nI 0) hx hb dMH_verify_196 (by decide) ?_
              refine lv_aload_n hx hb dMH_verify_197 rfl (lv_at hl 4 rfl) ?_
              refine nw_get (C := "LatticeKeysModel$Hands") (TT := T_MH) (N := 31) hx hb hts (wg_ft i_MH) hown hK hO k_h0 (kn := 225) (ci := 12) (fl := [(3, 172), (3, 181), (3, 226), (3, 291), (3, 299), (3, 308), (3, 317), (3, 326), (3, 334), (3, 342), (3, 350), (3, 359), (3, 368), (3, 369), (3, 370), (3, 371), (3, 372), (3, 373), (3, 374), (3, 375), (3, 376), (3, 377), (3, 378), (0, 0), (0, 0), (0, 0), (0, 0), (0, 0), (0, 0), (0, 0), (0, 0)]) rfl hP rfl 23 (by decide) (hts _ (wg_t kw_1455)) (fun _ h9 => h9) (cd := (0, 0)) rfl dMH_verify_198 (fun v27 hv27 => ?_)
              obtain rfl := (show v27 = .int (s24.1 225 23) from hv27)
              obtain ⟨z26, ez25, hz29, hz30⟩ := cl_of (b := 2147483648) hf45 (by omega) (by decide)
              replace hR := bnd_step hR ez25
              replace hE := bndP_step hE ez25
              refine mi_as hz29 ?_
              subst hz30
              refine mp_i (cx := []) (wr := []) hP hD hS hA [] [] rfl rfl rfl (by decide) (va_runS (As := [.int (nI 2)]) (rest := [.int (nI 0), .ref pk, .ref r23]) F (N_MH_openSize_2 l g _ T s24 pl hO hU ) (va_cwS 1 hts (wg_app (wg_c kw_1740 (wg_c kw_1741 (wg_c kw_13 wg_n))) kw_1742) rfl rfl rfl (by decide +kernel) ⟨by decide, by decide⟩) (pp_S (en_ok g) hP hD hS hA hEn [] rfl rfl) rfl rfl hl.1 rfl (lv_room (Nat.le_of_ble_eq_true rfl)) dMH_verify_201 ⟨by omega, by omega⟩) (fun r24 u24 H locs hu24 hP hD hS => ?_)
              obtain ⟨q22, pl⟩ := u24
              obtain ⟨⟨eq24, rfl, hFc24, ⟨x34, hx_34, hb_34⟩, hxp24, -⟩, hO⟩ := hu24
              have hO : okn g T q22.2 pl := hO
              have hP : va_P g.1 vcl ([] ++ pl) _ := hP
              have hD : va_D _ ([] ++ pl) := hD
              have hFc24 : frm (M_MH_openSize_2) s24 q22.2 := hFc24
              have hb_34 : x34 < 2593 := hb_34
              replace hR := bnd_step hR eq24
              replace hE := bndP_step hE eq24
              have hF := frm_tr hF hFc24 (fun k hk => by unfold M_MH_openSize_2 at hk; unfold M_MH_verify_2; omega)
              have hf53 : q22.2.1 225 23 = nI 2 := fc_F hf45 hFc24 (by unfold M_MH_openSize_2; omega)
              have hf54 : q22.2.1 225 24 = nI 8 := fc_F hf46 hFc24 (by unfold M_MH_openSize_2; omega)
              have hf55 : q22.2.1 225 25 = nI 7 := fc_F hf47 hFc24 (by unfold M_MH_openSize_2; omega)
              have hf56 : q22.2.1 225 26 = nI 2 := fc_F hf48 hFc24 (by unfold M_MH_openSize_2; omega)
              have hf57 : q22.2.1 225 27 = nI 524288 := fc_F hf49 hFc24 (by unfold M_MH_openSize_2; omega)
              have hf58 : q22.2.1 225 28 = nI 261888 := fc_F hf50 hFc24 (by unfold M_MH_openSize_2; omega)
              have hf59 : q22.2.1 225 29 = nI 120 := fc_F hf51 hFc24 (by unfold M_MH_openSize_2; omega)
              have hf60 : q22.2.1 225 30 = nI 64 := fc_F hf52 hFc24 (by unfold M_MH_openSize_2; omega)
              have hf61 : q22.2.1 172 6 = nI x31 := fc_F hx_31 hFc24 (by unfold M_MH_openSize_2; omega)
              have hf62 : q22.2.1 172 5 = nI x32 := fc_F hx_32 hFc24 (by unfold M_MH_openSize_2; omega)
              obtain ⟨z27, ez26, hz31, hz32⟩ := cl_of (b := 2147483648) hx_34 (by omega) (by decide)
              replace hR := bnd_step hR ez26
              replace hE := bndP_step hE ez26
              refine mi_as hz31 ?_
              have hsz21 : z27 = 2592 := (nI_eq (by omega) (by omega)).mp (hz31.symm.trans hxp24)
              subst hsz21
              refine W.widen (k := 0) (n := 0) (by omega) (by omega) ?_
              refine mp_v (cx := []) (wr := []) hP hD hS hA [] [] rfl rfl rfl (by decide) (va_runV (As := [.ref pk, .int (nI 0), .int (nI 2592)]) (rest := []) F (N_MS_puts l g _ T q22.2 pl hO hU r23 pk pp 2592 0 2592 x31 x32 kr22 k_pk n_pk hf61 hf62 (by omega) (by omega) (by omega) (by omega)) (cwV 3 hts (wg_app (wg_c kw_1715 (wg_c kw_1608 (wg_c kw_1609 (wg_c kw_10 wg_n)))) kw_1610) rfl rfl rfl (by decide +kernel) ⟨by decide, by decide⟩) (pn_V (en_ok g) (ci := 9) (kn := 172) (fl := [(3, 173), (3, 174), (3, 175), (3, 176), (3, 177), (0, 0), (0, 0), (0, 0)]) hK hO kr22 rfl hP hD hS hA hEn [] rfl rfl rfl) rfl rfl hl.1 rfl (lv_room (Nat.le_of_ble_eq_true rfl)) dMH_verify_204 ⟨by omega, by omega⟩) (fun  u25 H locs hu25 hP hD hS => ?_)
              obtain ⟨s25, pl⟩ := u25
              obtain ⟨⟨eq25, hFc25, ⟨x35, hx_35, hb_35⟩, ⟨x36, hx_36, hb_36⟩, -⟩, hO⟩ := hu25
              have hO : okn g T s25 pl := hO
              have hP : va_P g.1 vcl ([] ++ pl) _ := hP
              have hD : va_D _ ([] ++ pl) := hD
              have hFc25 : frm (M_MS_puts) q22.2 s25 := hFc25
              have hb_35 : x35 < x32 := hb_35
              have hb_36 : x36 = x32 := hb_36
              replace hR := bnd_step hR eq25
              replace hE := bndP_step hE eq25
              have hF := frm_tr hF hFc25 (fun k hk => by unfold M_MS_puts at hk; unfold M_MH_verify_2; omega)
              have hf63 : s25.1 225 23 = nI 2 := fc_F hf53 hFc25 (by unfold M_MS_puts; omega)
              have hf64 : s25.1 225 24 = nI 8 := fc_F hf54 hFc25 (by unfold M_MS_puts; omega)
              have hf65 : s25.1 225 25 = nI 7 := fc_F hf55 hFc25 (by unfold M_MS_puts; omega)
              have hf66 : s25.1 225 26 = nI 2 := fc_F hf56 hFc25 (by unfold M_MS_puts; omega)
              have hf67 : s25.1 225 27 = nI 524288 := fc_F hf57 hFc25 (by unfold M_MS_puts; omega)
              have hf68 : s25.1 225 28 = nI 261888 := fc_F hf58 hFc25 (by unfold M_MS_puts; omega)
              have hf69 : s25.1 225 29 = nI 120 := fc_F hf59 hFc25 (by unfold M_MS_puts; omega)
              have hf70 : s25.1 225 30 = nI 64 := fc_F hf60 hFc25 (by unfold M_MS_puts; omega)
              refine W.widen (k := 0) (n := 0) (by omega) (by omega) ?_
              refine lv_aload_n hx hb dMH_verify_207 rfl (lv_at hl 4 rfl) ?_
              refine nw_get (C := "LatticeKeysModel$Hands") (TT := T_MH) (N := 31) hx hb hts (wg_ft i_MH) hown hK hO k_h0 (kn := 225) (ci := 12) (fl := [(3, 172), (3, 181), (3, 226), (3, 291), (3, 299), (3, 308), (3, 317), (3, 326), (3, 334), (3, 342), (3, 350), (3, 359), (3, 368), (3, 369), (3, 370), (3, 371), (3, 372), (3, 373), (3, 374), (3, 375), (3, 376), (3, 377), (3, 378), (0, 0), (0, 0), (0, 0), (0, 0), (0, 0), (0, 0), (0, 0), (0, 0)]) rfl hP rfl 0 (by decide) (hts _ (wg_t kw_1432)) (fun _ h9 => h9) (cd := (3, 172)) rfl dMH_verify_208 (fun v28 hv28 => ?_)
              obtain ⟨r25, rfl, kr23⟩ := (show ∃ r : Nat, v28 = .ref r ∧ T r = some 172 from hv28)
              refine mp_v (cx := []) (wr := []) hP hD hS hA [] [] rfl rfl rfl (by decide) (va_runV (As := []) (rest := []) F (N_MS_end l g _ T s25 pl hO hU r25 x35 x36 kr23 hx_35 hx_36 (by omega) (by omega)) (cwV 0 hts (wg_app (wg_c kw_1717 (wg_c kw_1630 (wg_c kw_1631 (wg_c kw_10 wg_n)))) kw_1632) rfl rfl rfl (by decide +kernel) ⟨by decide, by decide⟩) (pn_V (en_ok g) (ci := 9) (kn := 172) (fl := [(3, 173), (3, 174), (3, 175), (3, 176), (3, 177), (0, 0), (0, 0), (0, 0)]) hK hO kr23 rfl hP hD hS hA hEn [] rfl rfl rfl) rfl rfl hl.1 rfl (lv_room (Nat.le_of_ble_eq_true rfl)) dMH_verify_211 ⟨by omega, by omega⟩) (fun  u26 H locs hu26 hP hD hS => ?_)
              obtain ⟨s26, pl⟩ := u26
              obtain ⟨⟨eq26, hFc26, ⟨x38, hx_38, hb_38⟩, ⟨x39, hx_39, hb_39⟩, -⟩, hO⟩ := hu26
              have hO : okn g T s26 pl := hO
              have hP : va_P g.1 vcl ([] ++ pl) _ := hP
              have hD : va_D _ ([] ++ pl) := hD
              have hFc26 : frm (M_MS_end) s25 s26 := hFc26
              have hb_38 : x38 = 0 := hb_38
              have hb_39 : x39 = x36 := hb_39
              replace hR := bnd_step hR eq26
              replace hE := bndP_step hE eq26
              have hF := frm_tr hF hFc26 (fun k hk => by unfold M_MS_end at hk; unfold M_MH_verify_2; omega)
              have hf71 : s26.1 225 23 = nI 2 := fc_F hf63 hFc26 (by unfold M_MS_end; omega)
              have hf72 : s26.1 225 24 = nI 8 := fc_F hf64 hFc26 (by unfold M_MS_end; omega)
              have hf73 : s26.1 225 25 = nI 7 := fc_F hf65 hFc26 (by unfold M_MS_end; omega)
              have hf74 : s26.1 225 26 = nI 2 := fc_F hf66 hFc26 (by unfold M_MS_end; omega)
              have hf75 : s26.1 225 27 = nI 524288 := fc_F hf67 hFc26 (by unfold M_MS_end; omega)
              have hf76 : s26.1 225 28 = nI 261888 := fc_F hf68 hFc26 (by unfold M_MS_end; omega)
              have hf77 : s26.1 225 29 = nI 120 := fc_F hf69 hFc26 (by unfold M_MS_end; omega)
              have hf78 : s26.1 225 30 = nI 64 := fc_F hf70 hFc26 (by unfold M_MS_end; omega)
              refine W.widen (k := 0) (n := 0) (by omega) (by omega) ?_
              refine lv_aload_n hx hb dMH_verify_214 rfl (lv_at hl 4 rfl) ?_
              refine nw_get (C := "LatticeKeysModel$Hands") (TT := T_MH) (N := 31) hx hb hts (wg_ft i_MH) hown hK hO k_h0 (kn := 225) (ci := 12) (fl := [(3, 172), (3, 181), (3, 226), (3, 291), (3, 299), (3, 308), (3, 317), (3, 326), (3, 334), (3, 342), (3, 350), (3, 359), (3, 368), (3, 369), (3, 370), (3, 371), (3, 372), (3, 373), (3, 374), (3, 375), (3, 376), (3, 377), (3, 378), (0, 0), (0, 0), (0, 0), (0, 0), (0, 0), (0, 0), (0, 0), (0, 0)]) rfl hP rfl 0 (by decide) (hts _ (wg_t kw_1432)) (fun _ h9 => h9) (cd := (3, 172)) rfl dMH_verify_215 (fun v29 hv29 => ?_)
              obtain ⟨r26, rfl, kr24⟩ := (show ∃ r : Nat, v29 = .ref r ∧ T r = some 172 from hv29)
              refine lv_aload_n hx hb dMH_verify_218 rfl (lv_at hl 4 rfl) ?_
              refine nw_get (C := "LatticeKeysModel$Hands") (TT := T_MH) (N := 31) hx hb hts (wg_ft i_MH) hown hK hO k_h0 (kn := 225) (ci := 12) (fl := [(3, 172), (3, 181), (3, 226), (3, 291), (3, 299), (3, 308), (3, 317), (3, 326), (3, 334), (3, 342), (3, 350), (3, 359), (3, 368), (3, 369), (3, 370), (3, 371), (3, 372), (3, 373), (3, 374), (3, 375), (3, 376), (3, 377), (3, 378), (0, 0), (0, 0), (0, 0), (0, 0), (0, 0), (0, 0), (0, 0), (0, 0)]) rfl hP rfl 22 (by decide) (hts _ (wg_t kw_1454)) (fun _ h9 => h9) (cd := (3, 378)) rfl dMH_verify_219 (fun v30 hv30 => ?_)
              obtain ⟨r27, rfl, kr25⟩ := (show ∃ r : Nat, v30 = .ref r ∧ T r = some 378 from hv30)
              refine lv_iconst (v := nI 0) hx hb dMH_verify_222 (by decide) ?_
              refine lv_bipush (v := nI 64) hx hb dMH_verify_223 (by decide) ?_
              refine mp_v (cx := []) (wr := []) hP hD hS hA [] [] rfl rfl rfl (by decide) (va_runV (As := [.ref r27, .int (nI 0), .int (nI 64)]) (rest := []) F (N_MS_take l g _ T s26 pl hO hU r26 r27 378 64 0 64 x38 x39 kr24 kr25 rfl hx_38 hx_39 (by omega) (by omega) (by omega) (by omega)) (cwV 3 hts (wg_app (wg_c kw_1718 (wg_c kw_1634 (wg_c kw_1635 (wg_c kw_10 wg_n)))) kw_1636) rfl rfl rfl (by decide +kernel) ⟨by decide, by decide⟩) (pn_V (en_ok g) (ci := 9) (kn := 172) (fl := [(3, 173), (3, 174), (3, 175), (3, 176), (3, 177), (0, 0), (0, 0), (0, 0)]) hK hO kr24 rfl hP hD hS hA hEn [] rfl rfl rfl) rfl rfl hl.1 rfl (lv_room (Nat.le_of_ble_eq_true rfl)) dMH_verify_225 ⟨by omega, by omega⟩) (fun  u27 H locs hu27 hP hD hS => ?_)
              obtain ⟨s27, pl⟩ := u27
              obtain ⟨⟨eq27, hFc27, ⟨x41, hx_41, hb_41⟩, ⟨x42, hx_42, hb_42⟩, -⟩, hO⟩ := hu27
              have hO : okn g T s27 pl := hO
              have hP : va_P g.1 vcl ([] ++ pl) _ := hP
              have hD : va_D _ ([] ++ pl) := hD
              have hFc27 : frm (M_MS_take 378) s26 s27 := hFc27
              have hb_41 : x41 ≤ x39 := hb_41
              have hb_42 : x42 = x39 := hb_42
              replace hR := bnd_step hR eq27
              replace hE := bndP_step hE eq27
              have hF := frm_tr hF hFc27 (fun k hk => by unfold M_MS_take at hk; unfold M_MH_verify_2; omega)
              have hf79 : s27.1 225 23 = nI 2 := fc_F hf71 hFc27 (by unfold M_MS_take; omega)
              have hf80 : s27.1 225 24 = nI 8 := fc_F hf72 hFc27 (by unfold M_MS_take; omega)
              have hf81 : s27.1 225 25 = nI 7 := fc_F hf73 hFc27 (by unfold M_MS_take; omega)
              have hf82 : s27.1 225 26 = nI 2 := fc_F hf74 hFc27 (by unfold M_MS_take; omega)
              have hf83 : s27.1 225 27 = nI 524288 := fc_F hf75 hFc27 (by unfold M_MS_take; omega)
              have hf84 : s27.1 225 28 = nI 261888 := fc_F hf76 hFc27 (by unfold M_MS_take; omega)
              have hf85 : s27.1 225 29 = nI 120 := fc_F hf77 hFc27 (by unfold M_MS_take; omega)
              have hf86 : s27.1 225 30 = nI 64 := fc_F hf78 hFc27 (by unfold M_MS_take; omega)
              refine W.widen (k := 0) (n := 0) (by omega) (by omega) ?_
              refine lv_aload_n hx hb dMH_verify_228 rfl (lv_at hl 4 rfl) ?_
              refine lv_aload_n hx hb dMH_verify_229 rfl (lv_at hl 4 rfl) ?_
              refine nw_get (C := "LatticeKeysModel$Hands") (TT := T_MH) (N := 31) hx hb hts (wg_ft i_MH) hown hK hO k_h0 (kn := 225) (ci := 12) (fl := [(3, 172), (3, 181), (3, 226), (3, 291), (3, 299), (3, 308), (3, 317), (3, 326), (3, 334), (3, 342), (3, 350), (3, 359), (3, 368), (3, 369), (3, 370), (3, 371), (3, 372), (3, 373), (3, 374), (3, 375), (3, 376), (3, 377), (3, 378), (0, 0), (0, 0), (0, 0), (0, 0), (0, 0), (0, 0), (0, 0), (0, 0)]) rfl hP rfl 22 (by decide) (hts _ (wg_t kw_1454)) (fun _ h9 => h9) (cd := (3, 378)) rfl dMH_verify_230 (fun v31 hv31 => ?_)
              obtain ⟨r28, rfl, kr26⟩ := (show ∃ r : Nat, v31 = .ref r ∧ T r = some 378 from hv31)
              refine lv_iconst (v := nI 0) hx hb dMH_verify_233 (by decide) ?_
              refine lv_aload_n hx hb dMH_verify_234 rfl (lv_at hl 6 rfl) ?_
              refine lv_aload_n hx hb dMH_verify_235 rfl (lv_at hl 4 rfl) ?_
              refine nw_get (C := "LatticeKeysModel$Hands") (TT := T_MH) (N := 31) hx hb hts (wg_ft i_MH) hown hK hO k_h0 (kn := 225) (ci := 12) (fl := [(3, 172), (3, 181), (3, 226), (3, 291), (3, 299), (3, 308), (3, 317), (3, 326), (3, 334), (3, 342), (3, 350), (3, 359), (3, 368), (3, 369), (3, 370), (3, 371), (3, 372), (3, 373), (3, 374), (3, 375), (3, 376), (3, 377), (3, 378), (0, 0), (0, 0), (0, 0), (0, 0), (0, 0), (0, 0), (0, 0), (0, 0)]) rfl hP rfl 23 (by decide) (hts _ (wg_t kw_1455)) (fun _ h9 => h9) (cd := (0, 0)) rfl dMH_verify_236 (fun v32 hv32 => ?_)
              obtain rfl := (show v32 = .int (s27.1 225 23) from hv32)
              obtain ⟨z28, ez27, hz33, hz34⟩ := cl_of (b := 2147483648) hf79 (by omega) (by decide)
              replace hR := bnd_step hR ez27
              replace hE := bndP_step hE ez27
              refine mi_as hz33 ?_
              subst hz34
              refine mp_i (cx := []) (wr := []) hP hD hS hA [] [] rfl rfl rfl (by decide) (va_runS (As := [.int (nI 2)]) (rest := [.ref b, .int (nI 0), .ref r28, .ref h0]) F (N_MH_markSize_2 l g _ T s27 pl hO hU ) (va_cwS 1 hts (wg_app (wg_c kw_1929 (wg_c kw_1915 (wg_c kw_13 wg_n))) kw_1916) rfl rfl rfl (by decide +kernel) ⟨by decide, by decide⟩) (pp_S (en_ok g) hP hD hS hA hEn [] rfl rfl) rfl rfl hl.1 rfl (lv_room (Nat.le_of_ble_eq_true rfl)) dMH_verify_239 ⟨by omega, by omega⟩) (fun r29 u28 H locs hu28 hP hD hS => ?_)
              obtain ⟨q23, pl⟩ := u28
              obtain ⟨⟨eq28, rfl, hFc28, ⟨x44, hx_44, hb_44⟩, hxp28, -⟩, hO⟩ := hu28
              have hO : okn g T q23.2 pl := hO
              have hP : va_P g.1 vcl ([] ++ pl) _ := hP
              have hD : va_D _ ([] ++ pl) := hD
              have hFc28 : frm (M_MH_markSize_2) s27 q23.2 := hFc28
              have hb_44 : x44 < 4628 := hb_44
              replace hR := bnd_step hR eq28
              replace hE := bndP_step hE eq28
              have hF := frm_tr hF hFc28 (fun k hk => by unfold M_MH_markSize_2 at hk; unfold M_MH_verify_2; omega)
              have hf87 : q23.2.1 225 23 = nI 2 := fc_F hf79 hFc28 (by unfold M_MH_markSize_2; omega)
              have hf88 : q23.2.1 225 24 = nI 8 := fc_F hf80 hFc28 (by unfold M_MH_markSize_2; omega)
              have hf89 : q23.2.1 225 25 = nI 7 := fc_F hf81 hFc28 (by unfold M_MH_markSize_2; omega)
              have hf90 : q23.2.1 225 26 = nI 2 := fc_F hf82 hFc28 (by unfold M_MH_markSize_2; omega)
              have hf91 : q23.2.1 225 27 = nI 524288 := fc_F hf83 hFc28 (by unfold M_MH_markSize_2; omega)
              have hf92 : q23.2.1 225 28 = nI 261888 := fc_F hf84 hFc28 (by unfold M_MH_markSize_2; omega)
              have hf93 : q23.2.1 225 29 = nI 120 := fc_F hf85 hFc28 (by unfold M_MH_markSize_2; omega)
              have hf94 : q23.2.1 225 30 = nI 64 := fc_F hf86 hFc28 (by unfold M_MH_markSize_2; omega)
              have hf95 : q23.2.1 172 6 = nI x41 := fc_F hx_41 hFc28 (by unfold M_MH_markSize_2; omega)
              have hf96 : q23.2.1 172 5 = nI x42 := fc_F hx_42 hFc28 (by unfold M_MH_markSize_2; omega)
              obtain ⟨z29, ez28, hz35, hz36⟩ := cl_of (b := 2147483648) hx_44 (by omega) (by decide)
              replace hR := bnd_step hR ez28
              replace hE := bndP_step hE ez28
              refine mi_as hz35 ?_
              have hsz22 : z29 = 4627 := (nI_eq (by omega) (by omega)).mp (hz35.symm.trans hxp28)
              subst hsz22
              refine W.widen (k := 0) (n := 0) (by omega) (by omega) ?_
              refine lv_iload hx hb dMH_verify_242 (lv_at hl 7 rfl) ?_
              refine lv_iload hx hb dMH_verify_244 (lv_at hl 8 rfl) ?_
              refine mp_v (cx := []) (wr := []) hP hD hS hA [] [] rfl rfl rfl (by decide) (va_runV (As := [.ref r28, .int (nI 0), .ref b, .int (nI 4627), .int cl_, .int (nI ed)]) (rest := []) F (N_MH_message_2 l g _ T q23.2 pl hO hU h0 r28 b 378 64 0 pb 16384 4627 cl_ ed k_h0 kr26 rfl k_b n_b hf87 hf88 hf89 hf90 hf91 hf92 hf93 hf94 (by omega) (by omega) (by omega) (by omega) (by omega)) (cwV 6 hts (wg_app (wg_c kw_1864 (wg_c kw_1866 (wg_c ks_71 (wg_c kw_13 wg_n)))) kw_1867) rfl rfl rfl (by decide +kernel) ⟨by decide, by decide⟩) (pn_V (en_ok g) (ci := 12) (kn := 225) (fl := [(3, 172), (3, 181), (3, 226), (3, 291), (3, 299), (3, 308), (3, 317), (3, 326), (3, 334), (3, 342), (3, 350), (3, 359), (3, 368), (3, 369), (3, 370), (3, 371), (3, 372), (3, 373), (3, 374), (3, 375), (3, 376), (3, 377), (3, 378), (0, 0), (0, 0), (0, 0), (0, 0), (0, 0), (0, 0), (0, 0), (0, 0)]) hK hO k_h0 rfl hP hD hS hA hEn [] rfl rfl rfl) rfl rfl hl.1 rfl (lv_room (Nat.le_of_ble_eq_true rfl)) dMH_verify_246 ⟨by omega, by omega⟩) (fun  u29 H locs hu29 hP hD hS => ?_)
              obtain ⟨s28, pl⟩ := u29
              obtain ⟨⟨eq29, hFc29, -⟩, hO⟩ := hu29
              have hO : okn g T s28 pl := hO
              have hP : va_P g.1 vcl ([] ++ pl) _ := hP
              have hD : va_D _ ([] ++ pl) := hD
              have hFc29 : frm (M_MH_message_2) q23.2 s28 := hFc29
              replace hR := bnd_step hR eq29
              replace hE := bndP_step hE eq29
              have hF := frm_tr hF hFc29 (fun k hk => by unfold M_MH_message_2 at hk; unfold M_MH_verify_2; omega)
              have hf97 : s28.1 225 23 = nI 2 := fc_F hf87 hFc29 (by unfold M_MH_message_2; omega)
              have hf98 : s28.1 225 24 = nI 8 := fc_F hf88 hFc29 (by unfold M_MH_message_2; omega)
              have hf99 : s28.1 225 25 = nI 7 := fc_F hf89 hFc29 (by unfold M_MH_message_2; omega)
              have hf100 : s28.1 225 26 = nI 2 := fc_F hf90 hFc29 (by unfold M_MH_message_2; omega)
              have hf101 : s28.1 225 27 = nI 524288 := fc_F hf91 hFc29 (by unfold M_MH_message_2; omega)
              have hf102 : s28.1 225 28 = nI 261888 := fc_F hf92 hFc29 (by unfold M_MH_message_2; omega)
              have hf103 : s28.1 225 29 = nI 120 := fc_F hf93 hFc29 (by unfold M_MH_message_2; omega)
              have hf104 : s28.1 225 30 = nI 64 := fc_F hf94 hFc29 (by unfold M_MH_message_2; omega)
              refine W.widen (k := 0) (n := 0) (by omega) (by omega) ?_
              refine lv_aload_n hx hb dMH_verify_249 rfl (lv_at hl 4 rfl) ?_
              refine lv_aload_n hx hb dMH_verify_250 rfl (lv_at hl 5 rfl) ?_
              refine mp_v (cx := []) (wr := []) hP hD hS hA [] [] rfl rfl rfl (by decide) (va_runV (As := [.ref pk]) (rest := []) F (N_MH_expand_2 l g _ T s28 pl hO hU h0 pk pp 2592 k_h0 k_pk n_pk hf97 hf98 hf99 hf100 hf101 hf102 hf103 hf104 (by omega) (by omega) hE.1) (cwV 1 hts (wg_app (wg_c kw_1719 (wg_c kw_1721 (wg_c ks_61 (wg_c kw_13 wg_n)))) kw_1722) rfl rfl rfl (by decide +kernel) ⟨by decide, by decide⟩) (pn_V (en_ok g) (ci := 12) (kn := 225) (fl := [(3, 172), (3, 181), (3, 226), (3, 291), (3, 299), (3, 308), (3, 317), (3, 326), (3, 334), (3, 342), (3, 350), (3, 359), (3, 368), (3, 369), (3, 370), (3, 371), (3, 372), (3, 373), (3, 374), (3, 375), (3, 376), (3, 377), (3, 378), (0, 0), (0, 0), (0, 0), (0, 0), (0, 0), (0, 0), (0, 0), (0, 0)]) hK hO k_h0 rfl hP hD hS hA hEn [] rfl rfl rfl) rfl rfl hl.1 rfl (lv_room (Nat.le_of_ble_eq_true rfl)) dMH_verify_251 ⟨by omega, by omega⟩) (fun  u30 H locs hu30 hP hD hS => ?_)
              obtain ⟨s29, pl⟩ := u30
              obtain ⟨⟨eq30, hFc30, -⟩, hO⟩ := hu30
              have hO : okn g T s29 pl := hO
              have hP : va_P g.1 vcl ([] ++ pl) _ := hP
              have hD : va_D _ ([] ++ pl) := hD
              have hFc30 : frm (M_MH_expand_2) s28 s29 := hFc30
              replace hE := hE.2
              replace hR := bnd_step hR eq30
              replace hE := bndP_step hE eq30
              have hF := frm_tr hF hFc30 (fun k hk => by unfold M_MH_expand_2 at hk; unfold M_MH_verify_2; omega)
              have hf105 : s29.1 225 23 = nI 2 := fc_F hf97 hFc30 (by unfold M_MH_expand_2; omega)
              have hf106 : s29.1 225 24 = nI 8 := fc_F hf98 hFc30 (by unfold M_MH_expand_2; omega)
              have hf107 : s29.1 225 25 = nI 7 := fc_F hf99 hFc30 (by unfold M_MH_expand_2; omega)
              have hf108 : s29.1 225 26 = nI 2 := fc_F hf100 hFc30 (by unfold M_MH_expand_2; omega)
              have hf109 : s29.1 225 27 = nI 524288 := fc_F hf101 hFc30 (by unfold M_MH_expand_2; omega)
              have hf110 : s29.1 225 28 = nI 261888 := fc_F hf102 hFc30 (by unfold M_MH_expand_2; omega)
              have hf111 : s29.1 225 29 = nI 120 := fc_F hf103 hFc30 (by unfold M_MH_expand_2; omega)
              have hf112 : s29.1 225 30 = nI 64 := fc_F hf104 hFc30 (by unfold M_MH_expand_2; omega)
              refine W.widen (k := 0) (n := 0) (by omega) (by omega) ?_
              refine lv_aload_n hx hb dMH_verify_254 rfl (lv_at hl 4 rfl) ?_
              refine lv_aload_n hx hb dMH_verify_255 rfl (lv_at hl 4 rfl) ?_
              refine nw_get (C := "LatticeKeysModel$Hands") (TT := T_MH) (N := 31) hx hb hts (wg_ft i_MH) hown hK hO k_h0 (kn := 225) (ci := 12) (fl := [(3, 172), (3, 181), (3, 226), (3, 291), (3, 299), (3, 308), (3, 317), (3, 326), (3, 334), (3, 342), (3, 350), (3, 359), (3, 368), (3, 369), (3, 370), (3, 371), (3, 372), (3, 373), (3, 374), (3, 375), (3, 376), (3, 377), (3, 378), (0, 0), (0, 0), (0, 0), (0, 0), (0, 0), (0, 0), (0, 0), (0, 0)]) rfl hP rfl 20 (by decide) (hts _ (wg_t kw_1452)) (fun _ h9 => h9) (cd := (3, 376)) rfl dMH_verify_256 (fun v33 hv33 => ?_)
              obtain ⟨r30, rfl, kr27⟩ := (show ∃ r : Nat, v33 = .ref r ∧ T r = some 376 from hv33)
              refine mp_v (cx := []) (wr := []) hP hD hS hA [] [] rfl rfl rfl (by decide) (va_runV (As := [.ref r30]) (rest := []) F (N_MH_ball_2 l g _ T s29 pl hO hU h0 r30 376 k_h0 kr27 rfl hf105 hf106 hf107 hf108 hf109 hf110 hf111 hf112 hE.1) (cwV 1 hts (wg_app (wg_c kw_1889 (wg_c kw_1891 (wg_c ks_77 (wg_c kw_13 wg_n)))) kw_1892) rfl rfl rfl (by decide +kernel) ⟨by decide, by decide⟩) (pn_V (en_ok g) (ci := 12) (kn := 225) (fl := [(3, 172), (3, 181), (3, 226), (3, 291), (3, 299), (3, 308), (3, 317), (3, 326), (3, 334), (3, 342), (3, 350), (3, 359), (3, 368), (3, 369), (3, 370), (3, 371), (3, 372), (3, 373), (3, 374), (3, 375), (3, 376), (3, 377), (3, 378), (0, 0), (0, 0), (0, 0), (0, 0), (0, 0), (0, 0), (0, 0), (0, 0)]) hK hO k_h0 rfl hP hD hS hA hEn [] rfl rfl rfl) rfl rfl hl.1 rfl (lv_room (Nat.le_of_ble_eq_true rfl)) dMH_verify_259 ⟨by omega, by omega⟩) (fun  u31 H locs hu31 hP hD hS => ?_)
              obtain ⟨s30, pl⟩ := u31
              obtain ⟨⟨eq31, hFc31, -⟩, hO⟩ := hu31
              have hO : okn g T s30 pl := hO
              have hP : va_P g.1 vcl ([] ++ pl) _ := hP
              have hD : va_D _ ([] ++ pl) := hD
              have hFc31 : frm (M_MH_ball_2) s29 s30 := hFc31
              replace hE := hE.2
              replace hR := bnd_step hR eq31
              replace hE := bndP_step hE eq31
              have hF := frm_tr hF hFc31 (fun k hk => by unfold M_MH_ball_2 at hk; unfold M_MH_verify_2; omega)
              have hf113 : s30.1 225 23 = nI 2 := fc_F hf105 hFc31 (by unfold M_MH_ball_2; omega)
              have hf114 : s30.1 225 24 = nI 8 := fc_F hf106 hFc31 (by unfold M_MH_ball_2; omega)
              have hf115 : s30.1 225 25 = nI 7 := fc_F hf107 hFc31 (by unfold M_MH_ball_2; omega)
              have hf116 : s30.1 225 26 = nI 2 := fc_F hf108 hFc31 (by unfold M_MH_ball_2; omega)
              have hf117 : s30.1 225 27 = nI 524288 := fc_F hf109 hFc31 (by unfold M_MH_ball_2; omega)
              have hf118 : s30.1 225 28 = nI 261888 := fc_F hf110 hFc31 (by unfold M_MH_ball_2; omega)
              have hf119 : s30.1 225 29 = nI 120 := fc_F hf111 hFc31 (by unfold M_MH_ball_2; omega)
              have hf120 : s30.1 225 30 = nI 64 := fc_F hf112 hFc31 (by unfold M_MH_ball_2; omega)
              refine W.widen (k := 0) (n := 0) (by omega) (by omega) ?_
              refine lv_iconst (v := nI 0) hx hb dMH_verify_262 (by decide) ?_
              refine lv_istore (lv' := [(9, .int (nI 0)), (8, .int z24), (7, .int (nI az21)), (6, .int (nI 20)), (0, .ref h0), (2, .ref pk), (3, .ref b), (4, .int cl_), (5, .int (nI ed))]) hx hb dMH_verify_263 hl (by decide) rfl (fun ls hl => ?_)
              have lp23 : ∀ (n23 : Nat) (i23 : Nat) (s31 : Sto) (pl : va_W) (ls : Array Slot) (H : Heap) (locs : List Loc), n23 + i23 = 7 → frm (M_MH_verify_2) s s31 → s31.1 225 23 = nI 2 → s31.1 225 24 = nI 8 → s31.1 225 25 = nI 7 → s31.1 225 26 = nI 2 → s31.1 225 27 = nI 524288 → s31.1 225 28 = nI 261888 → s31.1 225 29 = nI 120 → s31.1 225 30 = nI 64 → E_MH_verify_2_L2 pp n23 i23 s31 → F_MH_verify_2 pp pb cl_ ed s = F_MH_verify_2_L2 pp n23 i23 s31 → lv_has ls 11 [(9, .int (nI i23)), (0, .ref h0), (2, .ref pk)] → okn g T s31 pl → va_P g.1 vcl ([] ++ pl) H → va_D A ([] ++ pl) → va_S A s0.heap H locs → W p l e ({ frames := 5, cells := 0, slots := 0, locals := 116 } : Room) s0 m args below meth c H locs 0 0 (MQ below (va_Qi (fun (r : Int32) (u : (Int32 × Sto) × va_W) => (u.1 = F_MH_verify_2 pp pb cl_ ed s ∧ r = u.1.1 ∧ frm (M_MH_verify_2) s u.1.2 ∧ True) ∧ okn g T u.1.2 u.2) (po g.1 vcl A (fun (u : (Int32 × Sto) × va_W) => [] ++ u.2)) A) args s0 0 0 A) (F0 m 265 ls []) := by
                intro n23
                induction n23 with
                | zero =>
                  intro i23 s31 pl ls H locs hm23 hF hf121 hf122 hf123 hf124 hf125 hf126 hf127 hf128 hE hR hl hO hP hD hS
                  refine lv_iload hx hb dMH_verify_265 (lv_at hl 0 rfl) ?_
                  refine lv_aload_n hx hb dMH_verify_267 rfl (lv_at hl 1 rfl) ?_
                  refine nw_get (C := "LatticeKeysModel$Hands") (TT := T_MH) (N := 31) hx hb hts (wg_ft i_MH) hown hK hO k_h0 (kn := 225) (ci := 12) (fl := [(3, 172), (3, 181), (3, 226), (3, 291), (3, 299), (3, 308), (3, 317), (3, 326), (3, 334), (3, 342), (3, 350), (3, 359), (3, 368), (3, 369), (3, 370), (3, 371), (3, 372), (3, 373), (3, 374), (3, 375), (3, 376), (3, 377), (3, 378), (0, 0), (0, 0), (0, 0), (0, 0), (0, 0), (0, 0), (0, 0), (0, 0)]) rfl hP rfl 25 (by decide) (hts _ (wg_t kw_1457)) (fun _ h9 => h9) (cd := (0, 0)) rfl dMH_verify_268 (fun v34 hv34 => ?_)
                  obtain rfl := (show v34 = .int (s31.1 225 25) from hv34)
                  obtain ⟨z30, ez29, hz37, hz38⟩ := cl_of (b := 2147483648) hf123 (by omega) (by decide)
                  replace hR := bnd_step hR ez29
                  replace hE := bndP_step hE ez29
                  refine mi_as hz37 ?_
                  subst hz38
                  refine mi_ge (tgt := 303) hx hb dMH_verify_271 (by decide) (by omega) (by omega) (fun h26 => ?_) (fun h26 => absurd h26 (by omega))
                  refine lv_iconst (v := nI 0) hx hb dMH_verify_303 (by decide) ?_
                  refine lv_istore (lv' := [(9, .int (nI 0)), (0, .ref h0), (2, .ref pk)]) hx hb dMH_verify_304 hl (by decide) rfl (fun ls hl => ?_)
                  have lp24 : ∀ (n24 : Nat) (i24 : Nat) (s32 : Sto) (pl : va_W) (ls : Array Slot) (H : Heap) (locs : List Loc), n24 + i24 = 8 → frm (M_MH_verify_2) s s32 → s32.1 225 23 = nI 2 → s32.1 225 24 = nI 8 → s32.1 225 25 = nI 7 → s32.1 225 26 = nI 2 → s32.1 225 27 = nI 524288 → s32.1 225 28 = nI 261888 → s32.1 225 29 = nI 120 → s32.1 225 30 = nI 64 → E_MH_verify_2_L3 pp n24 i24 s32 → F_MH_verify_2 pp pb cl_ ed s = F_MH_verify_2_L3 pp n24 i24 s32 → lv_has ls 11 [(9, .int (nI i24)), (0, .ref h0), (2, .ref pk)] → okn g T s32 pl → va_P g.1 vcl ([] ++ pl) H → va_D A ([] ++ pl) → va_S A s0.heap H locs → W p l e ({ frames := 5, cells := 0, slots := 0, locals := 116 } : Room) s0 m args below meth c H locs 0 0 (MQ below (va_Qi (fun (r : Int32) (u : (Int32 × Sto) × va_W) => (u.1 = F_MH_verify_2 pp pb cl_ ed s ∧ r = u.1.1 ∧ frm (M_MH_verify_2) s u.1.2 ∧ True) ∧ okn g T u.1.2 u.2) (po g.1 vcl A (fun (u : (Int32 × Sto) × va_W) => [] ++ u.2)) A) args s0 0 0 A) (F0 m 306 ls []) := by
                    intro n24
                    induction n24 with
                    | zero =>
                      intro i24 s32 pl ls H locs hm24 hF hf129 hf130 hf131 hf132 hf133 hf134 hf135 hf136 hE hR hl hO hP hD hS
                      refine lv_iload hx hb dMH_verify_306 (lv_at hl 0 rfl) ?_
                      refine lv_aload_n hx hb dMH_verify_308 rfl (lv_at hl 1 rfl) ?_
                      refine nw_get (C := "LatticeKeysModel$Hands") (TT := T_MH) (N := 31) hx hb hts (wg_ft i_MH) hown hK hO k_h0 (kn := 225) (ci := 12) (fl := [(3, 172), (3, 181), (3, 226), (3, 291), (3, 299), (3, 308), (3, 317), (3, 326), (3, 334), (3, 342), (3, 350), (3, 359), (3, 368), (3, 369), (3, 370), (3, 371), (3, 372), (3, 373), (3, 374), (3, 375), (3, 376), (3, 377), (3, 378), (0, 0), (0, 0), (0, 0), (0, 0), (0, 0), (0, 0), (0, 0), (0, 0)]) rfl hP rfl 24 (by decide) (hts _ (wg_t kw_1456)) (fun _ h9 => h9) (cd := (0, 0)) rfl dMH_verify_309 (fun v35 hv35 => ?_)
                      obtain rfl := (show v35 = .int (s32.1 225 24) from hv35)
                      obtain ⟨z31, ez30, hz39, hz40⟩ := cl_of (b := 2147483648) hf130 (by omega) (by decide)
                      replace hR := bnd_step hR ez30
                      replace hE := bndP_step hE ez30
                      refine mi_as hz39 ?_
                      subst hz40
                      refine mi_ge (tgt := 448) hx hb dMH_verify_312 (by decide) (by omega) (by omega) (fun h27 => ?_) (fun h27 => absurd h27 (by omega))
                      refine lv_aload_n hx hb dMH_verify_448 rfl (lv_at hl 1 rfl) ?_
                      refine lv_iconst (v := nI 1) hx hb dMH_verify_449 (by decide) ?_
                      refine lv_aload_n hx hb dMH_verify_450 rfl (lv_at hl 1 rfl) ?_
                      refine nw_get (C := "LatticeKeysModel$Hands") (TT := T_MH) (N := 31) hx hb hts (wg_ft i_MH) hown hK hO k_h0 (kn := 225) (ci := 12) (fl := [(3, 172), (3, 181), (3, 226), (3, 291), (3, 299), (3, 308), (3, 317), (3, 326), (3, 334), (3, 342), (3, 350), (3, 359), (3, 368), (3, 369), (3, 370), (3, 371), (3, 372), (3, 373), (3, 374), (3, 375), (3, 376), (3, 377), (3, 378), (0, 0), (0, 0), (0, 0), (0, 0), (0, 0), (0, 0), (0, 0), (0, 0)]) rfl hP rfl 21 (by decide) (hts _ (wg_t kw_1453)) (fun _ h9 => h9) (cd := (3, 377)) rfl dMH_verify_451 (fun v36 hv36 => ?_)
                      obtain ⟨r31, rfl, kr28⟩ := (show ∃ r : Nat, v36 = .ref r ∧ T r = some 377 from hv36)
                      refine mp_v (cx := []) (wr := []) hP hD hS hA [] [] rfl rfl rfl (by decide) (va_runV (As := [.int (nI 1), .ref r31]) (rest := []) F (N_MH_marked_2 l g _ T s32 pl hO hU h0 r31 (nI 1) 377 k_h0 kr28 rfl hf129 hf130 hf131 hf132 hf133 hf134 hf135 hf136) (cwV 2 hts (wg_app (wg_c kw_1872 (wg_c kw_1874 (wg_c ks_73 (wg_c kw_13 wg_n)))) kw_1875) rfl rfl rfl (by decide +kernel) ⟨by decide, by decide⟩) (pn_V (en_ok g) (ci := 12) (kn := 225) (fl := [(3, 172), (3, 181), (3, 226), (3, 291), (3, 299), (3, 308), (3, 317), (3, 326), (3, 334), (3, 342), (3, 350), (3, 359), (3, 368), (3, 369), (3, 370), (3, 371), (3, 372), (3, 373), (3, 374), (3, 375), (3, 376), (3, 377), (3, 378), (0, 0), (0, 0), (0, 0), (0, 0), (0, 0), (0, 0), (0, 0), (0, 0)]) hK hO k_h0 rfl hP hD hS hA hEn [] rfl rfl rfl) rfl rfl hl.1 rfl (lv_room (Nat.le_of_ble_eq_true rfl)) dMH_verify_454 ⟨by omega, by omega⟩) (fun  u32 H locs hu32 hP hD hS => ?_)
                      obtain ⟨s33, pl⟩ := u32
                      obtain ⟨⟨eq32, hFc32, -⟩, hO⟩ := hu32
                      have hO : okn g T s33 pl := hO
                      have hP : va_P g.1 vcl ([] ++ pl) _ := hP
                      have hD : va_D _ ([] ++ pl) := hD
                      have hFc32 : frm (M_MH_marked_2 377) s32 s33 := hFc32
                      replace hR := bnd_step hR eq32
                      replace hE := bndP_step hE eq32
                      have hF := frm_tr hF hFc32 (fun k hk => by unfold M_MH_marked_2 at hk; unfold M_MH_verify_2; omega)
                      have hf137 : s33.1 225 23 = nI 2 := fc_F hf129 hFc32 (by unfold M_MH_marked_2; omega)
                      have hf138 : s33.1 225 24 = nI 8 := fc_F hf130 hFc32 (by unfold M_MH_marked_2; omega)
                      have hf139 : s33.1 225 25 = nI 7 := fc_F hf131 hFc32 (by unfold M_MH_marked_2; omega)
                      have hf140 : s33.1 225 26 = nI 2 := fc_F hf132 hFc32 (by unfold M_MH_marked_2; omega)
                      have hf141 : s33.1 225 27 = nI 524288 := fc_F hf133 hFc32 (by unfold M_MH_marked_2; omega)
                      have hf142 : s33.1 225 28 = nI 261888 := fc_F hf134 hFc32 (by unfold M_MH_marked_2; omega)
                      have hf143 : s33.1 225 29 = nI 120 := fc_F hf135 hFc32 (by unfold M_MH_marked_2; omega)
                      have hf144 : s33.1 225 30 = nI 64 := fc_F hf136 hFc32 (by unfold M_MH_marked_2; omega)
                      refine W.widen (k := 0) (n := 0) (by omega) (by omega) ?_
                      refine lv_iconst (v := nI 0) hx hb dMH_verify_457 (by decide) ?_
                      refine lv_istore (lv' := [(9, .int (nI 0)), (0, .ref h0), (2, .ref pk)]) hx hb dMH_verify_458 hl (by decide) rfl (fun ls hl => ?_)
                      have lp25 : ∀ (n25 : Nat) (i25 : Nat) (s34 : Sto) (pl : va_W) (ls : Array Slot) (H : Heap) (locs : List Loc), n25 + i25 = 64 → frm (M_MH_verify_2) s s34 → s34.1 225 23 = nI 2 → s34.1 225 24 = nI 8 → s34.1 225 25 = nI 7 → s34.1 225 26 = nI 2 → s34.1 225 27 = nI 524288 → s34.1 225 28 = nI 261888 → s34.1 225 29 = nI 120 → s34.1 225 30 = nI 64 → E_MH_verify_2_L4 n25 i25 s34 → F_MH_verify_2 pp pb cl_ ed s = F_MH_verify_2_L4 n25 i25 s34 → lv_has ls 11 [(9, .int (nI i25)), (0, .ref h0)] → okn g T s34 pl → va_P g.1 vcl ([] ++ pl) H → va_D A ([] ++ pl) → va_S A s0.heap H locs → W p l e ({ frames := 5, cells := 0, slots := 0, locals := 116 } : Room) s0 m args below meth c H locs 0 0 (MQ below (va_Qi (fun (r : Int32) (u : (Int32 × Sto) × va_W) => (u.1 = F_MH_verify_2 pp pb cl_ ed s ∧ r = u.1.1 ∧ frm (M_MH_verify_2) s u.1.2 ∧ True) ∧ okn g T u.1.2 u.2) (po g.1 vcl A (fun (u : (Int32 × Sto) × va_W) => [] ++ u.2)) A) args s0 0 0 A) (F0 m 460 ls []) := by
                        intro n25
                        induction n25 with
                        | zero =>
                          intro i25 s34 pl ls H locs hm25 hF hf145 hf146 hf147 hf148 hf149 hf150 hf151 hf152 hE hR hl hO hP hD hS
                          refine lv_iload hx hb dMH_verify_460 (lv_at hl 0 rfl) ?_
                          refine lv_aload_n hx hb dMH_verify_462 rfl (lv_at hl 1 rfl) ?_
                          refine nw_get (C := "LatticeKeysModel$Hands") (TT := T_MH) (N := 31) hx hb hts (wg_ft i_MH) hown hK hO k_h0 (kn := 225) (ci := 12) (fl := [(3, 172), (3, 181), (3, 226), (3, 291), (3, 299), (3, 308), (3, 317), (3, 326), (3, 334), (3, 342), (3, 350), (3, 359), (3, 368), (3, 369), (3, 370), (3, 371), (3, 372), (3, 373), (3, 374), (3, 375), (3, 376), (3, 377), (3, 378), (0, 0), (0, 0), (0, 0), (0, 0), (0, 0), (0, 0), (0, 0), (0, 0)]) rfl hP rfl 30 (by decide) (hts _ (wg_t kw_1462)) (fun _ h9 => h9) (cd := (0, 0)) rfl dMH_verify_463 (fun v37 hv37 => ?_)
                          obtain rfl := (show v37 = .int (s34.1 225 30) from hv37)
                          obtain ⟨z32, ez31, hz41, hz42⟩ := cl_of (b := 2147483648) hf152 (by omega) (by decide)
                          replace hR := bnd_step hR ez31
                          replace hE := bndP_step hE ez31
                          refine mi_as hz41 ?_
                          subst hz42
                          refine mi_ge (tgt := 494) hx hb dMH_verify_466 (by decide) (by omega) (by omega) (fun h28 => ?_) (fun h28 => absurd h28 (by omega))
                          refine lv_iconst (v := nI 1) hx hb dMH_verify_494 (by decide) ?_
                          exact mp_zret hx hb hr hlk rfl hP hD hS ((nI 1, s34), pl) ⟨⟨hR.symm, rfl, hF, trivial⟩, hO⟩ [] rfl rfl rfl (by omega) (by omega) dMH_verify_495
                        | succ n25 ih25 =>
                          intro i25 s34 pl ls H locs hm25 hF hf153 hf154 hf155 hf156 hf157 hf158 hf159 hf160 hE hR hl hO hP hD hS
                          refine lv_iload hx hb dMH_verify_460 (lv_at hl 0 rfl) ?_
                          refine lv_aload_n hx hb dMH_verify_462 rfl (lv_at hl 1 rfl) ?_
                          refine nw_get (C := "LatticeKeysModel$Hands") (TT := T_MH) (N := 31) hx hb hts (wg_ft i_MH) hown hK hO k_h0 (kn := 225) (ci := 12) (fl := [(3, 172), (3, 181), (3, 226), (3, 291), (3, 299), (3, 308), (3, 317), (3, 326), (3, 334), (3, 342), (3, 350), (3, 359), (3, 368), (3, 369), (3, 370), (3, 371), (3, 372), (3, 373), (3, 374), (3, 375), (3, 376), (3, 377), (3, 378), (0, 0), (0, 0), (0, 0), (0, 0), (0, 0), (0, 0), (0, 0), (0, 0)]) rfl hP rfl 30 (by decide) (hts _ (wg_t kw_1462)) (fun _ h9 => h9) (cd := (0, 0)) rfl dMH_verify_463 (fun v38 hv38 => ?_)
                          obtain rfl := (show v38 = .int (s34.1 225 30) from hv38)
                          obtain ⟨z33, ez32, hz43, hz44⟩ := cl_of (b := 2147483648) hf160 (by omega) (by decide)
                          replace hR := bnd_step hR ez32
                          replace hE := bndP_step hE ez32
                          refine mi_as hz43 ?_
                          subst hz44
                          refine mi_ge (tgt := 494) hx hb dMH_verify_466 (by decide) (by omega) (by omega) (fun h29 => absurd h29 (by omega)) (fun h29 => ?_)
                          refine lv_aload_n hx hb dMH_verify_469 rfl (lv_at hl 1 rfl) ?_
                          refine nw_get (C := "LatticeKeysModel$Hands") (TT := T_MH) (N := 31) hx hb hts (wg_ft i_MH) hown hK hO k_h0 (kn := 225) (ci := 12) (fl := [(3, 172), (3, 181), (3, 226), (3, 291), (3, 299), (3, 308), (3, 317), (3, 326), (3, 334), (3, 342), (3, 350), (3, 359), (3, 368), (3, 369), (3, 370), (3, 371), (3, 372), (3, 373), (3, 374), (3, 375), (3, 376), (3, 377), (3, 378), (0, 0), (0, 0), (0, 0), (0, 0), (0, 0), (0, 0), (0, 0), (0, 0)]) rfl hP rfl 21 (by decide) (hts _ (wg_t kw_1453)) (fun _ h9 => h9) (cd := (3, 377)) rfl dMH_verify_470 (fun v39 hv39 => ?_)
                          obtain ⟨r32, rfl, kr29⟩ := (show ∃ r : Nat, v39 = .ref r ∧ T r = some 377 from hv39)
                          refine lv_iload hx hb dMH_verify_473 (lv_at hl 0 rfl) ?_
                          refine nw_bald hx hb hK hO kr29 (k := 377) rfl hP (by omega) (by omega) dMH_verify_475 ?_
                          refine lv_aload_n hx hb dMH_verify_476 rfl (lv_at hl 1 rfl) ?_
                          refine nw_get (C := "LatticeKeysModel$Hands") (TT := T_MH) (N := 31) hx hb hts (wg_ft i_MH) hown hK hO k_h0 (kn := 225) (ci := 12) (fl := [(3, 172), (3, 181), (3, 226), (3, 291), (3, 299), (3, 308), (3, 317), (3, 326), (3, 334), (3, 342), (3, 350), (3, 359), (3, 368), (3, 369), (3, 370), (3, 371), (3, 372), (3, 373), (3, 374), (3, 375), (3, 376), (3, 377), (3, 378), (0, 0), (0, 0), (0, 0), (0, 0), (0, 0), (0, 0), (0, 0), (0, 0)]) rfl hP rfl 20 (by decide) (hts _ (wg_t kw_1452)) (fun _ h9 => h9) (cd := (3, 376)) rfl dMH_verify_477 (fun v40 hv40 => ?_)
                          obtain ⟨r33, rfl, kr30⟩ := (show ∃ r : Nat, v40 = .ref r ∧ T r = some 376 from hv40)
                          refine lv_iload hx hb dMH_verify_480 (lv_at hl 0 rfl) ?_
                          refine nw_bald hx hb hK hO kr30 (k := 376) rfl hP (by omega) (by omega) dMH_verify_482 ?_
                          refine lv_icmp_eq (tgt := 488) hx hb dMH_verify_483 (by decide) (fun h30 => ?_) (fun h30 => ?_)
                          · replace hR := hR.trans (if_pos h30)
                            replace hE := iteP_pos h30 hE
                            refine mi_iinc (k := 0) (x := i25) (d := 1) (y := i25 + 1) (lv' := [(9, .int (nI (i25 + 1))), (0, .ref h0)]) hx hb dMH_verify_488 hl rfl (by decide) rfl (by decide) rfl (fun ls hl => ?_)
                            refine lv_goto (tgt := 460) hx hb dMH_verify_491 (by decide) ?_
                            exact ih25 (i25 + 1) s34 pl ls H locs (by omega) hF hf153 hf154 hf155 hf156 hf157 hf158 hf159 hf160 hE hR (lv_sub hl [0, 1] rfl) hO hP hD hS
                          · replace hR := hR.trans (if_neg h30)
                            replace hE := iteP_neg h30 hE
                            refine lv_iconst (v := nI 0) hx hb dMH_verify_486 (by decide) ?_
                            exact mp_zret hx hb hr hlk rfl hP hD hS ((nI 0, s34), pl) ⟨⟨hR.symm, rfl, hF, trivial⟩, hO⟩ [] rfl rfl rfl (by omega) (by omega) dMH_verify_487
                      exact lp25 64 0 s33 pl ls _ _ (by omega) hF hf137 hf138 hf139 hf140 hf141 hf142 hf143 hf144 hE hR (lv_sub hl [0, 1] rfl) hO hP hD hS
                    | succ n24 ih24 =>
                      intro i24 s32 pl ls H locs hm24 hF hf161 hf162 hf163 hf164 hf165 hf166 hf167 hf168 hE hR hl hO hP hD hS
                      refine lv_iload hx hb dMH_verify_306 (lv_at hl 0 rfl) ?_
                      refine lv_aload_n hx hb dMH_verify_308 rfl (lv_at hl 1 rfl) ?_
                      refine nw_get (C := "LatticeKeysModel$Hands") (TT := T_MH) (N := 31) hx hb hts (wg_ft i_MH) hown hK hO k_h0 (kn := 225) (ci := 12) (fl := [(3, 172), (3, 181), (3, 226), (3, 291), (3, 299), (3, 308), (3, 317), (3, 326), (3, 334), (3, 342), (3, 350), (3, 359), (3, 368), (3, 369), (3, 370), (3, 371), (3, 372), (3, 373), (3, 374), (3, 375), (3, 376), (3, 377), (3, 378), (0, 0), (0, 0), (0, 0), (0, 0), (0, 0), (0, 0), (0, 0), (0, 0)]) rfl hP rfl 24 (by decide) (hts _ (wg_t kw_1456)) (fun _ h9 => h9) (cd := (0, 0)) rfl dMH_verify_309 (fun v41 hv41 => ?_)
                      obtain rfl := (show v41 = .int (s32.1 225 24) from hv41)
                      obtain ⟨z34, ez33, hz45, hz46⟩ := cl_of (b := 2147483648) hf162 (by omega) (by decide)
                      replace hR := bnd_step hR ez33
                      replace hE := bndP_step hE ez33
                      refine mi_as hz45 ?_
                      subst hz46
                      refine mi_ge (tgt := 448) hx hb dMH_verify_312 (by decide) (by omega) (by omega) (fun h31 => absurd h31 (by omega)) (fun h31 => ?_)
                      refine lv_aload_n hx hb dMH_verify_315 rfl (lv_at hl 1 rfl) ?_
                      refine lv_iload hx hb dMH_verify_316 (lv_at hl 0 rfl) ?_
                      refine lv_aload_n hx hb dMH_verify_318 rfl (lv_at hl 1 rfl) ?_
                      refine nw_get (C := "LatticeKeysModel$Hands") (TT := T_MH) (N := 31) hx hb hts (wg_ft i_MH) hown hK hO k_h0 (kn := 225) (ci := 12) (fl := [(3, 172), (3, 181), (3, 226), (3, 291), (3, 299), (3, 308), (3, 317), (3, 326), (3, 334), (3, 342), (3, 350), (3, 359), (3, 368), (3, 369), (3, 370), (3, 371), (3, 372), (3, 373), (3, 374), (3, 375), (3, 376), (3, 377), (3, 378), (0, 0), (0, 0), (0, 0), (0, 0), (0, 0), (0, 0), (0, 0), (0, 0)]) rfl hP rfl 10 (by decide) (hts _ (wg_t kw_1442)) (fun _ h9 => h9) (cd := (3, 350)) rfl dMH_verify_319 (fun v42 hv42 => ?_)
                      obtain ⟨r34, rfl, kr31⟩ := (show ∃ r : Nat, v42 = .ref r ∧ T r = some 350 from hv42)
                      refine lv_iload hx hb dMH_verify_322 (lv_at hl 0 rfl) ?_
                      refine nw_aald3 hx hb hK hO kr31 (k := 350) (b := 351) rfl hP (by omega) (by omega) dMH_verify_324 (fun r35 kr32 => ?_)
                      have hn21 : nsp (351 + i24) = (0, 256, []) := rows_ok 351 8 (by decide) _ (by omega)
                      refine mp_v (cx := []) (wr := []) hP hD hS hA [] [] rfl rfl rfl (by decide) (va_runV (As := [.int (nI i24), .ref r35]) (rest := []) F (N_MH_rowBy_2 l g _ T s32 pl hO hU h0 r35 i24 (351 + i24) k_h0 kr32 hn21 hf161 hf162 hf163 hf164 hf165 hf166 hf167 hf168 (by omega)) (cwV 2 hts (wg_app (wg_c kw_1730 (wg_c kw_1732 (wg_c ks_63 (wg_c kw_13 wg_n)))) kw_1733) rfl rfl rfl (by decide +kernel) ⟨by decide, by decide⟩) (pn_V (en_ok g) (ci := 12) (kn := 225) (fl := [(3, 172), (3, 181), (3, 226), (3, 291), (3, 299), (3, 308), (3, 317), (3, 326), (3, 334), (3, 342), (3, 350), (3, 359), (3, 368), (3, 369), (3, 370), (3, 371), (3, 372), (3, 373), (3, 374), (3, 375), (3, 376), (3, 377), (3, 378), (0, 0), (0, 0), (0, 0), (0, 0), (0, 0), (0, 0), (0, 0), (0, 0)]) hK hO k_h0 rfl hP hD hS hA hEn [] rfl rfl rfl) rfl rfl hl.1 rfl (lv_room (Nat.le_of_ble_eq_true rfl)) dMH_verify_325 ⟨by omega, by omega⟩) (fun  u33 H locs hu33 hP hD hS => ?_)
                      obtain ⟨s35, pl⟩ := u33
                      obtain ⟨⟨eq33, hFc33, -⟩, hO⟩ := hu33
                      have hO : okn g T s35 pl := hO
                      have hP : va_P g.1 vcl ([] ++ pl) _ := hP
                      have hD : va_D _ ([] ++ pl) := hD
                      have hFc33 : frm (M_MH_rowBy_2 (351 + i24)) s32 s35 := hFc33
                      replace hR := bnd_step hR eq33
                      replace hE := bndP_step hE eq33
                      have hF := frm_tr hF hFc33 (fun k hk => by unfold M_MH_rowBy_2 at hk; unfold M_MH_verify_2; omega)
                      have hf169 : s35.1 225 23 = nI 2 := fc_F hf161 hFc33 (by unfold M_MH_rowBy_2; omega)
                      have hf170 : s35.1 225 24 = nI 8 := fc_F hf162 hFc33 (by unfold M_MH_rowBy_2; omega)
                      have hf171 : s35.1 225 25 = nI 7 := fc_F hf163 hFc33 (by unfold M_MH_rowBy_2; omega)
                      have hf172 : s35.1 225 26 = nI 2 := fc_F hf164 hFc33 (by unfold M_MH_rowBy_2; omega)
                      have hf173 : s35.1 225 27 = nI 524288 := fc_F hf165 hFc33 (by unfold M_MH_rowBy_2; omega)
                      have hf174 : s35.1 225 28 = nI 261888 := fc_F hf166 hFc33 (by unfold M_MH_rowBy_2; omega)
                      have hf175 : s35.1 225 29 = nI 120 := fc_F hf167 hFc33 (by unfold M_MH_rowBy_2; omega)
                      have hf176 : s35.1 225 30 = nI 64 := fc_F hf168 hFc33 (by unfold M_MH_rowBy_2; omega)
                      refine W.widen (k := 0) (n := 0) (by omega) (by omega) ?_
                      refine lv_iconst (v := nI 0) hx hb dMH_verify_328 (by decide) ?_
                      refine lv_istore (lv' := [(10, .int (nI 0)), (9, .int (nI i24)), (0, .ref h0), (2, .ref pk)]) hx hb dMH_verify_329 hl (by decide) rfl (fun ls hl => ?_)
                      have lp26 : ∀ (n26 : Nat) (i26 : Nat) (s36 : Sto) (pl : va_W) (ls : Array Slot) (H : Heap) (locs : List Loc), n26 + i26 = 256 → frm (M_MH_verify_2) s s36 → s36.1 225 23 = nI 2 → s36.1 225 24 = nI 8 → s36.1 225 25 = nI 7 → s36.1 225 26 = nI 2 → s36.1 225 27 = nI 524288 → s36.1 225 28 = nI 261888 → s36.1 225 29 = nI 120 → s36.1 225 30 = nI 64 → E_MH_verify_2_L5 pp i24 (E_MH_verify_2_L3 pp n24) n26 i26 s36 → F_MH_verify_2 pp pb cl_ ed s = F_MH_verify_2_L5 pp i24 (F_MH_verify_2_L3 pp n24) n26 i26 s36 → lv_has ls 11 [(10, .int (nI i26)), (9, .int (nI i24)), (0, .ref h0), (2, .ref pk)] → okn g T s36 pl → va_P g.1 vcl ([] ++ pl) H → va_D A ([] ++ pl) → va_S A s0.heap H locs → W p l e ({ frames := 5, cells := 0, slots := 0, locals := 116 } : Room) s0 m args below meth c H locs 0 0 (MQ below (va_Qi (fun (r : Int32) (u : (Int32 × Sto) × va_W) => (u.1 = F_MH_verify_2 pp pb cl_ ed s ∧ r = u.1.1 ∧ frm (M_MH_verify_2) s u.1.2 ∧ True) ∧ okn g T u.1.2 u.2) (po g.1 vcl A (fun (u : (Int32 × Sto) × va_W) => [] ++ u.2)) A) args s0 0 0 A) (F0 m 331 ls []) := by
                        intro n26
                        induction n26 with
                        | zero =>
                          intro i26 s36 pl ls H locs hm26 hF hf177 hf178 hf179 hf180 hf181 hf182 hf183 hf184 hE hR hl hO hP hD hS
                          refine lv_iload hx hb dMH_verify_331 (lv_at hl 0 rfl) ?_
                          refine lv_sipush (v := nI 256) hx hb dMH_verify_333 (by decide) ?_
                          refine mi_ge (tgt := 380) hx hb dMH_verify_336 (by decide) (by omega) (by omega) (fun h32 => ?_) (fun h32 => absurd h32 (by omega))
                          refine lv_aload_n hx hb dMH_verify_380 rfl (lv_at hl 2 rfl) ?_
                          refine lv_aload_n hx hb dMH_verify_381 rfl (lv_at hl 2 rfl) ?_
                          refine nw_get (C := "LatticeKeysModel$Hands") (TT := T_MH) (N := 31) hx hb hts (wg_ft i_MH) hown hK hO k_h0 (kn := 225) (ci := 12) (fl := [(3, 172), (3, 181), (3, 226), (3, 291), (3, 299), (3, 308), (3, 317), (3, 326), (3, 334), (3, 342), (3, 350), (3, 359), (3, 368), (3, 369), (3, 370), (3, 371), (3, 372), (3, 373), (3, 374), (3, 375), (3, 376), (3, 377), (3, 378), (0, 0), (0, 0), (0, 0), (0, 0), (0, 0), (0, 0), (0, 0), (0, 0)]) rfl hP rfl 6 (by decide) (hts _ (wg_t kw_1438)) (fun _ h9 => h9) (cd := (3, 317)) rfl dMH_verify_382 (fun v43 hv43 => ?_)
                          obtain ⟨r36, rfl, kr33⟩ := (show ∃ r : Nat, v43 = .ref r ∧ T r = some 317 from hv43)
                          refine lv_iload hx hb dMH_verify_385 (lv_at hl 1 rfl) ?_
                          refine nw_aald3 hx hb hK hO kr33 (k := 317) (b := 318) rfl hP (by omega) (by omega) dMH_verify_387 (fun r37 kr34 => ?_)
                          have hn22 : nsp (318 + i24) = (0, 256, []) := rows_ok 318 8 (by decide) _ (by omega)
                          refine lv_aload_n hx hb dMH_verify_388 rfl (lv_at hl 2 rfl) ?_
                          refine nw_get (C := "LatticeKeysModel$Hands") (TT := T_MH) (N := 31) hx hb hts (wg_ft i_MH) hown hK hO k_h0 (kn := 225) (ci := 12) (fl := [(3, 172), (3, 181), (3, 226), (3, 291), (3, 299), (3, 308), (3, 317), (3, 326), (3, 334), (3, 342), (3, 350), (3, 359), (3, 368), (3, 369), (3, 370), (3, 371), (3, 372), (3, 373), (3, 374), (3, 375), (3, 376), (3, 377), (3, 378), (0, 0), (0, 0), (0, 0), (0, 0), (0, 0), (0, 0), (0, 0), (0, 0)]) rfl hP rfl 13 (by decide) (hts _ (wg_t kw_1445)) (fun _ h9 => h9) (cd := (3, 369)) rfl dMH_verify_389 (fun v44 hv44 => ?_)
                          obtain ⟨r38, rfl, kr35⟩ := (show ∃ r : Nat, v44 = .ref r ∧ T r = some 369 from hv44)
                          refine mp_v (cx := []) (wr := []) hP hD hS hA [] [] rfl rfl rfl (by decide) (va_runV (As := [.ref r37, .ref r38]) (rest := []) F (N_MH_turned_2 l g _ T s36 pl hO hU h0 r37 r38 (318 + i24) 369 k_h0 kr34 hn22 kr35 rfl hf177 hf178 hf179 hf180 hf181 hf182 hf183 hf184) (cwV 2 hts (wg_app (wg_c kw_1897 (wg_c kw_1899 (wg_c ks_79 (wg_c kw_13 wg_n)))) kw_1900) rfl rfl rfl (by decide +kernel) ⟨by decide, by decide⟩) (pn_V (en_ok g) (ci := 12) (kn := 225) (fl := [(3, 172), (3, 181), (3, 226), (3, 291), (3, 299), (3, 308), (3, 317), (3, 326), (3, 334), (3, 342), (3, 350), (3, 359), (3, 368), (3, 369), (3, 370), (3, 371), (3, 372), (3, 373), (3, 374), (3, 375), (3, 376), (3, 377), (3, 378), (0, 0), (0, 0), (0, 0), (0, 0), (0, 0), (0, 0), (0, 0), (0, 0)]) hK hO k_h0 rfl hP hD hS hA hEn [] rfl rfl rfl) rfl rfl hl.1 rfl (lv_room (Nat.le_of_ble_eq_true rfl)) dMH_verify_392 ⟨by omega, by omega⟩) (fun  u34 H locs hu34 hP hD hS => ?_)
                          obtain ⟨s37, pl⟩ := u34
                          obtain ⟨⟨eq34, hFc34, -⟩, hO⟩ := hu34
                          have hO : okn g T s37 pl := hO
                          have hP : va_P g.1 vcl ([] ++ pl) _ := hP
                          have hD : va_D _ ([] ++ pl) := hD
                          have hFc34 : frm (M_MH_turned_2 369) s36 s37 := hFc34
                          replace hR := bnd_step hR eq34
                          replace hE := bndP_step hE eq34
                          have hF := frm_tr hF hFc34 (fun k hk => by unfold M_MH_turned_2 at hk; unfold M_MH_verify_2; omega)
                          have hf185 : s37.1 225 23 = nI 2 := fc_F hf177 hFc34 (by unfold M_MH_turned_2; omega)
                          have hf186 : s37.1 225 24 = nI 8 := fc_F hf178 hFc34 (by unfold M_MH_turned_2; omega)
                          have hf187 : s37.1 225 25 = nI 7 := fc_F hf179 hFc34 (by unfold M_MH_turned_2; omega)
                          have hf188 : s37.1 225 26 = nI 2 := fc_F hf180 hFc34 (by unfold M_MH_turned_2; omega)
                          have hf189 : s37.1 225 27 = nI 524288 := fc_F hf181 hFc34 (by unfold M_MH_turned_2; omega)
                          have hf190 : s37.1 225 28 = nI 261888 := fc_F hf182 hFc34 (by unfold M_MH_turned_2; omega)
                          have hf191 : s37.1 225 29 = nI 120 := fc_F hf183 hFc34 (by unfold M_MH_turned_2; omega)
                          have hf192 : s37.1 225 30 = nI 64 := fc_F hf184 hFc34 (by unfold M_MH_turned_2; omega)
                          refine W.widen (k := 0) (n := 0) (by omega) (by omega) ?_
                          refine lv_iconst (v := nI 0) hx hb dMH_verify_395 (by decide) ?_
                          refine lv_istore (lv' := [(10, .int (nI 0)), (9, .int (nI i24)), (0, .ref h0), (2, .ref pk)]) hx hb dMH_verify_396 hl (by decide) rfl (fun ls hl => ?_)
                          have lp27 : ∀ (n27 : Nat) (i27 : Nat) (s38 : Sto) (pl : va_W) (ls : Array Slot) (H : Heap) (locs : List Loc), n27 + i27 = 256 → frm (M_MH_verify_2) s s38 → s38.1 225 23 = nI 2 → s38.1 225 24 = nI 8 → s38.1 225 25 = nI 7 → s38.1 225 26 = nI 2 → s38.1 225 27 = nI 524288 → s38.1 225 28 = nI 261888 → s38.1 225 29 = nI 120 → s38.1 225 30 = nI 64 → E_MH_verify_2_L6 i24 (E_MH_verify_2_L3 pp n24) n27 i27 s38 → F_MH_verify_2 pp pb cl_ ed s = F_MH_verify_2_L6 i24 (F_MH_verify_2_L3 pp n24) n27 i27 s38 → lv_has ls 11 [(10, .int (nI i27)), (9, .int (nI i24)), (0, .ref h0), (2, .ref pk)] → okn g T s38 pl → va_P g.1 vcl ([] ++ pl) H → va_D A ([] ++ pl) → va_S A s0.heap H locs → W p l e ({ frames := 5, cells := 0, slots := 0, locals := 116 } : Room) s0 m args below meth c H locs 0 0 (MQ below (va_Qi (fun (r : Int32) (u : (Int32 × Sto) × va_W) => (u.1 = F_MH_verify_2 pp pb cl_ ed s ∧ r = u.1.1 ∧ frm (M_MH_verify_2) s u.1.2 ∧ True) ∧ okn g T u.1.2 u.2) (po g.1 vcl A (fun (u : (Int32 × Sto) × va_W) => [] ++ u.2)) A) args s0 0 0 A) (F0 m 398 ls []) := by
                            intro n27
                            induction n27 with
                            | zero =>
                              intro i27 s38 pl ls H locs hm27 hF hf193 hf194 hf195 hf196 hf197 hf198 hf199 hf200 hE hR hl hO hP hD hS
                              refine lv_iload hx hb dMH_verify_398 (lv_at hl 0 rfl) ?_
                              refine lv_sipush (v := nI 256) hx hb dMH_verify_400 (by decide) ?_
                              refine mi_ge (tgt := 442) hx hb dMH_verify_403 (by decide) (by omega) (by omega) (fun h33 => ?_) (fun h33 => absurd h33 (by omega))
                              refine mi_iinc (k := 1) (x := i24) (d := 1) (y := i24 + 1) (lv' := [(9, .int (nI (i24 + 1))), (10, .int (nI i27)), (0, .ref h0), (2, .ref pk)]) hx hb dMH_verify_442 hl rfl (by decide) rfl (by decide) rfl (fun ls hl => ?_)
                              refine lv_goto (tgt := 306) hx hb dMH_verify_445 (by decide) ?_
                              exact ih24 (i24 + 1) s38 pl ls H locs (by omega) hF hf193 hf194 hf195 hf196 hf197 hf198 hf199 hf200 hE hR (lv_sub hl [0, 2, 3] rfl) hO hP hD hS
                            | succ n27 ih27 =>
                              intro i27 s38 pl ls H locs hm27 hF hf201 hf202 hf203 hf204 hf205 hf206 hf207 hf208 hE hR hl hO hP hD hS
                              refine lv_iload hx hb dMH_verify_398 (lv_at hl 0 rfl) ?_
                              refine lv_sipush (v := nI 256) hx hb dMH_verify_400 (by decide) ?_
                              refine mi_ge (tgt := 442) hx hb dMH_verify_403 (by decide) (by omega) (by omega) (fun h34 => absurd h34 (by omega)) (fun h34 => ?_)
                              refine lv_aload_n hx hb dMH_verify_406 rfl (lv_at hl 2 rfl) ?_
                              refine nw_get (C := "LatticeKeysModel$Hands") (TT := T_MH) (N := 31) hx hb hts (wg_ft i_MH) hown hK hO k_h0 (kn := 225) (ci := 12) (fl := [(3, 172), (3, 181), (3, 226), (3, 291), (3, 299), (3, 308), (3, 317), (3, 326), (3, 334), (3, 342), (3, 350), (3, 359), (3, 368), (3, 369), (3, 370), (3, 371), (3, 372), (3, 373), (3, 374), (3, 375), (3, 376), (3, 377), (3, 378), (0, 0), (0, 0), (0, 0), (0, 0), (0, 0), (0, 0), (0, 0), (0, 0)]) rfl hP rfl 10 (by decide) (hts _ (wg_t kw_1442)) (fun _ h9 => h9) (cd := (3, 350)) rfl dMH_verify_407 (fun v45 hv45 => ?_)
                              obtain ⟨r39, rfl, kr36⟩ := (show ∃ r : Nat, v45 = .ref r ∧ T r = some 350 from hv45)
                              refine lv_iload hx hb dMH_verify_410 (lv_at hl 1 rfl) ?_
                              refine nw_aald3 hx hb hK hO kr36 (k := 350) (b := 351) rfl hP (by omega) (by omega) dMH_verify_412 (fun r40 kr37 => ?_)
                              have hn23 : nsp (351 + i24) = (0, 256, []) := rows_ok 351 8 (by decide) _ (by omega)
                              refine lv_iload hx hb dMH_verify_413 (lv_at hl 0 rfl) ?_
                              refine lv_aload_n hx hb dMH_verify_415 rfl (lv_at hl 2 rfl) ?_
                              refine nw_get (C := "LatticeKeysModel$Hands") (TT := T_MH) (N := 31) hx hb hts (wg_ft i_MH) hown hK hO k_h0 (kn := 225) (ci := 12) (fl := [(3, 172), (3, 181), (3, 226), (3, 291), (3, 299), (3, 308), (3, 317), (3, 326), (3, 334), (3, 342), (3, 350), (3, 359), (3, 368), (3, 369), (3, 370), (3, 371), (3, 372), (3, 373), (3, 374), (3, 375), (3, 376), (3, 377), (3, 378), (0, 0), (0, 0), (0, 0), (0, 0), (0, 0), (0, 0), (0, 0), (0, 0)]) rfl hP rfl 10 (by decide) (hts _ (wg_t kw_1442)) (fun _ h9 => h9) (cd := (3, 350)) rfl dMH_verify_416 (fun v46 hv46 => ?_)
                              obtain ⟨r41, rfl, kr38⟩ := (show ∃ r : Nat, v46 = .ref r ∧ T r = some 350 from hv46)
                              refine lv_iload hx hb dMH_verify_419 (lv_at hl 1 rfl) ?_
                              refine nw_aald3 hx hb hK hO kr38 (k := 350) (b := 351) rfl hP (by omega) (by omega) dMH_verify_421 (fun r42 kr39 => ?_)
                              have hn24 : nsp (351 + i24) = (0, 256, []) := rows_ok 351 8 (by decide) _ (by omega)
                              refine lv_iload hx hb dMH_verify_422 (lv_at hl 0 rfl) ?_
                              refine nw_iald hx hb hK hO kr39 (k := (351 + i24)) hn24 hP (by omega) (by omega) dMH_verify_424 ?_
                              refine lv_aload_n hx hb dMH_verify_425 rfl (lv_at hl 2 rfl) ?_
                              refine nw_get (C := "LatticeKeysModel$Hands") (TT := T_MH) (N := 31) hx hb hts (wg_ft i_MH) hown hK hO k_h0 (kn := 225) (ci := 12) (fl := [(3, 172), (3, 181), (3, 226), (3, 291), (3, 299), (3, 308), (3, 317), (3, 326), (3, 334), (3, 342), (3, 350), (3, 359), (3, 368), (3, 369), (3, 370), (3, 371), (3, 372), (3, 373), (3, 374), (3, 375), (3, 376), (3, 377), (3, 378), (0, 0), (0, 0), (0, 0), (0, 0), (0, 0), (0, 0), (0, 0), (0, 0)]) rfl hP rfl 13 (by decide) (hts _ (wg_t kw_1445)) (fun _ h9 => h9) (cd := (3, 369)) rfl dMH_verify_426 (fun v47 hv47 => ?_)
                              obtain ⟨r43, rfl, kr40⟩ := (show ∃ r : Nat, v47 = .ref r ∧ T r = some 369 from hv47)
                              refine lv_iload hx hb dMH_verify_429 (lv_at hl 0 rfl) ?_
                              refine nw_iald hx hb hK hO kr40 (k := 369) rfl hP (by omega) (by omega) dMH_verify_431 ?_
                              refine mp_i (cx := []) (wr := []) hP hD hS hA [] [] rfl rfl rfl (by decide) (va_runS (As := [.int ((s38.1 ((351 + i24)) i27)), .int ((s38.1 369 i27))]) (rest := [.int (nI i27), .ref r40]) F (N_MH_minus l g _ T s38 pl hO hU (s38.1 ((351 + i24)) i27) (s38.1 369 i27)) (va_cwS 2 hts (wg_app (wg_c kw_1861 (wg_c kw_1862 (wg_c kw_13 wg_n))) kw_1863) rfl rfl rfl (by decide +kernel) ⟨by decide, by decide⟩) (pp_S (en_ok g) hP hD hS hA hEn [] rfl rfl) rfl rfl hl.1 rfl (lv_room (Nat.le_of_ble_eq_true rfl)) dMH_verify_432 ⟨by omega, by omega⟩) (fun r44 u35 H locs hu35 hP hD hS => ?_)
                              obtain ⟨q24, pl⟩ := u35
                              obtain ⟨⟨eq35, rfl, hFc35, -⟩, hO⟩ := hu35
                              have hO : okn g T q24.2 pl := hO
                              have hP : va_P g.1 vcl ([] ++ pl) _ := hP
                              have hD : va_D _ ([] ++ pl) := hD
                              have hFc35 : frm (M_MH_minus) s38 q24.2 := hFc35
                              replace hR := bnd_step hR eq35
                              replace hE := bndP_step hE eq35
                              have hF := frm_tr hF hFc35 (fun k hk => by unfold M_MH_minus at hk; unfold M_MH_verify_2; omega)
                              have hf209 : q24.2.1 225 23 = nI 2 := fc_F hf201 hFc35 (by unfold M_MH_minus; omega)
                              have hf210 : q24.2.1 225 24 = nI 8 := fc_F hf202 hFc35 (by unfold M_MH_minus; omega)
                              have hf211 : q24.2.1 225 25 = nI 7 := fc_F hf203 hFc35 (by unfold M_MH_minus; omega)
                              have hf212 : q24.2.1 225 26 = nI 2 := fc_F hf204 hFc35 (by unfold M_MH_minus; omega)
                              have hf213 : q24.2.1 225 27 = nI 524288 := fc_F hf205 hFc35 (by unfold M_MH_minus; omega)
                              have hf214 : q24.2.1 225 28 = nI 261888 := fc_F hf206 hFc35 (by unfold M_MH_minus; omega)
                              have hf215 : q24.2.1 225 29 = nI 120 := fc_F hf207 hFc35 (by unfold M_MH_minus; omega)
                              have hf216 : q24.2.1 225 30 = nI 64 := fc_F hf208 hFc35 (by unfold M_MH_minus; omega)
                              refine W.widen (k := 0) (n := 0) (by omega) (by omega) ?_
                              refine nw_iast hx hb hK hO hU kr37 (k := (351 + i24)) hn23 hP hD hS (by omega) (by omega) dMH_verify_435 (fun s39 pl H locs es21 hO hP hD hS => ?_)
                              replace hR := bnd_step hR es21
                              replace hE := bndP_step hE es21
                              have hF := frm_sI hF es21 (by unfold M_MH_verify_2; omega)
                              have hf217 : s39.1 225 23 = nI 2 := fc_ne hf209 es21 (by omega)
                              have hf218 : s39.1 225 24 = nI 8 := fc_ne hf210 es21 (by omega)
                              have hf219 : s39.1 225 25 = nI 7 := fc_ne hf211 es21 (by omega)
                              have hf220 : s39.1 225 26 = nI 2 := fc_ne hf212 es21 (by omega)
                              have hf221 : s39.1 225 27 = nI 524288 := fc_ne hf213 es21 (by omega)
                              have hf222 : s39.1 225 28 = nI 261888 := fc_ne hf214 es21 (by omega)
                              have hf223 : s39.1 225 29 = nI 120 := fc_ne hf215 es21 (by omega)
                              have hf224 : s39.1 225 30 = nI 64 := fc_ne hf216 es21 (by omega)
                              refine mi_iinc (k := 0) (x := i27) (d := 1) (y := i27 + 1) (lv' := [(10, .int (nI (i27 + 1))), (9, .int (nI i24)), (0, .ref h0), (2, .ref pk)]) hx hb dMH_verify_436 hl rfl (by decide) rfl (by decide) rfl (fun ls hl => ?_)
                              refine lv_goto (tgt := 398) hx hb dMH_verify_439 (by decide) ?_
                              exact ih27 (i27 + 1) s39 pl ls H locs (by omega) hF hf217 hf218 hf219 hf220 hf221 hf222 hf223 hf224 hE hR (lv_sub hl [0, 1, 2, 3] rfl) hO hP hD hS
                          exact lp27 256 0 s37 pl ls _ _ (by omega) hF hf185 hf186 hf187 hf188 hf189 hf190 hf191 hf192 hE hR (lv_sub hl [0, 1, 2, 3] rfl) hO hP hD hS
                        | succ n26 ih26 =>
                          intro i26 s36 pl ls H locs hm26 hF hf225 hf226 hf227 hf228 hf229 hf230 hf231 hf232 hE hR hl hO hP hD hS
                          refine lv_iload hx hb dMH_verify_331 (lv_at hl 0 rfl) ?_
                          refine lv_sipush (v := nI 256) hx hb dMH_verify_333 (by decide) ?_
                          refine mi_ge (tgt := 380) hx hb dMH_verify_336 (by decide) (by omega) (by omega) (fun h35 => absurd h35 (by omega)) (fun h35 => ?_)
                          refine lv_aload_n hx hb dMH_verify_339 rfl (lv_at hl 2 rfl) ?_
                          refine nw_get (C := "LatticeKeysModel$Hands") (TT := T_MH) (N := 31) hx hb hts (wg_ft i_MH) hown hK hO k_h0 (kn := 225) (ci := 12) (fl := [(3, 172), (3, 181), (3, 226), (3, 291), (3, 299), (3, 308), (3, 317), (3, 326), (3, 334), (3, 342), (3, 350), (3, 359), (3, 368), (3, 369), (3, 370), (3, 371), (3, 372), (3, 373), (3, 374), (3, 375), (3, 376), (3, 377), (3, 378), (0, 0), (0, 0), (0, 0), (0, 0), (0, 0), (0, 0), (0, 0), (0, 0)]) rfl hP rfl 6 (by decide) (hts _ (wg_t kw_1438)) (fun _ h9 => h9) (cd := (3, 317)) rfl dMH_verify_340 (fun v48 hv48 => ?_)
                          obtain ⟨r45, rfl, kr41⟩ := (show ∃ r : Nat, v48 = .ref r ∧ T r = some 317 from hv48)
                          refine lv_iload hx hb dMH_verify_343 (lv_at hl 1 rfl) ?_
                          refine nw_aald3 hx hb hK hO kr41 (k := 317) (b := 318) rfl hP (by omega) (by omega) dMH_verify_345 (fun r46 kr42 => ?_)
                          have hn25 : nsp (318 + i24) = (0, 256, []) := rows_ok 318 8 (by decide) _ (by omega)
                          refine lv_iload hx hb dMH_verify_346 (lv_at hl 0 rfl) ?_
                          refine lv_aload_n hx hb dMH_verify_348 rfl (lv_at hl 3 rfl) ?_
                          refine lv_sipush (v := nI 256) hx hb dMH_verify_349 (by decide) ?_
                          refine lv_sipush (v := nI 2560) hx hb dMH_verify_352 (by decide) ?_
                          refine lv_iload hx hb dMH_verify_355 (lv_at hl 1 rfl) ?_
                          refine mi_imul hx hb dMH_verify_357 ?_
                          refine mi_iadd hx hb dMH_verify_358 ?_
                          refine lv_bipush (v := nI 10) hx hb dMH_verify_359 (by decide) ?_
                          refine lv_iload hx hb dMH_verify_361 (lv_at hl 0 rfl) ?_
                          refine mi_imul hx hb dMH_verify_363 ?_
                          refine mi_iadd hx hb dMH_verify_364 ?_
                          refine lv_bipush (v := nI 10) hx hb dMH_verify_365 (by decide) ?_
                          refine mp_i (cx := []) (wr := []) hP hD hS hA [] [] rfl rfl rfl (by decide) (va_runSN (As := [.ref pk, .int (nI ((256 + (2560 * i24)) + (10 * i26))), .int (nI 10)]) (rest := [.int (nI i26), .ref r46]) F (N_M_unpack l g _ T s36 pl hO hU pk pp 2592 ((256 + (2560 * i24)) + (10 * i26)) 10 k_pk n_pk (by omega) (by omega) (by omega)) ⟨va_cnB 3 hts (wg_in kw_1663) rfl rfl rfl (hEn.2.2.2.2.2.2.2.2.2.2) (hts _ (wg_t kw_9)) (by decide +kernel) ⟨by decide, by decide⟩, hts _ (wg_t kw_1662), trivial⟩ (pp_S (en_ok g) hP hD hS hA hEn [] rfl rfl) rfl rfl hl.1 rfl (lv_room (Nat.le_of_ble_eq_true rfl)) dMH_verify_367 ⟨by omega, by omega⟩) (fun r47 u36 H locs hu36 hP hD hS => ?_)
                          obtain ⟨q25, pl⟩ := u36
                          obtain ⟨⟨eq36, rfl, hFc36, -⟩, hO⟩ := hu36
                          have hO : okn g T q25.2 pl := hO
                          have hP : va_P g.1 vcl ([] ++ pl) _ := hP
                          have hD : va_D _ ([] ++ pl) := hD
                          have hFc36 : frm (M_M_unpack) s36 q25.2 := hFc36
                          replace hR := bnd_step hR eq36
                          replace hE := bndP_step hE eq36
                          have hF := frm_tr hF hFc36 (fun k hk => by unfold M_M_unpack at hk; unfold M_MH_verify_2; omega)
                          have hf233 : q25.2.1 225 23 = nI 2 := fc_F hf225 hFc36 (by unfold M_M_unpack; omega)
                          have hf234 : q25.2.1 225 24 = nI 8 := fc_F hf226 hFc36 (by unfold M_M_unpack; omega)
                          have hf235 : q25.2.1 225 25 = nI 7 := fc_F hf227 hFc36 (by unfold M_M_unpack; omega)
                          have hf236 : q25.2.1 225 26 = nI 2 := fc_F hf228 hFc36 (by unfold M_M_unpack; omega)
                          have hf237 : q25.2.1 225 27 = nI 524288 := fc_F hf229 hFc36 (by unfold M_M_unpack; omega)
                          have hf238 : q25.2.1 225 28 = nI 261888 := fc_F hf230 hFc36 (by unfold M_M_unpack; omega)
                          have hf239 : q25.2.1 225 29 = nI 120 := fc_F hf231 hFc36 (by unfold M_M_unpack; omega)
                          have hf240 : q25.2.1 225 30 = nI 64 := fc_F hf232 hFc36 (by unfold M_M_unpack; omega)
                          refine W.widen (k := 0) (n := 0) (by omega) (by omega) ?_
                          refine lv_bipush (v := nI 13) hx hb dMH_verify_370 (by decide) ?_
                          refine lv_ishl hx hb dMH_verify_372 ?_
                          refine nw_iast hx hb hK hO hU kr42 (k := (318 + i24)) hn25 hP hD hS (by omega) (by omega) dMH_verify_373 (fun s40 pl H locs es22 hO hP hD hS => ?_)
                          replace hR := bnd_step hR es22
                          replace hE := bndP_step hE es22
                          have hF := frm_sI hF es22 (by unfold M_MH_verify_2; omega)
                          have hf241 : s40.1 225 23 = nI 2 := fc_ne hf233 es22 (by omega)
                          have hf242 : s40.1 225 24 = nI 8 := fc_ne hf234 es22 (by omega)
                          have hf243 : s40.1 225 25 = nI 7 := fc_ne hf235 es22 (by omega)
                          have hf244 : s40.1 225 26 = nI 2 := fc_ne hf236 es22 (by omega)
                          have hf245 : s40.1 225 27 = nI 524288 := fc_ne hf237 es22 (by omega)
                          have hf246 : s40.1 225 28 = nI 261888 := fc_ne hf238 es22 (by omega)
                          have hf247 : s40.1 225 29 = nI 120 := fc_ne hf239 es22 (by omega)
                          have hf248 : s40.1 225 30 = nI 64 := fc_ne hf240 es22 (by omega)
                          refine mi_iinc (k := 0) (x := i26) (d := 1) (y := i26 + 1) (lv' := [(10, .int (nI (i26 + 1))), (9, .int (nI i24)), (0, .ref h0), (2, .ref pk)]) hx hb dMH_verify_374 hl rfl (by decide) rfl (by decide) rfl (fun ls hl => ?_)
                          refine lv_goto (tgt := 331) hx hb dMH_verify_377 (by decide) ?_
                          exact ih26 (i26 + 1) s40 pl ls H locs (by omega) hF hf241 hf242 hf243 hf244 hf245 hf246 hf247 hf248 hE hR (lv_sub hl [0, 1, 2, 3] rfl) hO hP hD hS
                      exact lp26 256 0 s35 pl ls _ _ (by omega) hF hf169 hf170 hf171 hf172 hf173 hf174 hf175 hf176 hE hR (lv_sub hl [0, 1, 2, 3] rfl) hO hP hD hS
                  exact lp24 8 0 s31 pl ls _ _ (by omega) hF hf121 hf122 hf123 hf124 hf125 hf126 hf127 hf128 hE hR (lv_sub hl [0, 1, 2] rfl) hO hP hD hS
                | succ n23 ih23 =>
                  intro i23 s31 pl ls H locs hm23 hF hf249 hf250 hf251 hf252 hf253 hf254 hf255 hf256 hE hR hl hO hP hD hS
                  refine lv_iload hx hb dMH_verify_265 (lv_at hl 0 rfl) ?_
                  refine lv_aload_n hx hb dMH_verify_267 rfl (lv_at hl 1 rfl) ?_
                  refine nw_get (C := "LatticeKeysModel$Hands") (TT := T_MH) (N := 31) hx hb hts (wg_ft i_MH) hown hK hO k_h0 (kn := 225) (ci := 12) (fl := [(3, 172), (3, 181), (3, 226), (3, 291), (3, 299), (3, 308), (3, 317), (3, 326), (3, 334), (3, 342), (3, 350), (3, 359), (3, 368), (3, 369), (3, 370), (3, 371), (3, 372), (3, 373), (3, 374), (3, 375), (3, 376), (3, 377), (3, 378), (0, 0), (0, 0), (0, 0), (0, 0), (0, 0), (0, 0), (0, 0), (0, 0)]) rfl hP rfl 25 (by decide) (hts _ (wg_t kw_1457)) (fun _ h9 => h9) (cd := (0, 0)) rfl dMH_verify_268 (fun v49 hv49 => ?_)
                  obtain rfl := (show v49 = .int (s31.1 225 25) from hv49)
                  obtain ⟨z35, ez34, hz47, hz48⟩ := cl_of (b := 2147483648) hf251 (by omega) (by decide)
                  replace hR := bnd_step hR ez34
                  replace hE := bndP_step hE ez34
                  refine mi_as hz47 ?_
                  subst hz48
                  refine mi_ge (tgt := 303) hx hb dMH_verify_271 (by decide) (by omega) (by omega) (fun h36 => absurd h36 (by omega)) (fun h36 => ?_)
                  refine lv_aload_n hx hb dMH_verify_274 rfl (lv_at hl 1 rfl) ?_
                  refine nw_get (C := "LatticeKeysModel$Hands") (TT := T_MH) (N := 31) hx hb hts (wg_ft i_MH) hown hK hO k_h0 (kn := 225) (ci := 12) (fl := [(3, 172), (3, 181), (3, 226), (3, 291), (3, 299), (3, 308), (3, 317), (3, 326), (3, 334), (3, 342), (3, 350), (3, 359), (3, 368), (3, 369), (3, 370), (3, 371), (3, 372), (3, 373), (3, 374), (3, 375), (3, 376), (3, 377), (3, 378), (0, 0), (0, 0), (0, 0), (0, 0), (0, 0), (0, 0), (0, 0), (0, 0)]) rfl hP rfl 1 (by decide) (hts _ (wg_t kw_1433)) (fun _ h9 => h9) (cd := (3, 181)) rfl dMH_verify_275 (fun v50 hv50 => ?_)
                  obtain ⟨r48, rfl, kr43⟩ := (show ∃ r : Nat, v50 = .ref r ∧ T r = some 181 from hv50)
                  refine lv_aload_n hx hb dMH_verify_278 rfl (lv_at hl 1 rfl) ?_
                  refine nw_get (C := "LatticeKeysModel$Hands") (TT := T_MH) (N := 31) hx hb hts (wg_ft i_MH) hown hK hO k_h0 (kn := 225) (ci := 12) (fl := [(3, 172), (3, 181), (3, 226), (3, 291), (3, 299), (3, 308), (3, 317), (3, 326), (3, 334), (3, 342), (3, 350), (3, 359), (3, 368), (3, 369), (3, 370), (3, 371), (3, 372), (3, 373), (3, 374), (3, 375), (3, 376), (3, 377), (3, 378), (0, 0), (0, 0), (0, 0), (0, 0), (0, 0), (0, 0), (0, 0), (0, 0)]) rfl hP rfl 8 (by decide) (hts _ (wg_t kw_1440)) (fun _ h9 => h9) (cd := (3, 334)) rfl dMH_verify_279 (fun v51 hv51 => ?_)
                  obtain ⟨r49, rfl, kr44⟩ := (show ∃ r : Nat, v51 = .ref r ∧ T r = some 334 from hv51)
                  refine lv_iload hx hb dMH_verify_282 (lv_at hl 0 rfl) ?_
                  refine nw_aald3 hx hb hK hO kr44 (k := 334) (b := 335) rfl hP (by omega) (by omega) dMH_verify_284 (fun r50 kr45 => ?_)
                  have hn26 : nsp (335 + i23) = (0, 256, []) := rows_ok 335 7 (by decide) _ (by omega)
                  refine lv_aload_n hx hb dMH_verify_285 rfl (lv_at hl 1 rfl) ?_
                  refine nw_get (C := "LatticeKeysModel$Hands") (TT := T_MH) (N := 31) hx hb hts (wg_ft i_MH) hown hK hO k_h0 (kn := 225) (ci := 12) (fl := [(3, 172), (3, 181), (3, 226), (3, 291), (3, 299), (3, 308), (3, 317), (3, 326), (3, 334), (3, 342), (3, 350), (3, 359), (3, 368), (3, 369), (3, 370), (3, 371), (3, 372), (3, 373), (3, 374), (3, 375), (3, 376), (3, 377), (3, 378), (0, 0), (0, 0), (0, 0), (0, 0), (0, 0), (0, 0), (0, 0), (0, 0)]) rfl hP rfl 9 (by decide) (hts _ (wg_t kw_1441)) (fun _ h9 => h9) (cd := (3, 342)) rfl dMH_verify_286 (fun v52 hv52 => ?_)
                  obtain ⟨r51, rfl, kr46⟩ := (show ∃ r : Nat, v52 = .ref r ∧ T r = some 342 from hv52)
                  refine lv_iload hx hb dMH_verify_289 (lv_at hl 0 rfl) ?_
                  refine nw_aald3 hx hb hK hO kr46 (k := 342) (b := 343) rfl hP (by omega) (by omega) dMH_verify_291 (fun r52 kr47 => ?_)
                  have hn27 : nsp (343 + i23) = (0, 256, []) := rows_ok 343 7 (by decide) _ (by omega)
                  refine lv_iconst (v := nI 1) hx hb dMH_verify_292 (by decide) ?_
                  refine lv_iconst (v := nI 0) hx hb dMH_verify_293 (by decide) ?_
                  refine mp_v (cx := []) (wr := []) hP hD hS hA [] [] rfl rfl rfl (by decide) (va_runV (As := [.ref r50, .ref r52, .int (nI 1), .int (nI 0)]) (rest := []) F (N_MR_forth_8_0 l g _ T s31 pl hO hU r48 r50 r52 (335 + i23) (343 + i23) kr43 kr45 hn26 kr47 hn27) (cwV 4 hts (wg_app (wg_c kw_1729 (wg_c kw_1669 (wg_c kw_1670 (wg_c kw_12 wg_n)))) kw_1671) rfl rfl rfl (by decide +kernel) ⟨by decide, by decide⟩) (pn_V (en_ok g) (ci := 10) (kn := 181) (fl := [(1, 8380417), (1, 256), (3, 182), (3, 183), (4, 8347681)]) hK hO kr43 rfl hP hD hS hA hEn [] rfl rfl rfl) rfl rfl hl.1 rfl (lv_room (Nat.le_of_ble_eq_true rfl)) dMH_verify_294 ⟨by omega, by omega⟩) (fun  u37 H locs hu37 hP hD hS => ?_)
                  obtain ⟨s41, pl⟩ := u37
                  obtain ⟨⟨eq37, hFc37, -⟩, hO⟩ := hu37
                  have hO : okn g T s41 pl := hO
                  have hP : va_P g.1 vcl ([] ++ pl) _ := hP
                  have hD : va_D _ ([] ++ pl) := hD
                  have hFc37 : frm (M_MR_forth_8_0 (343 + i23)) s31 s41 := hFc37
                  replace hR := bnd_step hR eq37
                  replace hE := bndP_step hE eq37
                  have hF := frm_tr hF hFc37 (fun k hk => by unfold M_MR_forth_8_0 at hk; unfold M_MH_verify_2; omega)
                  have hf257 : s41.1 225 23 = nI 2 := fc_F hf249 hFc37 (by unfold M_MR_forth_8_0; omega)
                  have hf258 : s41.1 225 24 = nI 8 := fc_F hf250 hFc37 (by unfold M_MR_forth_8_0; omega)
                  have hf259 : s41.1 225 25 = nI 7 := fc_F hf251 hFc37 (by unfold M_MR_forth_8_0; omega)
                  have hf260 : s41.1 225 26 = nI 2 := fc_F hf252 hFc37 (by unfold M_MR_forth_8_0; omega)
                  have hf261 : s41.1 225 27 = nI 524288 := fc_F hf253 hFc37 (by unfold M_MR_forth_8_0; omega)
                  have hf262 : s41.1 225 28 = nI 261888 := fc_F hf254 hFc37 (by unfold M_MR_forth_8_0; omega)
                  have hf263 : s41.1 225 29 = nI 120 := fc_F hf255 hFc37 (by unfold M_MR_forth_8_0; omega)
                  have hf264 : s41.1 225 30 = nI 64 := fc_F hf256 hFc37 (by unfold M_MR_forth_8_0; omega)
                  refine W.widen (k := 0) (n := 0) (by omega) (by omega) ?_
                  refine mi_iinc (k := 0) (x := i23) (d := 1) (y := i23 + 1) (lv' := [(9, .int (nI (i23 + 1))), (0, .ref h0), (2, .ref pk)]) hx hb dMH_verify_297 hl rfl (by decide) rfl (by decide) rfl (fun ls hl => ?_)
                  refine lv_goto (tgt := 265) hx hb dMH_verify_300 (by decide) ?_
                  exact ih23 (i23 + 1) s41 pl ls H locs (by omega) hF hf257 hf258 hf259 hf260 hf261 hf262 hf263 hf264 hE hR (lv_sub hl [0, 1, 2] rfl) hO hP hD hS
              exact lp23 7 0 s30 pl ls _ _ (by omega) hF hf113 hf114 hf115 hf116 hf117 hf118 hf119 hf120 hE hR (lv_sub hl [0, 4, 5] rfl) hO hP hD hS
            · replace hR := hR.trans (if_pos h25)
              replace hE := iteP_pos h25 hE
              refine lv_iconst (v := nI 0) hx hb dMH_verify_182 (by decide) ?_
              exact mp_zret hx hb hr hlk rfl hP hD hS ((nI 0, q21.2), pl) ⟨⟨hR.symm, rfl, hF, trivial⟩, hO⟩ [] rfl rfl rfl (by omega) (by omega) dMH_verify_183
        | succ n22 ih22 =>
          intro i22 z24 az21 s23 pl ls H locs hm22 hi21 hF hf265 hf266 hf267 hf268 hf269 hf270 hf271 hf272 hE hR hl hO hP hD hS
          refine lv_iload hx hb dMH_verify_65 (lv_at hl 0 rfl) ?_
          refine lv_aload_n hx hb dMH_verify_67 rfl (lv_at hl 4 rfl) ?_
          refine nw_get (C := "LatticeKeysModel$Hands") (TT := T_MH) (N := 31) hx hb hts (wg_ft i_MH) hown hK hO k_h0 (kn := 225) (ci := 12) (fl := [(3, 172), (3, 181), (3, 226), (3, 291), (3, 299), (3, 308), (3, 317), (3, 326), (3, 334), (3, 342), (3, 350), (3, 359), (3, 368), (3, 369), (3, 370), (3, 371), (3, 372), (3, 373), (3, 374), (3, 375), (3, 376), (3, 377), (3, 378), (0, 0), (0, 0), (0, 0), (0, 0), (0, 0), (0, 0), (0, 0), (0, 0)]) rfl hP rfl 25 (by decide) (hts _ (wg_t kw_1457)) (fun _ h9 => h9) (cd := (0, 0)) rfl dMH_verify_68 (fun v53 hv53 => ?_)
          obtain rfl := (show v53 = .int (s23.1 225 25) from hv53)
          obtain ⟨z36, ez35, hz49, hz50⟩ := cl_of (b := 2147483648) hf267 (by omega) (by decide)
          replace hR := bnd_step hR ez35
          replace hE := bndP_step hE ez35
          refine mi_as hz49 ?_
          subst hz50
          refine mi_ge (tgt := 164) hx hb dMH_verify_71 (by decide) (by omega) (by omega) (fun h37 => absurd h37 (by omega)) (fun h37 => ?_)
          refine lv_iconst (v := nI 0) hx hb dMH_verify_74 (by decide) ?_
          refine lv_istore (lv' := [(10, .int (nI 0)), (9, .int (nI i22)), (8, .int z24), (7, .int (nI az21)), (6, .int (nI 20)), (0, .ref h0), (2, .ref pk), (3, .ref b), (4, .int cl_), (5, .int (nI ed))]) hx hb dMH_verify_75 hl (by decide) rfl (fun ls hl => ?_)
          have lp28 : ∀ (n28 : Nat) (i28 : Nat) (z37 : Int32) (az22 : Nat) (s42 : Sto) (pl : va_W) (ls : Array Slot) (H : Heap) (locs : List Loc), n28 + i28 = 256 → (az22 = 512 + 5120 * i22 + 20 * i28) → frm (M_MH_verify_2) s s42 → s42.1 225 23 = nI 2 → s42.1 225 24 = nI 8 → s42.1 225 25 = nI 7 → s42.1 225 26 = nI 2 → s42.1 225 27 = nI 524288 → s42.1 225 28 = nI 261888 → s42.1 225 29 = nI 120 → s42.1 225 30 = nI 64 → E_MH_verify_2_L7 pb i22 (E_MH_verify_2_L1 pp pb cl_ ed n22) n28 i28 z37 az22 s42 → F_MH_verify_2 pp pb cl_ ed s = F_MH_verify_2_L7 pb i22 (F_MH_verify_2_L1 pp pb cl_ ed n22) n28 i28 z37 az22 s42 → lv_has ls 11 [(10, .int (nI i28)), (9, .int (nI i22)), (8, .int z37), (7, .int (nI az22)), (6, .int (nI 20)), (0, .ref h0), (2, .ref pk), (3, .ref b), (4, .int cl_), (5, .int (nI ed))] → okn g T s42 pl → va_P g.1 vcl ([] ++ pl) H → va_D A ([] ++ pl) → va_S A s0.heap H locs → W p l e ({ frames := 5, cells := 0, slots := 0, locals := 116 } : Room) s0 m args below meth c H locs 0 0 (MQ below (va_Qi (fun (r : Int32) (u : (Int32 × Sto) × va_W) => (u.1 = F_MH_verify_2 pp pb cl_ ed s ∧ r = u.1.1 ∧ frm (M_MH_verify_2) s u.1.2 ∧ True) ∧ okn g T u.1.2 u.2) (po g.1 vcl A (fun (u : (Int32 × Sto) × va_W) => [] ++ u.2)) A) args s0 0 0 A) (F0 m 77 ls []) := by
            intro n28
            induction n28 with
            | zero =>
              intro i28 z37 az22 s42 pl ls H locs hm28 hi22 hF hf273 hf274 hf275 hf276 hf277 hf278 hf279 hf280 hE hR hl hO hP hD hS
              refine lv_iload hx hb dMH_verify_77 (lv_at hl 0 rfl) ?_
              refine lv_sipush (v := nI 256) hx hb dMH_verify_79 (by decide) ?_
              refine mi_ge (tgt := 158) hx hb dMH_verify_82 (by decide) (by omega) (by omega) (fun h38 => ?_) (fun h38 => absurd h38 (by omega))
              refine mi_iinc (k := 1) (x := i22) (d := 1) (y := i22 + 1) (lv' := [(9, .int (nI (i22 + 1))), (10, .int (nI i28)), (8, .int z37), (7, .int (nI az22)), (6, .int (nI 20)), (0, .ref h0), (2, .ref pk), (3, .ref b), (4, .int cl_), (5, .int (nI ed))]) hx hb dMH_verify_158 hl rfl (by decide) rfl (by decide) rfl (fun ls hl => ?_)
              refine lv_goto (tgt := 65) hx hb dMH_verify_161 (by decide) ?_
              exact ih22 (i22 + 1) z37 az22 s42 pl ls H locs (by omega) (by omega) hF hf273 hf274 hf275 hf276 hf277 hf278 hf279 hf280 hE hR (lv_sub hl [0, 2, 3, 4, 5, 6, 7, 8, 9] rfl) hO hP hD hS
            | succ n28 ih28 =>
              intro i28 z37 az22 s42 pl ls H locs hm28 hi22 hF hf281 hf282 hf283 hf284 hf285 hf286 hf287 hf288 hE hR hl hO hP hD hS
              refine lv_iload hx hb dMH_verify_77 (lv_at hl 0 rfl) ?_
              refine lv_sipush (v := nI 256) hx hb dMH_verify_79 (by decide) ?_
              refine mi_ge (tgt := 158) hx hb dMH_verify_82 (by decide) (by omega) (by omega) (fun h39 => absurd h39 (by omega)) (fun h39 => ?_)
              refine lv_aload_n hx hb dMH_verify_85 rfl (lv_at hl 5 rfl) ?_
              refine nw_get (C := "LatticeKeysModel$Hands") (TT := T_MH) (N := 31) hx hb hts (wg_ft i_MH) hown hK hO k_h0 (kn := 225) (ci := 12) (fl := [(3, 172), (3, 181), (3, 226), (3, 291), (3, 299), (3, 308), (3, 317), (3, 326), (3, 334), (3, 342), (3, 350), (3, 359), (3, 368), (3, 369), (3, 370), (3, 371), (3, 372), (3, 373), (3, 374), (3, 375), (3, 376), (3, 377), (3, 378), (0, 0), (0, 0), (0, 0), (0, 0), (0, 0), (0, 0), (0, 0), (0, 0)]) rfl hP rfl 8 (by decide) (hts _ (wg_t kw_1440)) (fun _ h9 => h9) (cd := (3, 334)) rfl dMH_verify_86 (fun v54 hv54 => ?_)
              obtain ⟨r53, rfl, kr48⟩ := (show ∃ r : Nat, v54 = .ref r ∧ T r = some 334 from hv54)
              refine lv_iload hx hb dMH_verify_89 (lv_at hl 1 rfl) ?_
              refine nw_aald3 hx hb hK hO kr48 (k := 334) (b := 335) rfl hP (by omega) (by omega) dMH_verify_91 (fun r54 kr49 => ?_)
              have hn28 : nsp (335 + i22) = (0, 256, []) := rows_ok 335 7 (by decide) _ (by omega)
              refine lv_iload hx hb dMH_verify_92 (lv_at hl 0 rfl) ?_
              refine lv_aload_n hx hb dMH_verify_94 rfl (lv_at hl 5 rfl) ?_
              refine nw_get (C := "LatticeKeysModel$Hands") (TT := T_MH) (N := 31) hx hb hts (wg_ft i_MH) hown hK hO k_h0 (kn := 225) (ci := 12) (fl := [(3, 172), (3, 181), (3, 226), (3, 291), (3, 299), (3, 308), (3, 317), (3, 326), (3, 334), (3, 342), (3, 350), (3, 359), (3, 368), (3, 369), (3, 370), (3, 371), (3, 372), (3, 373), (3, 374), (3, 375), (3, 376), (3, 377), (3, 378), (0, 0), (0, 0), (0, 0), (0, 0), (0, 0), (0, 0), (0, 0), (0, 0)]) rfl hP rfl 27 (by decide) (hts _ (wg_t kw_1459)) (fun _ h9 => h9) (cd := (0, 0)) rfl dMH_verify_95 (fun v55 hv55 => ?_)
              obtain rfl := (show v55 = .int (s42.1 225 27) from hv55)
              obtain ⟨z38, ez36, hz51, hz52⟩ := cl_of (b := 2147483648) hf285 (by omega) (by decide)
              replace hR := bnd_step hR ez36
              replace hE := bndP_step hE ez36
              refine mi_as hz51 ?_
              subst hz52
              refine lv_aload_n hx hb dMH_verify_98 rfl (lv_at hl 7 rfl) ?_
              refine lv_iload hx hb dMH_verify_99 (lv_at hl 3 rfl) ?_
              refine lv_iload hx hb dMH_verify_101 (lv_at hl 4 rfl) ?_
              refine mp_i (cx := []) (wr := []) hP hD hS hA [] [] rfl rfl rfl (by decide) (va_runSN (As := [.ref b, .int (nI az22), .int (nI 20)]) (rest := [.int (nI 524288), .int (nI i28), .ref r54]) F (N_M_unpack l g _ T s42 pl hO hU b pb 16384 az22 20 k_b n_b (by omega) (by omega) (by omega)) ⟨va_cnB 3 hts (wg_in kw_1663) rfl rfl rfl (hEn.2.2.2.2.2.2.2.2.2.2) (hts _ (wg_t kw_9)) (by decide +kernel) ⟨by decide, by decide⟩, hts _ (wg_t kw_1662), trivial⟩ (pp_S (en_ok g) hP hD hS hA hEn [] rfl rfl) rfl rfl hl.1 rfl (lv_room (Nat.le_of_ble_eq_true rfl)) dMH_verify_103 ⟨by omega, by omega⟩) (fun r55 u38 H locs hu38 hP hD hS => ?_)
              obtain ⟨q26, pl⟩ := u38
              obtain ⟨⟨eq38, rfl, hFc38, -⟩, hO⟩ := hu38
              have hO : okn g T q26.2 pl := hO
              have hP : va_P g.1 vcl ([] ++ pl) _ := hP
              have hD : va_D _ ([] ++ pl) := hD
              have hFc38 : frm (M_M_unpack) s42 q26.2 := hFc38
              replace hR := bnd_step hR eq38
              replace hE := bndP_step hE eq38
              have hF := frm_tr hF hFc38 (fun k hk => by unfold M_M_unpack at hk; unfold M_MH_verify_2; omega)
              have hf289 : q26.2.1 225 23 = nI 2 := fc_F hf281 hFc38 (by unfold M_M_unpack; omega)
              have hf290 : q26.2.1 225 24 = nI 8 := fc_F hf282 hFc38 (by unfold M_M_unpack; omega)
              have hf291 : q26.2.1 225 25 = nI 7 := fc_F hf283 hFc38 (by unfold M_M_unpack; omega)
              have hf292 : q26.2.1 225 26 = nI 2 := fc_F hf284 hFc38 (by unfold M_M_unpack; omega)
              have hf293 : q26.2.1 225 27 = nI 524288 := fc_F hf285 hFc38 (by unfold M_M_unpack; omega)
              have hf294 : q26.2.1 225 28 = nI 261888 := fc_F hf286 hFc38 (by unfold M_M_unpack; omega)
              have hf295 : q26.2.1 225 29 = nI 120 := fc_F hf287 hFc38 (by unfold M_M_unpack; omega)
              have hf296 : q26.2.1 225 30 = nI 64 := fc_F hf288 hFc38 (by unfold M_M_unpack; omega)
              refine W.widen (k := 0) (n := 0) (by omega) (by omega) ?_
              refine mp_i (cx := []) (wr := []) hP hD hS hA [] [] rfl rfl rfl (by decide) (va_runS (As := [.int (nI 524288), .int q26.1]) (rest := [.int (nI i28), .ref r54]) F (N_MH_minus l g _ T q26.2 pl hO hU (nI 524288) (q26.1)) (va_cwS 2 hts (wg_app (wg_c kw_1861 (wg_c kw_1862 (wg_c kw_13 wg_n))) kw_1863) rfl rfl rfl (by decide +kernel) ⟨by decide, by decide⟩) (pp_S (en_ok g) hP hD hS hA hEn [] rfl rfl) rfl rfl hl.1 rfl (lv_room (Nat.le_of_ble_eq_true rfl)) dMH_verify_106 ⟨by omega, by omega⟩) (fun r56 u39 H locs hu39 hP hD hS => ?_)
              obtain ⟨q27, pl⟩ := u39
              obtain ⟨⟨eq39, rfl, hFc39, -⟩, hO⟩ := hu39
              have hO : okn g T q27.2 pl := hO
              have hP : va_P g.1 vcl ([] ++ pl) _ := hP
              have hD : va_D _ ([] ++ pl) := hD
              have hFc39 : frm (M_MH_minus) q26.2 q27.2 := hFc39
              replace hR := bnd_step hR eq39
              replace hE := bndP_step hE eq39
              have hF := frm_tr hF hFc39 (fun k hk => by unfold M_MH_minus at hk; unfold M_MH_verify_2; omega)
              have hf297 : q27.2.1 225 23 = nI 2 := fc_F hf289 hFc39 (by unfold M_MH_minus; omega)
              have hf298 : q27.2.1 225 24 = nI 8 := fc_F hf290 hFc39 (by unfold M_MH_minus; omega)
              have hf299 : q27.2.1 225 25 = nI 7 := fc_F hf291 hFc39 (by unfold M_MH_minus; omega)
              have hf300 : q27.2.1 225 26 = nI 2 := fc_F hf292 hFc39 (by unfold M_MH_minus; omega)
              have hf301 : q27.2.1 225 27 = nI 524288 := fc_F hf293 hFc39 (by unfold M_MH_minus; omega)
              have hf302 : q27.2.1 225 28 = nI 261888 := fc_F hf294 hFc39 (by unfold M_MH_minus; omega)
              have hf303 : q27.2.1 225 29 = nI 120 := fc_F hf295 hFc39 (by unfold M_MH_minus; omega)
              have hf304 : q27.2.1 225 30 = nI 64 := fc_F hf296 hFc39 (by unfold M_MH_minus; omega)
              refine W.widen (k := 0) (n := 0) (by omega) (by omega) ?_
              refine nw_iast hx hb hK hO hU kr49 (k := (335 + i22)) hn28 hP hD hS (by omega) (by omega) dMH_verify_109 (fun s43 pl H locs es23 hO hP hD hS => ?_)
              replace hR := bnd_step hR es23
              replace hE := bndP_step hE es23
              have hF := frm_sI hF es23 (by unfold M_MH_verify_2; omega)
              have hf305 : s43.1 225 23 = nI 2 := fc_ne hf297 es23 (by omega)
              have hf306 : s43.1 225 24 = nI 8 := fc_ne hf298 es23 (by omega)
              have hf307 : s43.1 225 25 = nI 7 := fc_ne hf299 es23 (by omega)
              have hf308 : s43.1 225 26 = nI 2 := fc_ne hf300 es23 (by omega)
              have hf309 : s43.1 225 27 = nI 524288 := fc_ne hf301 es23 (by omega)
              have hf310 : s43.1 225 28 = nI 261888 := fc_ne hf302 es23 (by omega)
              have hf311 : s43.1 225 29 = nI 120 := fc_ne hf303 es23 (by omega)
              have hf312 : s43.1 225 30 = nI 64 := fc_ne hf304 es23 (by omega)
              refine lv_iload hx hb dMH_verify_110 (lv_at hl 2 rfl) ?_
              refine lv_aload_n hx hb dMH_verify_112 rfl (lv_at hl 5 rfl) ?_
              refine nw_get (C := "LatticeKeysModel$Hands") (TT := T_MH) (N := 31) hx hb hts (wg_ft i_MH) hown hK hO k_h0 (kn := 225) (ci := 12) (fl := [(3, 172), (3, 181), (3, 226), (3, 291), (3, 299), (3, 308), (3, 317), (3, 326), (3, 334), (3, 342), (3, 350), (3, 359), (3, 368), (3, 369), (3, 370), (3, 371), (3, 372), (3, 373), (3, 374), (3, 375), (3, 376), (3, 377), (3, 378), (0, 0), (0, 0), (0, 0), (0, 0), (0, 0), (0, 0), (0, 0), (0, 0)]) rfl hP rfl 8 (by decide) (hts _ (wg_t kw_1440)) (fun _ h9 => h9) (cd := (3, 334)) rfl dMH_verify_113 (fun v56 hv56 => ?_)
              obtain ⟨r57, rfl, kr50⟩ := (show ∃ r : Nat, v56 = .ref r ∧ T r = some 334 from hv56)
              refine lv_iload hx hb dMH_verify_116 (lv_at hl 1 rfl) ?_
              refine nw_aald3 hx hb hK hO kr50 (k := 334) (b := 335) rfl hP (by omega) (by omega) dMH_verify_118 (fun r58 kr51 => ?_)
              have hn29 : nsp (335 + i22) = (0, 256, []) := rows_ok 335 7 (by decide) _ (by omega)
              refine lv_iload hx hb dMH_verify_119 (lv_at hl 0 rfl) ?_
              refine nw_iald hx hb hK hO kr51 (k := (335 + i22)) hn29 hP (by omega) (by omega) dMH_verify_121 ?_
              refine mp_i (cx := []) (wr := []) hP hD hS hA [] [] rfl rfl rfl (by decide) (va_runS (As := [.int ((s43.1 ((335 + i22)) i28))]) (rest := [.int z37]) F (N_MH_norm l g _ T s43 pl hO hU (s43.1 ((335 + i22)) i28)) (va_cwS 1 hts (wg_app (wg_c kw_1901 (wg_c kw_1902 (wg_c kw_13 wg_n))) kw_1903) rfl rfl rfl (by decide +kernel) ⟨by decide, by decide⟩) (pp_S (en_ok g) hP hD hS hA hEn [] rfl rfl) rfl rfl hl.1 rfl (lv_room (Nat.le_of_ble_eq_true rfl)) dMH_verify_122 ⟨by omega, by omega⟩) (fun r59 u40 H locs hu40 hP hD hS => ?_)
              obtain ⟨q28, pl⟩ := u40
              obtain ⟨⟨eq40, rfl, hFc40, -⟩, hO⟩ := hu40
              have hO : okn g T q28.2 pl := hO
              have hP : va_P g.1 vcl ([] ++ pl) _ := hP
              have hD : va_D _ ([] ++ pl) := hD
              have hFc40 : frm (M_MH_norm) s43 q28.2 := hFc40
              replace hR := bnd_step hR eq40
              replace hE := bndP_step hE eq40
              have hF := frm_tr hF hFc40 (fun k hk => by unfold M_MH_norm at hk; unfold M_MH_verify_2; omega)
              have hf313 : q28.2.1 225 23 = nI 2 := fc_F hf305 hFc40 (by unfold M_MH_norm; omega)
              have hf314 : q28.2.1 225 24 = nI 8 := fc_F hf306 hFc40 (by unfold M_MH_norm; omega)
              have hf315 : q28.2.1 225 25 = nI 7 := fc_F hf307 hFc40 (by unfold M_MH_norm; omega)
              have hf316 : q28.2.1 225 26 = nI 2 := fc_F hf308 hFc40 (by unfold M_MH_norm; omega)
              have hf317 : q28.2.1 225 27 = nI 524288 := fc_F hf309 hFc40 (by unfold M_MH_norm; omega)
              have hf318 : q28.2.1 225 28 = nI 261888 := fc_F hf310 hFc40 (by unfold M_MH_norm; omega)
              have hf319 : q28.2.1 225 29 = nI 120 := fc_F hf311 hFc40 (by unfold M_MH_norm; omega)
              have hf320 : q28.2.1 225 30 = nI 64 := fc_F hf312 hFc40 (by unfold M_MH_norm; omega)
              refine W.widen (k := 0) (n := 0) (by omega) (by omega) ?_
              refine lv_aload_n hx hb dMH_verify_125 rfl (lv_at hl 5 rfl) ?_
              refine nw_get (C := "LatticeKeysModel$Hands") (TT := T_MH) (N := 31) hx hb hts (wg_ft i_MH) hown hK hO k_h0 (kn := 225) (ci := 12) (fl := [(3, 172), (3, 181), (3, 226), (3, 291), (3, 299), (3, 308), (3, 317), (3, 326), (3, 334), (3, 342), (3, 350), (3, 359), (3, 368), (3, 369), (3, 370), (3, 371), (3, 372), (3, 373), (3, 374), (3, 375), (3, 376), (3, 377), (3, 378), (0, 0), (0, 0), (0, 0), (0, 0), (0, 0), (0, 0), (0, 0), (0, 0)]) rfl hP rfl 27 (by decide) (hts _ (wg_t kw_1459)) (fun _ h9 => h9) (cd := (0, 0)) rfl dMH_verify_126 (fun v57 hv57 => ?_)
              obtain rfl := (show v57 = .int (q28.2.1 225 27) from hv57)
              obtain ⟨z39, ez37, hz53, hz54⟩ := cl_of (b := 2147483648) hf317 (by omega) (by decide)
              replace hR := bnd_step hR ez37
              replace hE := bndP_step hE ez37
              refine mi_as hz53 ?_
              subst hz54
              refine lv_aload_n hx hb dMH_verify_129 rfl (lv_at hl 5 rfl) ?_
              refine nw_get (C := "LatticeKeysModel$Hands") (TT := T_MH) (N := 31) hx hb hts (wg_ft i_MH) hown hK hO k_h0 (kn := 225) (ci := 12) (fl := [(3, 172), (3, 181), (3, 226), (3, 291), (3, 299), (3, 308), (3, 317), (3, 326), (3, 334), (3, 342), (3, 350), (3, 359), (3, 368), (3, 369), (3, 370), (3, 371), (3, 372), (3, 373), (3, 374), (3, 375), (3, 376), (3, 377), (3, 378), (0, 0), (0, 0), (0, 0), (0, 0), (0, 0), (0, 0), (0, 0), (0, 0)]) rfl hP rfl 29 (by decide) (hts _ (wg_t kw_1461)) (fun _ h9 => h9) (cd := (0, 0)) rfl dMH_verify_130 (fun v58 hv58 => ?_)
              obtain rfl := (show v58 = .int (q28.2.1 225 29) from hv58)
              obtain ⟨z40, ez38, hz55, hz56⟩ := cl_of (b := 2147483648) hf319 (by omega) (by decide)
              replace hR := bnd_step hR ez38
              replace hE := bndP_step hE ez38
              refine mi_as hz55 ?_
              subst hz56
              refine mi_isub hx hb dMH_verify_133 (by omega) ?_
              refine mi_as (show nI (524288 - 120) = nI 524168 from rfl) ?_
              refine lv_icmp_ge (tgt := 141) hx hb dMH_verify_134 (by decide) (fun h40 => ?_) (fun h40 => ?_)
              · replace hR := hR.trans (if_pos h40)
                replace hE := iteP_pos h40 hE
                refine lv_iconst (v := nI 0) hx hb dMH_verify_141 (by decide) ?_
                refine lv_iand hx hb dMH_verify_142 ?_
                refine mi_eqv (fun z41 ez39 => ?_)
                replace hR := bnd_step hR ez39
                replace hE := bndP_step hE ez39
                refine lv_istore (lv' := [(8, .int z41), (10, .int (nI i28)), (9, .int (nI i22)), (7, .int (nI az22)), (6, .int (nI 20)), (0, .ref h0), (2, .ref pk), (3, .ref b), (4, .int cl_), (5, .int (nI ed))]) hx hb dMH_verify_143 hl (by decide) rfl (fun ls hl => ?_)
                refine lv_iload hx hb dMH_verify_145 (lv_at hl 3 rfl) ?_
                refine lv_iload hx hb dMH_verify_147 (lv_at hl 4 rfl) ?_
                refine mi_iadd hx hb dMH_verify_149 ?_
                refine lv_istore (lv' := [(7, .int (nI (az22 + 20))), (8, .int z41), (10, .int (nI i28)), (9, .int (nI i22)), (6, .int (nI 20)), (0, .ref h0), (2, .ref pk), (3, .ref b), (4, .int cl_), (5, .int (nI ed))]) hx hb dMH_verify_150 hl (by decide) rfl (fun ls hl => ?_)
                refine mi_iinc (k := 2) (x := i28) (d := 1) (y := i28 + 1) (lv' := [(10, .int (nI (i28 + 1))), (7, .int (nI (az22 + 20))), (8, .int z41), (9, .int (nI i22)), (6, .int (nI 20)), (0, .ref h0), (2, .ref pk), (3, .ref b), (4, .int cl_), (5, .int (nI ed))]) hx hb dMH_verify_152 hl rfl (by decide) rfl (by decide) rfl (fun ls hl => ?_)
                refine lv_goto (tgt := 77) hx hb dMH_verify_155 (by decide) ?_
                exact ih28 (i28 + 1) z41 (az22 + 20) q28.2 pl ls H locs (by omega) (by omega) hF hf313 hf314 hf315 hf316 hf317 hf318 hf319 hf320 hE hR (lv_sub hl [0, 3, 2, 1, 4, 5, 6, 7, 8, 9] rfl) hO hP hD hS
              · replace hR := hR.trans (if_neg h40)
                replace hE := iteP_neg h40 hE
                refine lv_iconst (v := nI 1) hx hb dMH_verify_137 (by decide) ?_
                refine lv_goto (tgt := 142) hx hb dMH_verify_138 (by decide) ?_
                refine lv_iand hx hb dMH_verify_142 ?_
                refine mi_eqv (fun z42 ez40 => ?_)
                replace hR := bnd_step hR ez40
                replace hE := bndP_step hE ez40
                refine lv_istore (lv' := [(8, .int z42), (10, .int (nI i28)), (9, .int (nI i22)), (7, .int (nI az22)), (6, .int (nI 20)), (0, .ref h0), (2, .ref pk), (3, .ref b), (4, .int cl_), (5, .int (nI ed))]) hx hb dMH_verify_143 hl (by decide) rfl (fun ls hl => ?_)
                refine lv_iload hx hb dMH_verify_145 (lv_at hl 3 rfl) ?_
                refine lv_iload hx hb dMH_verify_147 (lv_at hl 4 rfl) ?_
                refine mi_iadd hx hb dMH_verify_149 ?_
                refine lv_istore (lv' := [(7, .int (nI (az22 + 20))), (8, .int z42), (10, .int (nI i28)), (9, .int (nI i22)), (6, .int (nI 20)), (0, .ref h0), (2, .ref pk), (3, .ref b), (4, .int cl_), (5, .int (nI ed))]) hx hb dMH_verify_150 hl (by decide) rfl (fun ls hl => ?_)
                refine mi_iinc (k := 2) (x := i28) (d := 1) (y := i28 + 1) (lv' := [(10, .int (nI (i28 + 1))), (7, .int (nI (az22 + 20))), (8, .int z42), (9, .int (nI i22)), (6, .int (nI 20)), (0, .ref h0), (2, .ref pk), (3, .ref b), (4, .int cl_), (5, .int (nI ed))]) hx hb dMH_verify_152 hl rfl (by decide) rfl (by decide) rfl (fun ls hl => ?_)
                refine lv_goto (tgt := 77) hx hb dMH_verify_155 (by decide) ?_
                exact ih28 (i28 + 1) z42 (az22 + 20) q28.2 pl ls H locs (by omega) (by omega) hF hf313 hf314 hf315 hf316 hf317 hf318 hf319 hf320 hE hR (lv_sub hl [0, 3, 2, 1, 4, 5, 6, 7, 8, 9] rfl) hO hP hD hS
          exact lp28 256 0 z24 az21 s23 pl ls _ _ (by omega) (by omega) hF hf265 hf266 hf267 hf268 hf269 hf270 hf271 hf272 hE hR (lv_sub hl [0, 1, 2, 3, 4, 5, 6, 7, 8, 9] rfl) hO hP hD hS
      exact lp22 7 0 (nI 1) 512 s22 pl ls _ _ (by omega) (by omega) hF hf21 hf22 hf23 hf24 hf25 hf26 hf27 hf28 hE hR (lv_sub hl [0, 1, 2, 3, 4, 5, 6, 7, 8] rfl) hO hP hD hS
    | succ n21 ih21 =>
      intro i21 s22 pl ls H locs hm21 hF hf321 hf322 hf323 hf324 hf325 hf326 hf327 hf328 hE hR hl hO hP hD hS
      refine lv_iload hx hb dMH_verify_36 (lv_at hl 0 rfl) ?_
      refine lv_aload_n hx hb dMH_verify_38 rfl (lv_at hl 4 rfl) ?_
      refine nw_get (C := "LatticeKeysModel$Hands") (TT := T_MH) (N := 31) hx hb hts (wg_ft i_MH) hown hK hO k_h0 (kn := 225) (ci := 12) (fl := [(3, 172), (3, 181), (3, 226), (3, 291), (3, 299), (3, 308), (3, 317), (3, 326), (3, 334), (3, 342), (3, 350), (3, 359), (3, 368), (3, 369), (3, 370), (3, 371), (3, 372), (3, 373), (3, 374), (3, 375), (3, 376), (3, 377), (3, 378), (0, 0), (0, 0), (0, 0), (0, 0), (0, 0), (0, 0), (0, 0), (0, 0)]) rfl hP rfl 30 (by decide) (hts _ (wg_t kw_1462)) (fun _ h9 => h9) (cd := (0, 0)) rfl dMH_verify_39 (fun v59 hv59 => ?_)
      obtain rfl := (show v59 = .int (s22.1 225 30) from hv59)
      obtain ⟨z43, ez41, hz57, hz58⟩ := cl_of (b := 2147483648) hf328 (by omega) (by decide)
      replace hR := bnd_step hR ez41
      replace hE := bndP_step hE ez41
      refine mi_as hz57 ?_
      subst hz58
      refine mi_ge (tgt := 62) hx hb dMH_verify_42 (by decide) (by omega) (by omega) (fun h41 => absurd h41 (by omega)) (fun h41 => ?_)
      refine lv_aload_n hx hb dMH_verify_45 rfl (lv_at hl 4 rfl) ?_
      refine nw_get (C := "LatticeKeysModel$Hands") (TT := T_MH) (N := 31) hx hb hts (wg_ft i_MH) hown hK hO k_h0 (kn := 225) (ci := 12) (fl := [(3, 172), (3, 181), (3, 226), (3, 291), (3, 299), (3, 308), (3, 317), (3, 326), (3, 334), (3, 342), (3, 350), (3, 359), (3, 368), (3, 369), (3, 370), (3, 371), (3, 372), (3, 373), (3, 374), (3, 375), (3, 376), (3, 377), (3, 378), (0, 0), (0, 0), (0, 0), (0, 0), (0, 0), (0, 0), (0, 0), (0, 0)]) rfl hP rfl 20 (by decide) (hts _ (wg_t kw_1452)) (fun _ h9 => h9) (cd := (3, 376)) rfl dMH_verify_46 (fun v60 hv60 => ?_)
      obtain ⟨r60, rfl, kr52⟩ := (show ∃ r : Nat, v60 = .ref r ∧ T r = some 376 from hv60)
      refine lv_iload hx hb dMH_verify_49 (lv_at hl 0 rfl) ?_
      refine lv_aload_n hx hb dMH_verify_51 rfl (lv_at hl 6 rfl) ?_
      refine lv_iload hx hb dMH_verify_52 (lv_at hl 0 rfl) ?_
      refine nw_bald hx hb hK hO k_b (k := pb) n_b hP (by omega) (by omega) dMH_verify_54 ?_
      refine nw_bast hx hb hK hO hU kr52 (k := 376) rfl hP hD hS (by omega) (by omega) dMH_verify_55 (fun s44 pl H locs es24 hO hP hD hS => ?_)
      replace hR := bnd_step hR es24
      replace hE := bndP_step hE es24
      have hF := frm_sB hF es24 (by unfold M_MH_verify_2; omega)
      have hf329 : s44.1 225 23 = nI 2 := fc_B hf321 es24 (by omega)
      have hf330 : s44.1 225 24 = nI 8 := fc_B hf322 es24 (by omega)
      have hf331 : s44.1 225 25 = nI 7 := fc_B hf323 es24 (by omega)
      have hf332 : s44.1 225 26 = nI 2 := fc_B hf324 es24 (by omega)
      have hf333 : s44.1 225 27 = nI 524288 := fc_B hf325 es24 (by omega)
      have hf334 : s44.1 225 28 = nI 261888 := fc_B hf326 es24 (by omega)
      have hf335 : s44.1 225 29 = nI 120 := fc_B hf327 es24 (by omega)
      have hf336 : s44.1 225 30 = nI 64 := fc_B hf328 es24 (by omega)
      refine mi_iinc (k := 0) (x := i21) (d := 1) (y := i21 + 1) (lv' := [(9, .int (nI (i21 + 1))), (8, .int (nI 1)), (7, .int (nI 512)), (6, .int (nI 20)), (0, .ref h0), (2, .ref pk), (3, .ref b), (4, .int cl_), (5, .int (nI ed))]) hx hb dMH_verify_56 hl rfl (by decide) rfl (by decide) rfl (fun ls hl => ?_)
      refine lv_goto (tgt := 36) hx hb dMH_verify_59 (by decide) ?_
      exact ih21 (i21 + 1) s44 pl ls H locs (by omega) hF hf329 hf330 hf331 hf332 hf333 hf334 hf335 hf336 hE hR (lv_sub hl [0, 1, 2, 3, 4, 5, 6, 7, 8] rfl) hO hP hD hS
  exact lp21 64 0 s21 pl ls _ _ (by omega) hF hx_21 hx_22 hx_23 hx_24 hx_25 hx_26 hx_27 hx_28 hE hR (lv_sub hl [0, 1, 2, 3, 4, 6, 7, 8, 9] rfl) hO hP hD hS
